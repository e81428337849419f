def isB (n : Nat) : Bool := decide (1 ≤ n % 10) && decide (n / 10 ≤ n % 10)
def isBI (x : Int32) : Bool := if x < 0 then false else isB x.toNatClampNeg
def gokN (d : Nat → Int32) (k f : Nat) (many : Int32) (q : Nat) : Bool := decide (k / 100 ≤ 7) && (wi (nI (k % 100)) (nI 0) (d 3 - nI 1) && (decide (f % 10 ≤ 5) && (decide (f / 10 < f % 10) && (wi many (nI 1) (nI 999) && isB q))))
def gok (d : Nat → Int32) (kt ft many pq : Int32) : Bool := if kt < 0 ∨ ft < 0 ∨ pq < 0 then false else gokN d kt.toNatClampNeg ft.toNatClampNeg many pq.toNatClampNeg
theorem neg_or (x : Int32) : x < 0 ∨ ∃ n : Nat, n < 2147483648 ∧ x = nI n := by
  by_cases h : x < 0
  · exact Or.inl h
  · exact Or.inr (ge_0 (Int32.not_lt.mp h))
theorem isBI_n {n : Nat} (h : n < 2147483648) : isBI (nI n) = isB n := by
  unfold isBI
  rw [if_neg (nI_pos (by omega)), nI_clamp (by omega)]
theorem gok_n {d : Nat → Int32} {k f q : Nat} {many : Int32} (hk : k < 2147483648) (hf : f < 2147483648) (hq : q < 2147483648) : gok d (nI k) (nI f) many (nI q) = gokN d k f many q := by
  unfold gok
  rw [if_neg, nI_clamp (by omega), nI_clamp (by omega), nI_clamp (by omega)]
  rintro (h | h | h)
  · exact nI_pos (by omega) h
  · exact nI_pos (by omega) h
  · exact nI_pos (by omega) h
theorem rzz : some (Value.int (nI 0)) = some (.int (bI false)) := rfl
theorem wi_neg {x : Int32} {n : Nat} (h : x < 0) : wi x (nI 0) (nI n) = false := by
  unfold wi
  have : ¬ nI 0 ≤ x := Int32.not_le.mpr h
  simp [this]
section H30
variable {Ln : Nat} {xs : Nat → Int32} {α μ : Nat → Nat → Int32}
theorem c_isB_n {n : Nat} (hn : n < 2147483648) : rf_At (rf_T Ln xs) MX11_isBelief 2 0 ([some (.int (nI n))], [], 108, (α, μ)) (some (.int (bI (isB n)))) 108 (α, μ) := by
  refine rf_pa ?_
  refine ok_step (ps := []) (L' := [some (.int (nI n))]) (st' := [.int (nI n)]) (σ' := (α, μ)) (pc' := 1) kX11_isBelief_0 rfl rfl rf_a0 ?_
  refine ok_if_lt bX11_isBelief_1 (fun h1 => absurd h1 ((nI_pos (by omega)))) (fun _ => ?_)
  refine ok_step (ps := [rf_nz (nI 10)]) (L' := [some (.int (nI n))]) (st' := [.int (nI 1), .int ((nI n) - (nI n) / (nI 10) * (nI 10))]) (σ' := (α, μ)) (pc' := 9) kX11_isBelief_4 rfl rfl (rf_a1 (by decide) rf_a0) ?_
  try rw [(show ((nI n) - (nI n) / (nI 10) * (nI 10)) = nI ((n % 10)) from rf_eq (pk_rem (a := n) (d := 10) (by omega) (by decide) (by decide)) (by omega))]
  refine ok_icmp_lt bX11_isBelief_9 (fun h9 => ?_) (fun h9 => ?_)
  · refine ok_step (ps := []) (L' := [some (.int (nI n))]) (st' := [.int (nI 0)]) (σ' := (α, μ)) (pc' := 28) kX11_isBelief_27 rfl rfl rf_a0 ?_
    refine ok_retz eX11_isBelief_28 rfl (Or.inl rfl) ?_
    rw [nI_ltI (by omega) (by omega)] at h9
    exact ⟨rz (by simp only [isB, Bool.and_eq_false_iff, decide_eq_false_iff_not]; omega), rfl⟩
  · refine ok_step (ps := [rf_nz (nI 10), rf_nz (nI 10)]) (L' := [some (.int (nI n))]) (st' := [.int ((nI n) - (nI n) / (nI 10) * (nI 10)), .int ((nI n) / (nI 10))]) (σ' := (α, μ)) (pc' := 20) kX11_isBelief_12 rfl rfl (rf_a1 (by decide) (rf_a1 (by decide) rf_a0)) ?_
    try rw [(show ((nI n) - (nI n) / (nI 10) * (nI 10)) = nI ((n % 10)) from rf_eq (pk_rem (a := n) (d := 10) (by omega) (by decide) (by decide)) (by omega))]
    try rw [(show ((nI n) / (nI 10)) = nI ((n / 10)) from rf_eq (pk_div (a := n) (d := 10) (by omega) (by decide) (by decide)) (by omega))]
    try rw [(show ((nI n) - (nI n) / (nI 10) * (nI 10)) = nI ((n % 10)) from rf_eq (pk_rem (a := n) (d := 10) (by omega) (by decide) (by decide)) (by omega))]
    refine ok_icmp_gt bX11_isBelief_20 (fun h20 => ?_) (fun h20 => ?_)
    · refine ok_step (ps := []) (L' := [some (.int (nI n))]) (st' := [.int (nI 0)]) (σ' := (α, μ)) (pc' := 28) kX11_isBelief_27 rfl rfl rf_a0 ?_
      refine ok_retz eX11_isBelief_28 rfl (Or.inl rfl) ?_
      rw [nI_ltI (by omega) (by omega)] at h9
      rw [nI_ltI (by omega) (by omega)] at h20
      exact ⟨rz (by simp only [isB, Bool.and_eq_false_iff, decide_eq_false_iff_not]; omega), rfl⟩
    · refine ok_step (ps := []) (L' := [some (.int (nI n))]) (st' := [.int (nI 1)]) (σ' := (α, μ)) (pc' := 24) kX11_isBelief_23 rfl rfl rf_a0 ?_
      refine ok_goto bX11_isBelief_24 ?_
      refine ok_retz eX11_isBelief_28 rfl (Or.inr rfl) ?_
      rw [nI_ltI (by omega) (by omega)] at h9
      rw [nI_ltI (by omega) (by omega)] at h20
      exact ⟨ro (by simp only [isB, Bool.and_eq_true, decide_eq_true_eq]; omega), rfl⟩
theorem c_isB_0 {x : Int32} (hx : x < 0) : rf_At (rf_T Ln xs) MX11_isBelief 2 0 ([some (.int x)], [], 108, (α, μ)) (some (.int (nI 0))) 108 (α, μ) := by
  refine rf_pa ?_
  refine ok_step (ps := []) (L' := [some (.int x)]) (st' := [.int x]) (σ' := (α, μ)) (pc' := 1) kX11_isBelief_0 rfl rfl rf_a0 ?_
  refine ok_if_lt bX11_isBelief_1 (fun _ => ?_) (fun h1 => absurd (hx) h1)
  refine ok_step (ps := []) (L' := [some (.int x)]) (st' := [.int (nI 0)]) (σ' := (α, μ)) (pc' := 28) kX11_isBelief_27 rfl rfl rf_a0 ?_
  refine ok_retz eX11_isBelief_28 rfl (Or.inl rfl) ?_
  exact ⟨rfl, rfl⟩
theorem c_isB {x : Int32} : rf_At (rf_T Ln xs) MX11_isBelief 2 0 ([some (.int x)], [], 108, (α, μ)) (some (.int (bI (isBI x)))) 108 (α, μ) := by
  rcases neg_or x with h | ⟨n, hn, rfl⟩
  · rw [show isBI x = false from if_pos h]
    exact c_isB_0 h
  · rw [isBI_n hn]
    exact c_isB_n hn
theorem wi_tr {a x y : Nat} (h : wi (nI a) (nI x) (nI y) = true) (hb : a < 2147483648 ∧ x < 2147483648 ∧ y < 2147483648) : x ≤ a ∧ a ≤ y := by
  unfold wi at h
  simp only [Bool.and_eq_true, decide_eq_true_eq] at h
  rw [nI_leI (by omega) (by omega), nI_leI (by omega) (by omega)] at h
  exact h
theorem wi_fl {a x y : Nat} (h : wi (nI a) (nI x) (nI y) = false) (hb : a < 2147483648 ∧ x < 2147483648 ∧ y < 2147483648) : ¬ (x ≤ a ∧ a ≤ y) := fun g => by
  rw [wi_n g.1 g.2 (by omega)] at h
  cases h
theorem m_isB_n {n : Nat} (hn : n < 2147483648) : rf_At (rf_T Ln xs) MX12_isPart 2 0 ([some (.int (nI n))], [], 108, (α, μ)) (some (.int (bI (isB n)))) 108 (α, μ) := by
  refine rf_pa ?_
  refine ok_step (ps := []) (L' := [some (.int (nI n))]) (st' := [.int (nI n)]) (σ' := (α, μ)) (pc' := 1) kX12_isPart_0 rfl rfl rf_a0 ?_
  refine ok_if_lt bX12_isPart_1 (fun h1 => absurd h1 ((nI_pos (by omega)))) (fun _ => ?_)
  refine ok_step (ps := [rf_nz (nI 10)]) (L' := [some (.int (nI n))]) (st' := [.long (lN 9), .long (lN 1), .long (((nI n) - (nI n) / (nI 10) * (nI 10)).toInt64)]) (σ' := (α, μ)) (pc' := 13) kX12_isPart_4 rfl rfl (rf_a1 (by decide) rf_a0) ?_
  try rw [(show ((nI n) - (nI n) / (nI 10) * (nI 10)) = nI ((n % 10)) from rf_eq (pk_rem (a := n) (d := 10) (by omega) (by decide) (by decide)) (by omega))]
  refine ok_S (As := [.long ((nI ((n % 10))).toInt64), .long (lN 1), .long (lN 9)]) (st := []) mkX12_in qX12_isPart_13 rfl rfl rfl rfl rfl (Nat.le_of_ble_eq_true rfl) (m_in) ?_
  rw [show wl ((nI ((n % 10))).toInt64) (lN 1) (lN 9) = wi (nI ((n % 10))) (nI 1) (nI 9) from wl_of rfl (nI_l (by decide)).symm (nI_l (by decide)).symm]
  refine ok_if_eq bX12_isPart_16 (fun h16 => ?_) (fun h16 => ?_)
  · refine ok_step (ps := []) (L' := [some (.int (nI n))]) (st' := [.int (nI 0)]) (σ' := (α, μ)) (pc' := 35) kX12_isPart_34 rfl rfl rf_a0 ?_
    refine ok_retz eX12_isPart_35 rfl (Or.inl rfl) ?_
    have w1 := wi_fl (bI_0.mp h16) (by omega)
    exact ⟨rz (by simp only [isB, Bool.and_eq_false_iff, decide_eq_false_iff_not]; omega), rfl⟩
  · refine ok_step (ps := [rf_nz (nI 10), rf_nz (nI 10)]) (L' := [some (.int (nI n))]) (st' := [.int ((nI n) - (nI n) / (nI 10) * (nI 10)), .int ((nI n) / (nI 10))]) (σ' := (α, μ)) (pc' := 27) kX12_isPart_19 rfl rfl (rf_a1 (by decide) (rf_a1 (by decide) rf_a0)) ?_
    try rw [(show ((nI n) - (nI n) / (nI 10) * (nI 10)) = nI ((n % 10)) from rf_eq (pk_rem (a := n) (d := 10) (by omega) (by decide) (by decide)) (by omega))]
    try rw [(show ((nI n) / (nI 10)) = nI ((n / 10)) from rf_eq (pk_div (a := n) (d := 10) (by omega) (by decide) (by decide)) (by omega))]
    try rw [(show ((nI n) - (nI n) / (nI 10) * (nI 10)) = nI ((n % 10)) from rf_eq (pk_rem (a := n) (d := 10) (by omega) (by decide) (by decide)) (by omega))]
    refine ok_icmp_gt bX12_isPart_27 (fun h27 => ?_) (fun h27 => ?_)
    · refine ok_step (ps := []) (L' := [some (.int (nI n))]) (st' := [.int (nI 0)]) (σ' := (α, μ)) (pc' := 35) kX12_isPart_34 rfl rfl rf_a0 ?_
      refine ok_retz eX12_isPart_35 rfl (Or.inl rfl) ?_
      have w1 := wi_tr (bI_n0.mp h16) (by omega)
      rw [nI_ltI (by omega) (by omega)] at h27
      exact ⟨rz (by simp only [isB, Bool.and_eq_false_iff, decide_eq_false_iff_not]; omega), rfl⟩
    · refine ok_step (ps := []) (L' := [some (.int (nI n))]) (st' := [.int (nI 1)]) (σ' := (α, μ)) (pc' := 31) kX12_isPart_30 rfl rfl rf_a0 ?_
      refine ok_goto bX12_isPart_31 ?_
      refine ok_retz eX12_isPart_35 rfl (Or.inr rfl) ?_
      have w1 := wi_tr (bI_n0.mp h16) (by omega)
      rw [nI_ltI (by omega) (by omega)] at h27
      exact ⟨ro (by simp only [isB, Bool.and_eq_true, decide_eq_true_eq]; omega), rfl⟩
theorem m_isB_0 {x : Int32} (hx : x < 0) : rf_At (rf_T Ln xs) MX12_isPart 2 0 ([some (.int x)], [], 108, (α, μ)) (some (.int (nI 0))) 108 (α, μ) := by
  refine rf_pa ?_
  refine ok_step (ps := []) (L' := [some (.int x)]) (st' := [.int x]) (σ' := (α, μ)) (pc' := 1) kX12_isPart_0 rfl rfl rf_a0 ?_
  refine ok_if_lt bX12_isPart_1 (fun _ => ?_) (fun h1 => absurd (hx) h1)
  refine ok_step (ps := []) (L' := [some (.int x)]) (st' := [.int (nI 0)]) (σ' := (α, μ)) (pc' := 35) kX12_isPart_34 rfl rfl rf_a0 ?_
  refine ok_retz eX12_isPart_35 rfl (Or.inl rfl) ?_
  exact ⟨rfl, rfl⟩
theorem m_isB {x : Int32} : rf_At (rf_T Ln xs) MX12_isPart 2 0 ([some (.int x)], [], 108, (α, μ)) (some (.int (bI (isBI x)))) 108 (α, μ) := by
  rcases neg_or x with h | ⟨n, hn, rfl⟩
  · rw [show isBI x = false from if_pos h]
    exact m_isB_0 h
  · rw [isBI_n hn]
    exact m_isB_n hn
theorem c_gok_n {k f q : Nat} {many : Int32} (hR : Rl 1 α (μ 95))(hk : k < 2147483648) (hf : f < 2147483648) (hq : q < 2147483648) : rf_At (rf_T Ln xs) MX11_isGroupTold 3 0 ([some (.ref 0), some (.int (nI k)), some (.int (nI f)), some (.int many), some (.int (nI q)), none], [], 108, (α, μ)) (some (.int (bI (gokN (μ 95) k f many q)))) 108 (α, μ) := by
  refine rf_pa ?_
  refine ok_step (ps := []) (L' := [some (.ref 0), some (.int (nI k)), some (.int (nI f)), some (.int many), some (.int (nI q)), none]) (st' := [.int (nI 799), .int (nI 0), .int (nI k)]) (σ' := (α, μ)) (pc' := 5) kX11_isGroupTold_0 rfl rfl rf_a0 ?_
  refine ok_S (As := [.int (nI k), .int (nI 0), .int (nI 799)]) (st := []) mkX11_within qX11_isGroupTold_5 rfl rfl rfl rfl rfl (Nat.le_of_ble_eq_true rfl) (c_within) ?_
  refine ok_if_eq bX11_isGroupTold_8 (fun h8 => ?_) (fun h8 => ?_)
  · refine ok_step (ps := []) (L' := [some (.ref 0), some (.int (nI k)), some (.int (nI f)), some (.int many), some (.int (nI q)), none]) (st' := [.int (nI 0)]) (σ' := (α, μ)) (pc' := 23) kX11_isGroupTold_22 rfl rfl rf_a0 ?_
    refine ok_retz eX11_isGroupTold_23 rfl (Or.inl rfl) ?_
    have wk := wi_fl (bI_0.mp h8) (by omega)
    try rw [isBI_n (by omega)] at *
    refine ⟨rz ?_, rfl⟩
    simp only [gokN, Bool.and_eq_false_iff, decide_eq_false_iff_not]
    first | exact Or.inl (by omega) | exact Or.inr (Or.inl (by assumption)) | exact Or.inr (Or.inr (Or.inl (by omega))) | exact Or.inr (Or.inr (Or.inr (Or.inl (by omega)))) | exact Or.inr (Or.inr (Or.inr (Or.inr (Or.inl (by assumption))))) | exact Or.inr (Or.inr (Or.inr (Or.inr (Or.inr (by first | assumption | (rw [← isBI_n (n := q) (by omega)]; assumption))))))
  · refine ok_step (ps := [rf_nz (nI 100)]) (L' := [some (.ref 0), some (.int (nI k)), some (.int (nI f)), some (.int many), some (.int (nI q)), none]) (st' := [.int ((nI k) - (nI k) / (nI 100) * (nI 100)), .ref 0]) (σ' := (α, μ)) (pc' := 16) kX11_isGroupTold_11 rfl rfl (rf_a1 (by decide) rf_a0) ?_
    try rw [(show ((nI k) - (nI k) / (nI 100) * (nI 100)) = nI ((k % 100)) from rf_eq (pk_rem (a := k) (d := 100) (by omega) (by decide) (by decide)) (by omega))]
    refine ok_V (As := [.int (nI ((k % 100)))]) (b := 0) (st := []) mkX11_isTrain qX11_isGroupTold_16 rfl (rc_0) rfl rfl rfl rfl (Nat.le_of_ble_eq_true rfl) (c_isTrain hR) ?_
    refine ok_if_ne bX11_isGroupTold_19 (fun h19 => ?_) (fun h19 => ?_)
    · refine ok_step (ps := [rf_nz (nI 10)]) (L' := [some (.ref 0), some (.int (nI k)), some (.int (nI f)), some (.int many), some (.int (nI q)), some (.int ((nI f) - (nI f) / (nI 10) * (nI 10)))]) (st' := [.int (nI f)]) (σ' := (α, μ)) (pc' := 31) kX11_isGroupTold_24 rfl rfl (rf_a1 (by decide) rf_a0) ?_
      try rw [(show ((nI f) - (nI f) / (nI 10) * (nI 10)) = nI ((f % 10)) from rf_eq (pk_rem (a := f) (d := 10) (by omega) (by decide) (by decide)) (by omega))]
      refine ok_if_lt bX11_isGroupTold_31 (fun h31 => absurd h31 ((nI_pos (by omega)))) (fun _ => ?_)
      refine ok_step (ps := []) (L' := [some (.ref 0), some (.int (nI k)), some (.int (nI f)), some (.int many), some (.int (nI q)), some (.int (nI ((f % 10))))]) (st' := [.int (nI 6), .int (nI ((f % 10)))]) (σ' := (α, μ)) (pc' := 38) kX11_isGroupTold_34 rfl rfl rf_a0 ?_
      refine ok_icmp_ge bX11_isGroupTold_38 (fun h38 => ?_) (fun h38 => ?_)
      · refine ok_step (ps := []) (L' := [some (.ref 0), some (.int (nI k)), some (.int (nI f)), some (.int many), some (.int (nI q)), some (.int (nI ((f % 10))))]) (st' := [.int (nI 0)]) (σ' := (α, μ)) (pc' := 51) kX11_isGroupTold_50 rfl rfl rf_a0 ?_
        refine ok_retz eX11_isGroupTold_51 rfl (Or.inl rfl) ?_
        have wk := wi_tr (bI_n0.mp h8) (by omega)
        rw [nI_leI (by omega) (by omega)] at h38
        have e0 := bI_n0.mp h19
        try rw [isBI_n (by omega)] at *
        refine ⟨rz ?_, rfl⟩
        simp only [gokN, Bool.and_eq_false_iff, decide_eq_false_iff_not]
        first | exact Or.inl (by omega) | exact Or.inr (Or.inl (by assumption)) | exact Or.inr (Or.inr (Or.inl (by omega))) | exact Or.inr (Or.inr (Or.inr (Or.inl (by omega)))) | exact Or.inr (Or.inr (Or.inr (Or.inr (Or.inl (by assumption))))) | exact Or.inr (Or.inr (Or.inr (Or.inr (Or.inr (by first | assumption | (rw [← isBI_n (n := q) (by omega)]; assumption))))))
      · refine ok_step (ps := [rf_nz (nI 10)]) (L' := [some (.ref 0), some (.int (nI k)), some (.int (nI f)), some (.int many), some (.int (nI q)), some (.int (nI ((f % 10))))]) (st' := [.int (nI ((f % 10))), .int ((nI f) / (nI 10))]) (σ' := (α, μ)) (pc' := 47) kX11_isGroupTold_41 rfl rfl (rf_a1 (by decide) rf_a0) ?_
        try rw [(show ((nI f) / (nI 10)) = nI ((f / 10)) from rf_eq (pk_div (a := f) (d := 10) (by omega) (by decide) (by decide)) (by omega))]
        refine ok_icmp_lt bX11_isGroupTold_47 (fun h47 => ?_) (fun h47 => ?_)
        · refine ok_step (ps := []) (L' := [some (.ref 0), some (.int (nI k)), some (.int (nI f)), some (.int many), some (.int (nI q)), some (.int (nI ((f % 10))))]) (st' := [.int (nI 999), .int (nI 1), .int many]) (σ' := (α, μ)) (pc' := 57) kX11_isGroupTold_52 rfl rfl rf_a0 ?_
          refine ok_S (As := [.int many, .int (nI 1), .int (nI 999)]) (st := []) mkX11_within qX11_isGroupTold_57 rfl rfl rfl rfl rfl (Nat.le_of_ble_eq_true rfl) (c_within) ?_
          refine ok_if_eq bX11_isGroupTold_60 (fun h60 => ?_) (fun h60 => ?_)
          · refine ok_step (ps := []) (L' := [some (.ref 0), some (.int (nI k)), some (.int (nI f)), some (.int many), some (.int (nI q)), some (.int (nI ((f % 10))))]) (st' := [.int (nI 0)]) (σ' := (α, μ)) (pc' := 76) kX11_isGroupTold_75 rfl rfl rf_a0 ?_
            refine ok_retz eX11_isGroupTold_76 rfl (Or.inl rfl) ?_
            have wk := wi_tr (bI_n0.mp h8) (by omega)
            rw [nI_leI (by omega) (by omega)] at h38
            rw [nI_ltI (by omega) (by omega)] at h47
            have e0 := bI_n0.mp h19
            have e1 := bI_0.mp h60
            try rw [isBI_n (by omega)] at *
            refine ⟨rz ?_, rfl⟩
            simp only [gokN, Bool.and_eq_false_iff, decide_eq_false_iff_not]
            first | exact Or.inl (by omega) | exact Or.inr (Or.inl (by assumption)) | exact Or.inr (Or.inr (Or.inl (by omega))) | exact Or.inr (Or.inr (Or.inr (Or.inl (by omega)))) | exact Or.inr (Or.inr (Or.inr (Or.inr (Or.inl (by assumption))))) | exact Or.inr (Or.inr (Or.inr (Or.inr (Or.inr (by first | assumption | (rw [← isBI_n (n := q) (by omega)]; assumption))))))
          · refine ok_step (ps := []) (L' := [some (.ref 0), some (.int (nI k)), some (.int (nI f)), some (.int many), some (.int (nI q)), some (.int (nI ((f % 10))))]) (st' := [.int (nI q)]) (σ' := (α, μ)) (pc' := 65) kX11_isGroupTold_63 rfl rfl rf_a0 ?_
            refine ok_S (As := [.int (nI q)]) (st := []) mkX11_isBelief qX11_isGroupTold_65 rfl rfl rfl rfl rfl (Nat.le_of_ble_eq_true rfl) (c_isB) ?_
            refine ok_if_eq bX11_isGroupTold_68 (fun h68 => ?_) (fun h68 => ?_)
            · refine ok_step (ps := []) (L' := [some (.ref 0), some (.int (nI k)), some (.int (nI f)), some (.int many), some (.int (nI q)), some (.int (nI ((f % 10))))]) (st' := [.int (nI 0)]) (σ' := (α, μ)) (pc' := 76) kX11_isGroupTold_75 rfl rfl rf_a0 ?_
              refine ok_retz eX11_isGroupTold_76 rfl (Or.inl rfl) ?_
              have wk := wi_tr (bI_n0.mp h8) (by omega)
              rw [nI_leI (by omega) (by omega)] at h38
              rw [nI_ltI (by omega) (by omega)] at h47
              have e0 := bI_n0.mp h19
              have e1 := bI_n0.mp h60
              have e2 := bI_0.mp h68
              try rw [isBI_n (by omega)] at *
              refine ⟨rz ?_, rfl⟩
              simp only [gokN, Bool.and_eq_false_iff, decide_eq_false_iff_not]
              first | exact Or.inl (by omega) | exact Or.inr (Or.inl (by assumption)) | exact Or.inr (Or.inr (Or.inl (by omega))) | exact Or.inr (Or.inr (Or.inr (Or.inl (by omega)))) | exact Or.inr (Or.inr (Or.inr (Or.inr (Or.inl (by assumption))))) | exact Or.inr (Or.inr (Or.inr (Or.inr (Or.inr (by first | assumption | (rw [← isBI_n (n := q) (by omega)]; assumption))))))
            · refine ok_step (ps := []) (L' := [some (.ref 0), some (.int (nI k)), some (.int (nI f)), some (.int many), some (.int (nI q)), some (.int (nI ((f % 10))))]) (st' := [.int (nI 1)]) (σ' := (α, μ)) (pc' := 72) kX11_isGroupTold_71 rfl rfl rf_a0 ?_
              refine ok_goto bX11_isGroupTold_72 ?_
              refine ok_retz eX11_isGroupTold_76 rfl (Or.inr rfl) ?_
              have wk := wi_tr (bI_n0.mp h8) (by omega)
              rw [nI_leI (by omega) (by omega)] at h38
              rw [nI_ltI (by omega) (by omega)] at h47
              have e0 := bI_n0.mp h19
              have e1 := bI_n0.mp h60
              have e2 := bI_n0.mp h68
              try rw [isBI_n (by omega)] at *
              refine ⟨ro ?_, rfl⟩
              simp only [gokN, Bool.and_eq_true, decide_eq_true_eq]
              refine ⟨by omega, by assumption, by omega, by omega, by assumption, by first | assumption | (rw [← isBI_n (n := q) (by omega)]; assumption)⟩
        · refine ok_step (ps := []) (L' := [some (.ref 0), some (.int (nI k)), some (.int (nI f)), some (.int many), some (.int (nI q)), some (.int (nI ((f % 10))))]) (st' := [.int (nI 0)]) (σ' := (α, μ)) (pc' := 51) kX11_isGroupTold_50 rfl rfl rf_a0 ?_
          refine ok_retz eX11_isGroupTold_51 rfl (Or.inl rfl) ?_
          have wk := wi_tr (bI_n0.mp h8) (by omega)
          rw [nI_leI (by omega) (by omega)] at h38
          rw [nI_ltI (by omega) (by omega)] at h47
          have e0 := bI_n0.mp h19
          try rw [isBI_n (by omega)] at *
          refine ⟨rz ?_, rfl⟩
          simp only [gokN, Bool.and_eq_false_iff, decide_eq_false_iff_not]
          first | exact Or.inl (by omega) | exact Or.inr (Or.inl (by assumption)) | exact Or.inr (Or.inr (Or.inl (by omega))) | exact Or.inr (Or.inr (Or.inr (Or.inl (by omega)))) | exact Or.inr (Or.inr (Or.inr (Or.inr (Or.inl (by assumption))))) | exact Or.inr (Or.inr (Or.inr (Or.inr (Or.inr (by first | assumption | (rw [← isBI_n (n := q) (by omega)]; assumption))))))
    · refine ok_step (ps := []) (L' := [some (.ref 0), some (.int (nI k)), some (.int (nI f)), some (.int many), some (.int (nI q)), none]) (st' := [.int (nI 0)]) (σ' := (α, μ)) (pc' := 23) kX11_isGroupTold_22 rfl rfl rf_a0 ?_
      refine ok_retz eX11_isGroupTold_23 rfl (Or.inl rfl) ?_
      have wk := wi_tr (bI_n0.mp h8) (by omega)
      have e0 := bI_0.mp h19
      try rw [isBI_n (by omega)] at *
      refine ⟨rz ?_, rfl⟩
      simp only [gokN, Bool.and_eq_false_iff, decide_eq_false_iff_not]
      first | exact Or.inl (by omega) | exact Or.inr (Or.inl (by assumption)) | exact Or.inr (Or.inr (Or.inl (by omega))) | exact Or.inr (Or.inr (Or.inr (Or.inl (by omega)))) | exact Or.inr (Or.inr (Or.inr (Or.inr (Or.inl (by assumption))))) | exact Or.inr (Or.inr (Or.inr (Or.inr (Or.inr (by first | assumption | (rw [← isBI_n (n := q) (by omega)]; assumption))))))
-- below 0 somewhere
theorem c_gok_1 {x f0 q0 many : Int32} (hR : Rl 1 α (μ 95))(hx : x < 0) : rf_At (rf_T Ln xs) MX11_isGroupTold 3 0 ([some (.ref 0), some (.int x), some (.int f0), some (.int many), some (.int q0), none], [], 108, (α, μ)) (some (.int (nI 0))) 108 (α, μ) := by
  refine rf_pa ?_
  refine ok_step (ps := []) (L' := [some (.ref 0), some (.int x), some (.int f0), some (.int many), some (.int q0), none]) (st' := [.int (nI 799), .int (nI 0), .int x]) (σ' := (α, μ)) (pc' := 5) kX11_isGroupTold_0 rfl rfl rf_a0 ?_
  refine ok_S (As := [.int x, .int (nI 0), .int (nI 799)]) (st := []) mkX11_within qX11_isGroupTold_5 rfl rfl rfl rfl rfl (Nat.le_of_ble_eq_true rfl) (c_within) ?_
  refine ok_if_eq bX11_isGroupTold_8 (fun _ => ?_) (fun h8 => absurd ((bI_0.mpr (wi_neg hx))) h8)
  refine ok_step (ps := []) (L' := [some (.ref 0), some (.int x), some (.int f0), some (.int many), some (.int q0), none]) (st' := [.int (nI 0)]) (σ' := (α, μ)) (pc' := 23) kX11_isGroupTold_22 rfl rfl rf_a0 ?_
  refine ok_retz eX11_isGroupTold_23 rfl (Or.inl rfl) ?_
  exact ⟨rfl, rfl⟩
theorem c_gok_2 {k : Nat} {x q0 many : Int32} (hR : Rl 1 α (μ 95))(hk : k < 2147483648) (hx : x < 0) : rf_At (rf_T Ln xs) MX11_isGroupTold 3 0 ([some (.ref 0), some (.int (nI k)), some (.int x), some (.int many), some (.int q0), none], [], 108, (α, μ)) (some (.int (nI 0))) 108 (α, μ) := by
  refine rf_pa ?_
  refine ok_step (ps := []) (L' := [some (.ref 0), some (.int (nI k)), some (.int x), some (.int many), some (.int q0), none]) (st' := [.int (nI 799), .int (nI 0), .int (nI k)]) (σ' := (α, μ)) (pc' := 5) kX11_isGroupTold_0 rfl rfl rf_a0 ?_
  refine ok_S (As := [.int (nI k), .int (nI 0), .int (nI 799)]) (st := []) mkX11_within qX11_isGroupTold_5 rfl rfl rfl rfl rfl (Nat.le_of_ble_eq_true rfl) (c_within) ?_
  refine ok_if_eq bX11_isGroupTold_8 (fun h8 => ?_) (fun h8 => ?_)
  · refine ok_step (ps := []) (L' := [some (.ref 0), some (.int (nI k)), some (.int x), some (.int many), some (.int q0), none]) (st' := [.int (nI 0)]) (σ' := (α, μ)) (pc' := 23) kX11_isGroupTold_22 rfl rfl rf_a0 ?_
    refine ok_retz eX11_isGroupTold_23 rfl (Or.inl rfl) ?_
    exact ⟨rfl, rfl⟩
  · refine ok_step (ps := [rf_nz (nI 100)]) (L' := [some (.ref 0), some (.int (nI k)), some (.int x), some (.int many), some (.int q0), none]) (st' := [.int ((nI k) - (nI k) / (nI 100) * (nI 100)), .ref 0]) (σ' := (α, μ)) (pc' := 16) kX11_isGroupTold_11 rfl rfl (rf_a1 (by decide) rf_a0) ?_
    try rw [(show ((nI k) - (nI k) / (nI 100) * (nI 100)) = nI ((k % 100)) from rf_eq (pk_rem (a := k) (d := 100) (by omega) (by decide) (by decide)) (by omega))]
    refine ok_V (As := [.int (nI ((k % 100)))]) (b := 0) (st := []) mkX11_isTrain qX11_isGroupTold_16 rfl (rc_0) rfl rfl rfl rfl (Nat.le_of_ble_eq_true rfl) (c_isTrain hR) ?_
    refine ok_if_ne bX11_isGroupTold_19 (fun h19 => ?_) (fun h19 => ?_)
    · refine ok_step (ps := [rf_nz (nI 10)]) (L' := [some (.ref 0), some (.int (nI k)), some (.int x), some (.int many), some (.int q0), some (.int (x - x / (nI 10) * (nI 10)))]) (st' := [.int x]) (σ' := (α, μ)) (pc' := 31) kX11_isGroupTold_24 rfl rfl (rf_a1 (by decide) rf_a0) ?_
      refine ok_if_lt bX11_isGroupTold_31 (fun _ => ?_) (fun h31 => absurd (hx) h31)
      refine ok_step (ps := []) (L' := [some (.ref 0), some (.int (nI k)), some (.int x), some (.int many), some (.int q0), some (.int (x - x / (nI 10) * (nI 10)))]) (st' := [.int (nI 0)]) (σ' := (α, μ)) (pc' := 51) kX11_isGroupTold_50 rfl rfl rf_a0 ?_
      refine ok_retz eX11_isGroupTold_51 rfl (Or.inl rfl) ?_
      exact ⟨rfl, rfl⟩
    · refine ok_step (ps := []) (L' := [some (.ref 0), some (.int (nI k)), some (.int x), some (.int many), some (.int q0), none]) (st' := [.int (nI 0)]) (σ' := (α, μ)) (pc' := 23) kX11_isGroupTold_22 rfl rfl rf_a0 ?_
      refine ok_retz eX11_isGroupTold_23 rfl (Or.inl rfl) ?_
      exact ⟨rfl, rfl⟩
theorem c_gok_3 {k f : Nat} {x many : Int32} (hR : Rl 1 α (μ 95))(hk : k < 2147483648) (hf : f < 2147483648) (hx : x < 0) : rf_At (rf_T Ln xs) MX11_isGroupTold 3 0 ([some (.ref 0), some (.int (nI k)), some (.int (nI f)), some (.int many), some (.int x), none], [], 108, (α, μ)) (some (.int (nI 0))) 108 (α, μ) := by
  refine rf_pa ?_
  refine ok_step (ps := []) (L' := [some (.ref 0), some (.int (nI k)), some (.int (nI f)), some (.int many), some (.int x), none]) (st' := [.int (nI 799), .int (nI 0), .int (nI k)]) (σ' := (α, μ)) (pc' := 5) kX11_isGroupTold_0 rfl rfl rf_a0 ?_
  refine ok_S (As := [.int (nI k), .int (nI 0), .int (nI 799)]) (st := []) mkX11_within qX11_isGroupTold_5 rfl rfl rfl rfl rfl (Nat.le_of_ble_eq_true rfl) (c_within) ?_
  refine ok_if_eq bX11_isGroupTold_8 (fun h8 => ?_) (fun h8 => ?_)
  · refine ok_step (ps := []) (L' := [some (.ref 0), some (.int (nI k)), some (.int (nI f)), some (.int many), some (.int x), none]) (st' := [.int (nI 0)]) (σ' := (α, μ)) (pc' := 23) kX11_isGroupTold_22 rfl rfl rf_a0 ?_
    refine ok_retz eX11_isGroupTold_23 rfl (Or.inl rfl) ?_
    exact ⟨rfl, rfl⟩
  · refine ok_step (ps := [rf_nz (nI 100)]) (L' := [some (.ref 0), some (.int (nI k)), some (.int (nI f)), some (.int many), some (.int x), none]) (st' := [.int ((nI k) - (nI k) / (nI 100) * (nI 100)), .ref 0]) (σ' := (α, μ)) (pc' := 16) kX11_isGroupTold_11 rfl rfl (rf_a1 (by decide) rf_a0) ?_
    try rw [(show ((nI k) - (nI k) / (nI 100) * (nI 100)) = nI ((k % 100)) from rf_eq (pk_rem (a := k) (d := 100) (by omega) (by decide) (by decide)) (by omega))]
    refine ok_V (As := [.int (nI ((k % 100)))]) (b := 0) (st := []) mkX11_isTrain qX11_isGroupTold_16 rfl (rc_0) rfl rfl rfl rfl (Nat.le_of_ble_eq_true rfl) (c_isTrain hR) ?_
    refine ok_if_ne bX11_isGroupTold_19 (fun h19 => ?_) (fun h19 => ?_)
    · refine ok_step (ps := [rf_nz (nI 10)]) (L' := [some (.ref 0), some (.int (nI k)), some (.int (nI f)), some (.int many), some (.int x), some (.int ((nI f) - (nI f) / (nI 10) * (nI 10)))]) (st' := [.int (nI f)]) (σ' := (α, μ)) (pc' := 31) kX11_isGroupTold_24 rfl rfl (rf_a1 (by decide) rf_a0) ?_
      try rw [(show ((nI f) - (nI f) / (nI 10) * (nI 10)) = nI ((f % 10)) from rf_eq (pk_rem (a := f) (d := 10) (by omega) (by decide) (by decide)) (by omega))]
      refine ok_if_lt bX11_isGroupTold_31 (fun h31 => absurd h31 ((nI_pos (by omega)))) (fun _ => ?_)
      refine ok_step (ps := []) (L' := [some (.ref 0), some (.int (nI k)), some (.int (nI f)), some (.int many), some (.int x), some (.int (nI ((f % 10))))]) (st' := [.int (nI 6), .int (nI ((f % 10)))]) (σ' := (α, μ)) (pc' := 38) kX11_isGroupTold_34 rfl rfl rf_a0 ?_
      refine ok_icmp_ge bX11_isGroupTold_38 (fun h38 => ?_) (fun h38 => ?_)
      · refine ok_step (ps := []) (L' := [some (.ref 0), some (.int (nI k)), some (.int (nI f)), some (.int many), some (.int x), some (.int (nI ((f % 10))))]) (st' := [.int (nI 0)]) (σ' := (α, μ)) (pc' := 51) kX11_isGroupTold_50 rfl rfl rf_a0 ?_
        refine ok_retz eX11_isGroupTold_51 rfl (Or.inl rfl) ?_
        exact ⟨rfl, rfl⟩
      · refine ok_step (ps := [rf_nz (nI 10)]) (L' := [some (.ref 0), some (.int (nI k)), some (.int (nI f)), some (.int many), some (.int x), some (.int (nI ((f % 10))))]) (st' := [.int (nI ((f % 10))), .int ((nI f) / (nI 10))]) (σ' := (α, μ)) (pc' := 47) kX11_isGroupTold_41 rfl rfl (rf_a1 (by decide) rf_a0) ?_
        try rw [(show ((nI f) / (nI 10)) = nI ((f / 10)) from rf_eq (pk_div (a := f) (d := 10) (by omega) (by decide) (by decide)) (by omega))]
        refine ok_icmp_lt bX11_isGroupTold_47 (fun h47 => ?_) (fun h47 => ?_)
        · refine ok_step (ps := []) (L' := [some (.ref 0), some (.int (nI k)), some (.int (nI f)), some (.int many), some (.int x), some (.int (nI ((f % 10))))]) (st' := [.int (nI 999), .int (nI 1), .int many]) (σ' := (α, μ)) (pc' := 57) kX11_isGroupTold_52 rfl rfl rf_a0 ?_
          refine ok_S (As := [.int many, .int (nI 1), .int (nI 999)]) (st := []) mkX11_within qX11_isGroupTold_57 rfl rfl rfl rfl rfl (Nat.le_of_ble_eq_true rfl) (c_within) ?_
          refine ok_if_eq bX11_isGroupTold_60 (fun h60 => ?_) (fun h60 => ?_)
          · refine ok_step (ps := []) (L' := [some (.ref 0), some (.int (nI k)), some (.int (nI f)), some (.int many), some (.int x), some (.int (nI ((f % 10))))]) (st' := [.int (nI 0)]) (σ' := (α, μ)) (pc' := 76) kX11_isGroupTold_75 rfl rfl rf_a0 ?_
            refine ok_retz eX11_isGroupTold_76 rfl (Or.inl rfl) ?_
            exact ⟨rfl, rfl⟩
          · refine ok_step (ps := []) (L' := [some (.ref 0), some (.int (nI k)), some (.int (nI f)), some (.int many), some (.int x), some (.int (nI ((f % 10))))]) (st' := [.int x]) (σ' := (α, μ)) (pc' := 65) kX11_isGroupTold_63 rfl rfl rf_a0 ?_
            refine ok_S (As := [.int x]) (st := []) mkX11_isBelief qX11_isGroupTold_65 rfl rfl rfl rfl rfl (Nat.le_of_ble_eq_true rfl) (c_isB) ?_
            refine ok_if_eq bX11_isGroupTold_68 (fun _ => ?_) (fun h68 => absurd ((bI_0.mpr (if_pos hx))) h68)
            refine ok_step (ps := []) (L' := [some (.ref 0), some (.int (nI k)), some (.int (nI f)), some (.int many), some (.int x), some (.int (nI ((f % 10))))]) (st' := [.int (nI 0)]) (σ' := (α, μ)) (pc' := 76) kX11_isGroupTold_75 rfl rfl rf_a0 ?_
            refine ok_retz eX11_isGroupTold_76 rfl (Or.inl rfl) ?_
            exact ⟨rfl, rfl⟩
        · refine ok_step (ps := []) (L' := [some (.ref 0), some (.int (nI k)), some (.int (nI f)), some (.int many), some (.int x), some (.int (nI ((f % 10))))]) (st' := [.int (nI 0)]) (σ' := (α, μ)) (pc' := 51) kX11_isGroupTold_50 rfl rfl rf_a0 ?_
          refine ok_retz eX11_isGroupTold_51 rfl (Or.inl rfl) ?_
          exact ⟨rfl, rfl⟩
    · refine ok_step (ps := []) (L' := [some (.ref 0), some (.int (nI k)), some (.int (nI f)), some (.int many), some (.int x), none]) (st' := [.int (nI 0)]) (σ' := (α, μ)) (pc' := 23) kX11_isGroupTold_22 rfl rfl rf_a0 ?_
      refine ok_retz eX11_isGroupTold_23 rfl (Or.inl rfl) ?_
      exact ⟨rfl, rfl⟩
theorem c_gok {kt ft many pq : Int32} (hR : Rl 1 α (μ 95)) : rf_At (rf_T Ln xs) MX11_isGroupTold 3 0 ([some (.ref 0), some (.int kt), some (.int ft), some (.int many), some (.int pq), none], [], 108, (α, μ)) (some (.int (bI (gok (μ 95) kt ft many pq)))) 108 (α, μ) := by
  rcases neg_or kt with h | ⟨k, hk, rfl⟩
  · rw [show gok (μ 95) kt ft many pq = false from if_pos (Or.inl h)]
    exact c_gok_1 hR h
  · rcases neg_or ft with h | ⟨f, hf, rfl⟩
    · rw [show gok (μ 95) (nI k) ft many pq = false from if_pos (Or.inr (Or.inl h))]
      exact c_gok_2 hR hk h
    · rcases neg_or pq with h | ⟨q, hq, rfl⟩
      · rw [show gok (μ 95) (nI k) (nI f) many pq = false from if_pos (Or.inr (Or.inr h))]
        exact c_gok_3 hR hk hf h
      · rw [gok_n hk hf hq]
        exact c_gok_n hR hk hf hq
theorem m_gok_n {k f q : Nat} {many : Int32} (hk : k < 2147483648) (hf : f < 2147483648) (hq : q < 2147483648) : rf_At (rf_T Ln xs) MX12_areRight 3 0 ([some (.ref 94), some (.int (nI k)), some (.int (nI f)), some (.int many), some (.int (nI q)), none], [], 108, (α, μ)) (some (.int (bI (gokN (μ 95) k f many q)))) 108 (α, μ) := by
  refine rf_pa ?_
  refine ok_step (ps := []) (L' := [some (.ref 94), some (.int (nI k)), some (.int (nI f)), some (.int many), some (.int (nI q)), none]) (st' := [.int (nI k)]) (σ' := (α, μ)) (pc' := 1) kX12_areRight_0 rfl rfl rf_a0 ?_
  refine ok_if_lt bX12_areRight_1 (fun h1 => absurd h1 ((nI_pos (by omega)))) (fun _ => ?_)
  refine ok_step (ps := [rf_nz (nI 100)]) (L' := [some (.ref 94), some (.int (nI k)), some (.int (nI f)), some (.int many), some (.int (nI q)), none]) (st' := [.int (nI 7), .int ((nI k) / (nI 100))]) (σ' := (α, μ)) (pc' := 10) kX12_areRight_4 rfl rfl (rf_a1 (by decide) rf_a0) ?_
  try rw [(show ((nI k) / (nI 100)) = nI ((k / 100)) from rf_eq (pk_div (a := k) (d := 100) (by omega) (by decide) (by decide)) (by omega))]
  refine ok_icmp_gt bX12_areRight_10 (fun h10 => ?_) (fun h10 => ?_)
  · refine ok_step (ps := []) (L' := [some (.ref 94), some (.int (nI k)), some (.int (nI f)), some (.int many), some (.int (nI q)), none]) (st' := [.int (nI 0)]) (σ' := (α, μ)) (pc' := 41) kX12_areRight_40 rfl rfl rf_a0 ?_
    refine ok_step (ps := []) (L' := [some (.ref 94), some (.int (nI k)), some (.int (nI f)), some (.int many), some (.int (nI q)), some (.int (nI 0))]) (st' := [.int (nI 0)]) (σ' := (α, μ)) (pc' := 45) kX12_areRight_41 rfl rfl rf_a0 ?_
    refine ok_if_eq bX12_areRight_45 (fun _ => ?_) (fun h45 => absurd ((by decide)) h45)
    refine ok_step (ps := []) (L' := [some (.ref 94), some (.int (nI k)), some (.int (nI f)), some (.int many), some (.int (nI q)), some (.int (nI 0))]) (st' := [.int (nI 0)]) (σ' := (α, μ)) (pc' := 84) kX12_areRight_83 rfl rfl rf_a0 ?_
    refine ok_retz eX12_areRight_84 rfl (Or.inl rfl) ?_
    rw [nI_ltI (by omega) (by omega)] at h10
    try rw [isBI_n (by omega)] at *
    refine ⟨rz ?_, rfl⟩
    simp only [gokN, Bool.and_eq_false_iff, decide_eq_false_iff_not]
    first | exact Or.inl (by omega) | exact Or.inr (Or.inl (by assumption)) | exact Or.inr (Or.inr (Or.inl (by omega))) | exact Or.inr (Or.inr (Or.inr (Or.inl (by omega)))) | exact Or.inr (Or.inr (Or.inr (Or.inr (Or.inl (by assumption))))) | exact Or.inr (Or.inr (Or.inr (Or.inr (Or.inr (by first | assumption | (rw [← isBI_n (n := q) (by omega)]; assumption))))))
  · refine ok_step (ps := [rf_nz (nI 100)]) (L' := [some (.ref 94), some (.int (nI k)), some (.int (nI f)), some (.int many), some (.int (nI q)), none]) (st' := [.int ((nI k) - (nI k) / (nI 100) * (nI 100)), .ref 94]) (σ' := (α, μ)) (pc' := 18) kX12_areRight_13 rfl rfl (rf_a1 (by decide) rf_a0) ?_
    try rw [(show ((nI k) - (nI k) / (nI 100) * (nI 100)) = nI ((k % 100)) from rf_eq (pk_rem (a := k) (d := 100) (by omega) (by decide) (by decide)) (by omega))]
    refine ok_V (As := [.int (nI ((k % 100)))]) (b := 94) (st := []) mkX12_isTrain qX12_areRight_18 rfl (rc_94) rfl rfl rfl rfl (Nat.le_of_ble_eq_true rfl) (m_isTrain) ?_
    refine ok_if_eq bX12_areRight_21 (fun h21 => ?_) (fun h21 => ?_)
    · refine ok_step (ps := []) (L' := [some (.ref 94), some (.int (nI k)), some (.int (nI f)), some (.int many), some (.int (nI q)), none]) (st' := [.int (nI 0)]) (σ' := (α, μ)) (pc' := 41) kX12_areRight_40 rfl rfl rf_a0 ?_
      refine ok_step (ps := []) (L' := [some (.ref 94), some (.int (nI k)), some (.int (nI f)), some (.int many), some (.int (nI q)), some (.int (nI 0))]) (st' := [.int (nI 0)]) (σ' := (α, μ)) (pc' := 45) kX12_areRight_41 rfl rfl rf_a0 ?_
      refine ok_if_eq bX12_areRight_45 (fun _ => ?_) (fun h45 => absurd ((by decide)) h45)
      refine ok_step (ps := []) (L' := [some (.ref 94), some (.int (nI k)), some (.int (nI f)), some (.int many), some (.int (nI q)), some (.int (nI 0))]) (st' := [.int (nI 0)]) (σ' := (α, μ)) (pc' := 84) kX12_areRight_83 rfl rfl rf_a0 ?_
      refine ok_retz eX12_areRight_84 rfl (Or.inl rfl) ?_
      rw [nI_ltI (by omega) (by omega)] at h10
      have e0 := bI_0.mp h21
      try rw [isBI_n (by omega)] at *
      refine ⟨rz ?_, rfl⟩
      simp only [gokN, Bool.and_eq_false_iff, decide_eq_false_iff_not]
      first | exact Or.inl (by omega) | exact Or.inr (Or.inl (by assumption)) | exact Or.inr (Or.inr (Or.inl (by omega))) | exact Or.inr (Or.inr (Or.inr (Or.inl (by omega)))) | exact Or.inr (Or.inr (Or.inr (Or.inr (Or.inl (by assumption))))) | exact Or.inr (Or.inr (Or.inr (Or.inr (Or.inr (by first | assumption | (rw [← isBI_n (n := q) (by omega)]; assumption))))))
    · refine ok_step (ps := []) (L' := [some (.ref 94), some (.int (nI k)), some (.int (nI f)), some (.int many), some (.int (nI q)), none]) (st' := [.long (lN 999), .long (lN 1), .long many.toInt64]) (σ' := (α, μ)) (pc' := 30) kX12_areRight_24 rfl rfl rf_a0 ?_
      refine ok_S (As := [.long many.toInt64, .long (lN 1), .long (lN 999)]) (st := []) mkX12_in qX12_areRight_30 rfl rfl rfl rfl rfl (Nat.le_of_ble_eq_true rfl) (m_in) ?_
      rw [show wl many.toInt64 (lN 1) (lN 999) = wi many (nI 1) (nI 999) from wl_of rfl (nI_l (by decide)).symm (nI_l (by decide)).symm]
      refine ok_if_eq bX12_areRight_33 (fun h33 => ?_) (fun h33 => ?_)
      · refine ok_step (ps := []) (L' := [some (.ref 94), some (.int (nI k)), some (.int (nI f)), some (.int many), some (.int (nI q)), none]) (st' := [.int (nI 0)]) (σ' := (α, μ)) (pc' := 41) kX12_areRight_40 rfl rfl rf_a0 ?_
        refine ok_step (ps := []) (L' := [some (.ref 94), some (.int (nI k)), some (.int (nI f)), some (.int many), some (.int (nI q)), some (.int (nI 0))]) (st' := [.int (nI 0)]) (σ' := (α, μ)) (pc' := 45) kX12_areRight_41 rfl rfl rf_a0 ?_
        refine ok_if_eq bX12_areRight_45 (fun _ => ?_) (fun h45 => absurd ((by decide)) h45)
        refine ok_step (ps := []) (L' := [some (.ref 94), some (.int (nI k)), some (.int (nI f)), some (.int many), some (.int (nI q)), some (.int (nI 0))]) (st' := [.int (nI 0)]) (σ' := (α, μ)) (pc' := 84) kX12_areRight_83 rfl rfl rf_a0 ?_
        refine ok_retz eX12_areRight_84 rfl (Or.inl rfl) ?_
        rw [nI_ltI (by omega) (by omega)] at h10
        have e0 := bI_n0.mp h21
        have e1 := bI_0.mp h33
        try rw [isBI_n (by omega)] at *
        refine ⟨rz ?_, rfl⟩
        simp only [gokN, Bool.and_eq_false_iff, decide_eq_false_iff_not]
        first | exact Or.inl (by omega) | exact Or.inr (Or.inl (by assumption)) | exact Or.inr (Or.inr (Or.inl (by omega))) | exact Or.inr (Or.inr (Or.inr (Or.inl (by omega)))) | exact Or.inr (Or.inr (Or.inr (Or.inr (Or.inl (by assumption))))) | exact Or.inr (Or.inr (Or.inr (Or.inr (Or.inr (by first | assumption | (rw [← isBI_n (n := q) (by omega)]; assumption))))))
      · refine ok_step (ps := []) (L' := [some (.ref 94), some (.int (nI k)), some (.int (nI f)), some (.int many), some (.int (nI q)), none]) (st' := [.int (nI 1)]) (σ' := (α, μ)) (pc' := 37) kX12_areRight_36 rfl rfl rf_a0 ?_
        refine ok_goto bX12_areRight_37 ?_
        refine ok_step (ps := []) (L' := [some (.ref 94), some (.int (nI k)), some (.int (nI f)), some (.int many), some (.int (nI q)), some (.int (nI 1))]) (st' := [.int (nI 1)]) (σ' := (α, μ)) (pc' := 45) kX12_areRight_41 rfl rfl rf_a0 ?_
        refine ok_if_eq bX12_areRight_45 (fun h45 => absurd h45 ((by decide))) (fun _ => ?_)
        refine ok_step (ps := []) (L' := [some (.ref 94), some (.int (nI k)), some (.int (nI f)), some (.int many), some (.int (nI q)), some (.int (nI 1))]) (st' := [.int (nI f)]) (σ' := (α, μ)) (pc' := 49) kX12_areRight_48 rfl rfl rf_a0 ?_
        refine ok_if_lt bX12_areRight_49 (fun h49 => absurd h49 ((nI_pos (by omega)))) (fun _ => ?_)
        refine ok_step (ps := [rf_nz (nI 10), rf_nz (nI 10)]) (L' := [some (.ref 94), some (.int (nI k)), some (.int (nI f)), some (.int many), some (.int (nI q)), some (.int (nI 1))]) (st' := [.int ((nI f) - (nI f) / (nI 10) * (nI 10)), .int ((nI f) / (nI 10))]) (σ' := (α, μ)) (pc' := 60) kX12_areRight_52 rfl rfl (rf_a1 (by decide) (rf_a1 (by decide) rf_a0)) ?_
        try rw [(show ((nI f) - (nI f) / (nI 10) * (nI 10)) = nI ((f % 10)) from rf_eq (pk_rem (a := f) (d := 10) (by omega) (by decide) (by decide)) (by omega))]
        try rw [(show ((nI f) / (nI 10)) = nI ((f / 10)) from rf_eq (pk_div (a := f) (d := 10) (by omega) (by decide) (by decide)) (by omega))]
        try rw [(show ((nI f) - (nI f) / (nI 10) * (nI 10)) = nI ((f % 10)) from rf_eq (pk_rem (a := f) (d := 10) (by omega) (by decide) (by decide)) (by omega))]
        refine ok_icmp_ge bX12_areRight_60 (fun h60 => ?_) (fun h60 => ?_)
        · refine ok_step (ps := []) (L' := [some (.ref 94), some (.int (nI k)), some (.int (nI f)), some (.int many), some (.int (nI q)), some (.int (nI 1))]) (st' := [.int (nI 0)]) (σ' := (α, μ)) (pc' := 84) kX12_areRight_83 rfl rfl rf_a0 ?_
          refine ok_retz eX12_areRight_84 rfl (Or.inl rfl) ?_
          rw [nI_ltI (by omega) (by omega)] at h10
          rw [nI_leI (by omega) (by omega)] at h60
          have e0 := bI_n0.mp h21
          have e1 := bI_n0.mp h33
          try rw [isBI_n (by omega)] at *
          refine ⟨rz ?_, rfl⟩
          simp only [gokN, Bool.and_eq_false_iff, decide_eq_false_iff_not]
          first | exact Or.inl (by omega) | exact Or.inr (Or.inl (by assumption)) | exact Or.inr (Or.inr (Or.inl (by omega))) | exact Or.inr (Or.inr (Or.inr (Or.inl (by omega)))) | exact Or.inr (Or.inr (Or.inr (Or.inr (Or.inl (by assumption))))) | exact Or.inr (Or.inr (Or.inr (Or.inr (Or.inr (by first | assumption | (rw [← isBI_n (n := q) (by omega)]; assumption))))))
        · refine ok_step (ps := [rf_nz (nI 10)]) (L' := [some (.ref 94), some (.int (nI k)), some (.int (nI f)), some (.int many), some (.int (nI q)), some (.int (nI 1))]) (st' := [.int (nI 5), .int ((nI f) - (nI f) / (nI 10) * (nI 10))]) (σ' := (α, μ)) (pc' := 68) kX12_areRight_63 rfl rfl (rf_a1 (by decide) rf_a0) ?_
          try rw [(show ((nI f) - (nI f) / (nI 10) * (nI 10)) = nI ((f % 10)) from rf_eq (pk_rem (a := f) (d := 10) (by omega) (by decide) (by decide)) (by omega))]
          refine ok_icmp_gt bX12_areRight_68 (fun h68 => ?_) (fun h68 => ?_)
          · refine ok_step (ps := []) (L' := [some (.ref 94), some (.int (nI k)), some (.int (nI f)), some (.int many), some (.int (nI q)), some (.int (nI 1))]) (st' := [.int (nI 0)]) (σ' := (α, μ)) (pc' := 84) kX12_areRight_83 rfl rfl rf_a0 ?_
            refine ok_retz eX12_areRight_84 rfl (Or.inl rfl) ?_
            rw [nI_ltI (by omega) (by omega)] at h10
            rw [nI_leI (by omega) (by omega)] at h60
            rw [nI_ltI (by omega) (by omega)] at h68
            have e0 := bI_n0.mp h21
            have e1 := bI_n0.mp h33
            try rw [isBI_n (by omega)] at *
            refine ⟨rz ?_, rfl⟩
            simp only [gokN, Bool.and_eq_false_iff, decide_eq_false_iff_not]
            first | exact Or.inl (by omega) | exact Or.inr (Or.inl (by assumption)) | exact Or.inr (Or.inr (Or.inl (by omega))) | exact Or.inr (Or.inr (Or.inr (Or.inl (by omega)))) | exact Or.inr (Or.inr (Or.inr (Or.inr (Or.inl (by assumption))))) | exact Or.inr (Or.inr (Or.inr (Or.inr (Or.inr (by first | assumption | (rw [← isBI_n (n := q) (by omega)]; assumption))))))
          · refine ok_step (ps := []) (L' := [some (.ref 94), some (.int (nI k)), some (.int (nI f)), some (.int many), some (.int (nI q)), some (.int (nI 1))]) (st' := [.int (nI q)]) (σ' := (α, μ)) (pc' := 73) kX12_areRight_71 rfl rfl rf_a0 ?_
            refine ok_S (As := [.int (nI q)]) (st := []) mkX12_isPart qX12_areRight_73 rfl rfl rfl rfl rfl (Nat.le_of_ble_eq_true rfl) (m_isB) ?_
            refine ok_if_eq bX12_areRight_76 (fun h76 => ?_) (fun h76 => ?_)
            · refine ok_step (ps := []) (L' := [some (.ref 94), some (.int (nI k)), some (.int (nI f)), some (.int many), some (.int (nI q)), some (.int (nI 1))]) (st' := [.int (nI 0)]) (σ' := (α, μ)) (pc' := 84) kX12_areRight_83 rfl rfl rf_a0 ?_
              refine ok_retz eX12_areRight_84 rfl (Or.inl rfl) ?_
              rw [nI_ltI (by omega) (by omega)] at h10
              rw [nI_leI (by omega) (by omega)] at h60
              rw [nI_ltI (by omega) (by omega)] at h68
              have e0 := bI_n0.mp h21
              have e1 := bI_n0.mp h33
              have e2 := bI_0.mp h76
              try rw [isBI_n (by omega)] at *
              refine ⟨rz ?_, rfl⟩
              simp only [gokN, Bool.and_eq_false_iff, decide_eq_false_iff_not]
              first | exact Or.inl (by omega) | exact Or.inr (Or.inl (by assumption)) | exact Or.inr (Or.inr (Or.inl (by omega))) | exact Or.inr (Or.inr (Or.inr (Or.inl (by omega)))) | exact Or.inr (Or.inr (Or.inr (Or.inr (Or.inl (by assumption))))) | exact Or.inr (Or.inr (Or.inr (Or.inr (Or.inr (by first | assumption | (rw [← isBI_n (n := q) (by omega)]; assumption))))))
            · refine ok_step (ps := []) (L' := [some (.ref 94), some (.int (nI k)), some (.int (nI f)), some (.int many), some (.int (nI q)), some (.int (nI 1))]) (st' := [.int (nI 1)]) (σ' := (α, μ)) (pc' := 80) kX12_areRight_79 rfl rfl rf_a0 ?_
              refine ok_goto bX12_areRight_80 ?_
              refine ok_retz eX12_areRight_84 rfl (Or.inr rfl) ?_
              rw [nI_ltI (by omega) (by omega)] at h10
              rw [nI_leI (by omega) (by omega)] at h60
              rw [nI_ltI (by omega) (by omega)] at h68
              have e0 := bI_n0.mp h21
              have e1 := bI_n0.mp h33
              have e2 := bI_n0.mp h76
              try rw [isBI_n (by omega)] at *
              refine ⟨ro ?_, rfl⟩
              simp only [gokN, Bool.and_eq_true, decide_eq_true_eq]
              refine ⟨by omega, by assumption, by omega, by omega, by assumption, by first | assumption | (rw [← isBI_n (n := q) (by omega)]; assumption)⟩
-- below 0 somewhere
theorem m_gok_1 {x f0 q0 many : Int32} (hx : x < 0) : rf_At (rf_T Ln xs) MX12_areRight 3 0 ([some (.ref 94), some (.int x), some (.int f0), some (.int many), some (.int q0), none], [], 108, (α, μ)) (some (.int (nI 0))) 108 (α, μ) := by
  refine rf_pa ?_
  refine ok_step (ps := []) (L' := [some (.ref 94), some (.int x), some (.int f0), some (.int many), some (.int q0), none]) (st' := [.int x]) (σ' := (α, μ)) (pc' := 1) kX12_areRight_0 rfl rfl rf_a0 ?_
  refine ok_if_lt bX12_areRight_1 (fun _ => ?_) (fun h1 => absurd (hx) h1)
  refine ok_step (ps := []) (L' := [some (.ref 94), some (.int x), some (.int f0), some (.int many), some (.int q0), none]) (st' := [.int (nI 0)]) (σ' := (α, μ)) (pc' := 41) kX12_areRight_40 rfl rfl rf_a0 ?_
  refine ok_step (ps := []) (L' := [some (.ref 94), some (.int x), some (.int f0), some (.int many), some (.int q0), some (.int (nI 0))]) (st' := [.int (nI 0)]) (σ' := (α, μ)) (pc' := 45) kX12_areRight_41 rfl rfl rf_a0 ?_
  refine ok_if_eq bX12_areRight_45 (fun _ => ?_) (fun h45 => absurd ((by decide)) h45)
  refine ok_step (ps := []) (L' := [some (.ref 94), some (.int x), some (.int f0), some (.int many), some (.int q0), some (.int (nI 0))]) (st' := [.int (nI 0)]) (σ' := (α, μ)) (pc' := 84) kX12_areRight_83 rfl rfl rf_a0 ?_
  refine ok_retz eX12_areRight_84 rfl (Or.inl rfl) ?_
  exact ⟨rfl, rfl⟩
theorem m_gok_2 {k : Nat} {x q0 many : Int32} (hk : k < 2147483648) (hx : x < 0) : rf_At (rf_T Ln xs) MX12_areRight 3 0 ([some (.ref 94), some (.int (nI k)), some (.int x), some (.int many), some (.int q0), none], [], 108, (α, μ)) (some (.int (nI 0))) 108 (α, μ) := by
  refine rf_pa ?_
  refine ok_step (ps := []) (L' := [some (.ref 94), some (.int (nI k)), some (.int x), some (.int many), some (.int q0), none]) (st' := [.int (nI k)]) (σ' := (α, μ)) (pc' := 1) kX12_areRight_0 rfl rfl rf_a0 ?_
  refine ok_if_lt bX12_areRight_1 (fun h1 => absurd h1 ((nI_pos (by omega)))) (fun _ => ?_)
  refine ok_step (ps := [rf_nz (nI 100)]) (L' := [some (.ref 94), some (.int (nI k)), some (.int x), some (.int many), some (.int q0), none]) (st' := [.int (nI 7), .int ((nI k) / (nI 100))]) (σ' := (α, μ)) (pc' := 10) kX12_areRight_4 rfl rfl (rf_a1 (by decide) rf_a0) ?_
  try rw [(show ((nI k) / (nI 100)) = nI ((k / 100)) from rf_eq (pk_div (a := k) (d := 100) (by omega) (by decide) (by decide)) (by omega))]
  refine ok_icmp_gt bX12_areRight_10 (fun h10 => ?_) (fun h10 => ?_)
  · refine ok_step (ps := []) (L' := [some (.ref 94), some (.int (nI k)), some (.int x), some (.int many), some (.int q0), none]) (st' := [.int (nI 0)]) (σ' := (α, μ)) (pc' := 41) kX12_areRight_40 rfl rfl rf_a0 ?_
    refine ok_step (ps := []) (L' := [some (.ref 94), some (.int (nI k)), some (.int x), some (.int many), some (.int q0), some (.int (nI 0))]) (st' := [.int (nI 0)]) (σ' := (α, μ)) (pc' := 45) kX12_areRight_41 rfl rfl rf_a0 ?_
    refine ok_if_eq bX12_areRight_45 (fun _ => ?_) (fun h45 => absurd ((by decide)) h45)
    refine ok_step (ps := []) (L' := [some (.ref 94), some (.int (nI k)), some (.int x), some (.int many), some (.int q0), some (.int (nI 0))]) (st' := [.int (nI 0)]) (σ' := (α, μ)) (pc' := 84) kX12_areRight_83 rfl rfl rf_a0 ?_
    refine ok_retz eX12_areRight_84 rfl (Or.inl rfl) ?_
    exact ⟨rfl, rfl⟩
  · refine ok_step (ps := [rf_nz (nI 100)]) (L' := [some (.ref 94), some (.int (nI k)), some (.int x), some (.int many), some (.int q0), none]) (st' := [.int ((nI k) - (nI k) / (nI 100) * (nI 100)), .ref 94]) (σ' := (α, μ)) (pc' := 18) kX12_areRight_13 rfl rfl (rf_a1 (by decide) rf_a0) ?_
    try rw [(show ((nI k) - (nI k) / (nI 100) * (nI 100)) = nI ((k % 100)) from rf_eq (pk_rem (a := k) (d := 100) (by omega) (by decide) (by decide)) (by omega))]
    refine ok_V (As := [.int (nI ((k % 100)))]) (b := 94) (st := []) mkX12_isTrain qX12_areRight_18 rfl (rc_94) rfl rfl rfl rfl (Nat.le_of_ble_eq_true rfl) (m_isTrain) ?_
    refine ok_if_eq bX12_areRight_21 (fun h21 => ?_) (fun h21 => ?_)
    · refine ok_step (ps := []) (L' := [some (.ref 94), some (.int (nI k)), some (.int x), some (.int many), some (.int q0), none]) (st' := [.int (nI 0)]) (σ' := (α, μ)) (pc' := 41) kX12_areRight_40 rfl rfl rf_a0 ?_
      refine ok_step (ps := []) (L' := [some (.ref 94), some (.int (nI k)), some (.int x), some (.int many), some (.int q0), some (.int (nI 0))]) (st' := [.int (nI 0)]) (σ' := (α, μ)) (pc' := 45) kX12_areRight_41 rfl rfl rf_a0 ?_
      refine ok_if_eq bX12_areRight_45 (fun _ => ?_) (fun h45 => absurd ((by decide)) h45)
      refine ok_step (ps := []) (L' := [some (.ref 94), some (.int (nI k)), some (.int x), some (.int many), some (.int q0), some (.int (nI 0))]) (st' := [.int (nI 0)]) (σ' := (α, μ)) (pc' := 84) kX12_areRight_83 rfl rfl rf_a0 ?_
      refine ok_retz eX12_areRight_84 rfl (Or.inl rfl) ?_
      exact ⟨rfl, rfl⟩
    · refine ok_step (ps := []) (L' := [some (.ref 94), some (.int (nI k)), some (.int x), some (.int many), some (.int q0), none]) (st' := [.long (lN 999), .long (lN 1), .long many.toInt64]) (σ' := (α, μ)) (pc' := 30) kX12_areRight_24 rfl rfl rf_a0 ?_
      refine ok_S (As := [.long many.toInt64, .long (lN 1), .long (lN 999)]) (st := []) mkX12_in qX12_areRight_30 rfl rfl rfl rfl rfl (Nat.le_of_ble_eq_true rfl) (m_in) ?_
      rw [show wl many.toInt64 (lN 1) (lN 999) = wi many (nI 1) (nI 999) from wl_of rfl (nI_l (by decide)).symm (nI_l (by decide)).symm]
      refine ok_if_eq bX12_areRight_33 (fun h33 => ?_) (fun h33 => ?_)
      · refine ok_step (ps := []) (L' := [some (.ref 94), some (.int (nI k)), some (.int x), some (.int many), some (.int q0), none]) (st' := [.int (nI 0)]) (σ' := (α, μ)) (pc' := 41) kX12_areRight_40 rfl rfl rf_a0 ?_
        refine ok_step (ps := []) (L' := [some (.ref 94), some (.int (nI k)), some (.int x), some (.int many), some (.int q0), some (.int (nI 0))]) (st' := [.int (nI 0)]) (σ' := (α, μ)) (pc' := 45) kX12_areRight_41 rfl rfl rf_a0 ?_
        refine ok_if_eq bX12_areRight_45 (fun _ => ?_) (fun h45 => absurd ((by decide)) h45)
        refine ok_step (ps := []) (L' := [some (.ref 94), some (.int (nI k)), some (.int x), some (.int many), some (.int q0), some (.int (nI 0))]) (st' := [.int (nI 0)]) (σ' := (α, μ)) (pc' := 84) kX12_areRight_83 rfl rfl rf_a0 ?_
        refine ok_retz eX12_areRight_84 rfl (Or.inl rfl) ?_
        exact ⟨rfl, rfl⟩
      · refine ok_step (ps := []) (L' := [some (.ref 94), some (.int (nI k)), some (.int x), some (.int many), some (.int q0), none]) (st' := [.int (nI 1)]) (σ' := (α, μ)) (pc' := 37) kX12_areRight_36 rfl rfl rf_a0 ?_
        refine ok_goto bX12_areRight_37 ?_
        refine ok_step (ps := []) (L' := [some (.ref 94), some (.int (nI k)), some (.int x), some (.int many), some (.int q0), some (.int (nI 1))]) (st' := [.int (nI 1)]) (σ' := (α, μ)) (pc' := 45) kX12_areRight_41 rfl rfl rf_a0 ?_
        refine ok_if_eq bX12_areRight_45 (fun h45 => absurd h45 ((by decide))) (fun _ => ?_)
        refine ok_step (ps := []) (L' := [some (.ref 94), some (.int (nI k)), some (.int x), some (.int many), some (.int q0), some (.int (nI 1))]) (st' := [.int x]) (σ' := (α, μ)) (pc' := 49) kX12_areRight_48 rfl rfl rf_a0 ?_
        refine ok_if_lt bX12_areRight_49 (fun _ => ?_) (fun h49 => absurd (hx) h49)
        refine ok_step (ps := []) (L' := [some (.ref 94), some (.int (nI k)), some (.int x), some (.int many), some (.int q0), some (.int (nI 1))]) (st' := [.int (nI 0)]) (σ' := (α, μ)) (pc' := 84) kX12_areRight_83 rfl rfl rf_a0 ?_
        refine ok_retz eX12_areRight_84 rfl (Or.inl rfl) ?_
        exact ⟨rfl, rfl⟩
theorem m_gok_3 {k f : Nat} {x many : Int32} (hk : k < 2147483648) (hf : f < 2147483648) (hx : x < 0) : rf_At (rf_T Ln xs) MX12_areRight 3 0 ([some (.ref 94), some (.int (nI k)), some (.int (nI f)), some (.int many), some (.int x), none], [], 108, (α, μ)) (some (.int (nI 0))) 108 (α, μ) := by
  refine rf_pa ?_
  refine ok_step (ps := []) (L' := [some (.ref 94), some (.int (nI k)), some (.int (nI f)), some (.int many), some (.int x), none]) (st' := [.int (nI k)]) (σ' := (α, μ)) (pc' := 1) kX12_areRight_0 rfl rfl rf_a0 ?_
  refine ok_if_lt bX12_areRight_1 (fun h1 => absurd h1 ((nI_pos (by omega)))) (fun _ => ?_)
  refine ok_step (ps := [rf_nz (nI 100)]) (L' := [some (.ref 94), some (.int (nI k)), some (.int (nI f)), some (.int many), some (.int x), none]) (st' := [.int (nI 7), .int ((nI k) / (nI 100))]) (σ' := (α, μ)) (pc' := 10) kX12_areRight_4 rfl rfl (rf_a1 (by decide) rf_a0) ?_
  try rw [(show ((nI k) / (nI 100)) = nI ((k / 100)) from rf_eq (pk_div (a := k) (d := 100) (by omega) (by decide) (by decide)) (by omega))]
  refine ok_icmp_gt bX12_areRight_10 (fun h10 => ?_) (fun h10 => ?_)
  · refine ok_step (ps := []) (L' := [some (.ref 94), some (.int (nI k)), some (.int (nI f)), some (.int many), some (.int x), none]) (st' := [.int (nI 0)]) (σ' := (α, μ)) (pc' := 41) kX12_areRight_40 rfl rfl rf_a0 ?_
    refine ok_step (ps := []) (L' := [some (.ref 94), some (.int (nI k)), some (.int (nI f)), some (.int many), some (.int x), some (.int (nI 0))]) (st' := [.int (nI 0)]) (σ' := (α, μ)) (pc' := 45) kX12_areRight_41 rfl rfl rf_a0 ?_
    refine ok_if_eq bX12_areRight_45 (fun _ => ?_) (fun h45 => absurd ((by decide)) h45)
    refine ok_step (ps := []) (L' := [some (.ref 94), some (.int (nI k)), some (.int (nI f)), some (.int many), some (.int x), some (.int (nI 0))]) (st' := [.int (nI 0)]) (σ' := (α, μ)) (pc' := 84) kX12_areRight_83 rfl rfl rf_a0 ?_
    refine ok_retz eX12_areRight_84 rfl (Or.inl rfl) ?_
    exact ⟨rfl, rfl⟩
  · refine ok_step (ps := [rf_nz (nI 100)]) (L' := [some (.ref 94), some (.int (nI k)), some (.int (nI f)), some (.int many), some (.int x), none]) (st' := [.int ((nI k) - (nI k) / (nI 100) * (nI 100)), .ref 94]) (σ' := (α, μ)) (pc' := 18) kX12_areRight_13 rfl rfl (rf_a1 (by decide) rf_a0) ?_
    try rw [(show ((nI k) - (nI k) / (nI 100) * (nI 100)) = nI ((k % 100)) from rf_eq (pk_rem (a := k) (d := 100) (by omega) (by decide) (by decide)) (by omega))]
    refine ok_V (As := [.int (nI ((k % 100)))]) (b := 94) (st := []) mkX12_isTrain qX12_areRight_18 rfl (rc_94) rfl rfl rfl rfl (Nat.le_of_ble_eq_true rfl) (m_isTrain) ?_
    refine ok_if_eq bX12_areRight_21 (fun h21 => ?_) (fun h21 => ?_)
    · refine ok_step (ps := []) (L' := [some (.ref 94), some (.int (nI k)), some (.int (nI f)), some (.int many), some (.int x), none]) (st' := [.int (nI 0)]) (σ' := (α, μ)) (pc' := 41) kX12_areRight_40 rfl rfl rf_a0 ?_
      refine ok_step (ps := []) (L' := [some (.ref 94), some (.int (nI k)), some (.int (nI f)), some (.int many), some (.int x), some (.int (nI 0))]) (st' := [.int (nI 0)]) (σ' := (α, μ)) (pc' := 45) kX12_areRight_41 rfl rfl rf_a0 ?_
      refine ok_if_eq bX12_areRight_45 (fun _ => ?_) (fun h45 => absurd ((by decide)) h45)
      refine ok_step (ps := []) (L' := [some (.ref 94), some (.int (nI k)), some (.int (nI f)), some (.int many), some (.int x), some (.int (nI 0))]) (st' := [.int (nI 0)]) (σ' := (α, μ)) (pc' := 84) kX12_areRight_83 rfl rfl rf_a0 ?_
      refine ok_retz eX12_areRight_84 rfl (Or.inl rfl) ?_
      exact ⟨rfl, rfl⟩
    · refine ok_step (ps := []) (L' := [some (.ref 94), some (.int (nI k)), some (.int (nI f)), some (.int many), some (.int x), none]) (st' := [.long (lN 999), .long (lN 1), .long many.toInt64]) (σ' := (α, μ)) (pc' := 30) kX12_areRight_24 rfl rfl rf_a0 ?_
      refine ok_S (As := [.long many.toInt64, .long (lN 1), .long (lN 999)]) (st := []) mkX12_in qX12_areRight_30 rfl rfl rfl rfl rfl (Nat.le_of_ble_eq_true rfl) (m_in) ?_
      rw [show wl many.toInt64 (lN 1) (lN 999) = wi many (nI 1) (nI 999) from wl_of rfl (nI_l (by decide)).symm (nI_l (by decide)).symm]
      refine ok_if_eq bX12_areRight_33 (fun h33 => ?_) (fun h33 => ?_)
      · refine ok_step (ps := []) (L' := [some (.ref 94), some (.int (nI k)), some (.int (nI f)), some (.int many), some (.int x), none]) (st' := [.int (nI 0)]) (σ' := (α, μ)) (pc' := 41) kX12_areRight_40 rfl rfl rf_a0 ?_
        refine ok_step (ps := []) (L' := [some (.ref 94), some (.int (nI k)), some (.int (nI f)), some (.int many), some (.int x), some (.int (nI 0))]) (st' := [.int (nI 0)]) (σ' := (α, μ)) (pc' := 45) kX12_areRight_41 rfl rfl rf_a0 ?_
        refine ok_if_eq bX12_areRight_45 (fun _ => ?_) (fun h45 => absurd ((by decide)) h45)
        refine ok_step (ps := []) (L' := [some (.ref 94), some (.int (nI k)), some (.int (nI f)), some (.int many), some (.int x), some (.int (nI 0))]) (st' := [.int (nI 0)]) (σ' := (α, μ)) (pc' := 84) kX12_areRight_83 rfl rfl rf_a0 ?_
        refine ok_retz eX12_areRight_84 rfl (Or.inl rfl) ?_
        exact ⟨rfl, rfl⟩
      · refine ok_step (ps := []) (L' := [some (.ref 94), some (.int (nI k)), some (.int (nI f)), some (.int many), some (.int x), none]) (st' := [.int (nI 1)]) (σ' := (α, μ)) (pc' := 37) kX12_areRight_36 rfl rfl rf_a0 ?_
        refine ok_goto bX12_areRight_37 ?_
        refine ok_step (ps := []) (L' := [some (.ref 94), some (.int (nI k)), some (.int (nI f)), some (.int many), some (.int x), some (.int (nI 1))]) (st' := [.int (nI 1)]) (σ' := (α, μ)) (pc' := 45) kX12_areRight_41 rfl rfl rf_a0 ?_
        refine ok_if_eq bX12_areRight_45 (fun h45 => absurd h45 ((by decide))) (fun _ => ?_)
        refine ok_step (ps := []) (L' := [some (.ref 94), some (.int (nI k)), some (.int (nI f)), some (.int many), some (.int x), some (.int (nI 1))]) (st' := [.int (nI f)]) (σ' := (α, μ)) (pc' := 49) kX12_areRight_48 rfl rfl rf_a0 ?_
        refine ok_if_lt bX12_areRight_49 (fun h49 => absurd h49 ((nI_pos (by omega)))) (fun _ => ?_)
        refine ok_step (ps := [rf_nz (nI 10), rf_nz (nI 10)]) (L' := [some (.ref 94), some (.int (nI k)), some (.int (nI f)), some (.int many), some (.int x), some (.int (nI 1))]) (st' := [.int ((nI f) - (nI f) / (nI 10) * (nI 10)), .int ((nI f) / (nI 10))]) (σ' := (α, μ)) (pc' := 60) kX12_areRight_52 rfl rfl (rf_a1 (by decide) (rf_a1 (by decide) rf_a0)) ?_
        try rw [(show ((nI f) - (nI f) / (nI 10) * (nI 10)) = nI ((f % 10)) from rf_eq (pk_rem (a := f) (d := 10) (by omega) (by decide) (by decide)) (by omega))]
        try rw [(show ((nI f) / (nI 10)) = nI ((f / 10)) from rf_eq (pk_div (a := f) (d := 10) (by omega) (by decide) (by decide)) (by omega))]
        try rw [(show ((nI f) - (nI f) / (nI 10) * (nI 10)) = nI ((f % 10)) from rf_eq (pk_rem (a := f) (d := 10) (by omega) (by decide) (by decide)) (by omega))]
        refine ok_icmp_ge bX12_areRight_60 (fun h60 => ?_) (fun h60 => ?_)
        · refine ok_step (ps := []) (L' := [some (.ref 94), some (.int (nI k)), some (.int (nI f)), some (.int many), some (.int x), some (.int (nI 1))]) (st' := [.int (nI 0)]) (σ' := (α, μ)) (pc' := 84) kX12_areRight_83 rfl rfl rf_a0 ?_
          refine ok_retz eX12_areRight_84 rfl (Or.inl rfl) ?_
          exact ⟨rfl, rfl⟩
        · refine ok_step (ps := [rf_nz (nI 10)]) (L' := [some (.ref 94), some (.int (nI k)), some (.int (nI f)), some (.int many), some (.int x), some (.int (nI 1))]) (st' := [.int (nI 5), .int ((nI f) - (nI f) / (nI 10) * (nI 10))]) (σ' := (α, μ)) (pc' := 68) kX12_areRight_63 rfl rfl (rf_a1 (by decide) rf_a0) ?_
          try rw [(show ((nI f) - (nI f) / (nI 10) * (nI 10)) = nI ((f % 10)) from rf_eq (pk_rem (a := f) (d := 10) (by omega) (by decide) (by decide)) (by omega))]
          refine ok_icmp_gt bX12_areRight_68 (fun h68 => ?_) (fun h68 => ?_)
          · refine ok_step (ps := []) (L' := [some (.ref 94), some (.int (nI k)), some (.int (nI f)), some (.int many), some (.int x), some (.int (nI 1))]) (st' := [.int (nI 0)]) (σ' := (α, μ)) (pc' := 84) kX12_areRight_83 rfl rfl rf_a0 ?_
            refine ok_retz eX12_areRight_84 rfl (Or.inl rfl) ?_
            exact ⟨rfl, rfl⟩
          · refine ok_step (ps := []) (L' := [some (.ref 94), some (.int (nI k)), some (.int (nI f)), some (.int many), some (.int x), some (.int (nI 1))]) (st' := [.int x]) (σ' := (α, μ)) (pc' := 73) kX12_areRight_71 rfl rfl rf_a0 ?_
            refine ok_S (As := [.int x]) (st := []) mkX12_isPart qX12_areRight_73 rfl rfl rfl rfl rfl (Nat.le_of_ble_eq_true rfl) (m_isB) ?_
            refine ok_if_eq bX12_areRight_76 (fun _ => ?_) (fun h76 => absurd ((bI_0.mpr (if_pos hx))) h76)
            refine ok_step (ps := []) (L' := [some (.ref 94), some (.int (nI k)), some (.int (nI f)), some (.int many), some (.int x), some (.int (nI 1))]) (st' := [.int (nI 0)]) (σ' := (α, μ)) (pc' := 84) kX12_areRight_83 rfl rfl rf_a0 ?_
            refine ok_retz eX12_areRight_84 rfl (Or.inl rfl) ?_
            exact ⟨rfl, rfl⟩
theorem m_gok {kt ft many pq : Int32}  : rf_At (rf_T Ln xs) MX12_areRight 3 0 ([some (.ref 94), some (.int kt), some (.int ft), some (.int many), some (.int pq), none], [], 108, (α, μ)) (some (.int (bI (gok (μ 95) kt ft many pq)))) 108 (α, μ) := by
  rcases neg_or kt with h | ⟨k, hk, rfl⟩
  · rw [show gok (μ 95) kt ft many pq = false from if_pos (Or.inl h)]
    exact m_gok_1 h
  · rcases neg_or ft with h | ⟨f, hf, rfl⟩
    · rw [show gok (μ 95) (nI k) ft many pq = false from if_pos (Or.inr (Or.inl h))]
      exact m_gok_2 hk h
    · rcases neg_or pq with h | ⟨q, hq, rfl⟩
      · rw [show gok (μ 95) (nI k) (nI f) many pq = false from if_pos (Or.inr (Or.inr h))]
        exact m_gok_3 hk hf h
      · rw [gok_n hk hf hq]
        exact m_gok_n hk hf hq
end H30
