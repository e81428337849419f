/-- v from a to b -/
def wi (v a b : Int32) : Bool := decide (a ≤ v) && decide (v ≤ b)
def hb (v t : Int32) : Bool := decide ((v >>> (t &&& 31)) &&& nI 1 = nI 1)
def wl (v a b : Int64) : Bool := decide (a ≤ v) && decide (v ≤ b)
theorem lgc_lt {x y : Int64} : lg_cmp x y < 0 ↔ x < y := by
  unfold lg_cmp
  by_cases h1 : x > y
  · rw [if_pos h1]
    have h2 : ¬ x < y := Int64.not_lt.mpr (Int64.le_of_lt h1)
    simp [h2]
  · rw [if_neg h1]
    by_cases h2 : x = y
    · rw [if_pos h2]
      subst h2
      simp
    · rw [if_neg h2]
      have h3 : x < y := by
        rcases Int64.lt_or_eq_of_le (Int64.not_lt.mp h1) with h | h
        · exact h
        · exact absurd h h2
      simp [h3]
theorem lgc_gt {x y : Int64} : 0 < lg_cmp x y ↔ y < x := by
  unfold lg_cmp
  by_cases h1 : x > y
  · rw [if_pos h1]
    have h2 : y < x := h1
    simp [h2]
  · rw [if_neg h1]
    have h2 : ¬ y < x := h1
    by_cases h3 : x = y
    · rw [if_pos h3]
      simp [h2]
    · rw [if_neg h3]
      simp [h2]
theorem lgc_eq {x y : Int64} : lg_cmp x y = 0 ↔ x = y := by
  unfold lg_cmp
  by_cases h1 : x > y
  · rw [if_pos h1]
    have h2 : ¬ x = y := fun e => by
      subst e
      exact absurd h1 Int64.lt_irrefl
    simp [h2]
  · rw [if_neg h1]
    by_cases h3 : x = y
    · simp [h3]
    · rw [if_neg h3]
      simp [h3]
theorem wl_of {x y z : Int64} {a b c : Int32} (hx : x = a.toInt64) (hy : y = b.toInt64) (hz : z = c.toInt64) : wl x y z = wi a b c := by
  subst hx
  subst hy
  subst hz
  unfold wl wi
  congr 1 <;> (rw [decide_eq_decide]; simp only [Int64.le_iff_toInt_le, Int32.le_iff_toInt_le, Int32.toInt_toInt64])
theorem wi_n {v a b : Nat} (h1 : a ≤ v) (h2 : v ≤ b) (hb : b < 2147483648) : wi (nI v) (nI a) (nI b) = true := by
  unfold wi
  simp only [Bool.and_eq_true, decide_eq_true_eq]
  exact ⟨nI_le h1 (by omega), nI_le h2 (by omega)⟩
/-- what is in a range is such a number -/
theorem wi_of {v : Int32} {a b : Nat} (h : wi v (nI a) (nI b) = true) (ha : a < 2147483648) (hb : b < 2147483648) : ∃ k : Nat, a ≤ k ∧ k ≤ b ∧ v = nI k := by
  unfold wi at h
  simp only [Bool.and_eq_true, decide_eq_true_eq] at h
  have h1 := Int32.le_iff_toInt_le.mp h.1
  have h2 := Int32.le_iff_toInt_le.mp h.2
  rw [nI_toInt (by omega)] at h1 h2
  refine ⟨v.toInt.toNat, by omega, by omega, ?_⟩
  apply Int32.toInt_inj.mp
  rw [nI_toInt (by omega)]
  omega
theorem wi_m1 {v : Int32} {b : Nat} (h : wi v (-1) (nI b) = true) (hb : b < 2147483648) : v = -1 ∨ ∃ k : Nat, k ≤ b ∧ v = nI k := by
  unfold wi at h
  simp only [Bool.and_eq_true, decide_eq_true_eq] at h
  have h1 := Int32.le_iff_toInt_le.mp h.1
  have h2 := Int32.le_iff_toInt_le.mp h.2
  rw [nI_toInt (by omega)] at h2
  have h3 : (-1 : Int32).toInt = -1 := rfl
  rw [h3] at h1
  by_cases e : v.toInt = -1
  · exact Or.inl (Int32.toInt_inj.mp (by rw [h3]; exact e))
  · refine Or.inr ⟨v.toInt.toNat, by omega, ?_⟩
    apply Int32.toInt_inj.mp
    rw [nI_toInt (by omega)]
    omega
/-- the same below a count -/
theorem wi_lt {v x : Int32} {n : Nat} (h : wi v (nI 0) (x - nI 1) = true) (hx : x = nI n) (hn : n < 1073741824) : ∃ k : Nat, k < n ∧ v = nI k := by
  subst hx
  rcases Nat.eq_zero_or_pos n with h0 | h0
  · subst h0
    unfold wi at h
    simp only [Bool.and_eq_true, decide_eq_true_eq] at h
    have h1 := Int32.le_iff_toInt_le.mp h.1
    have h2 := Int32.le_iff_toInt_le.mp h.2
    have h3 : (nI 0 - nI 1).toInt = -1 := rfl
    have h4 : (nI 0).toInt = 0 := rfl
    omega
  · rw [pk_sub h0] at h
    obtain ⟨k, -, h2, h3⟩ := wi_of h (by omega) (by omega)
    exact ⟨k, by omega, h3⟩
theorem wi_ge {v x : Int32} {n : Nat} (h : wi v (nI 0) (x - nI 1) = false) (hx : x = nI n) (hn : n < 1073741824) {k : Nat} (hv : v = nI k) (hk : k < 2147483648) : n ≤ k := by
  subst hx
  subst hv
  rcases Nat.lt_or_ge k n with h1 | h1
  · rw [pk_sub (by omega), wi_n (by omega) (by omega) (by omega)] at h
    cases h
  · exact h1
theorem rz {b : Bool} (h : b = false) : some (Value.int (nI 0)) = some (.int (bI b)) := by subst h; rfl
theorem ro {b : Bool} (h : b = true) : some (Value.int (nI 1)) = some (.int (bI b)) := by subst h; rfl
section H23
variable {Ln : Nat} {xs : Nat → Int32} {α μ : Nat → Nat → Int32}
theorem c_within {v a b : Int32}  : rf_At (rf_T Ln xs) MX11_within 1 0 ([some (.int v), some (.int a), some (.int b)], [], 108, (α, μ)) (some (.int (bI (wi v a b)))) 108 (α, μ) := by
  refine rf_pa ?_
  refine ok_step (ps := []) (L' := [some (.int v), some (.int a), some (.int b)]) (st' := [.int a, .int v]) (σ' := (α, μ)) (pc' := 2) kX11_within_0 rfl rfl rf_a0 ?_
  refine ok_icmp_lt bX11_within_2 (fun h2 => ?_) (fun h2 => ?_)
  · refine ok_step (ps := []) (L' := [some (.int v), some (.int a), some (.int b)]) (st' := [.int (nI 0)]) (σ' := (α, μ)) (pc' := 15) kX11_within_14 rfl rfl rf_a0 ?_
    refine ok_retz eX11_within_15 rfl (Or.inl rfl) ?_
    exact ⟨rz (by simp only [wi, wl, Bool.and_eq_true, Bool.and_eq_false_iff, decide_eq_true_eq, decide_eq_false_iff_not, Int32.le_iff_toInt_le, Int32.lt_iff_toInt_lt, Int64.le_iff_toInt_le, Int64.lt_iff_toInt_lt] at *; omega), rfl⟩
  · refine ok_step (ps := []) (L' := [some (.int v), some (.int a), some (.int b)]) (st' := [.int b, .int v]) (σ' := (α, μ)) (pc' := 7) kX11_within_5 rfl rfl rf_a0 ?_
    refine ok_icmp_gt bX11_within_7 (fun h7 => ?_) (fun h7 => ?_)
    · refine ok_step (ps := []) (L' := [some (.int v), some (.int a), some (.int b)]) (st' := [.int (nI 0)]) (σ' := (α, μ)) (pc' := 15) kX11_within_14 rfl rfl rf_a0 ?_
      refine ok_retz eX11_within_15 rfl (Or.inl rfl) ?_
      exact ⟨rz (by simp only [wi, wl, Bool.and_eq_true, Bool.and_eq_false_iff, decide_eq_true_eq, decide_eq_false_iff_not, Int32.le_iff_toInt_le, Int32.lt_iff_toInt_lt, Int64.le_iff_toInt_le, Int64.lt_iff_toInt_lt] at *; omega), rfl⟩
    · refine ok_step (ps := []) (L' := [some (.int v), some (.int a), some (.int b)]) (st' := [.int (nI 1)]) (σ' := (α, μ)) (pc' := 11) kX11_within_10 rfl rfl rf_a0 ?_
      refine ok_goto bX11_within_11 ?_
      refine ok_retz eX11_within_15 rfl (Or.inr rfl) ?_
      exact ⟨ro (by simp only [wi, wl, Bool.and_eq_true, Bool.and_eq_false_iff, decide_eq_true_eq, decide_eq_false_iff_not, Int32.le_iff_toInt_le, Int32.lt_iff_toInt_lt, Int64.le_iff_toInt_le, Int64.lt_iff_toInt_lt] at *; omega), rfl⟩
theorem c_has {v t : Int32}  : rf_At (rf_T Ln xs) MX11_has 1 0 ([some (.int v), some (.int t)], [], 108, (α, μ)) (some (.int (bI (hb v t)))) 108 (α, μ) := by
  refine rf_pa ?_
  refine ok_step (ps := []) (L' := [some (.int v), some (.int t)]) (st' := [.int (nI 1), .int ((v >>> (t &&& 31)) &&& (nI 1))]) (σ' := (α, μ)) (pc' := 6) kX11_has_0 rfl rfl rf_a0 ?_
  refine ok_icmp_ne bX11_has_6 (fun h6 => ?_) (fun h6 => ?_)
  · refine ok_step (ps := []) (L' := [some (.int v), some (.int t)]) (st' := [.int (nI 0)]) (σ' := (α, μ)) (pc' := 14) kX11_has_13 rfl rfl rf_a0 ?_
    refine ok_retz eX11_has_14 rfl (Or.inl rfl) ?_
    exact ⟨rz (by simp_all [hb]), rfl⟩
  · refine ok_step (ps := []) (L' := [some (.int v), some (.int t)]) (st' := [.int (nI 1)]) (σ' := (α, μ)) (pc' := 10) kX11_has_9 rfl rfl rf_a0 ?_
    refine ok_goto bX11_has_10 ?_
    refine ok_retz eX11_has_14 rfl (Or.inr rfl) ?_
    exact ⟨ro (by simp_all [hb]), rfl⟩
theorem m_in {v a b : Int64}  : rf_At (rf_T Ln xs) MX12_in 1 0 ([some (.long v), none, some (.long a), none, some (.long b), none], [], 108, (α, μ)) (some (.int (bI (wl v a b)))) 108 (α, μ) := by
  refine rf_pa ?_
  refine ok_step (ps := []) (L' := [some (.long v), none, some (.long a), none, some (.long b), none]) (st' := [.int (lg_cmp v a)]) (σ' := (α, μ)) (pc' := 3) kX12_in_0 rfl rfl rf_a0 ?_
  refine ok_if_lt bX12_in_3 (fun h3 => ?_) (fun h3 => ?_)
  · refine ok_step (ps := []) (L' := [some (.long v), none, some (.long a), none, some (.long b), none]) (st' := [.int (nI 0)]) (σ' := (α, μ)) (pc' := 18) kX12_in_17 rfl rfl rf_a0 ?_
    refine ok_retz eX12_in_18 rfl (Or.inl rfl) ?_
    exact ⟨rz (by simp only [lgc_lt, lgc_gt] at *; simp only [wi, wl, Bool.and_eq_true, Bool.and_eq_false_iff, decide_eq_true_eq, decide_eq_false_iff_not, Int32.le_iff_toInt_le, Int32.lt_iff_toInt_lt, Int64.le_iff_toInt_le, Int64.lt_iff_toInt_lt] at *; omega), rfl⟩
  · refine ok_step (ps := []) (L' := [some (.long v), none, some (.long a), none, some (.long b), none]) (st' := [.int (lg_cmp v b)]) (σ' := (α, μ)) (pc' := 10) kX12_in_6 rfl rfl rf_a0 ?_
    refine ok_if_gt bX12_in_10 (fun h10 => ?_) (fun h10 => ?_)
    · refine ok_step (ps := []) (L' := [some (.long v), none, some (.long a), none, some (.long b), none]) (st' := [.int (nI 0)]) (σ' := (α, μ)) (pc' := 18) kX12_in_17 rfl rfl rf_a0 ?_
      refine ok_retz eX12_in_18 rfl (Or.inl rfl) ?_
      exact ⟨rz (by simp only [lgc_lt, lgc_gt] at *; simp only [wi, wl, Bool.and_eq_true, Bool.and_eq_false_iff, decide_eq_true_eq, decide_eq_false_iff_not, Int32.le_iff_toInt_le, Int32.lt_iff_toInt_lt, Int64.le_iff_toInt_le, Int64.lt_iff_toInt_lt] at *; omega), rfl⟩
    · refine ok_step (ps := []) (L' := [some (.long v), none, some (.long a), none, some (.long b), none]) (st' := [.int (nI 1)]) (σ' := (α, μ)) (pc' := 14) kX12_in_13 rfl rfl rf_a0 ?_
      refine ok_goto bX12_in_14 ?_
      refine ok_retz eX12_in_18 rfl (Or.inr rfl) ?_
      exact ⟨ro (by simp only [lgc_lt, lgc_gt] at *; simp only [wi, wl, Bool.and_eq_true, Bool.and_eq_false_iff, decide_eq_true_eq, decide_eq_false_iff_not, Int32.le_iff_toInt_le, Int32.lt_iff_toInt_lt, Int64.le_iff_toInt_le, Int64.lt_iff_toInt_lt] at *; omega), rfl⟩
theorem c_isStation {x : Int32} (hR : Rl 1 α (μ 95)) : rf_At (rf_T Ln xs) MX11_isStation 2 0 ([some (.ref 0), some (.int x)], [], 108, (α, μ)) (some (.int (bI (wi x (nI 0) (μ 95 1 - nI 1))))) 108 (α, μ) := by
  refine rf_pa ?_
  refine ok_step (ps := []) (L' := [some (.ref 0), some (.int x)]) (st' := [.int ((α 2 0) - (nI 1)), .int (nI 0), .int x]) (σ' := (α, μ)) (pc' := 14) kX11_isStation_0 rfl rfl rf_a0 ?_
  try rw [(show α 2 0 = μ 95 1 from hR 1 0 1 rfl)]
  refine ok_S (As := [.int x, .int (nI 0), .int ((μ 95 1) - (nI 1))]) (st := []) mkX11_within qX11_isStation_14 rfl rfl rfl rfl rfl (Nat.le_of_ble_eq_true rfl) (c_within) ?_
  refine ok_retz eX11_isStation_17 rfl (bI_or) ?_
  exact ⟨rfl, rfl⟩
theorem m_isStation {x : Int32}  : rf_At (rf_T Ln xs) MX12_isStation 2 0 ([some (.ref 94), some (.int x)], [], 108, (α, μ)) (some (.int (bI (wi x (nI 0) (μ 95 1 - nI 1))))) 108 (α, μ) := by
  refine rf_pa ?_
  refine ok_step (ps := [rf_in (nI 1) 700]) (L' := [some (.ref 94), some (.int x)]) (st' := [.long (((μ 95 ((nI 1).toNatClampNeg)) - (nI 1)).toInt64), .long (lN 0), .long x.toInt64]) (σ' := (α, μ)) (pc' := 12) kX12_isStation_0 rfl rfl (rf_a1 (rf_in_n (a := 1) rfl (by omega)) rf_a0) ?_
  try rw [(show (nI 1).toNatClampNeg = 1 from rf_cl_n rfl (by omega))]
  refine ok_S (As := [.long x.toInt64, .long (lN 0), .long (((μ 95 1) - (nI 1)).toInt64)]) (st := []) mkX12_in qX12_isStation_12 rfl rfl rfl rfl rfl (Nat.le_of_ble_eq_true rfl) (m_in) ?_
  rw [show wl x.toInt64 (lN 0) (((μ 95 1) - (nI 1)).toInt64) = wi x (nI 0) ((μ 95 1) - (nI 1)) from wl_of rfl (nI_l (by decide)).symm rfl]
  refine ok_retz eX12_isStation_15 rfl (bI_or) ?_
  exact ⟨rfl, rfl⟩
theorem c_isLine {x : Int32} (hR : Rl 1 α (μ 95)) : rf_At (rf_T Ln xs) MX11_isLine 2 0 ([some (.ref 0), some (.int x)], [], 108, (α, μ)) (some (.int (bI (wi x (nI 0) (μ 95 2 - nI 1))))) 108 (α, μ) := by
  refine rf_pa ?_
  refine ok_step (ps := []) (L' := [some (.ref 0), some (.int x)]) (st' := [.int ((α 2 1) - (nI 1)), .int (nI 0), .int x]) (σ' := (α, μ)) (pc' := 14) kX11_isLine_0 rfl rfl rf_a0 ?_
  try rw [(show α 2 1 = μ 95 2 from hR 1 1 2 rfl)]
  refine ok_S (As := [.int x, .int (nI 0), .int ((μ 95 2) - (nI 1))]) (st := []) mkX11_within qX11_isLine_14 rfl rfl rfl rfl rfl (Nat.le_of_ble_eq_true rfl) (c_within) ?_
  refine ok_retz eX11_isLine_17 rfl (bI_or) ?_
  exact ⟨rfl, rfl⟩
theorem m_isLine {x : Int32}  : rf_At (rf_T Ln xs) MX12_isLine 2 0 ([some (.ref 94), some (.int x)], [], 108, (α, μ)) (some (.int (bI (wi x (nI 0) (μ 95 2 - nI 1))))) 108 (α, μ) := by
  refine rf_pa ?_
  refine ok_step (ps := [rf_in (nI 2) 700]) (L' := [some (.ref 94), some (.int x)]) (st' := [.long (((μ 95 ((nI 2).toNatClampNeg)) - (nI 1)).toInt64), .long (lN 0), .long x.toInt64]) (σ' := (α, μ)) (pc' := 12) kX12_isLine_0 rfl rfl (rf_a1 (rf_in_n (a := 2) rfl (by omega)) rf_a0) ?_
  try rw [(show (nI 2).toNatClampNeg = 2 from rf_cl_n rfl (by omega))]
  refine ok_S (As := [.long x.toInt64, .long (lN 0), .long (((μ 95 2) - (nI 1)).toInt64)]) (st := []) mkX12_in qX12_isLine_12 rfl rfl rfl rfl rfl (Nat.le_of_ble_eq_true rfl) (m_in) ?_
  rw [show wl x.toInt64 (lN 0) (((μ 95 2) - (nI 1)).toInt64) = wi x (nI 0) ((μ 95 2) - (nI 1)) from wl_of rfl (nI_l (by decide)).symm rfl]
  refine ok_retz eX12_isLine_15 rfl (bI_or) ?_
  exact ⟨rfl, rfl⟩
theorem c_isTrain {x : Int32} (hR : Rl 1 α (μ 95)) : rf_At (rf_T Ln xs) MX11_isTrain 2 0 ([some (.ref 0), some (.int x)], [], 108, (α, μ)) (some (.int (bI (wi x (nI 0) (μ 95 3 - nI 1))))) 108 (α, μ) := by
  refine rf_pa ?_
  refine ok_step (ps := []) (L' := [some (.ref 0), some (.int x)]) (st' := [.int ((α 2 2) - (nI 1)), .int (nI 0), .int x]) (σ' := (α, μ)) (pc' := 14) kX11_isTrain_0 rfl rfl rf_a0 ?_
  try rw [(show α 2 2 = μ 95 3 from hR 1 2 3 rfl)]
  refine ok_S (As := [.int x, .int (nI 0), .int ((μ 95 3) - (nI 1))]) (st := []) mkX11_within qX11_isTrain_14 rfl rfl rfl rfl rfl (Nat.le_of_ble_eq_true rfl) (c_within) ?_
  refine ok_retz eX11_isTrain_17 rfl (bI_or) ?_
  exact ⟨rfl, rfl⟩
theorem m_isTrain {x : Int32}  : rf_At (rf_T Ln xs) MX12_isTrain 2 0 ([some (.ref 94), some (.int x)], [], 108, (α, μ)) (some (.int (bI (wi x (nI 0) (μ 95 3 - nI 1))))) 108 (α, μ) := by
  refine rf_pa ?_
  refine ok_step (ps := [rf_in (nI 3) 700]) (L' := [some (.ref 94), some (.int x)]) (st' := [.long (((μ 95 ((nI 3).toNatClampNeg)) - (nI 1)).toInt64), .long (lN 0), .long x.toInt64]) (σ' := (α, μ)) (pc' := 12) kX12_isTrain_0 rfl rfl (rf_a1 (rf_in_n (a := 3) rfl (by omega)) rf_a0) ?_
  try rw [(show (nI 3).toNatClampNeg = 3 from rf_cl_n rfl (by omega))]
  refine ok_S (As := [.long x.toInt64, .long (lN 0), .long (((μ 95 3) - (nI 1)).toInt64)]) (st := []) mkX12_in qX12_isTrain_12 rfl rfl rfl rfl rfl (Nat.le_of_ble_eq_true rfl) (m_in) ?_
  rw [show wl x.toInt64 (lN 0) (((μ 95 3) - (nI 1)).toInt64) = wi x (nI 0) ((μ 95 3) - (nI 1)) from wl_of rfl (nI_l (by decide)).symm rfl]
  refine ok_retz eX12_isTrain_15 rfl (bI_or) ?_
  exact ⟨rfl, rfl⟩
theorem c_isGroup {x : Int32} (hR : Rl 1 α (μ 95)) : rf_At (rf_T Ln xs) MX11_isGroup 2 0 ([some (.ref 0), some (.int x)], [], 108, (α, μ)) (some (.int (bI (wi x (nI 0) (μ 95 4 - nI 1))))) 108 (α, μ) := by
  refine rf_pa ?_
  refine ok_step (ps := []) (L' := [some (.ref 0), some (.int x)]) (st' := [.int ((α 10 0) - (nI 1)), .int (nI 0), .int x]) (σ' := (α, μ)) (pc' := 14) kX11_isGroup_0 rfl rfl rf_a0 ?_
  try rw [(show α 10 0 = μ 95 4 from hR 9 0 4 rfl)]
  refine ok_S (As := [.int x, .int (nI 0), .int ((μ 95 4) - (nI 1))]) (st := []) mkX11_within qX11_isGroup_14 rfl rfl rfl rfl rfl (Nat.le_of_ble_eq_true rfl) (c_within) ?_
  refine ok_retz eX11_isGroup_17 rfl (bI_or) ?_
  exact ⟨rfl, rfl⟩
theorem m_isGroup {x : Int32}  : rf_At (rf_T Ln xs) MX12_isGroup 2 0 ([some (.ref 94), some (.int x)], [], 108, (α, μ)) (some (.int (bI (wi x (nI 0) (μ 95 4 - nI 1))))) 108 (α, μ) := by
  refine rf_pa ?_
  refine ok_step (ps := [rf_in (nI 4) 700]) (L' := [some (.ref 94), some (.int x)]) (st' := [.long (((μ 95 ((nI 4).toNatClampNeg)) - (nI 1)).toInt64), .long (lN 0), .long x.toInt64]) (σ' := (α, μ)) (pc' := 12) kX12_isGroup_0 rfl rfl (rf_a1 (rf_in_n (a := 4) rfl (by omega)) rf_a0) ?_
  try rw [(show (nI 4).toNatClampNeg = 4 from rf_cl_n rfl (by omega))]
  refine ok_S (As := [.long x.toInt64, .long (lN 0), .long (((μ 95 4) - (nI 1)).toInt64)]) (st := []) mkX12_in qX12_isGroup_12 rfl rfl rfl rfl rfl (Nat.le_of_ble_eq_true rfl) (m_in) ?_
  rw [show wl x.toInt64 (lN 0) (((μ 95 4) - (nI 1)).toInt64) = wi x (nI 0) ((μ 95 4) - (nI 1)) from wl_of rfl (nI_l (by decide)).symm rfl]
  refine ok_retz eX12_isGroup_15 rfl (bI_or) ?_
  exact ⟨rfl, rfl⟩
theorem c_isShift {x : Int32} (hR : Rl 1 α (μ 95)) : rf_At (rf_T Ln xs) MX11_isShift 2 0 ([some (.ref 0), some (.int x)], [], 108, (α, μ)) (some (.int (bI (wi x (nI 0) (μ 95 5 - nI 1))))) 108 (α, μ) := by
  refine rf_pa ?_
  refine ok_step (ps := []) (L' := [some (.ref 0), some (.int x)]) (st' := [.int ((α 19 0) - (nI 1)), .int (nI 0), .int x]) (σ' := (α, μ)) (pc' := 14) kX11_isShift_0 rfl rfl rf_a0 ?_
  try rw [(show α 19 0 = μ 95 5 from hR 18 0 5 rfl)]
  refine ok_S (As := [.int x, .int (nI 0), .int ((μ 95 5) - (nI 1))]) (st := []) mkX11_within qX11_isShift_14 rfl rfl rfl rfl rfl (Nat.le_of_ble_eq_true rfl) (c_within) ?_
  refine ok_retz eX11_isShift_17 rfl (bI_or) ?_
  exact ⟨rfl, rfl⟩
theorem m_isShift {x : Int32}  : rf_At (rf_T Ln xs) MX12_isShift 2 0 ([some (.ref 94), some (.int x)], [], 108, (α, μ)) (some (.int (bI (wi x (nI 0) (μ 95 5 - nI 1))))) 108 (α, μ) := by
  refine rf_pa ?_
  refine ok_step (ps := [rf_in (nI 5) 700]) (L' := [some (.ref 94), some (.int x)]) (st' := [.long (((μ 95 ((nI 5).toNatClampNeg)) - (nI 1)).toInt64), .long (lN 0), .long x.toInt64]) (σ' := (α, μ)) (pc' := 12) kX12_isShift_0 rfl rfl (rf_a1 (rf_in_n (a := 5) rfl (by omega)) rf_a0) ?_
  try rw [(show (nI 5).toNatClampNeg = 5 from rf_cl_n rfl (by omega))]
  refine ok_S (As := [.long x.toInt64, .long (lN 0), .long (((μ 95 5) - (nI 1)).toInt64)]) (st := []) mkX12_in qX12_isShift_12 rfl rfl rfl rfl rfl (Nat.le_of_ble_eq_true rfl) (m_in) ?_
  rw [show wl x.toInt64 (lN 0) (((μ 95 5) - (nI 1)).toInt64) = wi x (nI 0) ((μ 95 5) - (nI 1)) from wl_of rfl (nI_l (by decide)).symm rfl]
  refine ok_retz eX12_isShift_15 rfl (bI_or) ?_
  exact ⟨rfl, rfl⟩
theorem c_isSheet {x : Int32}  : rf_At (rf_T Ln xs) MX11_isSheet 2 0 ([some (.ref 0), some (.int x)], [], 108, (α, μ)) (some (.int (bI (wi x (nI 0) (nI 3))))) 108 (α, μ) := by
  refine rf_pa ?_
  refine ok_step (ps := []) (L' := [some (.ref 0), some (.int x)]) (st' := [.int (nI 3), .int (nI 0), .int x]) (σ' := (α, μ)) (pc' := 3) kX11_isSheet_0 rfl rfl rf_a0 ?_
  refine ok_S (As := [.int x, .int (nI 0), .int (nI 3)]) (st := []) mkX11_within qX11_isSheet_3 rfl rfl rfl rfl rfl (Nat.le_of_ble_eq_true rfl) (c_within) ?_
  refine ok_retz eX11_isSheet_6 rfl (bI_or) ?_
  exact ⟨rfl, rfl⟩
theorem m_isSheet {x : Int32}  : rf_At (rf_T Ln xs) MX12_isSheet 2 0 ([some (.int x)], [], 108, (α, μ)) (some (.int (bI (wi x (nI 0) (nI 3))))) 108 (α, μ) := by
  refine rf_pa ?_
  refine ok_step (ps := []) (L' := [some (.int x)]) (st' := [.long (lN 3), .long (lN 0), .long x.toInt64]) (σ' := (α, μ)) (pc' := 6) kX12_isSheet_0 rfl rfl rf_a0 ?_
  refine ok_S (As := [.long x.toInt64, .long (lN 0), .long (lN 3)]) (st := []) mkX12_in qX12_isSheet_6 rfl rfl rfl rfl rfl (Nat.le_of_ble_eq_true rfl) (m_in) ?_
  rw [show wl x.toInt64 (lN 0) (lN 3) = wi x (nI 0) (nI 3) from wl_of rfl (nI_l (by decide)).symm (nI_l (by decide)).symm]
  refine ok_retz eX12_isSheet_9 rfl (bI_or) ?_
  exact ⟨rfl, rfl⟩
theorem c_isSet {x : Int32} (hR : Rl 1 α (μ 95)) : rf_At (rf_T Ln xs) MX11_isSetOfTrains 2 0 ([some (.ref 0), some (.int x)], [], 108, (α, μ)) (some (.int (bI (wi x (nI 1) ((nI 1 <<< (μ 95 3 &&& 31)) - nI 1))))) 108 (α, μ) := by
  refine rf_pa ?_
  refine ok_step (ps := []) (L' := [some (.ref 0), some (.int x)]) (st' := [.int (((nI 1) <<< ((α 2 2) &&& 31)) - (nI 1)), .int (nI 1), .int x]) (σ' := (α, μ)) (pc' := 16) kX11_isSetOfTrains_0 rfl rfl rf_a0 ?_
  try rw [(show α 2 2 = μ 95 3 from hR 1 2 3 rfl)]
  refine ok_S (As := [.int x, .int (nI 1), .int (((nI 1) <<< ((μ 95 3) &&& 31)) - (nI 1))]) (st := []) mkX11_within qX11_isSetOfTrains_16 rfl rfl rfl rfl rfl (Nat.le_of_ble_eq_true rfl) (c_within) ?_
  refine ok_retz eX11_isSetOfTrains_19 rfl (bI_or) ?_
  exact ⟨rfl, rfl⟩
theorem m_isSet {x : Int32}  : rf_At (rf_T Ln xs) MX12_isSet 2 0 ([some (.ref 94), some (.int x)], [], 108, (α, μ)) (some (.int (bI (wi x (nI 1) ((nI 1 <<< (μ 95 3 &&& 31)) - nI 1))))) 108 (α, μ) := by
  refine rf_pa ?_
  refine ok_step (ps := [rf_in (nI 3) 700]) (L' := [some (.ref 94), some (.int x)]) (st' := [.long ((((nI 1) <<< ((μ 95 ((nI 3).toNatClampNeg)) &&& 31)) - (nI 1)).toInt64), .long (lN 1), .long x.toInt64]) (σ' := (α, μ)) (pc' := 14) kX12_isSet_0 rfl rfl (rf_a1 (rf_in_n (a := 3) rfl (by omega)) rf_a0) ?_
  try rw [(show (nI 3).toNatClampNeg = 3 from rf_cl_n rfl (by omega))]
  refine ok_S (As := [.long x.toInt64, .long (lN 1), .long ((((nI 1) <<< ((μ 95 3) &&& 31)) - (nI 1)).toInt64)]) (st := []) mkX12_in qX12_isSet_14 rfl rfl rfl rfl rfl (Nat.le_of_ble_eq_true rfl) (m_in) ?_
  rw [show wl x.toInt64 (lN 1) ((((nI 1) <<< ((μ 95 3) &&& 31)) - (nI 1)).toInt64) = wi x (nI 1) (((nI 1) <<< ((μ 95 3) &&& 31)) - (nI 1)) from wl_of rfl (nI_l (by decide)).symm rfl]
  refine ok_retz eX12_isSet_17 rfl (bI_or) ?_
  exact ⟨rfl, rfl⟩
theorem c_error {a : Int32} {k : Nat} (hk : 1 ≤ k ∧ k ≤ 5) (ha : ((-1000000000) - a) = nI k) (ha2 : a = (-1000000000) - nI k) : rf_At (rf_T Ln xs) MX11_error 2 0 ([some (.ref 0), some (.int a), none], [], 108, (α, μ)) (some (.int ((-1000000000) - nI k))) 108 (rf_w α 93 k (α 93 k + nI 1), μ) := by
  refine rf_pa ?_
  refine ok_step (ps := []) (L' := [some (.ref 0), some (.int a), some (.int ((-1000000000) - a))]) (st' := [.int (nI 5), .int (nI 1), .int ((-1000000000) - a)]) (σ' := (α, μ)) (pc' := 9) kX11_error_0 rfl rfl rf_a0 ?_
  try rw [ha]
  refine ok_S (As := [.int (nI k), .int (nI 1), .int (nI 5)]) (st := []) mkX11_within qX11_error_9 rfl rfl rfl rfl rfl (Nat.le_of_ble_eq_true rfl) (c_within) ?_
  refine ok_if_eq bX11_error_12 (fun h12 => absurd h12 (bI_n0.mpr (wi_n (by omega) (by omega) (by omega)))) (fun _ => ?_)
  refine ok_step (ps := [rf_in (nI k) 6, rf_in (nI k) 6]) (L' := [some (.ref 0), some (.int a), some (.int (nI k))]) (st' := []) (σ' := (rf_w α 93 ((nI k).toNatClampNeg) ((α 93 ((nI k).toNatClampNeg)) + (nI 1)), μ)) (pc' := 25) kX11_error_15 rfl rfl (rf_a1 (rf_in_n (a := k) rfl (by omega)) (rf_a1 (rf_in_n (a := k) rfl (by omega)) rf_a0)) ?_
  try rw [(show (nI k).toNatClampNeg = k from rf_cl_n rfl (by omega))]
  refine ok_step (ps := []) (L' := [some (.ref 0), some (.int a), some (.int (nI k))]) (st' := [.int a]) (σ' := (rf_w α 93 k ((α 93 k) + (nI 1)), μ)) (pc' := 26) kX11_error_25 rfl rfl rf_a0 ?_
  refine ok_reti eX11_error_26 rfl ?_
  exact ⟨by rw [ha2], rfl⟩
theorem m_finds {k : Nat} (hk : k ≤ 5) : rf_At (rf_T Ln xs) MX12_finds 1 0 ([some (.ref 94), some (.int (nI k))], [], 108, (α, μ)) (some (.int ((-1000000000) - nI k))) 108 (α, rf_w μ 97 k (μ 97 k + nI 1)) := by
  refine rf_pa ?_
  refine ok_step (ps := [rf_in (nI k) 6, rf_in (nI k) 6]) (L' := [some (.ref 94), some (.int (nI k))]) (st' := [.int ((-1000000000) - (nI k))]) (σ' := (α, rf_w μ 97 ((nI k).toNatClampNeg) ((μ 97 ((nI k).toNatClampNeg)) + (nI 1)))) (pc' := 14) kX12_finds_0 rfl rfl (rf_a1 (rf_in_n (a := k) rfl (by omega)) (rf_a1 (rf_in_n (a := k) rfl (by omega)) rf_a0)) ?_
  try rw [(show (nI k).toNatClampNeg = k from rf_cl_n rfl (by omega))]
  refine ok_reti eX12_finds_14 rfl ?_
  exact ⟨rfl, rfl⟩
end H23
