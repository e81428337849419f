/-- how many places of a world's cell are copied -/
def ln (c : Nat) : Nat := ([0, 3, 64, 4, 24, 24, 12, 12, 12, 3, 16, 16, 16, 16, 16, 16, 16, 16, 1, 8, 8, 4, 60, 60, 60, 2, 50, 20, 1, 50, 0, 1, 50] : List Nat).getD c 0
/-- the cells t + a .. t + b are those of f + a .. f + b, the others are as before -/
def Wc (t f a b : Nat) (α α' : Nat → Nat → Int32) : Prop := (∀ c i, a ≤ c → c ≤ b → i < ln c → α' (t + c) i = α (f + c) i) ∧ ∀ k, ¬ (t + a ≤ k ∧ k ≤ t + b) → α' k = α k
section H37
variable {Ln : Nat} {xs : Nat → Int32} {α μ : Nat → Nat → Int32}
theorem cr_3_40 : rf_Ok (rf_T Ln xs) MX11_copyRow 1 0 [some (.ref 3), some (.ref 40)] [] (α, μ) (fun r s => r = none ∧ ∃ α' : Nat → Nat → Int32, s = (α', μ) ∧ (∀ i, i < 64 → α' 40 i = α 3 i) ∧ ∀ k, k ≠ 40 → α' k = α k) := by
  refine ok_step (ps := [rf_cp (nI 0) (nI 0) (rf_min (nI 64) (nI 64)) 64 64]) (L' := [some (.ref 3), some (.ref 40)]) (st' := []) (σ' := (rf_r α 40 (va_cpy (α 3) (α 40) ((nI 0).toNatClampNeg) ((nI 0).toNatClampNeg) ((rf_min (nI 64) (nI 64)).toNatClampNeg)), μ)) (pc' := 14) kX11_copyRow_0 rfl rfl (rf_a1 (by decide) rf_a0) ?_
  try rw [(show (rf_min (nI 64) (nI 64)) = nI 64 from rfl)]
  try rw [(show (nI 0).toNatClampNeg = 0 from rf_cl_n rfl (by omega))]
  try rw [(show (nI 64).toNatClampNeg = 64 from rf_cl_n rfl (by omega))]
  refine ok_retv eX11_copyRow_14 rfl ?_
  refine ⟨rfl, _, rfl, fun i hi => ?_, fun k hk => ?_⟩
  · show (if 40 = 40 then va_cpy (α 3) (α 40) 0 0 64 else α 40) i = _
    rw [if_pos rfl]
    unfold va_cpy
    rw [if_pos (by omega)]
    exact congrArg (α 3) (by omega)
  · exact if_neg hk
theorem cr_4_41 : rf_Ok (rf_T Ln xs) MX11_copyRow 1 0 [some (.ref 4), some (.ref 41)] [] (α, μ) (fun r s => r = none ∧ ∃ α' : Nat → Nat → Int32, s = (α', μ) ∧ (∀ i, i < 4 → α' 41 i = α 4 i) ∧ ∀ k, k ≠ 41 → α' k = α k) := by
  refine ok_step (ps := [rf_cp (nI 0) (nI 0) (rf_min (nI 4) (nI 4)) 4 4]) (L' := [some (.ref 4), some (.ref 41)]) (st' := []) (σ' := (rf_r α 41 (va_cpy (α 4) (α 41) ((nI 0).toNatClampNeg) ((nI 0).toNatClampNeg) ((rf_min (nI 4) (nI 4)).toNatClampNeg)), μ)) (pc' := 14) kX11_copyRow_0 rfl rfl (rf_a1 (by decide) rf_a0) ?_
  try rw [(show (rf_min (nI 4) (nI 4)) = nI 4 from rfl)]
  try rw [(show (nI 0).toNatClampNeg = 0 from rf_cl_n rfl (by omega))]
  try rw [(show (nI 4).toNatClampNeg = 4 from rf_cl_n rfl (by omega))]
  refine ok_retv eX11_copyRow_14 rfl ?_
  refine ⟨rfl, _, rfl, fun i hi => ?_, fun k hk => ?_⟩
  · show (if 41 = 41 then va_cpy (α 4) (α 41) 0 0 4 else α 41) i = _
    rw [if_pos rfl]
    unfold va_cpy
    rw [if_pos (by omega)]
    exact congrArg (α 4) (by omega)
  · exact if_neg hk
theorem cr_5_42 : rf_Ok (rf_T Ln xs) MX11_copyRow 1 0 [some (.ref 5), some (.ref 42)] [] (α, μ) (fun r s => r = none ∧ ∃ α' : Nat → Nat → Int32, s = (α', μ) ∧ (∀ i, i < 24 → α' 42 i = α 5 i) ∧ ∀ k, k ≠ 42 → α' k = α k) := by
  refine ok_step (ps := [rf_cp (nI 0) (nI 0) (rf_min (nI 24) (nI 24)) 24 24]) (L' := [some (.ref 5), some (.ref 42)]) (st' := []) (σ' := (rf_r α 42 (va_cpy (α 5) (α 42) ((nI 0).toNatClampNeg) ((nI 0).toNatClampNeg) ((rf_min (nI 24) (nI 24)).toNatClampNeg)), μ)) (pc' := 14) kX11_copyRow_0 rfl rfl (rf_a1 (by decide) rf_a0) ?_
  try rw [(show (rf_min (nI 24) (nI 24)) = nI 24 from rfl)]
  try rw [(show (nI 0).toNatClampNeg = 0 from rf_cl_n rfl (by omega))]
  try rw [(show (nI 24).toNatClampNeg = 24 from rf_cl_n rfl (by omega))]
  refine ok_retv eX11_copyRow_14 rfl ?_
  refine ⟨rfl, _, rfl, fun i hi => ?_, fun k hk => ?_⟩
  · show (if 42 = 42 then va_cpy (α 5) (α 42) 0 0 24 else α 42) i = _
    rw [if_pos rfl]
    unfold va_cpy
    rw [if_pos (by omega)]
    exact congrArg (α 5) (by omega)
  · exact if_neg hk
theorem cr_6_43 : rf_Ok (rf_T Ln xs) MX11_copyRow 1 0 [some (.ref 6), some (.ref 43)] [] (α, μ) (fun r s => r = none ∧ ∃ α' : Nat → Nat → Int32, s = (α', μ) ∧ (∀ i, i < 24 → α' 43 i = α 6 i) ∧ ∀ k, k ≠ 43 → α' k = α k) := by
  refine ok_step (ps := [rf_cp (nI 0) (nI 0) (rf_min (nI 24) (nI 24)) 24 24]) (L' := [some (.ref 6), some (.ref 43)]) (st' := []) (σ' := (rf_r α 43 (va_cpy (α 6) (α 43) ((nI 0).toNatClampNeg) ((nI 0).toNatClampNeg) ((rf_min (nI 24) (nI 24)).toNatClampNeg)), μ)) (pc' := 14) kX11_copyRow_0 rfl rfl (rf_a1 (by decide) rf_a0) ?_
  try rw [(show (rf_min (nI 24) (nI 24)) = nI 24 from rfl)]
  try rw [(show (nI 0).toNatClampNeg = 0 from rf_cl_n rfl (by omega))]
  try rw [(show (nI 24).toNatClampNeg = 24 from rf_cl_n rfl (by omega))]
  refine ok_retv eX11_copyRow_14 rfl ?_
  refine ⟨rfl, _, rfl, fun i hi => ?_, fun k hk => ?_⟩
  · show (if 43 = 43 then va_cpy (α 6) (α 43) 0 0 24 else α 43) i = _
    rw [if_pos rfl]
    unfold va_cpy
    rw [if_pos (by omega)]
    exact congrArg (α 6) (by omega)
  · exact if_neg hk
theorem cr_7_44 : rf_Ok (rf_T Ln xs) MX11_copyRow 1 0 [some (.ref 7), some (.ref 44)] [] (α, μ) (fun r s => r = none ∧ ∃ α' : Nat → Nat → Int32, s = (α', μ) ∧ (∀ i, i < 12 → α' 44 i = α 7 i) ∧ ∀ k, k ≠ 44 → α' k = α k) := by
  refine ok_step (ps := [rf_cp (nI 0) (nI 0) (rf_min (nI 12) (nI 12)) 12 12]) (L' := [some (.ref 7), some (.ref 44)]) (st' := []) (σ' := (rf_r α 44 (va_cpy (α 7) (α 44) ((nI 0).toNatClampNeg) ((nI 0).toNatClampNeg) ((rf_min (nI 12) (nI 12)).toNatClampNeg)), μ)) (pc' := 14) kX11_copyRow_0 rfl rfl (rf_a1 (by decide) rf_a0) ?_
  try rw [(show (rf_min (nI 12) (nI 12)) = nI 12 from rfl)]
  try rw [(show (nI 0).toNatClampNeg = 0 from rf_cl_n rfl (by omega))]
  try rw [(show (nI 12).toNatClampNeg = 12 from rf_cl_n rfl (by omega))]
  refine ok_retv eX11_copyRow_14 rfl ?_
  refine ⟨rfl, _, rfl, fun i hi => ?_, fun k hk => ?_⟩
  · show (if 44 = 44 then va_cpy (α 7) (α 44) 0 0 12 else α 44) i = _
    rw [if_pos rfl]
    unfold va_cpy
    rw [if_pos (by omega)]
    exact congrArg (α 7) (by omega)
  · exact if_neg hk
theorem cr_8_45 : rf_Ok (rf_T Ln xs) MX11_copyRow 1 0 [some (.ref 8), some (.ref 45)] [] (α, μ) (fun r s => r = none ∧ ∃ α' : Nat → Nat → Int32, s = (α', μ) ∧ (∀ i, i < 12 → α' 45 i = α 8 i) ∧ ∀ k, k ≠ 45 → α' k = α k) := by
  refine ok_step (ps := [rf_cp (nI 0) (nI 0) (rf_min (nI 12) (nI 12)) 12 12]) (L' := [some (.ref 8), some (.ref 45)]) (st' := []) (σ' := (rf_r α 45 (va_cpy (α 8) (α 45) ((nI 0).toNatClampNeg) ((nI 0).toNatClampNeg) ((rf_min (nI 12) (nI 12)).toNatClampNeg)), μ)) (pc' := 14) kX11_copyRow_0 rfl rfl (rf_a1 (by decide) rf_a0) ?_
  try rw [(show (rf_min (nI 12) (nI 12)) = nI 12 from rfl)]
  try rw [(show (nI 0).toNatClampNeg = 0 from rf_cl_n rfl (by omega))]
  try rw [(show (nI 12).toNatClampNeg = 12 from rf_cl_n rfl (by omega))]
  refine ok_retv eX11_copyRow_14 rfl ?_
  refine ⟨rfl, _, rfl, fun i hi => ?_, fun k hk => ?_⟩
  · show (if 45 = 45 then va_cpy (α 8) (α 45) 0 0 12 else α 45) i = _
    rw [if_pos rfl]
    unfold va_cpy
    rw [if_pos (by omega)]
    exact congrArg (α 8) (by omega)
  · exact if_neg hk
theorem cr_9_46 : rf_Ok (rf_T Ln xs) MX11_copyRow 1 0 [some (.ref 9), some (.ref 46)] [] (α, μ) (fun r s => r = none ∧ ∃ α' : Nat → Nat → Int32, s = (α', μ) ∧ (∀ i, i < 12 → α' 46 i = α 9 i) ∧ ∀ k, k ≠ 46 → α' k = α k) := by
  refine ok_step (ps := [rf_cp (nI 0) (nI 0) (rf_min (nI 12) (nI 12)) 12 12]) (L' := [some (.ref 9), some (.ref 46)]) (st' := []) (σ' := (rf_r α 46 (va_cpy (α 9) (α 46) ((nI 0).toNatClampNeg) ((nI 0).toNatClampNeg) ((rf_min (nI 12) (nI 12)).toNatClampNeg)), μ)) (pc' := 14) kX11_copyRow_0 rfl rfl (rf_a1 (by decide) rf_a0) ?_
  try rw [(show (rf_min (nI 12) (nI 12)) = nI 12 from rfl)]
  try rw [(show (nI 0).toNatClampNeg = 0 from rf_cl_n rfl (by omega))]
  try rw [(show (nI 12).toNatClampNeg = 12 from rf_cl_n rfl (by omega))]
  refine ok_retv eX11_copyRow_14 rfl ?_
  refine ⟨rfl, _, rfl, fun i hi => ?_, fun k hk => ?_⟩
  · show (if 46 = 46 then va_cpy (α 9) (α 46) 0 0 12 else α 46) i = _
    rw [if_pos rfl]
    unfold va_cpy
    rw [if_pos (by omega)]
    exact congrArg (α 9) (by omega)
  · exact if_neg hk
theorem cw_38_1 : rf_Ok (rf_T Ln xs) MX4_copyFrom 2 0 [some (.ref 39), some (.ref 2)] [] (α, μ) (fun r s => r = none ∧ ∃ α' : Nat → Nat → Int32, s = (α', μ) ∧ Wc 38 1 1 8 α α') := by
  refine ok_step (ps := []) (L' := [some (.ref 39), some (.ref 2)]) (st' := [.ref 40, .ref 3]) (σ' := (rf_w (rf_w (rf_w α 39 0 (α 2 0)) 39 1 ((rf_w α 39 0 (α 2 0)) 2 1)) 39 2 ((rf_w (rf_w α 39 0 (α 2 0)) 39 1 ((rf_w α 39 0 (α 2 0)) 2 1)) 2 2), μ)) (pc' := 32) kX4_copyFrom_0 rfl rfl rf_a0 ?_
  try rw [(show (rf_w α 39 0 (α 2 0)) 2 1 = α 2 1 from by rw [rf_w_at, if_neg (fun h => absurd h.1 (by decide))])]
  try rw [(show (rf_w (rf_w α 39 0 (α 2 0)) 39 1 (α 2 1)) 2 2 = (rf_w α 39 0 (α 2 0)) 2 2 from by rw [rf_w_at, if_neg (fun h => absurd h.1 (by decide))])]
  try rw [(show (rf_w α 39 0 (α 2 0)) 2 2 = α 2 2 from by rw [rf_w_at, if_neg (fun h => absurd h.1 (by decide))])]
  refine ok_Sx (As := [.ref 3, .ref 40]) (st := []) mkX11_copyRow qX4_copyFrom_32 rfl rfl rfl rfl rfl (Nat.le_of_ble_eq_true rfl) (cr_3_40) (fun r1 σ1 hq => ?_)
  obtain ⟨rfl, α1, rfl, a1, b1⟩ := hq
  refine ok_step (ps := []) (L' := [some (.ref 39), some (.ref 2)]) (st' := [.ref 41, .ref 4]) (σ' := (α1, μ)) (pc' := 43) kX4_copyFrom_35 rfl rfl rf_a0 ?_
  refine ok_Sx (As := [.ref 4, .ref 41]) (st := []) mkX11_copyRow qX4_copyFrom_43 rfl rfl rfl rfl rfl (Nat.le_of_ble_eq_true rfl) (cr_4_41) (fun r1 σ1 hq => ?_)
  obtain ⟨rfl, α2, rfl, a2, b2⟩ := hq
  refine ok_step (ps := []) (L' := [some (.ref 39), some (.ref 2)]) (st' := [.ref 42, .ref 5]) (σ' := (α2, μ)) (pc' := 54) kX4_copyFrom_46 rfl rfl rf_a0 ?_
  refine ok_Sx (As := [.ref 5, .ref 42]) (st := []) mkX11_copyRow qX4_copyFrom_54 rfl rfl rfl rfl rfl (Nat.le_of_ble_eq_true rfl) (cr_5_42) (fun r1 σ1 hq => ?_)
  obtain ⟨rfl, α3, rfl, a3, b3⟩ := hq
  refine ok_step (ps := []) (L' := [some (.ref 39), some (.ref 2)]) (st' := [.ref 43, .ref 6]) (σ' := (α3, μ)) (pc' := 65) kX4_copyFrom_57 rfl rfl rf_a0 ?_
  refine ok_Sx (As := [.ref 6, .ref 43]) (st := []) mkX11_copyRow qX4_copyFrom_65 rfl rfl rfl rfl rfl (Nat.le_of_ble_eq_true rfl) (cr_6_43) (fun r1 σ1 hq => ?_)
  obtain ⟨rfl, α4, rfl, a4, b4⟩ := hq
  refine ok_step (ps := []) (L' := [some (.ref 39), some (.ref 2)]) (st' := [.ref 44, .ref 7]) (σ' := (α4, μ)) (pc' := 76) kX4_copyFrom_68 rfl rfl rf_a0 ?_
  refine ok_Sx (As := [.ref 7, .ref 44]) (st := []) mkX11_copyRow qX4_copyFrom_76 rfl rfl rfl rfl rfl (Nat.le_of_ble_eq_true rfl) (cr_7_44) (fun r1 σ1 hq => ?_)
  obtain ⟨rfl, α5, rfl, a5, b5⟩ := hq
  refine ok_step (ps := []) (L' := [some (.ref 39), some (.ref 2)]) (st' := [.ref 45, .ref 8]) (σ' := (α5, μ)) (pc' := 87) kX4_copyFrom_79 rfl rfl rf_a0 ?_
  refine ok_Sx (As := [.ref 8, .ref 45]) (st := []) mkX11_copyRow qX4_copyFrom_87 rfl rfl rfl rfl rfl (Nat.le_of_ble_eq_true rfl) (cr_8_45) (fun r1 σ1 hq => ?_)
  obtain ⟨rfl, α6, rfl, a6, b6⟩ := hq
  refine ok_step (ps := []) (L' := [some (.ref 39), some (.ref 2)]) (st' := [.ref 46, .ref 9]) (σ' := (α6, μ)) (pc' := 98) kX4_copyFrom_90 rfl rfl rf_a0 ?_
  refine ok_Sx (As := [.ref 9, .ref 46]) (st := []) mkX11_copyRow qX4_copyFrom_98 rfl rfl rfl rfl rfl (Nat.le_of_ble_eq_true rfl) (cr_9_46) (fun r1 σ1 hq => ?_)
  obtain ⟨rfl, α7, rfl, a7, b7⟩ := hq
  refine ok_retv eX4_copyFrom_101 rfl ?_
  refine ⟨rfl, _, rfl, fun c i h1 h2 hi => ?_, fun k hk => ?_⟩
  · have hc : c = 1 ∨ c = 2 ∨ c = 3 ∨ c = 4 ∨ c = 5 ∨ c = 6 ∨ c = 7 ∨ c = 8 := by omega
    rcases hc with rfl | rfl | rfl | rfl | rfl | rfl | rfl | rfl
    · replace hi : i < 3 := hi
      show α7 39 i = α 2 i
      rw [b7 39 (by decide), b6 39 (by decide), b5 39 (by decide), b4 39 (by decide), b3 39 (by decide), b2 39 (by decide), b1 39 (by decide)]
      have hc : i = 0 ∨ i = 1 ∨ i = 2 := by omega
      rcases hc with rfl | rfl | rfl <;> simp [rf_w_at]
    · replace hi : i < 64 := hi
      show α7 40 i = α 3 i
      rw [b7 40 (by decide), b6 40 (by decide), b5 40 (by decide), b4 40 (by decide), b3 40 (by decide), b2 40 (by decide), a1 i hi, rf_w_row (by decide), rf_w_row (by decide), rf_w_row (by decide)]
    · replace hi : i < 4 := hi
      show α7 41 i = α 4 i
      rw [b7 41 (by decide), b6 41 (by decide), b5 41 (by decide), b4 41 (by decide), b3 41 (by decide), a2 i hi, b1 4 (by decide), rf_w_row (by decide), rf_w_row (by decide), rf_w_row (by decide)]
    · replace hi : i < 24 := hi
      show α7 42 i = α 5 i
      rw [b7 42 (by decide), b6 42 (by decide), b5 42 (by decide), b4 42 (by decide), a3 i hi, b2 5 (by decide), b1 5 (by decide), rf_w_row (by decide), rf_w_row (by decide), rf_w_row (by decide)]
    · replace hi : i < 24 := hi
      show α7 43 i = α 6 i
      rw [b7 43 (by decide), b6 43 (by decide), b5 43 (by decide), a4 i hi, b3 6 (by decide), b2 6 (by decide), b1 6 (by decide), rf_w_row (by decide), rf_w_row (by decide), rf_w_row (by decide)]
    · replace hi : i < 12 := hi
      show α7 44 i = α 7 i
      rw [b7 44 (by decide), b6 44 (by decide), a5 i hi, b4 7 (by decide), b3 7 (by decide), b2 7 (by decide), b1 7 (by decide), rf_w_row (by decide), rf_w_row (by decide), rf_w_row (by decide)]
    · replace hi : i < 12 := hi
      show α7 45 i = α 8 i
      rw [b7 45 (by decide), a6 i hi, b5 8 (by decide), b4 8 (by decide), b3 8 (by decide), b2 8 (by decide), b1 8 (by decide), rf_w_row (by decide), rf_w_row (by decide), rf_w_row (by decide)]
    · replace hi : i < 12 := hi
      show α7 46 i = α 9 i
      rw [a7 i hi, b6 9 (by decide), b5 9 (by decide), b4 9 (by decide), b3 9 (by decide), b2 9 (by decide), b1 9 (by decide), rf_w_row (by decide), rf_w_row (by decide), rf_w_row (by decide)]
  · rw [b7 k (by omega), b6 k (by omega), b5 k (by omega), b4 k (by omega), b3 k (by omega), b2 k (by omega), b1 k (by omega), rf_w_row (by omega), rf_w_row (by omega), rf_w_row (by omega)]
theorem cr_11_48 : rf_Ok (rf_T Ln xs) MX11_copyRow 1 0 [some (.ref 11), some (.ref 48)] [] (α, μ) (fun r s => r = none ∧ ∃ α' : Nat → Nat → Int32, s = (α', μ) ∧ (∀ i, i < 16 → α' 48 i = α 11 i) ∧ ∀ k, k ≠ 48 → α' k = α k) := by
  refine ok_step (ps := [rf_cp (nI 0) (nI 0) (rf_min (nI 16) (nI 16)) 16 16]) (L' := [some (.ref 11), some (.ref 48)]) (st' := []) (σ' := (rf_r α 48 (va_cpy (α 11) (α 48) ((nI 0).toNatClampNeg) ((nI 0).toNatClampNeg) ((rf_min (nI 16) (nI 16)).toNatClampNeg)), μ)) (pc' := 14) kX11_copyRow_0 rfl rfl (rf_a1 (by decide) rf_a0) ?_
  try rw [(show (rf_min (nI 16) (nI 16)) = nI 16 from rfl)]
  try rw [(show (nI 0).toNatClampNeg = 0 from rf_cl_n rfl (by omega))]
  try rw [(show (nI 16).toNatClampNeg = 16 from rf_cl_n rfl (by omega))]
  refine ok_retv eX11_copyRow_14 rfl ?_
  refine ⟨rfl, _, rfl, fun i hi => ?_, fun k hk => ?_⟩
  · show (if 48 = 48 then va_cpy (α 11) (α 48) 0 0 16 else α 48) i = _
    rw [if_pos rfl]
    unfold va_cpy
    rw [if_pos (by omega)]
    exact congrArg (α 11) (by omega)
  · exact if_neg hk
theorem cr_12_49 : rf_Ok (rf_T Ln xs) MX11_copyRow 1 0 [some (.ref 12), some (.ref 49)] [] (α, μ) (fun r s => r = none ∧ ∃ α' : Nat → Nat → Int32, s = (α', μ) ∧ (∀ i, i < 16 → α' 49 i = α 12 i) ∧ ∀ k, k ≠ 49 → α' k = α k) := by
  refine ok_step (ps := [rf_cp (nI 0) (nI 0) (rf_min (nI 16) (nI 16)) 16 16]) (L' := [some (.ref 12), some (.ref 49)]) (st' := []) (σ' := (rf_r α 49 (va_cpy (α 12) (α 49) ((nI 0).toNatClampNeg) ((nI 0).toNatClampNeg) ((rf_min (nI 16) (nI 16)).toNatClampNeg)), μ)) (pc' := 14) kX11_copyRow_0 rfl rfl (rf_a1 (by decide) rf_a0) ?_
  try rw [(show (rf_min (nI 16) (nI 16)) = nI 16 from rfl)]
  try rw [(show (nI 0).toNatClampNeg = 0 from rf_cl_n rfl (by omega))]
  try rw [(show (nI 16).toNatClampNeg = 16 from rf_cl_n rfl (by omega))]
  refine ok_retv eX11_copyRow_14 rfl ?_
  refine ⟨rfl, _, rfl, fun i hi => ?_, fun k hk => ?_⟩
  · show (if 49 = 49 then va_cpy (α 12) (α 49) 0 0 16 else α 49) i = _
    rw [if_pos rfl]
    unfold va_cpy
    rw [if_pos (by omega)]
    exact congrArg (α 12) (by omega)
  · exact if_neg hk
theorem cr_13_50 : rf_Ok (rf_T Ln xs) MX11_copyRow 1 0 [some (.ref 13), some (.ref 50)] [] (α, μ) (fun r s => r = none ∧ ∃ α' : Nat → Nat → Int32, s = (α', μ) ∧ (∀ i, i < 16 → α' 50 i = α 13 i) ∧ ∀ k, k ≠ 50 → α' k = α k) := by
  refine ok_step (ps := [rf_cp (nI 0) (nI 0) (rf_min (nI 16) (nI 16)) 16 16]) (L' := [some (.ref 13), some (.ref 50)]) (st' := []) (σ' := (rf_r α 50 (va_cpy (α 13) (α 50) ((nI 0).toNatClampNeg) ((nI 0).toNatClampNeg) ((rf_min (nI 16) (nI 16)).toNatClampNeg)), μ)) (pc' := 14) kX11_copyRow_0 rfl rfl (rf_a1 (by decide) rf_a0) ?_
  try rw [(show (rf_min (nI 16) (nI 16)) = nI 16 from rfl)]
  try rw [(show (nI 0).toNatClampNeg = 0 from rf_cl_n rfl (by omega))]
  try rw [(show (nI 16).toNatClampNeg = 16 from rf_cl_n rfl (by omega))]
  refine ok_retv eX11_copyRow_14 rfl ?_
  refine ⟨rfl, _, rfl, fun i hi => ?_, fun k hk => ?_⟩
  · show (if 50 = 50 then va_cpy (α 13) (α 50) 0 0 16 else α 50) i = _
    rw [if_pos rfl]
    unfold va_cpy
    rw [if_pos (by omega)]
    exact congrArg (α 13) (by omega)
  · exact if_neg hk
theorem cr_14_51 : rf_Ok (rf_T Ln xs) MX11_copyRow 1 0 [some (.ref 14), some (.ref 51)] [] (α, μ) (fun r s => r = none ∧ ∃ α' : Nat → Nat → Int32, s = (α', μ) ∧ (∀ i, i < 16 → α' 51 i = α 14 i) ∧ ∀ k, k ≠ 51 → α' k = α k) := by
  refine ok_step (ps := [rf_cp (nI 0) (nI 0) (rf_min (nI 16) (nI 16)) 16 16]) (L' := [some (.ref 14), some (.ref 51)]) (st' := []) (σ' := (rf_r α 51 (va_cpy (α 14) (α 51) ((nI 0).toNatClampNeg) ((nI 0).toNatClampNeg) ((rf_min (nI 16) (nI 16)).toNatClampNeg)), μ)) (pc' := 14) kX11_copyRow_0 rfl rfl (rf_a1 (by decide) rf_a0) ?_
  try rw [(show (rf_min (nI 16) (nI 16)) = nI 16 from rfl)]
  try rw [(show (nI 0).toNatClampNeg = 0 from rf_cl_n rfl (by omega))]
  try rw [(show (nI 16).toNatClampNeg = 16 from rf_cl_n rfl (by omega))]
  refine ok_retv eX11_copyRow_14 rfl ?_
  refine ⟨rfl, _, rfl, fun i hi => ?_, fun k hk => ?_⟩
  · show (if 51 = 51 then va_cpy (α 14) (α 51) 0 0 16 else α 51) i = _
    rw [if_pos rfl]
    unfold va_cpy
    rw [if_pos (by omega)]
    exact congrArg (α 14) (by omega)
  · exact if_neg hk
theorem cr_15_52 : rf_Ok (rf_T Ln xs) MX11_copyRow 1 0 [some (.ref 15), some (.ref 52)] [] (α, μ) (fun r s => r = none ∧ ∃ α' : Nat → Nat → Int32, s = (α', μ) ∧ (∀ i, i < 16 → α' 52 i = α 15 i) ∧ ∀ k, k ≠ 52 → α' k = α k) := by
  refine ok_step (ps := [rf_cp (nI 0) (nI 0) (rf_min (nI 16) (nI 16)) 16 16]) (L' := [some (.ref 15), some (.ref 52)]) (st' := []) (σ' := (rf_r α 52 (va_cpy (α 15) (α 52) ((nI 0).toNatClampNeg) ((nI 0).toNatClampNeg) ((rf_min (nI 16) (nI 16)).toNatClampNeg)), μ)) (pc' := 14) kX11_copyRow_0 rfl rfl (rf_a1 (by decide) rf_a0) ?_
  try rw [(show (rf_min (nI 16) (nI 16)) = nI 16 from rfl)]
  try rw [(show (nI 0).toNatClampNeg = 0 from rf_cl_n rfl (by omega))]
  try rw [(show (nI 16).toNatClampNeg = 16 from rf_cl_n rfl (by omega))]
  refine ok_retv eX11_copyRow_14 rfl ?_
  refine ⟨rfl, _, rfl, fun i hi => ?_, fun k hk => ?_⟩
  · show (if 52 = 52 then va_cpy (α 15) (α 52) 0 0 16 else α 52) i = _
    rw [if_pos rfl]
    unfold va_cpy
    rw [if_pos (by omega)]
    exact congrArg (α 15) (by omega)
  · exact if_neg hk
theorem cr_16_53 : rf_Ok (rf_T Ln xs) MX11_copyRow 1 0 [some (.ref 16), some (.ref 53)] [] (α, μ) (fun r s => r = none ∧ ∃ α' : Nat → Nat → Int32, s = (α', μ) ∧ (∀ i, i < 16 → α' 53 i = α 16 i) ∧ ∀ k, k ≠ 53 → α' k = α k) := by
  refine ok_step (ps := [rf_cp (nI 0) (nI 0) (rf_min (nI 16) (nI 16)) 16 16]) (L' := [some (.ref 16), some (.ref 53)]) (st' := []) (σ' := (rf_r α 53 (va_cpy (α 16) (α 53) ((nI 0).toNatClampNeg) ((nI 0).toNatClampNeg) ((rf_min (nI 16) (nI 16)).toNatClampNeg)), μ)) (pc' := 14) kX11_copyRow_0 rfl rfl (rf_a1 (by decide) rf_a0) ?_
  try rw [(show (rf_min (nI 16) (nI 16)) = nI 16 from rfl)]
  try rw [(show (nI 0).toNatClampNeg = 0 from rf_cl_n rfl (by omega))]
  try rw [(show (nI 16).toNatClampNeg = 16 from rf_cl_n rfl (by omega))]
  refine ok_retv eX11_copyRow_14 rfl ?_
  refine ⟨rfl, _, rfl, fun i hi => ?_, fun k hk => ?_⟩
  · show (if 53 = 53 then va_cpy (α 16) (α 53) 0 0 16 else α 53) i = _
    rw [if_pos rfl]
    unfold va_cpy
    rw [if_pos (by omega)]
    exact congrArg (α 16) (by omega)
  · exact if_neg hk
theorem cr_17_54 : rf_Ok (rf_T Ln xs) MX11_copyRow 1 0 [some (.ref 17), some (.ref 54)] [] (α, μ) (fun r s => r = none ∧ ∃ α' : Nat → Nat → Int32, s = (α', μ) ∧ (∀ i, i < 16 → α' 54 i = α 17 i) ∧ ∀ k, k ≠ 54 → α' k = α k) := by
  refine ok_step (ps := [rf_cp (nI 0) (nI 0) (rf_min (nI 16) (nI 16)) 16 16]) (L' := [some (.ref 17), some (.ref 54)]) (st' := []) (σ' := (rf_r α 54 (va_cpy (α 17) (α 54) ((nI 0).toNatClampNeg) ((nI 0).toNatClampNeg) ((rf_min (nI 16) (nI 16)).toNatClampNeg)), μ)) (pc' := 14) kX11_copyRow_0 rfl rfl (rf_a1 (by decide) rf_a0) ?_
  try rw [(show (rf_min (nI 16) (nI 16)) = nI 16 from rfl)]
  try rw [(show (nI 0).toNatClampNeg = 0 from rf_cl_n rfl (by omega))]
  try rw [(show (nI 16).toNatClampNeg = 16 from rf_cl_n rfl (by omega))]
  refine ok_retv eX11_copyRow_14 rfl ?_
  refine ⟨rfl, _, rfl, fun i hi => ?_, fun k hk => ?_⟩
  · show (if 54 = 54 then va_cpy (α 17) (α 54) 0 0 16 else α 54) i = _
    rw [if_pos rfl]
    unfold va_cpy
    rw [if_pos (by omega)]
    exact congrArg (α 17) (by omega)
  · exact if_neg hk
theorem cr_18_55 : rf_Ok (rf_T Ln xs) MX11_copyRow 1 0 [some (.ref 18), some (.ref 55)] [] (α, μ) (fun r s => r = none ∧ ∃ α' : Nat → Nat → Int32, s = (α', μ) ∧ (∀ i, i < 16 → α' 55 i = α 18 i) ∧ ∀ k, k ≠ 55 → α' k = α k) := by
  refine ok_step (ps := [rf_cp (nI 0) (nI 0) (rf_min (nI 16) (nI 16)) 16 16]) (L' := [some (.ref 18), some (.ref 55)]) (st' := []) (σ' := (rf_r α 55 (va_cpy (α 18) (α 55) ((nI 0).toNatClampNeg) ((nI 0).toNatClampNeg) ((rf_min (nI 16) (nI 16)).toNatClampNeg)), μ)) (pc' := 14) kX11_copyRow_0 rfl rfl (rf_a1 (by decide) rf_a0) ?_
  try rw [(show (rf_min (nI 16) (nI 16)) = nI 16 from rfl)]
  try rw [(show (nI 0).toNatClampNeg = 0 from rf_cl_n rfl (by omega))]
  try rw [(show (nI 16).toNatClampNeg = 16 from rf_cl_n rfl (by omega))]
  refine ok_retv eX11_copyRow_14 rfl ?_
  refine ⟨rfl, _, rfl, fun i hi => ?_, fun k hk => ?_⟩
  · show (if 55 = 55 then va_cpy (α 18) (α 55) 0 0 16 else α 55) i = _
    rw [if_pos rfl]
    unfold va_cpy
    rw [if_pos (by omega)]
    exact congrArg (α 18) (by omega)
  · exact if_neg hk
theorem cw_38_9 : rf_Ok (rf_T Ln xs) MX3_copyFrom 2 0 [some (.ref 47), some (.ref 10)] [] (α, μ) (fun r s => r = none ∧ ∃ α' : Nat → Nat → Int32, s = (α', μ) ∧ Wc 38 1 9 17 α α') := by
  refine ok_step (ps := []) (L' := [some (.ref 47), some (.ref 10)]) (st' := [.ref 48, .ref 11]) (σ' := (rf_w (rf_w (rf_w α 47 0 (α 10 0)) 47 1 ((rf_w α 47 0 (α 10 0)) 10 1)) 47 2 ((rf_w (rf_w α 47 0 (α 10 0)) 47 1 ((rf_w α 47 0 (α 10 0)) 10 1)) 10 2), μ)) (pc' := 32) kX3_copyFrom_0 rfl rfl rf_a0 ?_
  try rw [(show (rf_w α 47 0 (α 10 0)) 10 1 = α 10 1 from by rw [rf_w_at, if_neg (fun h => absurd h.1 (by decide))])]
  try rw [(show (rf_w (rf_w α 47 0 (α 10 0)) 47 1 (α 10 1)) 10 2 = (rf_w α 47 0 (α 10 0)) 10 2 from by rw [rf_w_at, if_neg (fun h => absurd h.1 (by decide))])]
  try rw [(show (rf_w α 47 0 (α 10 0)) 10 2 = α 10 2 from by rw [rf_w_at, if_neg (fun h => absurd h.1 (by decide))])]
  refine ok_Sx (As := [.ref 11, .ref 48]) (st := []) mkX11_copyRow qX3_copyFrom_32 rfl rfl rfl rfl rfl (Nat.le_of_ble_eq_true rfl) (cr_11_48) (fun r1 σ1 hq => ?_)
  obtain ⟨rfl, α1, rfl, a1, b1⟩ := hq
  refine ok_step (ps := []) (L' := [some (.ref 47), some (.ref 10)]) (st' := [.ref 49, .ref 12]) (σ' := (α1, μ)) (pc' := 43) kX3_copyFrom_35 rfl rfl rf_a0 ?_
  refine ok_Sx (As := [.ref 12, .ref 49]) (st := []) mkX11_copyRow qX3_copyFrom_43 rfl rfl rfl rfl rfl (Nat.le_of_ble_eq_true rfl) (cr_12_49) (fun r1 σ1 hq => ?_)
  obtain ⟨rfl, α2, rfl, a2, b2⟩ := hq
  refine ok_step (ps := []) (L' := [some (.ref 47), some (.ref 10)]) (st' := [.ref 50, .ref 13]) (σ' := (α2, μ)) (pc' := 54) kX3_copyFrom_46 rfl rfl rf_a0 ?_
  refine ok_Sx (As := [.ref 13, .ref 50]) (st := []) mkX11_copyRow qX3_copyFrom_54 rfl rfl rfl rfl rfl (Nat.le_of_ble_eq_true rfl) (cr_13_50) (fun r1 σ1 hq => ?_)
  obtain ⟨rfl, α3, rfl, a3, b3⟩ := hq
  refine ok_step (ps := []) (L' := [some (.ref 47), some (.ref 10)]) (st' := [.ref 51, .ref 14]) (σ' := (α3, μ)) (pc' := 65) kX3_copyFrom_57 rfl rfl rf_a0 ?_
  refine ok_Sx (As := [.ref 14, .ref 51]) (st := []) mkX11_copyRow qX3_copyFrom_65 rfl rfl rfl rfl rfl (Nat.le_of_ble_eq_true rfl) (cr_14_51) (fun r1 σ1 hq => ?_)
  obtain ⟨rfl, α4, rfl, a4, b4⟩ := hq
  refine ok_step (ps := []) (L' := [some (.ref 47), some (.ref 10)]) (st' := [.ref 52, .ref 15]) (σ' := (α4, μ)) (pc' := 76) kX3_copyFrom_68 rfl rfl rf_a0 ?_
  refine ok_Sx (As := [.ref 15, .ref 52]) (st := []) mkX11_copyRow qX3_copyFrom_76 rfl rfl rfl rfl rfl (Nat.le_of_ble_eq_true rfl) (cr_15_52) (fun r1 σ1 hq => ?_)
  obtain ⟨rfl, α5, rfl, a5, b5⟩ := hq
  refine ok_step (ps := []) (L' := [some (.ref 47), some (.ref 10)]) (st' := [.ref 53, .ref 16]) (σ' := (α5, μ)) (pc' := 87) kX3_copyFrom_79 rfl rfl rf_a0 ?_
  refine ok_Sx (As := [.ref 16, .ref 53]) (st := []) mkX11_copyRow qX3_copyFrom_87 rfl rfl rfl rfl rfl (Nat.le_of_ble_eq_true rfl) (cr_16_53) (fun r1 σ1 hq => ?_)
  obtain ⟨rfl, α6, rfl, a6, b6⟩ := hq
  refine ok_step (ps := []) (L' := [some (.ref 47), some (.ref 10)]) (st' := [.ref 54, .ref 17]) (σ' := (α6, μ)) (pc' := 98) kX3_copyFrom_90 rfl rfl rf_a0 ?_
  refine ok_Sx (As := [.ref 17, .ref 54]) (st := []) mkX11_copyRow qX3_copyFrom_98 rfl rfl rfl rfl rfl (Nat.le_of_ble_eq_true rfl) (cr_17_54) (fun r1 σ1 hq => ?_)
  obtain ⟨rfl, α7, rfl, a7, b7⟩ := hq
  refine ok_step (ps := []) (L' := [some (.ref 47), some (.ref 10)]) (st' := [.ref 55, .ref 18]) (σ' := (α7, μ)) (pc' := 109) kX3_copyFrom_101 rfl rfl rf_a0 ?_
  refine ok_Sx (As := [.ref 18, .ref 55]) (st := []) mkX11_copyRow qX3_copyFrom_109 rfl rfl rfl rfl rfl (Nat.le_of_ble_eq_true rfl) (cr_18_55) (fun r1 σ1 hq => ?_)
  obtain ⟨rfl, α8, rfl, a8, b8⟩ := hq
  refine ok_retv eX3_copyFrom_112 rfl ?_
  refine ⟨rfl, _, rfl, fun c i h1 h2 hi => ?_, fun k hk => ?_⟩
  · have hc : c = 9 ∨ c = 10 ∨ c = 11 ∨ c = 12 ∨ c = 13 ∨ c = 14 ∨ c = 15 ∨ c = 16 ∨ c = 17 := by omega
    rcases hc with rfl | rfl | rfl | rfl | rfl | rfl | rfl | rfl | rfl
    · replace hi : i < 3 := hi
      show α8 47 i = α 10 i
      rw [b8 47 (by decide), b7 47 (by decide), b6 47 (by decide), b5 47 (by decide), b4 47 (by decide), b3 47 (by decide), b2 47 (by decide), b1 47 (by decide)]
      have hc : i = 0 ∨ i = 1 ∨ i = 2 := by omega
      rcases hc with rfl | rfl | rfl <;> simp [rf_w_at]
    · replace hi : i < 16 := hi
      show α8 48 i = α 11 i
      rw [b8 48 (by decide), b7 48 (by decide), b6 48 (by decide), b5 48 (by decide), b4 48 (by decide), b3 48 (by decide), b2 48 (by decide), a1 i hi, rf_w_row (by decide), rf_w_row (by decide), rf_w_row (by decide)]
    · replace hi : i < 16 := hi
      show α8 49 i = α 12 i
      rw [b8 49 (by decide), b7 49 (by decide), b6 49 (by decide), b5 49 (by decide), b4 49 (by decide), b3 49 (by decide), a2 i hi, b1 12 (by decide), rf_w_row (by decide), rf_w_row (by decide), rf_w_row (by decide)]
    · replace hi : i < 16 := hi
      show α8 50 i = α 13 i
      rw [b8 50 (by decide), b7 50 (by decide), b6 50 (by decide), b5 50 (by decide), b4 50 (by decide), a3 i hi, b2 13 (by decide), b1 13 (by decide), rf_w_row (by decide), rf_w_row (by decide), rf_w_row (by decide)]
    · replace hi : i < 16 := hi
      show α8 51 i = α 14 i
      rw [b8 51 (by decide), b7 51 (by decide), b6 51 (by decide), b5 51 (by decide), a4 i hi, b3 14 (by decide), b2 14 (by decide), b1 14 (by decide), rf_w_row (by decide), rf_w_row (by decide), rf_w_row (by decide)]
    · replace hi : i < 16 := hi
      show α8 52 i = α 15 i
      rw [b8 52 (by decide), b7 52 (by decide), b6 52 (by decide), a5 i hi, b4 15 (by decide), b3 15 (by decide), b2 15 (by decide), b1 15 (by decide), rf_w_row (by decide), rf_w_row (by decide), rf_w_row (by decide)]
    · replace hi : i < 16 := hi
      show α8 53 i = α 16 i
      rw [b8 53 (by decide), b7 53 (by decide), a6 i hi, b5 16 (by decide), b4 16 (by decide), b3 16 (by decide), b2 16 (by decide), b1 16 (by decide), rf_w_row (by decide), rf_w_row (by decide), rf_w_row (by decide)]
    · replace hi : i < 16 := hi
      show α8 54 i = α 17 i
      rw [b8 54 (by decide), a7 i hi, b6 17 (by decide), b5 17 (by decide), b4 17 (by decide), b3 17 (by decide), b2 17 (by decide), b1 17 (by decide), rf_w_row (by decide), rf_w_row (by decide), rf_w_row (by decide)]
    · replace hi : i < 16 := hi
      show α8 55 i = α 18 i
      rw [a8 i hi, b7 18 (by decide), b6 18 (by decide), b5 18 (by decide), b4 18 (by decide), b3 18 (by decide), b2 18 (by decide), b1 18 (by decide), rf_w_row (by decide), rf_w_row (by decide), rf_w_row (by decide)]
  · rw [b8 k (by omega), b7 k (by omega), b6 k (by omega), b5 k (by omega), b4 k (by omega), b3 k (by omega), b2 k (by omega), b1 k (by omega), rf_w_row (by omega), rf_w_row (by omega), rf_w_row (by omega)]
theorem cr_20_57 : rf_Ok (rf_T Ln xs) MX11_copyRow 1 0 [some (.ref 20), some (.ref 57)] [] (α, μ) (fun r s => r = none ∧ ∃ α' : Nat → Nat → Int32, s = (α', μ) ∧ (∀ i, i < 8 → α' 57 i = α 20 i) ∧ ∀ k, k ≠ 57 → α' k = α k) := by
  refine ok_step (ps := [rf_cp (nI 0) (nI 0) (rf_min (nI 8) (nI 8)) 8 8]) (L' := [some (.ref 20), some (.ref 57)]) (st' := []) (σ' := (rf_r α 57 (va_cpy (α 20) (α 57) ((nI 0).toNatClampNeg) ((nI 0).toNatClampNeg) ((rf_min (nI 8) (nI 8)).toNatClampNeg)), μ)) (pc' := 14) kX11_copyRow_0 rfl rfl (rf_a1 (by decide) rf_a0) ?_
  try rw [(show (rf_min (nI 8) (nI 8)) = nI 8 from rfl)]
  try rw [(show (nI 0).toNatClampNeg = 0 from rf_cl_n rfl (by omega))]
  try rw [(show (nI 8).toNatClampNeg = 8 from rf_cl_n rfl (by omega))]
  refine ok_retv eX11_copyRow_14 rfl ?_
  refine ⟨rfl, _, rfl, fun i hi => ?_, fun k hk => ?_⟩
  · show (if 57 = 57 then va_cpy (α 20) (α 57) 0 0 8 else α 57) i = _
    rw [if_pos rfl]
    unfold va_cpy
    rw [if_pos (by omega)]
    exact congrArg (α 20) (by omega)
  · exact if_neg hk
theorem cr_21_58 : rf_Ok (rf_T Ln xs) MX11_copyRow 1 0 [some (.ref 21), some (.ref 58)] [] (α, μ) (fun r s => r = none ∧ ∃ α' : Nat → Nat → Int32, s = (α', μ) ∧ (∀ i, i < 8 → α' 58 i = α 21 i) ∧ ∀ k, k ≠ 58 → α' k = α k) := by
  refine ok_step (ps := [rf_cp (nI 0) (nI 0) (rf_min (nI 8) (nI 8)) 8 8]) (L' := [some (.ref 21), some (.ref 58)]) (st' := []) (σ' := (rf_r α 58 (va_cpy (α 21) (α 58) ((nI 0).toNatClampNeg) ((nI 0).toNatClampNeg) ((rf_min (nI 8) (nI 8)).toNatClampNeg)), μ)) (pc' := 14) kX11_copyRow_0 rfl rfl (rf_a1 (by decide) rf_a0) ?_
  try rw [(show (rf_min (nI 8) (nI 8)) = nI 8 from rfl)]
  try rw [(show (nI 0).toNatClampNeg = 0 from rf_cl_n rfl (by omega))]
  try rw [(show (nI 8).toNatClampNeg = 8 from rf_cl_n rfl (by omega))]
  refine ok_retv eX11_copyRow_14 rfl ?_
  refine ⟨rfl, _, rfl, fun i hi => ?_, fun k hk => ?_⟩
  · show (if 58 = 58 then va_cpy (α 21) (α 58) 0 0 8 else α 58) i = _
    rw [if_pos rfl]
    unfold va_cpy
    rw [if_pos (by omega)]
    exact congrArg (α 21) (by omega)
  · exact if_neg hk
theorem cw_38_18 : rf_Ok (rf_T Ln xs) MX7_copyFrom 2 0 [some (.ref 56), some (.ref 19)] [] (α, μ) (fun r s => r = none ∧ ∃ α' : Nat → Nat → Int32, s = (α', μ) ∧ Wc 38 1 18 20 α α') := by
  refine ok_step (ps := []) (L' := [some (.ref 56), some (.ref 19)]) (st' := [.ref 57, .ref 20]) (σ' := (rf_w α 56 0 (α 19 0), μ)) (pc' := 16) kX7_copyFrom_0 rfl rfl rf_a0 ?_
  refine ok_Sx (As := [.ref 20, .ref 57]) (st := []) mkX11_copyRow qX7_copyFrom_16 rfl rfl rfl rfl rfl (Nat.le_of_ble_eq_true rfl) (cr_20_57) (fun r1 σ1 hq => ?_)
  obtain ⟨rfl, α1, rfl, a1, b1⟩ := hq
  refine ok_step (ps := []) (L' := [some (.ref 56), some (.ref 19)]) (st' := [.ref 58, .ref 21]) (σ' := (α1, μ)) (pc' := 27) kX7_copyFrom_19 rfl rfl rf_a0 ?_
  refine ok_Sx (As := [.ref 21, .ref 58]) (st := []) mkX11_copyRow qX7_copyFrom_27 rfl rfl rfl rfl rfl (Nat.le_of_ble_eq_true rfl) (cr_21_58) (fun r1 σ1 hq => ?_)
  obtain ⟨rfl, α2, rfl, a2, b2⟩ := hq
  refine ok_retv eX7_copyFrom_30 rfl ?_
  refine ⟨rfl, _, rfl, fun c i h1 h2 hi => ?_, fun k hk => ?_⟩
  · have hc : c = 18 ∨ c = 19 ∨ c = 20 := by omega
    rcases hc with rfl | rfl | rfl
    · replace hi : i < 1 := hi
      show α2 56 i = α 19 i
      rw [b2 56 (by decide), b1 56 (by decide)]
      have hc : i = 0 := by omega
      rcases hc with rfl <;> simp [rf_w_at]
    · replace hi : i < 8 := hi
      show α2 57 i = α 20 i
      rw [b2 57 (by decide), a1 i hi, rf_w_row (by decide)]
    · replace hi : i < 8 := hi
      show α2 58 i = α 21 i
      rw [a2 i hi, b1 21 (by decide), rf_w_row (by decide)]
  · rw [b2 k (by omega), b1 k (by omega), rf_w_row (by omega)]
theorem cr_23_60 : rf_Ok (rf_T Ln xs) MX11_copyRow 1 0 [some (.ref 23), some (.ref 60)] [] (α, μ) (fun r s => r = none ∧ ∃ α' : Nat → Nat → Int32, s = (α', μ) ∧ (∀ i, i < 60 → α' 60 i = α 23 i) ∧ ∀ k, k ≠ 60 → α' k = α k) := by
  refine ok_step (ps := [rf_cp (nI 0) (nI 0) (rf_min (nI 60) (nI 60)) 60 60]) (L' := [some (.ref 23), some (.ref 60)]) (st' := []) (σ' := (rf_r α 60 (va_cpy (α 23) (α 60) ((nI 0).toNatClampNeg) ((nI 0).toNatClampNeg) ((rf_min (nI 60) (nI 60)).toNatClampNeg)), μ)) (pc' := 14) kX11_copyRow_0 rfl rfl (rf_a1 (by decide) rf_a0) ?_
  try rw [(show (rf_min (nI 60) (nI 60)) = nI 60 from rfl)]
  try rw [(show (nI 0).toNatClampNeg = 0 from rf_cl_n rfl (by omega))]
  try rw [(show (nI 60).toNatClampNeg = 60 from rf_cl_n rfl (by omega))]
  refine ok_retv eX11_copyRow_14 rfl ?_
  refine ⟨rfl, _, rfl, fun i hi => ?_, fun k hk => ?_⟩
  · show (if 60 = 60 then va_cpy (α 23) (α 60) 0 0 60 else α 60) i = _
    rw [if_pos rfl]
    unfold va_cpy
    rw [if_pos (by omega)]
    exact congrArg (α 23) (by omega)
  · exact if_neg hk
theorem cr_24_61 : rf_Ok (rf_T Ln xs) MX11_copyRow 1 0 [some (.ref 24), some (.ref 61)] [] (α, μ) (fun r s => r = none ∧ ∃ α' : Nat → Nat → Int32, s = (α', μ) ∧ (∀ i, i < 60 → α' 61 i = α 24 i) ∧ ∀ k, k ≠ 61 → α' k = α k) := by
  refine ok_step (ps := [rf_cp (nI 0) (nI 0) (rf_min (nI 60) (nI 60)) 60 60]) (L' := [some (.ref 24), some (.ref 61)]) (st' := []) (σ' := (rf_r α 61 (va_cpy (α 24) (α 61) ((nI 0).toNatClampNeg) ((nI 0).toNatClampNeg) ((rf_min (nI 60) (nI 60)).toNatClampNeg)), μ)) (pc' := 14) kX11_copyRow_0 rfl rfl (rf_a1 (by decide) rf_a0) ?_
  try rw [(show (rf_min (nI 60) (nI 60)) = nI 60 from rfl)]
  try rw [(show (nI 0).toNatClampNeg = 0 from rf_cl_n rfl (by omega))]
  try rw [(show (nI 60).toNatClampNeg = 60 from rf_cl_n rfl (by omega))]
  refine ok_retv eX11_copyRow_14 rfl ?_
  refine ⟨rfl, _, rfl, fun i hi => ?_, fun k hk => ?_⟩
  · show (if 61 = 61 then va_cpy (α 24) (α 61) 0 0 60 else α 61) i = _
    rw [if_pos rfl]
    unfold va_cpy
    rw [if_pos (by omega)]
    exact congrArg (α 24) (by omega)
  · exact if_neg hk
theorem cr_25_62 : rf_Ok (rf_T Ln xs) MX11_copyRow 1 0 [some (.ref 25), some (.ref 62)] [] (α, μ) (fun r s => r = none ∧ ∃ α' : Nat → Nat → Int32, s = (α', μ) ∧ (∀ i, i < 60 → α' 62 i = α 25 i) ∧ ∀ k, k ≠ 62 → α' k = α k) := by
  refine ok_step (ps := [rf_cp (nI 0) (nI 0) (rf_min (nI 60) (nI 60)) 60 60]) (L' := [some (.ref 25), some (.ref 62)]) (st' := []) (σ' := (rf_r α 62 (va_cpy (α 25) (α 62) ((nI 0).toNatClampNeg) ((nI 0).toNatClampNeg) ((rf_min (nI 60) (nI 60)).toNatClampNeg)), μ)) (pc' := 14) kX11_copyRow_0 rfl rfl (rf_a1 (by decide) rf_a0) ?_
  try rw [(show (rf_min (nI 60) (nI 60)) = nI 60 from rfl)]
  try rw [(show (nI 0).toNatClampNeg = 0 from rf_cl_n rfl (by omega))]
  try rw [(show (nI 60).toNatClampNeg = 60 from rf_cl_n rfl (by omega))]
  refine ok_retv eX11_copyRow_14 rfl ?_
  refine ⟨rfl, _, rfl, fun i hi => ?_, fun k hk => ?_⟩
  · show (if 62 = 62 then va_cpy (α 25) (α 62) 0 0 60 else α 62) i = _
    rw [if_pos rfl]
    unfold va_cpy
    rw [if_pos (by omega)]
    exact congrArg (α 25) (by omega)
  · exact if_neg hk
theorem cw_38_21 : rf_Ok (rf_T Ln xs) MX1_copyFrom 2 0 [some (.ref 59), some (.ref 22)] [] (α, μ) (fun r s => r = none ∧ ∃ α' : Nat → Nat → Int32, s = (α', μ) ∧ Wc 38 1 21 24 α α') := by
  refine ok_step (ps := []) (L' := [some (.ref 59), some (.ref 22)]) (st' := [.ref 60, .ref 23]) (σ' := (rf_w (rf_w (rf_w (rf_w α 59 0 (α 22 0)) 59 1 ((rf_w α 59 0 (α 22 0)) 22 1)) 59 2 ((rf_w (rf_w α 59 0 (α 22 0)) 59 1 ((rf_w α 59 0 (α 22 0)) 22 1)) 22 2)) 59 3 ((rf_w (rf_w (rf_w α 59 0 (α 22 0)) 59 1 ((rf_w α 59 0 (α 22 0)) 22 1)) 59 2 ((rf_w (rf_w α 59 0 (α 22 0)) 59 1 ((rf_w α 59 0 (α 22 0)) 22 1)) 22 2)) 22 3), μ)) (pc' := 40) kX1_copyFrom_0 rfl rfl rf_a0 ?_
  try rw [(show (rf_w α 59 0 (α 22 0)) 22 1 = α 22 1 from by rw [rf_w_at, if_neg (fun h => absurd h.1 (by decide))])]
  try rw [(show (rf_w (rf_w α 59 0 (α 22 0)) 59 1 (α 22 1)) 22 2 = (rf_w α 59 0 (α 22 0)) 22 2 from by rw [rf_w_at, if_neg (fun h => absurd h.1 (by decide))])]
  try rw [(show (rf_w α 59 0 (α 22 0)) 22 2 = α 22 2 from by rw [rf_w_at, if_neg (fun h => absurd h.1 (by decide))])]
  try rw [(show (rf_w (rf_w (rf_w α 59 0 (α 22 0)) 59 1 (α 22 1)) 59 2 (α 22 2)) 22 3 = (rf_w (rf_w α 59 0 (α 22 0)) 59 1 (α 22 1)) 22 3 from by rw [rf_w_at, if_neg (fun h => absurd h.1 (by decide))])]
  try rw [(show (rf_w (rf_w α 59 0 (α 22 0)) 59 1 (α 22 1)) 22 3 = (rf_w α 59 0 (α 22 0)) 22 3 from by rw [rf_w_at, if_neg (fun h => absurd h.1 (by decide))])]
  try rw [(show (rf_w α 59 0 (α 22 0)) 22 3 = α 22 3 from by rw [rf_w_at, if_neg (fun h => absurd h.1 (by decide))])]
  refine ok_Sx (As := [.ref 23, .ref 60]) (st := []) mkX11_copyRow qX1_copyFrom_40 rfl rfl rfl rfl rfl (Nat.le_of_ble_eq_true rfl) (cr_23_60) (fun r1 σ1 hq => ?_)
  obtain ⟨rfl, α1, rfl, a1, b1⟩ := hq
  refine ok_step (ps := []) (L' := [some (.ref 59), some (.ref 22)]) (st' := [.ref 61, .ref 24]) (σ' := (α1, μ)) (pc' := 51) kX1_copyFrom_43 rfl rfl rf_a0 ?_
  refine ok_Sx (As := [.ref 24, .ref 61]) (st := []) mkX11_copyRow qX1_copyFrom_51 rfl rfl rfl rfl rfl (Nat.le_of_ble_eq_true rfl) (cr_24_61) (fun r1 σ1 hq => ?_)
  obtain ⟨rfl, α2, rfl, a2, b2⟩ := hq
  refine ok_step (ps := []) (L' := [some (.ref 59), some (.ref 22)]) (st' := [.ref 62, .ref 25]) (σ' := (α2, μ)) (pc' := 62) kX1_copyFrom_54 rfl rfl rf_a0 ?_
  refine ok_Sx (As := [.ref 25, .ref 62]) (st := []) mkX11_copyRow qX1_copyFrom_62 rfl rfl rfl rfl rfl (Nat.le_of_ble_eq_true rfl) (cr_25_62) (fun r1 σ1 hq => ?_)
  obtain ⟨rfl, α3, rfl, a3, b3⟩ := hq
  refine ok_retv eX1_copyFrom_65 rfl ?_
  refine ⟨rfl, _, rfl, fun c i h1 h2 hi => ?_, fun k hk => ?_⟩
  · have hc : c = 21 ∨ c = 22 ∨ c = 23 ∨ c = 24 := by omega
    rcases hc with rfl | rfl | rfl | rfl
    · replace hi : i < 4 := hi
      show α3 59 i = α 22 i
      rw [b3 59 (by decide), b2 59 (by decide), b1 59 (by decide)]
      have hc : i = 0 ∨ i = 1 ∨ i = 2 ∨ i = 3 := by omega
      rcases hc with rfl | rfl | rfl | rfl <;> simp [rf_w_at]
    · replace hi : i < 60 := hi
      show α3 60 i = α 23 i
      rw [b3 60 (by decide), b2 60 (by decide), a1 i hi, rf_w_row (by decide), rf_w_row (by decide), rf_w_row (by decide), rf_w_row (by decide)]
    · replace hi : i < 60 := hi
      show α3 61 i = α 24 i
      rw [b3 61 (by decide), a2 i hi, b1 24 (by decide), rf_w_row (by decide), rf_w_row (by decide), rf_w_row (by decide), rf_w_row (by decide)]
    · replace hi : i < 60 := hi
      show α3 62 i = α 25 i
      rw [a3 i hi, b2 25 (by decide), b1 25 (by decide), rf_w_row (by decide), rf_w_row (by decide), rf_w_row (by decide), rf_w_row (by decide)]
  · rw [b3 k (by omega), b2 k (by omega), b1 k (by omega), rf_w_row (by omega), rf_w_row (by omega), rf_w_row (by omega), rf_w_row (by omega)]
theorem cr_27_64 : rf_Ok (rf_T Ln xs) MX11_copyRow 1 0 [some (.ref 27), some (.ref 64)] [] (α, μ) (fun r s => r = none ∧ ∃ α' : Nat → Nat → Int32, s = (α', μ) ∧ (∀ i, i < 50 → α' 64 i = α 27 i) ∧ ∀ k, k ≠ 64 → α' k = α k) := by
  refine ok_step (ps := [rf_cp (nI 0) (nI 0) (rf_min (nI 50) (nI 50)) 50 50]) (L' := [some (.ref 27), some (.ref 64)]) (st' := []) (σ' := (rf_r α 64 (va_cpy (α 27) (α 64) ((nI 0).toNatClampNeg) ((nI 0).toNatClampNeg) ((rf_min (nI 50) (nI 50)).toNatClampNeg)), μ)) (pc' := 14) kX11_copyRow_0 rfl rfl (rf_a1 (by decide) rf_a0) ?_
  try rw [(show (rf_min (nI 50) (nI 50)) = nI 50 from rfl)]
  try rw [(show (nI 0).toNatClampNeg = 0 from rf_cl_n rfl (by omega))]
  try rw [(show (nI 50).toNatClampNeg = 50 from rf_cl_n rfl (by omega))]
  refine ok_retv eX11_copyRow_14 rfl ?_
  refine ⟨rfl, _, rfl, fun i hi => ?_, fun k hk => ?_⟩
  · show (if 64 = 64 then va_cpy (α 27) (α 64) 0 0 50 else α 64) i = _
    rw [if_pos rfl]
    unfold va_cpy
    rw [if_pos (by omega)]
    exact congrArg (α 27) (by omega)
  · exact if_neg hk
theorem cr_28_65 : rf_Ok (rf_T Ln xs) MX11_copyRow 1 0 [some (.ref 28), some (.ref 65)] [] (α, μ) (fun r s => r = none ∧ ∃ α' : Nat → Nat → Int32, s = (α', μ) ∧ (∀ i, i < 20 → α' 65 i = α 28 i) ∧ ∀ k, k ≠ 65 → α' k = α k) := by
  refine ok_step (ps := [rf_cp (nI 0) (nI 0) (rf_min (nI 20) (nI 20)) 20 20]) (L' := [some (.ref 28), some (.ref 65)]) (st' := []) (σ' := (rf_r α 65 (va_cpy (α 28) (α 65) ((nI 0).toNatClampNeg) ((nI 0).toNatClampNeg) ((rf_min (nI 20) (nI 20)).toNatClampNeg)), μ)) (pc' := 14) kX11_copyRow_0 rfl rfl (rf_a1 (by decide) rf_a0) ?_
  try rw [(show (rf_min (nI 20) (nI 20)) = nI 20 from rfl)]
  try rw [(show (nI 0).toNatClampNeg = 0 from rf_cl_n rfl (by omega))]
  try rw [(show (nI 20).toNatClampNeg = 20 from rf_cl_n rfl (by omega))]
  refine ok_retv eX11_copyRow_14 rfl ?_
  refine ⟨rfl, _, rfl, fun i hi => ?_, fun k hk => ?_⟩
  · show (if 65 = 65 then va_cpy (α 28) (α 65) 0 0 20 else α 65) i = _
    rw [if_pos rfl]
    unfold va_cpy
    rw [if_pos (by omega)]
    exact congrArg (α 28) (by omega)
  · exact if_neg hk
theorem cw_38_25 : rf_Ok (rf_T Ln xs) MX0_copyFrom 2 0 [some (.ref 63), some (.ref 26)] [] (α, μ) (fun r s => r = none ∧ ∃ α' : Nat → Nat → Int32, s = (α', μ) ∧ Wc 38 1 25 27 α α') := by
  refine ok_step (ps := []) (L' := [some (.ref 63), some (.ref 26)]) (st' := [.ref 64, .ref 27]) (σ' := (rf_w (rf_w α 63 0 (α 26 0)) 63 1 ((rf_w α 63 0 (α 26 0)) 26 1), μ)) (pc' := 24) kX0_copyFrom_0 rfl rfl rf_a0 ?_
  try rw [(show (rf_w α 63 0 (α 26 0)) 26 1 = α 26 1 from by rw [rf_w_at, if_neg (fun h => absurd h.1 (by decide))])]
  refine ok_Sx (As := [.ref 27, .ref 64]) (st := []) mkX11_copyRow qX0_copyFrom_24 rfl rfl rfl rfl rfl (Nat.le_of_ble_eq_true rfl) (cr_27_64) (fun r1 σ1 hq => ?_)
  obtain ⟨rfl, α1, rfl, a1, b1⟩ := hq
  refine ok_step (ps := []) (L' := [some (.ref 63), some (.ref 26)]) (st' := [.ref 65, .ref 28]) (σ' := (α1, μ)) (pc' := 35) kX0_copyFrom_27 rfl rfl rf_a0 ?_
  refine ok_Sx (As := [.ref 28, .ref 65]) (st := []) mkX11_copyRow qX0_copyFrom_35 rfl rfl rfl rfl rfl (Nat.le_of_ble_eq_true rfl) (cr_28_65) (fun r1 σ1 hq => ?_)
  obtain ⟨rfl, α2, rfl, a2, b2⟩ := hq
  refine ok_retv eX0_copyFrom_38 rfl ?_
  refine ⟨rfl, _, rfl, fun c i h1 h2 hi => ?_, fun k hk => ?_⟩
  · have hc : c = 25 ∨ c = 26 ∨ c = 27 := by omega
    rcases hc with rfl | rfl | rfl
    · replace hi : i < 2 := hi
      show α2 63 i = α 26 i
      rw [b2 63 (by decide), b1 63 (by decide)]
      have hc : i = 0 ∨ i = 1 := by omega
      rcases hc with rfl | rfl <;> simp [rf_w_at]
    · replace hi : i < 50 := hi
      show α2 64 i = α 27 i
      rw [b2 64 (by decide), a1 i hi, rf_w_row (by decide), rf_w_row (by decide)]
    · replace hi : i < 20 := hi
      show α2 65 i = α 28 i
      rw [a2 i hi, b1 28 (by decide), rf_w_row (by decide), rf_w_row (by decide)]
  · rw [b2 k (by omega), b1 k (by omega), rf_w_row (by omega), rf_w_row (by omega)]
theorem cr_30_67 : rf_Ok (rf_T Ln xs) MX11_copyRow 1 0 [some (.ref 30), some (.ref 67)] [] (α, μ) (fun r s => r = none ∧ ∃ α' : Nat → Nat → Int32, s = (α', μ) ∧ (∀ i, i < 50 → α' 67 i = α 30 i) ∧ ∀ k, k ≠ 67 → α' k = α k) := by
  refine ok_step (ps := [rf_cp (nI 0) (nI 0) (rf_min (nI 50) (nI 50)) 50 50]) (L' := [some (.ref 30), some (.ref 67)]) (st' := []) (σ' := (rf_r α 67 (va_cpy (α 30) (α 67) ((nI 0).toNatClampNeg) ((nI 0).toNatClampNeg) ((rf_min (nI 50) (nI 50)).toNatClampNeg)), μ)) (pc' := 14) kX11_copyRow_0 rfl rfl (rf_a1 (by decide) rf_a0) ?_
  try rw [(show (rf_min (nI 50) (nI 50)) = nI 50 from rfl)]
  try rw [(show (nI 0).toNatClampNeg = 0 from rf_cl_n rfl (by omega))]
  try rw [(show (nI 50).toNatClampNeg = 50 from rf_cl_n rfl (by omega))]
  refine ok_retv eX11_copyRow_14 rfl ?_
  refine ⟨rfl, _, rfl, fun i hi => ?_, fun k hk => ?_⟩
  · show (if 67 = 67 then va_cpy (α 30) (α 67) 0 0 50 else α 67) i = _
    rw [if_pos rfl]
    unfold va_cpy
    rw [if_pos (by omega)]
    exact congrArg (α 30) (by omega)
  · exact if_neg hk
theorem cw_38_28 : rf_Ok (rf_T Ln xs) MX8_copyFrom 2 0 [some (.ref 66), some (.ref 29)] [] (α, μ) (fun r s => r = none ∧ ∃ α' : Nat → Nat → Int32, s = (α', μ) ∧ Wc 38 1 28 29 α α') := by
  refine ok_step (ps := []) (L' := [some (.ref 66), some (.ref 29)]) (st' := [.ref 67, .ref 30]) (σ' := (rf_w α 66 0 (α 29 0), μ)) (pc' := 16) kX8_copyFrom_0 rfl rfl rf_a0 ?_
  refine ok_Sx (As := [.ref 30, .ref 67]) (st := []) mkX11_copyRow qX8_copyFrom_16 rfl rfl rfl rfl rfl (Nat.le_of_ble_eq_true rfl) (cr_30_67) (fun r1 σ1 hq => ?_)
  obtain ⟨rfl, α1, rfl, a1, b1⟩ := hq
  refine ok_retv eX8_copyFrom_19 rfl ?_
  refine ⟨rfl, _, rfl, fun c i h1 h2 hi => ?_, fun k hk => ?_⟩
  · have hc : c = 28 ∨ c = 29 := by omega
    rcases hc with rfl | rfl
    · replace hi : i < 1 := hi
      show α1 66 i = α 29 i
      rw [b1 66 (by decide)]
      have hc : i = 0 := by omega
      rcases hc with rfl <;> simp [rf_w_at]
    · replace hi : i < 50 := hi
      show α1 67 i = α 30 i
      rw [a1 i hi, rf_w_row (by decide)]
  · rw [b1 k (by omega), rf_w_row (by omega)]
theorem cr_33_70 : rf_Ok (rf_T Ln xs) MX11_copyRow 1 0 [some (.ref 33), some (.ref 70)] [] (α, μ) (fun r s => r = none ∧ ∃ α' : Nat → Nat → Int32, s = (α', μ) ∧ (∀ i, i < 50 → α' 70 i = α 33 i) ∧ ∀ k, k ≠ 70 → α' k = α k) := by
  refine ok_step (ps := [rf_cp (nI 0) (nI 0) (rf_min (nI 50) (nI 50)) 50 50]) (L' := [some (.ref 33), some (.ref 70)]) (st' := []) (σ' := (rf_r α 70 (va_cpy (α 33) (α 70) ((nI 0).toNatClampNeg) ((nI 0).toNatClampNeg) ((rf_min (nI 50) (nI 50)).toNatClampNeg)), μ)) (pc' := 14) kX11_copyRow_0 rfl rfl (rf_a1 (by decide) rf_a0) ?_
  try rw [(show (rf_min (nI 50) (nI 50)) = nI 50 from rfl)]
  try rw [(show (nI 0).toNatClampNeg = 0 from rf_cl_n rfl (by omega))]
  try rw [(show (nI 50).toNatClampNeg = 50 from rf_cl_n rfl (by omega))]
  refine ok_retv eX11_copyRow_14 rfl ?_
  refine ⟨rfl, _, rfl, fun i hi => ?_, fun k hk => ?_⟩
  · show (if 70 = 70 then va_cpy (α 33) (α 70) 0 0 50 else α 70) i = _
    rw [if_pos rfl]
    unfold va_cpy
    rw [if_pos (by omega)]
    exact congrArg (α 33) (by omega)
  · exact if_neg hk
theorem cw_38_31 : rf_Ok (rf_T Ln xs) MX8_copyFrom 2 0 [some (.ref 69), some (.ref 32)] [] (α, μ) (fun r s => r = none ∧ ∃ α' : Nat → Nat → Int32, s = (α', μ) ∧ Wc 38 1 31 32 α α') := by
  refine ok_step (ps := []) (L' := [some (.ref 69), some (.ref 32)]) (st' := [.ref 70, .ref 33]) (σ' := (rf_w α 69 0 (α 32 0), μ)) (pc' := 16) kX8_copyFrom_0 rfl rfl rf_a0 ?_
  refine ok_Sx (As := [.ref 33, .ref 70]) (st := []) mkX11_copyRow qX8_copyFrom_16 rfl rfl rfl rfl rfl (Nat.le_of_ble_eq_true rfl) (cr_33_70) (fun r1 σ1 hq => ?_)
  obtain ⟨rfl, α1, rfl, a1, b1⟩ := hq
  refine ok_retv eX8_copyFrom_19 rfl ?_
  refine ⟨rfl, _, rfl, fun c i h1 h2 hi => ?_, fun k hk => ?_⟩
  · have hc : c = 31 ∨ c = 32 := by omega
    rcases hc with rfl | rfl
    · replace hi : i < 1 := hi
      show α1 69 i = α 32 i
      rw [b1 69 (by decide)]
      have hc : i = 0 := by omega
      rcases hc with rfl <;> simp [rf_w_at]
    · replace hi : i < 50 := hi
      show α1 70 i = α 33 i
      rw [a1 i hi, rf_w_row (by decide)]
  · rw [b1 k (by omega), rf_w_row (by omega)]
theorem cw_38 : rf_Ok (rf_T Ln xs) MX10_copyFrom 3 0 [some (.ref 38), some (.ref 1)] [] (α, μ) (fun r s => r = none ∧ ∃ α' : Nat → Nat → Int32, s = (α', μ) ∧ Wc 38 1 1 32 α α') := by
  refine ok_step (ps := []) (L' := [some (.ref 38), some (.ref 1)]) (st' := [.ref 2, .ref 39]) (σ' := (α, μ)) (pc' := 8) kX10_copyFrom_0 rfl rfl rf_a0 ?_
  refine ok_Vx (As := [.ref 2]) (b := 39) (st := []) mkX4_copyFrom qX10_copyFrom_8 rfl (rc_39) rfl rfl rfl rfl (Nat.le_of_ble_eq_true rfl) (cw_38_1) (fun r1 σ1 hq => ?_)
  obtain ⟨rfl, α1, rfl, a1, b1⟩ := hq
  refine ok_step (ps := []) (L' := [some (.ref 38), some (.ref 1)]) (st' := [.ref 10, .ref 47]) (σ' := (α1, μ)) (pc' := 19) kX10_copyFrom_11 rfl rfl rf_a0 ?_
  refine ok_Vx (As := [.ref 10]) (b := 47) (st := []) mkX3_copyFrom qX10_copyFrom_19 rfl (rc_47) rfl rfl rfl rfl (Nat.le_of_ble_eq_true rfl) (cw_38_9) (fun r1 σ1 hq => ?_)
  obtain ⟨rfl, α2, rfl, a2, b2⟩ := hq
  refine ok_step (ps := []) (L' := [some (.ref 38), some (.ref 1)]) (st' := [.ref 19, .ref 56]) (σ' := (α2, μ)) (pc' := 30) kX10_copyFrom_22 rfl rfl rf_a0 ?_
  refine ok_Vx (As := [.ref 19]) (b := 56) (st := []) mkX7_copyFrom qX10_copyFrom_30 rfl (rc_56) rfl rfl rfl rfl (Nat.le_of_ble_eq_true rfl) (cw_38_18) (fun r1 σ1 hq => ?_)
  obtain ⟨rfl, α3, rfl, a3, b3⟩ := hq
  refine ok_step (ps := []) (L' := [some (.ref 38), some (.ref 1)]) (st' := [.ref 22, .ref 59]) (σ' := (α3, μ)) (pc' := 41) kX10_copyFrom_33 rfl rfl rf_a0 ?_
  refine ok_Vx (As := [.ref 22]) (b := 59) (st := []) mkX1_copyFrom qX10_copyFrom_41 rfl (rc_59) rfl rfl rfl rfl (Nat.le_of_ble_eq_true rfl) (cw_38_21) (fun r1 σ1 hq => ?_)
  obtain ⟨rfl, α4, rfl, a4, b4⟩ := hq
  refine ok_step (ps := []) (L' := [some (.ref 38), some (.ref 1)]) (st' := [.ref 26, .ref 63]) (σ' := (α4, μ)) (pc' := 52) kX10_copyFrom_44 rfl rfl rf_a0 ?_
  refine ok_Vx (As := [.ref 26]) (b := 63) (st := []) mkX0_copyFrom qX10_copyFrom_52 rfl (rc_63) rfl rfl rfl rfl (Nat.le_of_ble_eq_true rfl) (cw_38_25) (fun r1 σ1 hq => ?_)
  obtain ⟨rfl, α5, rfl, a5, b5⟩ := hq
  refine ok_step (ps := []) (L' := [some (.ref 38), some (.ref 1)]) (st' := [.ref 29, .ref 66]) (σ' := (α5, μ)) (pc' := 63) kX10_copyFrom_55 rfl rfl rf_a0 ?_
  refine ok_Vx (As := [.ref 29]) (b := 66) (st := []) mkX8_copyFrom qX10_copyFrom_63 rfl (rc_66) rfl rfl rfl rfl (Nat.le_of_ble_eq_true rfl) (cw_38_28) (fun r1 σ1 hq => ?_)
  obtain ⟨rfl, α6, rfl, a6, b6⟩ := hq
  refine ok_step (ps := []) (L' := [some (.ref 38), some (.ref 1)]) (st' := [.ref 32, .ref 69]) (σ' := (α6, μ)) (pc' := 74) kX10_copyFrom_66 rfl rfl rf_a0 ?_
  refine ok_Vx (As := [.ref 32]) (b := 69) (st := []) mkX8_copyFrom qX10_copyFrom_74 rfl (rc_69) rfl rfl rfl rfl (Nat.le_of_ble_eq_true rfl) (cw_38_31) (fun r1 σ1 hq => ?_)
  obtain ⟨rfl, α7, rfl, a7, b7⟩ := hq
  refine ok_retv eX10_copyFrom_77 rfl ?_
  refine ⟨rfl, _, rfl, fun c i h1 h2 hi => ?_, fun k hk => ?_⟩
  · have hc : (1 ≤ c ∧ c ≤ 8) ∨ (9 ≤ c ∧ c ≤ 17) ∨ (18 ≤ c ∧ c ≤ 20) ∨ (21 ≤ c ∧ c ≤ 24) ∨ (25 ≤ c ∧ c ≤ 27) ∨ (28 ≤ c ∧ c ≤ 29) ∨ (31 ≤ c ∧ c ≤ 32) ∨ c = 30 := by omega
    rcases hc with hc | hc | hc | hc | hc | hc | hc | rfl
    · rw [b7 _ (by omega), b6 _ (by omega), b5 _ (by omega), b4 _ (by omega), b3 _ (by omega), b2 _ (by omega), a1 c i (by omega) (by omega) hi]
    · rw [b7 _ (by omega), b6 _ (by omega), b5 _ (by omega), b4 _ (by omega), b3 _ (by omega), a2 c i (by omega) (by omega) hi, b1 _ (by omega)]
    · rw [b7 _ (by omega), b6 _ (by omega), b5 _ (by omega), b4 _ (by omega), a3 c i (by omega) (by omega) hi, b2 _ (by omega), b1 _ (by omega)]
    · rw [b7 _ (by omega), b6 _ (by omega), b5 _ (by omega), a4 c i (by omega) (by omega) hi, b3 _ (by omega), b2 _ (by omega), b1 _ (by omega)]
    · rw [b7 _ (by omega), b6 _ (by omega), a5 c i (by omega) (by omega) hi, b4 _ (by omega), b3 _ (by omega), b2 _ (by omega), b1 _ (by omega)]
    · rw [b7 _ (by omega), a6 c i (by omega) (by omega) hi, b5 _ (by omega), b4 _ (by omega), b3 _ (by omega), b2 _ (by omega), b1 _ (by omega)]
    · rw [a7 c i (by omega) (by omega) hi, b6 _ (by omega), b5 _ (by omega), b4 _ (by omega), b3 _ (by omega), b2 _ (by omega), b1 _ (by omega)]
    · exact absurd hi (Nat.not_lt_zero i)
  · rw [b7 k (by omega), b6 k (by omega), b5 k (by omega), b4 k (by omega), b3 k (by omega), b2 k (by omega), b1 k (by omega)]
theorem cr_40_3 : rf_Ok (rf_T Ln xs) MX11_copyRow 1 0 [some (.ref 40), some (.ref 3)] [] (α, μ) (fun r s => r = none ∧ ∃ α' : Nat → Nat → Int32, s = (α', μ) ∧ (∀ i, i < 64 → α' 3 i = α 40 i) ∧ ∀ k, k ≠ 3 → α' k = α k) := by
  refine ok_step (ps := [rf_cp (nI 0) (nI 0) (rf_min (nI 64) (nI 64)) 64 64]) (L' := [some (.ref 40), some (.ref 3)]) (st' := []) (σ' := (rf_r α 3 (va_cpy (α 40) (α 3) ((nI 0).toNatClampNeg) ((nI 0).toNatClampNeg) ((rf_min (nI 64) (nI 64)).toNatClampNeg)), μ)) (pc' := 14) kX11_copyRow_0 rfl rfl (rf_a1 (by decide) rf_a0) ?_
  try rw [(show (rf_min (nI 64) (nI 64)) = nI 64 from rfl)]
  try rw [(show (nI 0).toNatClampNeg = 0 from rf_cl_n rfl (by omega))]
  try rw [(show (nI 64).toNatClampNeg = 64 from rf_cl_n rfl (by omega))]
  refine ok_retv eX11_copyRow_14 rfl ?_
  refine ⟨rfl, _, rfl, fun i hi => ?_, fun k hk => ?_⟩
  · show (if 3 = 3 then va_cpy (α 40) (α 3) 0 0 64 else α 3) i = _
    rw [if_pos rfl]
    unfold va_cpy
    rw [if_pos (by omega)]
    exact congrArg (α 40) (by omega)
  · exact if_neg hk
theorem cr_41_4 : rf_Ok (rf_T Ln xs) MX11_copyRow 1 0 [some (.ref 41), some (.ref 4)] [] (α, μ) (fun r s => r = none ∧ ∃ α' : Nat → Nat → Int32, s = (α', μ) ∧ (∀ i, i < 4 → α' 4 i = α 41 i) ∧ ∀ k, k ≠ 4 → α' k = α k) := by
  refine ok_step (ps := [rf_cp (nI 0) (nI 0) (rf_min (nI 4) (nI 4)) 4 4]) (L' := [some (.ref 41), some (.ref 4)]) (st' := []) (σ' := (rf_r α 4 (va_cpy (α 41) (α 4) ((nI 0).toNatClampNeg) ((nI 0).toNatClampNeg) ((rf_min (nI 4) (nI 4)).toNatClampNeg)), μ)) (pc' := 14) kX11_copyRow_0 rfl rfl (rf_a1 (by decide) rf_a0) ?_
  try rw [(show (rf_min (nI 4) (nI 4)) = nI 4 from rfl)]
  try rw [(show (nI 0).toNatClampNeg = 0 from rf_cl_n rfl (by omega))]
  try rw [(show (nI 4).toNatClampNeg = 4 from rf_cl_n rfl (by omega))]
  refine ok_retv eX11_copyRow_14 rfl ?_
  refine ⟨rfl, _, rfl, fun i hi => ?_, fun k hk => ?_⟩
  · show (if 4 = 4 then va_cpy (α 41) (α 4) 0 0 4 else α 4) i = _
    rw [if_pos rfl]
    unfold va_cpy
    rw [if_pos (by omega)]
    exact congrArg (α 41) (by omega)
  · exact if_neg hk
theorem cr_42_5 : rf_Ok (rf_T Ln xs) MX11_copyRow 1 0 [some (.ref 42), some (.ref 5)] [] (α, μ) (fun r s => r = none ∧ ∃ α' : Nat → Nat → Int32, s = (α', μ) ∧ (∀ i, i < 24 → α' 5 i = α 42 i) ∧ ∀ k, k ≠ 5 → α' k = α k) := by
  refine ok_step (ps := [rf_cp (nI 0) (nI 0) (rf_min (nI 24) (nI 24)) 24 24]) (L' := [some (.ref 42), some (.ref 5)]) (st' := []) (σ' := (rf_r α 5 (va_cpy (α 42) (α 5) ((nI 0).toNatClampNeg) ((nI 0).toNatClampNeg) ((rf_min (nI 24) (nI 24)).toNatClampNeg)), μ)) (pc' := 14) kX11_copyRow_0 rfl rfl (rf_a1 (by decide) rf_a0) ?_
  try rw [(show (rf_min (nI 24) (nI 24)) = nI 24 from rfl)]
  try rw [(show (nI 0).toNatClampNeg = 0 from rf_cl_n rfl (by omega))]
  try rw [(show (nI 24).toNatClampNeg = 24 from rf_cl_n rfl (by omega))]
  refine ok_retv eX11_copyRow_14 rfl ?_
  refine ⟨rfl, _, rfl, fun i hi => ?_, fun k hk => ?_⟩
  · show (if 5 = 5 then va_cpy (α 42) (α 5) 0 0 24 else α 5) i = _
    rw [if_pos rfl]
    unfold va_cpy
    rw [if_pos (by omega)]
    exact congrArg (α 42) (by omega)
  · exact if_neg hk
theorem cr_43_6 : rf_Ok (rf_T Ln xs) MX11_copyRow 1 0 [some (.ref 43), some (.ref 6)] [] (α, μ) (fun r s => r = none ∧ ∃ α' : Nat → Nat → Int32, s = (α', μ) ∧ (∀ i, i < 24 → α' 6 i = α 43 i) ∧ ∀ k, k ≠ 6 → α' k = α k) := by
  refine ok_step (ps := [rf_cp (nI 0) (nI 0) (rf_min (nI 24) (nI 24)) 24 24]) (L' := [some (.ref 43), some (.ref 6)]) (st' := []) (σ' := (rf_r α 6 (va_cpy (α 43) (α 6) ((nI 0).toNatClampNeg) ((nI 0).toNatClampNeg) ((rf_min (nI 24) (nI 24)).toNatClampNeg)), μ)) (pc' := 14) kX11_copyRow_0 rfl rfl (rf_a1 (by decide) rf_a0) ?_
  try rw [(show (rf_min (nI 24) (nI 24)) = nI 24 from rfl)]
  try rw [(show (nI 0).toNatClampNeg = 0 from rf_cl_n rfl (by omega))]
  try rw [(show (nI 24).toNatClampNeg = 24 from rf_cl_n rfl (by omega))]
  refine ok_retv eX11_copyRow_14 rfl ?_
  refine ⟨rfl, _, rfl, fun i hi => ?_, fun k hk => ?_⟩
  · show (if 6 = 6 then va_cpy (α 43) (α 6) 0 0 24 else α 6) i = _
    rw [if_pos rfl]
    unfold va_cpy
    rw [if_pos (by omega)]
    exact congrArg (α 43) (by omega)
  · exact if_neg hk
theorem cr_44_7 : rf_Ok (rf_T Ln xs) MX11_copyRow 1 0 [some (.ref 44), some (.ref 7)] [] (α, μ) (fun r s => r = none ∧ ∃ α' : Nat → Nat → Int32, s = (α', μ) ∧ (∀ i, i < 12 → α' 7 i = α 44 i) ∧ ∀ k, k ≠ 7 → α' k = α k) := by
  refine ok_step (ps := [rf_cp (nI 0) (nI 0) (rf_min (nI 12) (nI 12)) 12 12]) (L' := [some (.ref 44), some (.ref 7)]) (st' := []) (σ' := (rf_r α 7 (va_cpy (α 44) (α 7) ((nI 0).toNatClampNeg) ((nI 0).toNatClampNeg) ((rf_min (nI 12) (nI 12)).toNatClampNeg)), μ)) (pc' := 14) kX11_copyRow_0 rfl rfl (rf_a1 (by decide) rf_a0) ?_
  try rw [(show (rf_min (nI 12) (nI 12)) = nI 12 from rfl)]
  try rw [(show (nI 0).toNatClampNeg = 0 from rf_cl_n rfl (by omega))]
  try rw [(show (nI 12).toNatClampNeg = 12 from rf_cl_n rfl (by omega))]
  refine ok_retv eX11_copyRow_14 rfl ?_
  refine ⟨rfl, _, rfl, fun i hi => ?_, fun k hk => ?_⟩
  · show (if 7 = 7 then va_cpy (α 44) (α 7) 0 0 12 else α 7) i = _
    rw [if_pos rfl]
    unfold va_cpy
    rw [if_pos (by omega)]
    exact congrArg (α 44) (by omega)
  · exact if_neg hk
theorem cr_45_8 : rf_Ok (rf_T Ln xs) MX11_copyRow 1 0 [some (.ref 45), some (.ref 8)] [] (α, μ) (fun r s => r = none ∧ ∃ α' : Nat → Nat → Int32, s = (α', μ) ∧ (∀ i, i < 12 → α' 8 i = α 45 i) ∧ ∀ k, k ≠ 8 → α' k = α k) := by
  refine ok_step (ps := [rf_cp (nI 0) (nI 0) (rf_min (nI 12) (nI 12)) 12 12]) (L' := [some (.ref 45), some (.ref 8)]) (st' := []) (σ' := (rf_r α 8 (va_cpy (α 45) (α 8) ((nI 0).toNatClampNeg) ((nI 0).toNatClampNeg) ((rf_min (nI 12) (nI 12)).toNatClampNeg)), μ)) (pc' := 14) kX11_copyRow_0 rfl rfl (rf_a1 (by decide) rf_a0) ?_
  try rw [(show (rf_min (nI 12) (nI 12)) = nI 12 from rfl)]
  try rw [(show (nI 0).toNatClampNeg = 0 from rf_cl_n rfl (by omega))]
  try rw [(show (nI 12).toNatClampNeg = 12 from rf_cl_n rfl (by omega))]
  refine ok_retv eX11_copyRow_14 rfl ?_
  refine ⟨rfl, _, rfl, fun i hi => ?_, fun k hk => ?_⟩
  · show (if 8 = 8 then va_cpy (α 45) (α 8) 0 0 12 else α 8) i = _
    rw [if_pos rfl]
    unfold va_cpy
    rw [if_pos (by omega)]
    exact congrArg (α 45) (by omega)
  · exact if_neg hk
theorem cr_46_9 : rf_Ok (rf_T Ln xs) MX11_copyRow 1 0 [some (.ref 46), some (.ref 9)] [] (α, μ) (fun r s => r = none ∧ ∃ α' : Nat → Nat → Int32, s = (α', μ) ∧ (∀ i, i < 12 → α' 9 i = α 46 i) ∧ ∀ k, k ≠ 9 → α' k = α k) := by
  refine ok_step (ps := [rf_cp (nI 0) (nI 0) (rf_min (nI 12) (nI 12)) 12 12]) (L' := [some (.ref 46), some (.ref 9)]) (st' := []) (σ' := (rf_r α 9 (va_cpy (α 46) (α 9) ((nI 0).toNatClampNeg) ((nI 0).toNatClampNeg) ((rf_min (nI 12) (nI 12)).toNatClampNeg)), μ)) (pc' := 14) kX11_copyRow_0 rfl rfl (rf_a1 (by decide) rf_a0) ?_
  try rw [(show (rf_min (nI 12) (nI 12)) = nI 12 from rfl)]
  try rw [(show (nI 0).toNatClampNeg = 0 from rf_cl_n rfl (by omega))]
  try rw [(show (nI 12).toNatClampNeg = 12 from rf_cl_n rfl (by omega))]
  refine ok_retv eX11_copyRow_14 rfl ?_
  refine ⟨rfl, _, rfl, fun i hi => ?_, fun k hk => ?_⟩
  · show (if 9 = 9 then va_cpy (α 46) (α 9) 0 0 12 else α 9) i = _
    rw [if_pos rfl]
    unfold va_cpy
    rw [if_pos (by omega)]
    exact congrArg (α 46) (by omega)
  · exact if_neg hk
theorem cw_1_1 : rf_Ok (rf_T Ln xs) MX4_copyFrom 2 0 [some (.ref 2), some (.ref 39)] [] (α, μ) (fun r s => r = none ∧ ∃ α' : Nat → Nat → Int32, s = (α', μ) ∧ Wc 1 38 1 8 α α') := by
  refine ok_step (ps := []) (L' := [some (.ref 2), some (.ref 39)]) (st' := [.ref 3, .ref 40]) (σ' := (rf_w (rf_w (rf_w α 2 0 (α 39 0)) 2 1 ((rf_w α 2 0 (α 39 0)) 39 1)) 2 2 ((rf_w (rf_w α 2 0 (α 39 0)) 2 1 ((rf_w α 2 0 (α 39 0)) 39 1)) 39 2), μ)) (pc' := 32) kX4_copyFrom_0 rfl rfl rf_a0 ?_
  try rw [(show (rf_w α 2 0 (α 39 0)) 39 1 = α 39 1 from by rw [rf_w_at, if_neg (fun h => absurd h.1 (by decide))])]
  try rw [(show (rf_w (rf_w α 2 0 (α 39 0)) 2 1 (α 39 1)) 39 2 = (rf_w α 2 0 (α 39 0)) 39 2 from by rw [rf_w_at, if_neg (fun h => absurd h.1 (by decide))])]
  try rw [(show (rf_w α 2 0 (α 39 0)) 39 2 = α 39 2 from by rw [rf_w_at, if_neg (fun h => absurd h.1 (by decide))])]
  refine ok_Sx (As := [.ref 40, .ref 3]) (st := []) mkX11_copyRow qX4_copyFrom_32 rfl rfl rfl rfl rfl (Nat.le_of_ble_eq_true rfl) (cr_40_3) (fun r1 σ1 hq => ?_)
  obtain ⟨rfl, α1, rfl, a1, b1⟩ := hq
  refine ok_step (ps := []) (L' := [some (.ref 2), some (.ref 39)]) (st' := [.ref 4, .ref 41]) (σ' := (α1, μ)) (pc' := 43) kX4_copyFrom_35 rfl rfl rf_a0 ?_
  refine ok_Sx (As := [.ref 41, .ref 4]) (st := []) mkX11_copyRow qX4_copyFrom_43 rfl rfl rfl rfl rfl (Nat.le_of_ble_eq_true rfl) (cr_41_4) (fun r1 σ1 hq => ?_)
  obtain ⟨rfl, α2, rfl, a2, b2⟩ := hq
  refine ok_step (ps := []) (L' := [some (.ref 2), some (.ref 39)]) (st' := [.ref 5, .ref 42]) (σ' := (α2, μ)) (pc' := 54) kX4_copyFrom_46 rfl rfl rf_a0 ?_
  refine ok_Sx (As := [.ref 42, .ref 5]) (st := []) mkX11_copyRow qX4_copyFrom_54 rfl rfl rfl rfl rfl (Nat.le_of_ble_eq_true rfl) (cr_42_5) (fun r1 σ1 hq => ?_)
  obtain ⟨rfl, α3, rfl, a3, b3⟩ := hq
  refine ok_step (ps := []) (L' := [some (.ref 2), some (.ref 39)]) (st' := [.ref 6, .ref 43]) (σ' := (α3, μ)) (pc' := 65) kX4_copyFrom_57 rfl rfl rf_a0 ?_
  refine ok_Sx (As := [.ref 43, .ref 6]) (st := []) mkX11_copyRow qX4_copyFrom_65 rfl rfl rfl rfl rfl (Nat.le_of_ble_eq_true rfl) (cr_43_6) (fun r1 σ1 hq => ?_)
  obtain ⟨rfl, α4, rfl, a4, b4⟩ := hq
  refine ok_step (ps := []) (L' := [some (.ref 2), some (.ref 39)]) (st' := [.ref 7, .ref 44]) (σ' := (α4, μ)) (pc' := 76) kX4_copyFrom_68 rfl rfl rf_a0 ?_
  refine ok_Sx (As := [.ref 44, .ref 7]) (st := []) mkX11_copyRow qX4_copyFrom_76 rfl rfl rfl rfl rfl (Nat.le_of_ble_eq_true rfl) (cr_44_7) (fun r1 σ1 hq => ?_)
  obtain ⟨rfl, α5, rfl, a5, b5⟩ := hq
  refine ok_step (ps := []) (L' := [some (.ref 2), some (.ref 39)]) (st' := [.ref 8, .ref 45]) (σ' := (α5, μ)) (pc' := 87) kX4_copyFrom_79 rfl rfl rf_a0 ?_
  refine ok_Sx (As := [.ref 45, .ref 8]) (st := []) mkX11_copyRow qX4_copyFrom_87 rfl rfl rfl rfl rfl (Nat.le_of_ble_eq_true rfl) (cr_45_8) (fun r1 σ1 hq => ?_)
  obtain ⟨rfl, α6, rfl, a6, b6⟩ := hq
  refine ok_step (ps := []) (L' := [some (.ref 2), some (.ref 39)]) (st' := [.ref 9, .ref 46]) (σ' := (α6, μ)) (pc' := 98) kX4_copyFrom_90 rfl rfl rf_a0 ?_
  refine ok_Sx (As := [.ref 46, .ref 9]) (st := []) mkX11_copyRow qX4_copyFrom_98 rfl rfl rfl rfl rfl (Nat.le_of_ble_eq_true rfl) (cr_46_9) (fun r1 σ1 hq => ?_)
  obtain ⟨rfl, α7, rfl, a7, b7⟩ := hq
  refine ok_retv eX4_copyFrom_101 rfl ?_
  refine ⟨rfl, _, rfl, fun c i h1 h2 hi => ?_, fun k hk => ?_⟩
  · have hc : c = 1 ∨ c = 2 ∨ c = 3 ∨ c = 4 ∨ c = 5 ∨ c = 6 ∨ c = 7 ∨ c = 8 := by omega
    rcases hc with rfl | rfl | rfl | rfl | rfl | rfl | rfl | rfl
    · replace hi : i < 3 := hi
      show α7 2 i = α 39 i
      rw [b7 2 (by decide), b6 2 (by decide), b5 2 (by decide), b4 2 (by decide), b3 2 (by decide), b2 2 (by decide), b1 2 (by decide)]
      have hc : i = 0 ∨ i = 1 ∨ i = 2 := by omega
      rcases hc with rfl | rfl | rfl <;> simp [rf_w_at]
    · replace hi : i < 64 := hi
      show α7 3 i = α 40 i
      rw [b7 3 (by decide), b6 3 (by decide), b5 3 (by decide), b4 3 (by decide), b3 3 (by decide), b2 3 (by decide), a1 i hi, rf_w_row (by decide), rf_w_row (by decide), rf_w_row (by decide)]
    · replace hi : i < 4 := hi
      show α7 4 i = α 41 i
      rw [b7 4 (by decide), b6 4 (by decide), b5 4 (by decide), b4 4 (by decide), b3 4 (by decide), a2 i hi, b1 41 (by decide), rf_w_row (by decide), rf_w_row (by decide), rf_w_row (by decide)]
    · replace hi : i < 24 := hi
      show α7 5 i = α 42 i
      rw [b7 5 (by decide), b6 5 (by decide), b5 5 (by decide), b4 5 (by decide), a3 i hi, b2 42 (by decide), b1 42 (by decide), rf_w_row (by decide), rf_w_row (by decide), rf_w_row (by decide)]
    · replace hi : i < 24 := hi
      show α7 6 i = α 43 i
      rw [b7 6 (by decide), b6 6 (by decide), b5 6 (by decide), a4 i hi, b3 43 (by decide), b2 43 (by decide), b1 43 (by decide), rf_w_row (by decide), rf_w_row (by decide), rf_w_row (by decide)]
    · replace hi : i < 12 := hi
      show α7 7 i = α 44 i
      rw [b7 7 (by decide), b6 7 (by decide), a5 i hi, b4 44 (by decide), b3 44 (by decide), b2 44 (by decide), b1 44 (by decide), rf_w_row (by decide), rf_w_row (by decide), rf_w_row (by decide)]
    · replace hi : i < 12 := hi
      show α7 8 i = α 45 i
      rw [b7 8 (by decide), a6 i hi, b5 45 (by decide), b4 45 (by decide), b3 45 (by decide), b2 45 (by decide), b1 45 (by decide), rf_w_row (by decide), rf_w_row (by decide), rf_w_row (by decide)]
    · replace hi : i < 12 := hi
      show α7 9 i = α 46 i
      rw [a7 i hi, b6 46 (by decide), b5 46 (by decide), b4 46 (by decide), b3 46 (by decide), b2 46 (by decide), b1 46 (by decide), rf_w_row (by decide), rf_w_row (by decide), rf_w_row (by decide)]
  · rw [b7 k (by omega), b6 k (by omega), b5 k (by omega), b4 k (by omega), b3 k (by omega), b2 k (by omega), b1 k (by omega), rf_w_row (by omega), rf_w_row (by omega), rf_w_row (by omega)]
theorem cr_48_11 : rf_Ok (rf_T Ln xs) MX11_copyRow 1 0 [some (.ref 48), some (.ref 11)] [] (α, μ) (fun r s => r = none ∧ ∃ α' : Nat → Nat → Int32, s = (α', μ) ∧ (∀ i, i < 16 → α' 11 i = α 48 i) ∧ ∀ k, k ≠ 11 → α' k = α k) := by
  refine ok_step (ps := [rf_cp (nI 0) (nI 0) (rf_min (nI 16) (nI 16)) 16 16]) (L' := [some (.ref 48), some (.ref 11)]) (st' := []) (σ' := (rf_r α 11 (va_cpy (α 48) (α 11) ((nI 0).toNatClampNeg) ((nI 0).toNatClampNeg) ((rf_min (nI 16) (nI 16)).toNatClampNeg)), μ)) (pc' := 14) kX11_copyRow_0 rfl rfl (rf_a1 (by decide) rf_a0) ?_
  try rw [(show (rf_min (nI 16) (nI 16)) = nI 16 from rfl)]
  try rw [(show (nI 0).toNatClampNeg = 0 from rf_cl_n rfl (by omega))]
  try rw [(show (nI 16).toNatClampNeg = 16 from rf_cl_n rfl (by omega))]
  refine ok_retv eX11_copyRow_14 rfl ?_
  refine ⟨rfl, _, rfl, fun i hi => ?_, fun k hk => ?_⟩
  · show (if 11 = 11 then va_cpy (α 48) (α 11) 0 0 16 else α 11) i = _
    rw [if_pos rfl]
    unfold va_cpy
    rw [if_pos (by omega)]
    exact congrArg (α 48) (by omega)
  · exact if_neg hk
theorem cr_49_12 : rf_Ok (rf_T Ln xs) MX11_copyRow 1 0 [some (.ref 49), some (.ref 12)] [] (α, μ) (fun r s => r = none ∧ ∃ α' : Nat → Nat → Int32, s = (α', μ) ∧ (∀ i, i < 16 → α' 12 i = α 49 i) ∧ ∀ k, k ≠ 12 → α' k = α k) := by
  refine ok_step (ps := [rf_cp (nI 0) (nI 0) (rf_min (nI 16) (nI 16)) 16 16]) (L' := [some (.ref 49), some (.ref 12)]) (st' := []) (σ' := (rf_r α 12 (va_cpy (α 49) (α 12) ((nI 0).toNatClampNeg) ((nI 0).toNatClampNeg) ((rf_min (nI 16) (nI 16)).toNatClampNeg)), μ)) (pc' := 14) kX11_copyRow_0 rfl rfl (rf_a1 (by decide) rf_a0) ?_
  try rw [(show (rf_min (nI 16) (nI 16)) = nI 16 from rfl)]
  try rw [(show (nI 0).toNatClampNeg = 0 from rf_cl_n rfl (by omega))]
  try rw [(show (nI 16).toNatClampNeg = 16 from rf_cl_n rfl (by omega))]
  refine ok_retv eX11_copyRow_14 rfl ?_
  refine ⟨rfl, _, rfl, fun i hi => ?_, fun k hk => ?_⟩
  · show (if 12 = 12 then va_cpy (α 49) (α 12) 0 0 16 else α 12) i = _
    rw [if_pos rfl]
    unfold va_cpy
    rw [if_pos (by omega)]
    exact congrArg (α 49) (by omega)
  · exact if_neg hk
theorem cr_50_13 : rf_Ok (rf_T Ln xs) MX11_copyRow 1 0 [some (.ref 50), some (.ref 13)] [] (α, μ) (fun r s => r = none ∧ ∃ α' : Nat → Nat → Int32, s = (α', μ) ∧ (∀ i, i < 16 → α' 13 i = α 50 i) ∧ ∀ k, k ≠ 13 → α' k = α k) := by
  refine ok_step (ps := [rf_cp (nI 0) (nI 0) (rf_min (nI 16) (nI 16)) 16 16]) (L' := [some (.ref 50), some (.ref 13)]) (st' := []) (σ' := (rf_r α 13 (va_cpy (α 50) (α 13) ((nI 0).toNatClampNeg) ((nI 0).toNatClampNeg) ((rf_min (nI 16) (nI 16)).toNatClampNeg)), μ)) (pc' := 14) kX11_copyRow_0 rfl rfl (rf_a1 (by decide) rf_a0) ?_
  try rw [(show (rf_min (nI 16) (nI 16)) = nI 16 from rfl)]
  try rw [(show (nI 0).toNatClampNeg = 0 from rf_cl_n rfl (by omega))]
  try rw [(show (nI 16).toNatClampNeg = 16 from rf_cl_n rfl (by omega))]
  refine ok_retv eX11_copyRow_14 rfl ?_
  refine ⟨rfl, _, rfl, fun i hi => ?_, fun k hk => ?_⟩
  · show (if 13 = 13 then va_cpy (α 50) (α 13) 0 0 16 else α 13) i = _
    rw [if_pos rfl]
    unfold va_cpy
    rw [if_pos (by omega)]
    exact congrArg (α 50) (by omega)
  · exact if_neg hk
theorem cr_51_14 : rf_Ok (rf_T Ln xs) MX11_copyRow 1 0 [some (.ref 51), some (.ref 14)] [] (α, μ) (fun r s => r = none ∧ ∃ α' : Nat → Nat → Int32, s = (α', μ) ∧ (∀ i, i < 16 → α' 14 i = α 51 i) ∧ ∀ k, k ≠ 14 → α' k = α k) := by
  refine ok_step (ps := [rf_cp (nI 0) (nI 0) (rf_min (nI 16) (nI 16)) 16 16]) (L' := [some (.ref 51), some (.ref 14)]) (st' := []) (σ' := (rf_r α 14 (va_cpy (α 51) (α 14) ((nI 0).toNatClampNeg) ((nI 0).toNatClampNeg) ((rf_min (nI 16) (nI 16)).toNatClampNeg)), μ)) (pc' := 14) kX11_copyRow_0 rfl rfl (rf_a1 (by decide) rf_a0) ?_
  try rw [(show (rf_min (nI 16) (nI 16)) = nI 16 from rfl)]
  try rw [(show (nI 0).toNatClampNeg = 0 from rf_cl_n rfl (by omega))]
  try rw [(show (nI 16).toNatClampNeg = 16 from rf_cl_n rfl (by omega))]
  refine ok_retv eX11_copyRow_14 rfl ?_
  refine ⟨rfl, _, rfl, fun i hi => ?_, fun k hk => ?_⟩
  · show (if 14 = 14 then va_cpy (α 51) (α 14) 0 0 16 else α 14) i = _
    rw [if_pos rfl]
    unfold va_cpy
    rw [if_pos (by omega)]
    exact congrArg (α 51) (by omega)
  · exact if_neg hk
theorem cr_52_15 : rf_Ok (rf_T Ln xs) MX11_copyRow 1 0 [some (.ref 52), some (.ref 15)] [] (α, μ) (fun r s => r = none ∧ ∃ α' : Nat → Nat → Int32, s = (α', μ) ∧ (∀ i, i < 16 → α' 15 i = α 52 i) ∧ ∀ k, k ≠ 15 → α' k = α k) := by
  refine ok_step (ps := [rf_cp (nI 0) (nI 0) (rf_min (nI 16) (nI 16)) 16 16]) (L' := [some (.ref 52), some (.ref 15)]) (st' := []) (σ' := (rf_r α 15 (va_cpy (α 52) (α 15) ((nI 0).toNatClampNeg) ((nI 0).toNatClampNeg) ((rf_min (nI 16) (nI 16)).toNatClampNeg)), μ)) (pc' := 14) kX11_copyRow_0 rfl rfl (rf_a1 (by decide) rf_a0) ?_
  try rw [(show (rf_min (nI 16) (nI 16)) = nI 16 from rfl)]
  try rw [(show (nI 0).toNatClampNeg = 0 from rf_cl_n rfl (by omega))]
  try rw [(show (nI 16).toNatClampNeg = 16 from rf_cl_n rfl (by omega))]
  refine ok_retv eX11_copyRow_14 rfl ?_
  refine ⟨rfl, _, rfl, fun i hi => ?_, fun k hk => ?_⟩
  · show (if 15 = 15 then va_cpy (α 52) (α 15) 0 0 16 else α 15) i = _
    rw [if_pos rfl]
    unfold va_cpy
    rw [if_pos (by omega)]
    exact congrArg (α 52) (by omega)
  · exact if_neg hk
theorem cr_53_16 : rf_Ok (rf_T Ln xs) MX11_copyRow 1 0 [some (.ref 53), some (.ref 16)] [] (α, μ) (fun r s => r = none ∧ ∃ α' : Nat → Nat → Int32, s = (α', μ) ∧ (∀ i, i < 16 → α' 16 i = α 53 i) ∧ ∀ k, k ≠ 16 → α' k = α k) := by
  refine ok_step (ps := [rf_cp (nI 0) (nI 0) (rf_min (nI 16) (nI 16)) 16 16]) (L' := [some (.ref 53), some (.ref 16)]) (st' := []) (σ' := (rf_r α 16 (va_cpy (α 53) (α 16) ((nI 0).toNatClampNeg) ((nI 0).toNatClampNeg) ((rf_min (nI 16) (nI 16)).toNatClampNeg)), μ)) (pc' := 14) kX11_copyRow_0 rfl rfl (rf_a1 (by decide) rf_a0) ?_
  try rw [(show (rf_min (nI 16) (nI 16)) = nI 16 from rfl)]
  try rw [(show (nI 0).toNatClampNeg = 0 from rf_cl_n rfl (by omega))]
  try rw [(show (nI 16).toNatClampNeg = 16 from rf_cl_n rfl (by omega))]
  refine ok_retv eX11_copyRow_14 rfl ?_
  refine ⟨rfl, _, rfl, fun i hi => ?_, fun k hk => ?_⟩
  · show (if 16 = 16 then va_cpy (α 53) (α 16) 0 0 16 else α 16) i = _
    rw [if_pos rfl]
    unfold va_cpy
    rw [if_pos (by omega)]
    exact congrArg (α 53) (by omega)
  · exact if_neg hk
theorem cr_54_17 : rf_Ok (rf_T Ln xs) MX11_copyRow 1 0 [some (.ref 54), some (.ref 17)] [] (α, μ) (fun r s => r = none ∧ ∃ α' : Nat → Nat → Int32, s = (α', μ) ∧ (∀ i, i < 16 → α' 17 i = α 54 i) ∧ ∀ k, k ≠ 17 → α' k = α k) := by
  refine ok_step (ps := [rf_cp (nI 0) (nI 0) (rf_min (nI 16) (nI 16)) 16 16]) (L' := [some (.ref 54), some (.ref 17)]) (st' := []) (σ' := (rf_r α 17 (va_cpy (α 54) (α 17) ((nI 0).toNatClampNeg) ((nI 0).toNatClampNeg) ((rf_min (nI 16) (nI 16)).toNatClampNeg)), μ)) (pc' := 14) kX11_copyRow_0 rfl rfl (rf_a1 (by decide) rf_a0) ?_
  try rw [(show (rf_min (nI 16) (nI 16)) = nI 16 from rfl)]
  try rw [(show (nI 0).toNatClampNeg = 0 from rf_cl_n rfl (by omega))]
  try rw [(show (nI 16).toNatClampNeg = 16 from rf_cl_n rfl (by omega))]
  refine ok_retv eX11_copyRow_14 rfl ?_
  refine ⟨rfl, _, rfl, fun i hi => ?_, fun k hk => ?_⟩
  · show (if 17 = 17 then va_cpy (α 54) (α 17) 0 0 16 else α 17) i = _
    rw [if_pos rfl]
    unfold va_cpy
    rw [if_pos (by omega)]
    exact congrArg (α 54) (by omega)
  · exact if_neg hk
theorem cr_55_18 : rf_Ok (rf_T Ln xs) MX11_copyRow 1 0 [some (.ref 55), some (.ref 18)] [] (α, μ) (fun r s => r = none ∧ ∃ α' : Nat → Nat → Int32, s = (α', μ) ∧ (∀ i, i < 16 → α' 18 i = α 55 i) ∧ ∀ k, k ≠ 18 → α' k = α k) := by
  refine ok_step (ps := [rf_cp (nI 0) (nI 0) (rf_min (nI 16) (nI 16)) 16 16]) (L' := [some (.ref 55), some (.ref 18)]) (st' := []) (σ' := (rf_r α 18 (va_cpy (α 55) (α 18) ((nI 0).toNatClampNeg) ((nI 0).toNatClampNeg) ((rf_min (nI 16) (nI 16)).toNatClampNeg)), μ)) (pc' := 14) kX11_copyRow_0 rfl rfl (rf_a1 (by decide) rf_a0) ?_
  try rw [(show (rf_min (nI 16) (nI 16)) = nI 16 from rfl)]
  try rw [(show (nI 0).toNatClampNeg = 0 from rf_cl_n rfl (by omega))]
  try rw [(show (nI 16).toNatClampNeg = 16 from rf_cl_n rfl (by omega))]
  refine ok_retv eX11_copyRow_14 rfl ?_
  refine ⟨rfl, _, rfl, fun i hi => ?_, fun k hk => ?_⟩
  · show (if 18 = 18 then va_cpy (α 55) (α 18) 0 0 16 else α 18) i = _
    rw [if_pos rfl]
    unfold va_cpy
    rw [if_pos (by omega)]
    exact congrArg (α 55) (by omega)
  · exact if_neg hk
theorem cw_1_9 : rf_Ok (rf_T Ln xs) MX3_copyFrom 2 0 [some (.ref 10), some (.ref 47)] [] (α, μ) (fun r s => r = none ∧ ∃ α' : Nat → Nat → Int32, s = (α', μ) ∧ Wc 1 38 9 17 α α') := by
  refine ok_step (ps := []) (L' := [some (.ref 10), some (.ref 47)]) (st' := [.ref 11, .ref 48]) (σ' := (rf_w (rf_w (rf_w α 10 0 (α 47 0)) 10 1 ((rf_w α 10 0 (α 47 0)) 47 1)) 10 2 ((rf_w (rf_w α 10 0 (α 47 0)) 10 1 ((rf_w α 10 0 (α 47 0)) 47 1)) 47 2), μ)) (pc' := 32) kX3_copyFrom_0 rfl rfl rf_a0 ?_
  try rw [(show (rf_w α 10 0 (α 47 0)) 47 1 = α 47 1 from by rw [rf_w_at, if_neg (fun h => absurd h.1 (by decide))])]
  try rw [(show (rf_w (rf_w α 10 0 (α 47 0)) 10 1 (α 47 1)) 47 2 = (rf_w α 10 0 (α 47 0)) 47 2 from by rw [rf_w_at, if_neg (fun h => absurd h.1 (by decide))])]
  try rw [(show (rf_w α 10 0 (α 47 0)) 47 2 = α 47 2 from by rw [rf_w_at, if_neg (fun h => absurd h.1 (by decide))])]
  refine ok_Sx (As := [.ref 48, .ref 11]) (st := []) mkX11_copyRow qX3_copyFrom_32 rfl rfl rfl rfl rfl (Nat.le_of_ble_eq_true rfl) (cr_48_11) (fun r1 σ1 hq => ?_)
  obtain ⟨rfl, α1, rfl, a1, b1⟩ := hq
  refine ok_step (ps := []) (L' := [some (.ref 10), some (.ref 47)]) (st' := [.ref 12, .ref 49]) (σ' := (α1, μ)) (pc' := 43) kX3_copyFrom_35 rfl rfl rf_a0 ?_
  refine ok_Sx (As := [.ref 49, .ref 12]) (st := []) mkX11_copyRow qX3_copyFrom_43 rfl rfl rfl rfl rfl (Nat.le_of_ble_eq_true rfl) (cr_49_12) (fun r1 σ1 hq => ?_)
  obtain ⟨rfl, α2, rfl, a2, b2⟩ := hq
  refine ok_step (ps := []) (L' := [some (.ref 10), some (.ref 47)]) (st' := [.ref 13, .ref 50]) (σ' := (α2, μ)) (pc' := 54) kX3_copyFrom_46 rfl rfl rf_a0 ?_
  refine ok_Sx (As := [.ref 50, .ref 13]) (st := []) mkX11_copyRow qX3_copyFrom_54 rfl rfl rfl rfl rfl (Nat.le_of_ble_eq_true rfl) (cr_50_13) (fun r1 σ1 hq => ?_)
  obtain ⟨rfl, α3, rfl, a3, b3⟩ := hq
  refine ok_step (ps := []) (L' := [some (.ref 10), some (.ref 47)]) (st' := [.ref 14, .ref 51]) (σ' := (α3, μ)) (pc' := 65) kX3_copyFrom_57 rfl rfl rf_a0 ?_
  refine ok_Sx (As := [.ref 51, .ref 14]) (st := []) mkX11_copyRow qX3_copyFrom_65 rfl rfl rfl rfl rfl (Nat.le_of_ble_eq_true rfl) (cr_51_14) (fun r1 σ1 hq => ?_)
  obtain ⟨rfl, α4, rfl, a4, b4⟩ := hq
  refine ok_step (ps := []) (L' := [some (.ref 10), some (.ref 47)]) (st' := [.ref 15, .ref 52]) (σ' := (α4, μ)) (pc' := 76) kX3_copyFrom_68 rfl rfl rf_a0 ?_
  refine ok_Sx (As := [.ref 52, .ref 15]) (st := []) mkX11_copyRow qX3_copyFrom_76 rfl rfl rfl rfl rfl (Nat.le_of_ble_eq_true rfl) (cr_52_15) (fun r1 σ1 hq => ?_)
  obtain ⟨rfl, α5, rfl, a5, b5⟩ := hq
  refine ok_step (ps := []) (L' := [some (.ref 10), some (.ref 47)]) (st' := [.ref 16, .ref 53]) (σ' := (α5, μ)) (pc' := 87) kX3_copyFrom_79 rfl rfl rf_a0 ?_
  refine ok_Sx (As := [.ref 53, .ref 16]) (st := []) mkX11_copyRow qX3_copyFrom_87 rfl rfl rfl rfl rfl (Nat.le_of_ble_eq_true rfl) (cr_53_16) (fun r1 σ1 hq => ?_)
  obtain ⟨rfl, α6, rfl, a6, b6⟩ := hq
  refine ok_step (ps := []) (L' := [some (.ref 10), some (.ref 47)]) (st' := [.ref 17, .ref 54]) (σ' := (α6, μ)) (pc' := 98) kX3_copyFrom_90 rfl rfl rf_a0 ?_
  refine ok_Sx (As := [.ref 54, .ref 17]) (st := []) mkX11_copyRow qX3_copyFrom_98 rfl rfl rfl rfl rfl (Nat.le_of_ble_eq_true rfl) (cr_54_17) (fun r1 σ1 hq => ?_)
  obtain ⟨rfl, α7, rfl, a7, b7⟩ := hq
  refine ok_step (ps := []) (L' := [some (.ref 10), some (.ref 47)]) (st' := [.ref 18, .ref 55]) (σ' := (α7, μ)) (pc' := 109) kX3_copyFrom_101 rfl rfl rf_a0 ?_
  refine ok_Sx (As := [.ref 55, .ref 18]) (st := []) mkX11_copyRow qX3_copyFrom_109 rfl rfl rfl rfl rfl (Nat.le_of_ble_eq_true rfl) (cr_55_18) (fun r1 σ1 hq => ?_)
  obtain ⟨rfl, α8, rfl, a8, b8⟩ := hq
  refine ok_retv eX3_copyFrom_112 rfl ?_
  refine ⟨rfl, _, rfl, fun c i h1 h2 hi => ?_, fun k hk => ?_⟩
  · have hc : c = 9 ∨ c = 10 ∨ c = 11 ∨ c = 12 ∨ c = 13 ∨ c = 14 ∨ c = 15 ∨ c = 16 ∨ c = 17 := by omega
    rcases hc with rfl | rfl | rfl | rfl | rfl | rfl | rfl | rfl | rfl
    · replace hi : i < 3 := hi
      show α8 10 i = α 47 i
      rw [b8 10 (by decide), b7 10 (by decide), b6 10 (by decide), b5 10 (by decide), b4 10 (by decide), b3 10 (by decide), b2 10 (by decide), b1 10 (by decide)]
      have hc : i = 0 ∨ i = 1 ∨ i = 2 := by omega
      rcases hc with rfl | rfl | rfl <;> simp [rf_w_at]
    · replace hi : i < 16 := hi
      show α8 11 i = α 48 i
      rw [b8 11 (by decide), b7 11 (by decide), b6 11 (by decide), b5 11 (by decide), b4 11 (by decide), b3 11 (by decide), b2 11 (by decide), a1 i hi, rf_w_row (by decide), rf_w_row (by decide), rf_w_row (by decide)]
    · replace hi : i < 16 := hi
      show α8 12 i = α 49 i
      rw [b8 12 (by decide), b7 12 (by decide), b6 12 (by decide), b5 12 (by decide), b4 12 (by decide), b3 12 (by decide), a2 i hi, b1 49 (by decide), rf_w_row (by decide), rf_w_row (by decide), rf_w_row (by decide)]
    · replace hi : i < 16 := hi
      show α8 13 i = α 50 i
      rw [b8 13 (by decide), b7 13 (by decide), b6 13 (by decide), b5 13 (by decide), b4 13 (by decide), a3 i hi, b2 50 (by decide), b1 50 (by decide), rf_w_row (by decide), rf_w_row (by decide), rf_w_row (by decide)]
    · replace hi : i < 16 := hi
      show α8 14 i = α 51 i
      rw [b8 14 (by decide), b7 14 (by decide), b6 14 (by decide), b5 14 (by decide), a4 i hi, b3 51 (by decide), b2 51 (by decide), b1 51 (by decide), rf_w_row (by decide), rf_w_row (by decide), rf_w_row (by decide)]
    · replace hi : i < 16 := hi
      show α8 15 i = α 52 i
      rw [b8 15 (by decide), b7 15 (by decide), b6 15 (by decide), a5 i hi, b4 52 (by decide), b3 52 (by decide), b2 52 (by decide), b1 52 (by decide), rf_w_row (by decide), rf_w_row (by decide), rf_w_row (by decide)]
    · replace hi : i < 16 := hi
      show α8 16 i = α 53 i
      rw [b8 16 (by decide), b7 16 (by decide), a6 i hi, b5 53 (by decide), b4 53 (by decide), b3 53 (by decide), b2 53 (by decide), b1 53 (by decide), rf_w_row (by decide), rf_w_row (by decide), rf_w_row (by decide)]
    · replace hi : i < 16 := hi
      show α8 17 i = α 54 i
      rw [b8 17 (by decide), a7 i hi, b6 54 (by decide), b5 54 (by decide), b4 54 (by decide), b3 54 (by decide), b2 54 (by decide), b1 54 (by decide), rf_w_row (by decide), rf_w_row (by decide), rf_w_row (by decide)]
    · replace hi : i < 16 := hi
      show α8 18 i = α 55 i
      rw [a8 i hi, b7 55 (by decide), b6 55 (by decide), b5 55 (by decide), b4 55 (by decide), b3 55 (by decide), b2 55 (by decide), b1 55 (by decide), rf_w_row (by decide), rf_w_row (by decide), rf_w_row (by decide)]
  · rw [b8 k (by omega), b7 k (by omega), b6 k (by omega), b5 k (by omega), b4 k (by omega), b3 k (by omega), b2 k (by omega), b1 k (by omega), rf_w_row (by omega), rf_w_row (by omega), rf_w_row (by omega)]
theorem cr_57_20 : rf_Ok (rf_T Ln xs) MX11_copyRow 1 0 [some (.ref 57), some (.ref 20)] [] (α, μ) (fun r s => r = none ∧ ∃ α' : Nat → Nat → Int32, s = (α', μ) ∧ (∀ i, i < 8 → α' 20 i = α 57 i) ∧ ∀ k, k ≠ 20 → α' k = α k) := by
  refine ok_step (ps := [rf_cp (nI 0) (nI 0) (rf_min (nI 8) (nI 8)) 8 8]) (L' := [some (.ref 57), some (.ref 20)]) (st' := []) (σ' := (rf_r α 20 (va_cpy (α 57) (α 20) ((nI 0).toNatClampNeg) ((nI 0).toNatClampNeg) ((rf_min (nI 8) (nI 8)).toNatClampNeg)), μ)) (pc' := 14) kX11_copyRow_0 rfl rfl (rf_a1 (by decide) rf_a0) ?_
  try rw [(show (rf_min (nI 8) (nI 8)) = nI 8 from rfl)]
  try rw [(show (nI 0).toNatClampNeg = 0 from rf_cl_n rfl (by omega))]
  try rw [(show (nI 8).toNatClampNeg = 8 from rf_cl_n rfl (by omega))]
  refine ok_retv eX11_copyRow_14 rfl ?_
  refine ⟨rfl, _, rfl, fun i hi => ?_, fun k hk => ?_⟩
  · show (if 20 = 20 then va_cpy (α 57) (α 20) 0 0 8 else α 20) i = _
    rw [if_pos rfl]
    unfold va_cpy
    rw [if_pos (by omega)]
    exact congrArg (α 57) (by omega)
  · exact if_neg hk
theorem cr_58_21 : rf_Ok (rf_T Ln xs) MX11_copyRow 1 0 [some (.ref 58), some (.ref 21)] [] (α, μ) (fun r s => r = none ∧ ∃ α' : Nat → Nat → Int32, s = (α', μ) ∧ (∀ i, i < 8 → α' 21 i = α 58 i) ∧ ∀ k, k ≠ 21 → α' k = α k) := by
  refine ok_step (ps := [rf_cp (nI 0) (nI 0) (rf_min (nI 8) (nI 8)) 8 8]) (L' := [some (.ref 58), some (.ref 21)]) (st' := []) (σ' := (rf_r α 21 (va_cpy (α 58) (α 21) ((nI 0).toNatClampNeg) ((nI 0).toNatClampNeg) ((rf_min (nI 8) (nI 8)).toNatClampNeg)), μ)) (pc' := 14) kX11_copyRow_0 rfl rfl (rf_a1 (by decide) rf_a0) ?_
  try rw [(show (rf_min (nI 8) (nI 8)) = nI 8 from rfl)]
  try rw [(show (nI 0).toNatClampNeg = 0 from rf_cl_n rfl (by omega))]
  try rw [(show (nI 8).toNatClampNeg = 8 from rf_cl_n rfl (by omega))]
  refine ok_retv eX11_copyRow_14 rfl ?_
  refine ⟨rfl, _, rfl, fun i hi => ?_, fun k hk => ?_⟩
  · show (if 21 = 21 then va_cpy (α 58) (α 21) 0 0 8 else α 21) i = _
    rw [if_pos rfl]
    unfold va_cpy
    rw [if_pos (by omega)]
    exact congrArg (α 58) (by omega)
  · exact if_neg hk
theorem cw_1_18 : rf_Ok (rf_T Ln xs) MX7_copyFrom 2 0 [some (.ref 19), some (.ref 56)] [] (α, μ) (fun r s => r = none ∧ ∃ α' : Nat → Nat → Int32, s = (α', μ) ∧ Wc 1 38 18 20 α α') := by
  refine ok_step (ps := []) (L' := [some (.ref 19), some (.ref 56)]) (st' := [.ref 20, .ref 57]) (σ' := (rf_w α 19 0 (α 56 0), μ)) (pc' := 16) kX7_copyFrom_0 rfl rfl rf_a0 ?_
  refine ok_Sx (As := [.ref 57, .ref 20]) (st := []) mkX11_copyRow qX7_copyFrom_16 rfl rfl rfl rfl rfl (Nat.le_of_ble_eq_true rfl) (cr_57_20) (fun r1 σ1 hq => ?_)
  obtain ⟨rfl, α1, rfl, a1, b1⟩ := hq
  refine ok_step (ps := []) (L' := [some (.ref 19), some (.ref 56)]) (st' := [.ref 21, .ref 58]) (σ' := (α1, μ)) (pc' := 27) kX7_copyFrom_19 rfl rfl rf_a0 ?_
  refine ok_Sx (As := [.ref 58, .ref 21]) (st := []) mkX11_copyRow qX7_copyFrom_27 rfl rfl rfl rfl rfl (Nat.le_of_ble_eq_true rfl) (cr_58_21) (fun r1 σ1 hq => ?_)
  obtain ⟨rfl, α2, rfl, a2, b2⟩ := hq
  refine ok_retv eX7_copyFrom_30 rfl ?_
  refine ⟨rfl, _, rfl, fun c i h1 h2 hi => ?_, fun k hk => ?_⟩
  · have hc : c = 18 ∨ c = 19 ∨ c = 20 := by omega
    rcases hc with rfl | rfl | rfl
    · replace hi : i < 1 := hi
      show α2 19 i = α 56 i
      rw [b2 19 (by decide), b1 19 (by decide)]
      have hc : i = 0 := by omega
      rcases hc with rfl <;> simp [rf_w_at]
    · replace hi : i < 8 := hi
      show α2 20 i = α 57 i
      rw [b2 20 (by decide), a1 i hi, rf_w_row (by decide)]
    · replace hi : i < 8 := hi
      show α2 21 i = α 58 i
      rw [a2 i hi, b1 58 (by decide), rf_w_row (by decide)]
  · rw [b2 k (by omega), b1 k (by omega), rf_w_row (by omega)]
theorem cr_60_23 : rf_Ok (rf_T Ln xs) MX11_copyRow 1 0 [some (.ref 60), some (.ref 23)] [] (α, μ) (fun r s => r = none ∧ ∃ α' : Nat → Nat → Int32, s = (α', μ) ∧ (∀ i, i < 60 → α' 23 i = α 60 i) ∧ ∀ k, k ≠ 23 → α' k = α k) := by
  refine ok_step (ps := [rf_cp (nI 0) (nI 0) (rf_min (nI 60) (nI 60)) 60 60]) (L' := [some (.ref 60), some (.ref 23)]) (st' := []) (σ' := (rf_r α 23 (va_cpy (α 60) (α 23) ((nI 0).toNatClampNeg) ((nI 0).toNatClampNeg) ((rf_min (nI 60) (nI 60)).toNatClampNeg)), μ)) (pc' := 14) kX11_copyRow_0 rfl rfl (rf_a1 (by decide) rf_a0) ?_
  try rw [(show (rf_min (nI 60) (nI 60)) = nI 60 from rfl)]
  try rw [(show (nI 0).toNatClampNeg = 0 from rf_cl_n rfl (by omega))]
  try rw [(show (nI 60).toNatClampNeg = 60 from rf_cl_n rfl (by omega))]
  refine ok_retv eX11_copyRow_14 rfl ?_
  refine ⟨rfl, _, rfl, fun i hi => ?_, fun k hk => ?_⟩
  · show (if 23 = 23 then va_cpy (α 60) (α 23) 0 0 60 else α 23) i = _
    rw [if_pos rfl]
    unfold va_cpy
    rw [if_pos (by omega)]
    exact congrArg (α 60) (by omega)
  · exact if_neg hk
theorem cr_61_24 : rf_Ok (rf_T Ln xs) MX11_copyRow 1 0 [some (.ref 61), some (.ref 24)] [] (α, μ) (fun r s => r = none ∧ ∃ α' : Nat → Nat → Int32, s = (α', μ) ∧ (∀ i, i < 60 → α' 24 i = α 61 i) ∧ ∀ k, k ≠ 24 → α' k = α k) := by
  refine ok_step (ps := [rf_cp (nI 0) (nI 0) (rf_min (nI 60) (nI 60)) 60 60]) (L' := [some (.ref 61), some (.ref 24)]) (st' := []) (σ' := (rf_r α 24 (va_cpy (α 61) (α 24) ((nI 0).toNatClampNeg) ((nI 0).toNatClampNeg) ((rf_min (nI 60) (nI 60)).toNatClampNeg)), μ)) (pc' := 14) kX11_copyRow_0 rfl rfl (rf_a1 (by decide) rf_a0) ?_
  try rw [(show (rf_min (nI 60) (nI 60)) = nI 60 from rfl)]
  try rw [(show (nI 0).toNatClampNeg = 0 from rf_cl_n rfl (by omega))]
  try rw [(show (nI 60).toNatClampNeg = 60 from rf_cl_n rfl (by omega))]
  refine ok_retv eX11_copyRow_14 rfl ?_
  refine ⟨rfl, _, rfl, fun i hi => ?_, fun k hk => ?_⟩
  · show (if 24 = 24 then va_cpy (α 61) (α 24) 0 0 60 else α 24) i = _
    rw [if_pos rfl]
    unfold va_cpy
    rw [if_pos (by omega)]
    exact congrArg (α 61) (by omega)
  · exact if_neg hk
theorem cr_62_25 : rf_Ok (rf_T Ln xs) MX11_copyRow 1 0 [some (.ref 62), some (.ref 25)] [] (α, μ) (fun r s => r = none ∧ ∃ α' : Nat → Nat → Int32, s = (α', μ) ∧ (∀ i, i < 60 → α' 25 i = α 62 i) ∧ ∀ k, k ≠ 25 → α' k = α k) := by
  refine ok_step (ps := [rf_cp (nI 0) (nI 0) (rf_min (nI 60) (nI 60)) 60 60]) (L' := [some (.ref 62), some (.ref 25)]) (st' := []) (σ' := (rf_r α 25 (va_cpy (α 62) (α 25) ((nI 0).toNatClampNeg) ((nI 0).toNatClampNeg) ((rf_min (nI 60) (nI 60)).toNatClampNeg)), μ)) (pc' := 14) kX11_copyRow_0 rfl rfl (rf_a1 (by decide) rf_a0) ?_
  try rw [(show (rf_min (nI 60) (nI 60)) = nI 60 from rfl)]
  try rw [(show (nI 0).toNatClampNeg = 0 from rf_cl_n rfl (by omega))]
  try rw [(show (nI 60).toNatClampNeg = 60 from rf_cl_n rfl (by omega))]
  refine ok_retv eX11_copyRow_14 rfl ?_
  refine ⟨rfl, _, rfl, fun i hi => ?_, fun k hk => ?_⟩
  · show (if 25 = 25 then va_cpy (α 62) (α 25) 0 0 60 else α 25) i = _
    rw [if_pos rfl]
    unfold va_cpy
    rw [if_pos (by omega)]
    exact congrArg (α 62) (by omega)
  · exact if_neg hk
theorem cw_1_21 : rf_Ok (rf_T Ln xs) MX1_copyFrom 2 0 [some (.ref 22), some (.ref 59)] [] (α, μ) (fun r s => r = none ∧ ∃ α' : Nat → Nat → Int32, s = (α', μ) ∧ Wc 1 38 21 24 α α') := by
  refine ok_step (ps := []) (L' := [some (.ref 22), some (.ref 59)]) (st' := [.ref 23, .ref 60]) (σ' := (rf_w (rf_w (rf_w (rf_w α 22 0 (α 59 0)) 22 1 ((rf_w α 22 0 (α 59 0)) 59 1)) 22 2 ((rf_w (rf_w α 22 0 (α 59 0)) 22 1 ((rf_w α 22 0 (α 59 0)) 59 1)) 59 2)) 22 3 ((rf_w (rf_w (rf_w α 22 0 (α 59 0)) 22 1 ((rf_w α 22 0 (α 59 0)) 59 1)) 22 2 ((rf_w (rf_w α 22 0 (α 59 0)) 22 1 ((rf_w α 22 0 (α 59 0)) 59 1)) 59 2)) 59 3), μ)) (pc' := 40) kX1_copyFrom_0 rfl rfl rf_a0 ?_
  try rw [(show (rf_w α 22 0 (α 59 0)) 59 1 = α 59 1 from by rw [rf_w_at, if_neg (fun h => absurd h.1 (by decide))])]
  try rw [(show (rf_w (rf_w α 22 0 (α 59 0)) 22 1 (α 59 1)) 59 2 = (rf_w α 22 0 (α 59 0)) 59 2 from by rw [rf_w_at, if_neg (fun h => absurd h.1 (by decide))])]
  try rw [(show (rf_w α 22 0 (α 59 0)) 59 2 = α 59 2 from by rw [rf_w_at, if_neg (fun h => absurd h.1 (by decide))])]
  try rw [(show (rf_w (rf_w (rf_w α 22 0 (α 59 0)) 22 1 (α 59 1)) 22 2 (α 59 2)) 59 3 = (rf_w (rf_w α 22 0 (α 59 0)) 22 1 (α 59 1)) 59 3 from by rw [rf_w_at, if_neg (fun h => absurd h.1 (by decide))])]
  try rw [(show (rf_w (rf_w α 22 0 (α 59 0)) 22 1 (α 59 1)) 59 3 = (rf_w α 22 0 (α 59 0)) 59 3 from by rw [rf_w_at, if_neg (fun h => absurd h.1 (by decide))])]
  try rw [(show (rf_w α 22 0 (α 59 0)) 59 3 = α 59 3 from by rw [rf_w_at, if_neg (fun h => absurd h.1 (by decide))])]
  refine ok_Sx (As := [.ref 60, .ref 23]) (st := []) mkX11_copyRow qX1_copyFrom_40 rfl rfl rfl rfl rfl (Nat.le_of_ble_eq_true rfl) (cr_60_23) (fun r1 σ1 hq => ?_)
  obtain ⟨rfl, α1, rfl, a1, b1⟩ := hq
  refine ok_step (ps := []) (L' := [some (.ref 22), some (.ref 59)]) (st' := [.ref 24, .ref 61]) (σ' := (α1, μ)) (pc' := 51) kX1_copyFrom_43 rfl rfl rf_a0 ?_
  refine ok_Sx (As := [.ref 61, .ref 24]) (st := []) mkX11_copyRow qX1_copyFrom_51 rfl rfl rfl rfl rfl (Nat.le_of_ble_eq_true rfl) (cr_61_24) (fun r1 σ1 hq => ?_)
  obtain ⟨rfl, α2, rfl, a2, b2⟩ := hq
  refine ok_step (ps := []) (L' := [some (.ref 22), some (.ref 59)]) (st' := [.ref 25, .ref 62]) (σ' := (α2, μ)) (pc' := 62) kX1_copyFrom_54 rfl rfl rf_a0 ?_
  refine ok_Sx (As := [.ref 62, .ref 25]) (st := []) mkX11_copyRow qX1_copyFrom_62 rfl rfl rfl rfl rfl (Nat.le_of_ble_eq_true rfl) (cr_62_25) (fun r1 σ1 hq => ?_)
  obtain ⟨rfl, α3, rfl, a3, b3⟩ := hq
  refine ok_retv eX1_copyFrom_65 rfl ?_
  refine ⟨rfl, _, rfl, fun c i h1 h2 hi => ?_, fun k hk => ?_⟩
  · have hc : c = 21 ∨ c = 22 ∨ c = 23 ∨ c = 24 := by omega
    rcases hc with rfl | rfl | rfl | rfl
    · replace hi : i < 4 := hi
      show α3 22 i = α 59 i
      rw [b3 22 (by decide), b2 22 (by decide), b1 22 (by decide)]
      have hc : i = 0 ∨ i = 1 ∨ i = 2 ∨ i = 3 := by omega
      rcases hc with rfl | rfl | rfl | rfl <;> simp [rf_w_at]
    · replace hi : i < 60 := hi
      show α3 23 i = α 60 i
      rw [b3 23 (by decide), b2 23 (by decide), a1 i hi, rf_w_row (by decide), rf_w_row (by decide), rf_w_row (by decide), rf_w_row (by decide)]
    · replace hi : i < 60 := hi
      show α3 24 i = α 61 i
      rw [b3 24 (by decide), a2 i hi, b1 61 (by decide), rf_w_row (by decide), rf_w_row (by decide), rf_w_row (by decide), rf_w_row (by decide)]
    · replace hi : i < 60 := hi
      show α3 25 i = α 62 i
      rw [a3 i hi, b2 62 (by decide), b1 62 (by decide), rf_w_row (by decide), rf_w_row (by decide), rf_w_row (by decide), rf_w_row (by decide)]
  · rw [b3 k (by omega), b2 k (by omega), b1 k (by omega), rf_w_row (by omega), rf_w_row (by omega), rf_w_row (by omega), rf_w_row (by omega)]
theorem cr_64_27 : rf_Ok (rf_T Ln xs) MX11_copyRow 1 0 [some (.ref 64), some (.ref 27)] [] (α, μ) (fun r s => r = none ∧ ∃ α' : Nat → Nat → Int32, s = (α', μ) ∧ (∀ i, i < 50 → α' 27 i = α 64 i) ∧ ∀ k, k ≠ 27 → α' k = α k) := by
  refine ok_step (ps := [rf_cp (nI 0) (nI 0) (rf_min (nI 50) (nI 50)) 50 50]) (L' := [some (.ref 64), some (.ref 27)]) (st' := []) (σ' := (rf_r α 27 (va_cpy (α 64) (α 27) ((nI 0).toNatClampNeg) ((nI 0).toNatClampNeg) ((rf_min (nI 50) (nI 50)).toNatClampNeg)), μ)) (pc' := 14) kX11_copyRow_0 rfl rfl (rf_a1 (by decide) rf_a0) ?_
  try rw [(show (rf_min (nI 50) (nI 50)) = nI 50 from rfl)]
  try rw [(show (nI 0).toNatClampNeg = 0 from rf_cl_n rfl (by omega))]
  try rw [(show (nI 50).toNatClampNeg = 50 from rf_cl_n rfl (by omega))]
  refine ok_retv eX11_copyRow_14 rfl ?_
  refine ⟨rfl, _, rfl, fun i hi => ?_, fun k hk => ?_⟩
  · show (if 27 = 27 then va_cpy (α 64) (α 27) 0 0 50 else α 27) i = _
    rw [if_pos rfl]
    unfold va_cpy
    rw [if_pos (by omega)]
    exact congrArg (α 64) (by omega)
  · exact if_neg hk
theorem cr_65_28 : rf_Ok (rf_T Ln xs) MX11_copyRow 1 0 [some (.ref 65), some (.ref 28)] [] (α, μ) (fun r s => r = none ∧ ∃ α' : Nat → Nat → Int32, s = (α', μ) ∧ (∀ i, i < 20 → α' 28 i = α 65 i) ∧ ∀ k, k ≠ 28 → α' k = α k) := by
  refine ok_step (ps := [rf_cp (nI 0) (nI 0) (rf_min (nI 20) (nI 20)) 20 20]) (L' := [some (.ref 65), some (.ref 28)]) (st' := []) (σ' := (rf_r α 28 (va_cpy (α 65) (α 28) ((nI 0).toNatClampNeg) ((nI 0).toNatClampNeg) ((rf_min (nI 20) (nI 20)).toNatClampNeg)), μ)) (pc' := 14) kX11_copyRow_0 rfl rfl (rf_a1 (by decide) rf_a0) ?_
  try rw [(show (rf_min (nI 20) (nI 20)) = nI 20 from rfl)]
  try rw [(show (nI 0).toNatClampNeg = 0 from rf_cl_n rfl (by omega))]
  try rw [(show (nI 20).toNatClampNeg = 20 from rf_cl_n rfl (by omega))]
  refine ok_retv eX11_copyRow_14 rfl ?_
  refine ⟨rfl, _, rfl, fun i hi => ?_, fun k hk => ?_⟩
  · show (if 28 = 28 then va_cpy (α 65) (α 28) 0 0 20 else α 28) i = _
    rw [if_pos rfl]
    unfold va_cpy
    rw [if_pos (by omega)]
    exact congrArg (α 65) (by omega)
  · exact if_neg hk
theorem cw_1_25 : rf_Ok (rf_T Ln xs) MX0_copyFrom 2 0 [some (.ref 26), some (.ref 63)] [] (α, μ) (fun r s => r = none ∧ ∃ α' : Nat → Nat → Int32, s = (α', μ) ∧ Wc 1 38 25 27 α α') := by
  refine ok_step (ps := []) (L' := [some (.ref 26), some (.ref 63)]) (st' := [.ref 27, .ref 64]) (σ' := (rf_w (rf_w α 26 0 (α 63 0)) 26 1 ((rf_w α 26 0 (α 63 0)) 63 1), μ)) (pc' := 24) kX0_copyFrom_0 rfl rfl rf_a0 ?_
  try rw [(show (rf_w α 26 0 (α 63 0)) 63 1 = α 63 1 from by rw [rf_w_at, if_neg (fun h => absurd h.1 (by decide))])]
  refine ok_Sx (As := [.ref 64, .ref 27]) (st := []) mkX11_copyRow qX0_copyFrom_24 rfl rfl rfl rfl rfl (Nat.le_of_ble_eq_true rfl) (cr_64_27) (fun r1 σ1 hq => ?_)
  obtain ⟨rfl, α1, rfl, a1, b1⟩ := hq
  refine ok_step (ps := []) (L' := [some (.ref 26), some (.ref 63)]) (st' := [.ref 28, .ref 65]) (σ' := (α1, μ)) (pc' := 35) kX0_copyFrom_27 rfl rfl rf_a0 ?_
  refine ok_Sx (As := [.ref 65, .ref 28]) (st := []) mkX11_copyRow qX0_copyFrom_35 rfl rfl rfl rfl rfl (Nat.le_of_ble_eq_true rfl) (cr_65_28) (fun r1 σ1 hq => ?_)
  obtain ⟨rfl, α2, rfl, a2, b2⟩ := hq
  refine ok_retv eX0_copyFrom_38 rfl ?_
  refine ⟨rfl, _, rfl, fun c i h1 h2 hi => ?_, fun k hk => ?_⟩
  · have hc : c = 25 ∨ c = 26 ∨ c = 27 := by omega
    rcases hc with rfl | rfl | rfl
    · replace hi : i < 2 := hi
      show α2 26 i = α 63 i
      rw [b2 26 (by decide), b1 26 (by decide)]
      have hc : i = 0 ∨ i = 1 := by omega
      rcases hc with rfl | rfl <;> simp [rf_w_at]
    · replace hi : i < 50 := hi
      show α2 27 i = α 64 i
      rw [b2 27 (by decide), a1 i hi, rf_w_row (by decide), rf_w_row (by decide)]
    · replace hi : i < 20 := hi
      show α2 28 i = α 65 i
      rw [a2 i hi, b1 65 (by decide), rf_w_row (by decide), rf_w_row (by decide)]
  · rw [b2 k (by omega), b1 k (by omega), rf_w_row (by omega), rf_w_row (by omega)]
theorem cr_67_30 : rf_Ok (rf_T Ln xs) MX11_copyRow 1 0 [some (.ref 67), some (.ref 30)] [] (α, μ) (fun r s => r = none ∧ ∃ α' : Nat → Nat → Int32, s = (α', μ) ∧ (∀ i, i < 50 → α' 30 i = α 67 i) ∧ ∀ k, k ≠ 30 → α' k = α k) := by
  refine ok_step (ps := [rf_cp (nI 0) (nI 0) (rf_min (nI 50) (nI 50)) 50 50]) (L' := [some (.ref 67), some (.ref 30)]) (st' := []) (σ' := (rf_r α 30 (va_cpy (α 67) (α 30) ((nI 0).toNatClampNeg) ((nI 0).toNatClampNeg) ((rf_min (nI 50) (nI 50)).toNatClampNeg)), μ)) (pc' := 14) kX11_copyRow_0 rfl rfl (rf_a1 (by decide) rf_a0) ?_
  try rw [(show (rf_min (nI 50) (nI 50)) = nI 50 from rfl)]
  try rw [(show (nI 0).toNatClampNeg = 0 from rf_cl_n rfl (by omega))]
  try rw [(show (nI 50).toNatClampNeg = 50 from rf_cl_n rfl (by omega))]
  refine ok_retv eX11_copyRow_14 rfl ?_
  refine ⟨rfl, _, rfl, fun i hi => ?_, fun k hk => ?_⟩
  · show (if 30 = 30 then va_cpy (α 67) (α 30) 0 0 50 else α 30) i = _
    rw [if_pos rfl]
    unfold va_cpy
    rw [if_pos (by omega)]
    exact congrArg (α 67) (by omega)
  · exact if_neg hk
theorem cw_1_28 : rf_Ok (rf_T Ln xs) MX8_copyFrom 2 0 [some (.ref 29), some (.ref 66)] [] (α, μ) (fun r s => r = none ∧ ∃ α' : Nat → Nat → Int32, s = (α', μ) ∧ Wc 1 38 28 29 α α') := by
  refine ok_step (ps := []) (L' := [some (.ref 29), some (.ref 66)]) (st' := [.ref 30, .ref 67]) (σ' := (rf_w α 29 0 (α 66 0), μ)) (pc' := 16) kX8_copyFrom_0 rfl rfl rf_a0 ?_
  refine ok_Sx (As := [.ref 67, .ref 30]) (st := []) mkX11_copyRow qX8_copyFrom_16 rfl rfl rfl rfl rfl (Nat.le_of_ble_eq_true rfl) (cr_67_30) (fun r1 σ1 hq => ?_)
  obtain ⟨rfl, α1, rfl, a1, b1⟩ := hq
  refine ok_retv eX8_copyFrom_19 rfl ?_
  refine ⟨rfl, _, rfl, fun c i h1 h2 hi => ?_, fun k hk => ?_⟩
  · have hc : c = 28 ∨ c = 29 := by omega
    rcases hc with rfl | rfl
    · replace hi : i < 1 := hi
      show α1 29 i = α 66 i
      rw [b1 29 (by decide)]
      have hc : i = 0 := by omega
      rcases hc with rfl <;> simp [rf_w_at]
    · replace hi : i < 50 := hi
      show α1 30 i = α 67 i
      rw [a1 i hi, rf_w_row (by decide)]
  · rw [b1 k (by omega), rf_w_row (by omega)]
theorem cr_70_33 : rf_Ok (rf_T Ln xs) MX11_copyRow 1 0 [some (.ref 70), some (.ref 33)] [] (α, μ) (fun r s => r = none ∧ ∃ α' : Nat → Nat → Int32, s = (α', μ) ∧ (∀ i, i < 50 → α' 33 i = α 70 i) ∧ ∀ k, k ≠ 33 → α' k = α k) := by
  refine ok_step (ps := [rf_cp (nI 0) (nI 0) (rf_min (nI 50) (nI 50)) 50 50]) (L' := [some (.ref 70), some (.ref 33)]) (st' := []) (σ' := (rf_r α 33 (va_cpy (α 70) (α 33) ((nI 0).toNatClampNeg) ((nI 0).toNatClampNeg) ((rf_min (nI 50) (nI 50)).toNatClampNeg)), μ)) (pc' := 14) kX11_copyRow_0 rfl rfl (rf_a1 (by decide) rf_a0) ?_
  try rw [(show (rf_min (nI 50) (nI 50)) = nI 50 from rfl)]
  try rw [(show (nI 0).toNatClampNeg = 0 from rf_cl_n rfl (by omega))]
  try rw [(show (nI 50).toNatClampNeg = 50 from rf_cl_n rfl (by omega))]
  refine ok_retv eX11_copyRow_14 rfl ?_
  refine ⟨rfl, _, rfl, fun i hi => ?_, fun k hk => ?_⟩
  · show (if 33 = 33 then va_cpy (α 70) (α 33) 0 0 50 else α 33) i = _
    rw [if_pos rfl]
    unfold va_cpy
    rw [if_pos (by omega)]
    exact congrArg (α 70) (by omega)
  · exact if_neg hk
theorem cw_1_31 : rf_Ok (rf_T Ln xs) MX8_copyFrom 2 0 [some (.ref 32), some (.ref 69)] [] (α, μ) (fun r s => r = none ∧ ∃ α' : Nat → Nat → Int32, s = (α', μ) ∧ Wc 1 38 31 32 α α') := by
  refine ok_step (ps := []) (L' := [some (.ref 32), some (.ref 69)]) (st' := [.ref 33, .ref 70]) (σ' := (rf_w α 32 0 (α 69 0), μ)) (pc' := 16) kX8_copyFrom_0 rfl rfl rf_a0 ?_
  refine ok_Sx (As := [.ref 70, .ref 33]) (st := []) mkX11_copyRow qX8_copyFrom_16 rfl rfl rfl rfl rfl (Nat.le_of_ble_eq_true rfl) (cr_70_33) (fun r1 σ1 hq => ?_)
  obtain ⟨rfl, α1, rfl, a1, b1⟩ := hq
  refine ok_retv eX8_copyFrom_19 rfl ?_
  refine ⟨rfl, _, rfl, fun c i h1 h2 hi => ?_, fun k hk => ?_⟩
  · have hc : c = 31 ∨ c = 32 := by omega
    rcases hc with rfl | rfl
    · replace hi : i < 1 := hi
      show α1 32 i = α 69 i
      rw [b1 32 (by decide)]
      have hc : i = 0 := by omega
      rcases hc with rfl <;> simp [rf_w_at]
    · replace hi : i < 50 := hi
      show α1 33 i = α 70 i
      rw [a1 i hi, rf_w_row (by decide)]
  · rw [b1 k (by omega), rf_w_row (by omega)]
theorem cw_1 : rf_Ok (rf_T Ln xs) MX10_copyFrom 3 0 [some (.ref 1), some (.ref 38)] [] (α, μ) (fun r s => r = none ∧ ∃ α' : Nat → Nat → Int32, s = (α', μ) ∧ Wc 1 38 1 32 α α') := by
  refine ok_step (ps := []) (L' := [some (.ref 1), some (.ref 38)]) (st' := [.ref 39, .ref 2]) (σ' := (α, μ)) (pc' := 8) kX10_copyFrom_0 rfl rfl rf_a0 ?_
  refine ok_Vx (As := [.ref 39]) (b := 2) (st := []) mkX4_copyFrom qX10_copyFrom_8 rfl (rc_2) rfl rfl rfl rfl (Nat.le_of_ble_eq_true rfl) (cw_1_1) (fun r1 σ1 hq => ?_)
  obtain ⟨rfl, α1, rfl, a1, b1⟩ := hq
  refine ok_step (ps := []) (L' := [some (.ref 1), some (.ref 38)]) (st' := [.ref 47, .ref 10]) (σ' := (α1, μ)) (pc' := 19) kX10_copyFrom_11 rfl rfl rf_a0 ?_
  refine ok_Vx (As := [.ref 47]) (b := 10) (st := []) mkX3_copyFrom qX10_copyFrom_19 rfl (rc_10) rfl rfl rfl rfl (Nat.le_of_ble_eq_true rfl) (cw_1_9) (fun r1 σ1 hq => ?_)
  obtain ⟨rfl, α2, rfl, a2, b2⟩ := hq
  refine ok_step (ps := []) (L' := [some (.ref 1), some (.ref 38)]) (st' := [.ref 56, .ref 19]) (σ' := (α2, μ)) (pc' := 30) kX10_copyFrom_22 rfl rfl rf_a0 ?_
  refine ok_Vx (As := [.ref 56]) (b := 19) (st := []) mkX7_copyFrom qX10_copyFrom_30 rfl (rc_19) rfl rfl rfl rfl (Nat.le_of_ble_eq_true rfl) (cw_1_18) (fun r1 σ1 hq => ?_)
  obtain ⟨rfl, α3, rfl, a3, b3⟩ := hq
  refine ok_step (ps := []) (L' := [some (.ref 1), some (.ref 38)]) (st' := [.ref 59, .ref 22]) (σ' := (α3, μ)) (pc' := 41) kX10_copyFrom_33 rfl rfl rf_a0 ?_
  refine ok_Vx (As := [.ref 59]) (b := 22) (st := []) mkX1_copyFrom qX10_copyFrom_41 rfl (rc_22) rfl rfl rfl rfl (Nat.le_of_ble_eq_true rfl) (cw_1_21) (fun r1 σ1 hq => ?_)
  obtain ⟨rfl, α4, rfl, a4, b4⟩ := hq
  refine ok_step (ps := []) (L' := [some (.ref 1), some (.ref 38)]) (st' := [.ref 63, .ref 26]) (σ' := (α4, μ)) (pc' := 52) kX10_copyFrom_44 rfl rfl rf_a0 ?_
  refine ok_Vx (As := [.ref 63]) (b := 26) (st := []) mkX0_copyFrom qX10_copyFrom_52 rfl (rc_26) rfl rfl rfl rfl (Nat.le_of_ble_eq_true rfl) (cw_1_25) (fun r1 σ1 hq => ?_)
  obtain ⟨rfl, α5, rfl, a5, b5⟩ := hq
  refine ok_step (ps := []) (L' := [some (.ref 1), some (.ref 38)]) (st' := [.ref 66, .ref 29]) (σ' := (α5, μ)) (pc' := 63) kX10_copyFrom_55 rfl rfl rf_a0 ?_
  refine ok_Vx (As := [.ref 66]) (b := 29) (st := []) mkX8_copyFrom qX10_copyFrom_63 rfl (rc_29) rfl rfl rfl rfl (Nat.le_of_ble_eq_true rfl) (cw_1_28) (fun r1 σ1 hq => ?_)
  obtain ⟨rfl, α6, rfl, a6, b6⟩ := hq
  refine ok_step (ps := []) (L' := [some (.ref 1), some (.ref 38)]) (st' := [.ref 69, .ref 32]) (σ' := (α6, μ)) (pc' := 74) kX10_copyFrom_66 rfl rfl rf_a0 ?_
  refine ok_Vx (As := [.ref 69]) (b := 32) (st := []) mkX8_copyFrom qX10_copyFrom_74 rfl (rc_32) rfl rfl rfl rfl (Nat.le_of_ble_eq_true rfl) (cw_1_31) (fun r1 σ1 hq => ?_)
  obtain ⟨rfl, α7, rfl, a7, b7⟩ := hq
  refine ok_retv eX10_copyFrom_77 rfl ?_
  refine ⟨rfl, _, rfl, fun c i h1 h2 hi => ?_, fun k hk => ?_⟩
  · have hc : (1 ≤ c ∧ c ≤ 8) ∨ (9 ≤ c ∧ c ≤ 17) ∨ (18 ≤ c ∧ c ≤ 20) ∨ (21 ≤ c ∧ c ≤ 24) ∨ (25 ≤ c ∧ c ≤ 27) ∨ (28 ≤ c ∧ c ≤ 29) ∨ (31 ≤ c ∧ c ≤ 32) ∨ c = 30 := by omega
    rcases hc with hc | hc | hc | hc | hc | hc | hc | rfl
    · rw [b7 _ (by omega), b6 _ (by omega), b5 _ (by omega), b4 _ (by omega), b3 _ (by omega), b2 _ (by omega), a1 c i (by omega) (by omega) hi]
    · rw [b7 _ (by omega), b6 _ (by omega), b5 _ (by omega), b4 _ (by omega), b3 _ (by omega), a2 c i (by omega) (by omega) hi, b1 _ (by omega)]
    · rw [b7 _ (by omega), b6 _ (by omega), b5 _ (by omega), b4 _ (by omega), a3 c i (by omega) (by omega) hi, b2 _ (by omega), b1 _ (by omega)]
    · rw [b7 _ (by omega), b6 _ (by omega), b5 _ (by omega), a4 c i (by omega) (by omega) hi, b3 _ (by omega), b2 _ (by omega), b1 _ (by omega)]
    · rw [b7 _ (by omega), b6 _ (by omega), a5 c i (by omega) (by omega) hi, b4 _ (by omega), b3 _ (by omega), b2 _ (by omega), b1 _ (by omega)]
    · rw [b7 _ (by omega), a6 c i (by omega) (by omega) hi, b5 _ (by omega), b4 _ (by omega), b3 _ (by omega), b2 _ (by omega), b1 _ (by omega)]
    · rw [a7 c i (by omega) (by omega) hi, b6 _ (by omega), b5 _ (by omega), b4 _ (by omega), b3 _ (by omega), b2 _ (by omega), b1 _ (by omega)]
    · exact absurd hi (Nat.not_lt_zero i)
  · rw [b7 k (by omega), b6 k (by omega), b5 k (by omega), b4 k (by omega), b3 k (by omega), b2 k (by omega), b1 k (by omega)]
end H37
