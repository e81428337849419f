section H39
variable {Ln : Nat} {xs : Nat → Int32} {α μ : Nat → Nat → Int32}
theorem fill81_l {v : Int32}  : ∀ (j i : Nat), i + j = 8 → rf_Ok (rf_T Ln xs) MJ7_fill_53178 1 5 [some (.ref 81), some (.int v), some (.int (nI i)), some (.int (nI 8))] [] (rf_r α 81 (fl 0 i v (α 81)), μ) (fun r s => r = none ∧ s = (rf_r α 81 (fl 0 8 v (α 81)), μ)) := by
  intro j
  induction j with
  | zero =>
    intro i hj
    have hj : i = 8 := by omega
    refine ok_step (ps := []) (L' := [some (.ref 81), some (.int v), some (.int (nI i)), some (.int (nI 8))]) (st' := [.int (nI 8), .int (nI i)]) (σ' := (rf_r α 81 (fl 0 i v (α 81)), μ)) (pc' := 7) kJ7_fill_53178_5 rfl rfl rf_a0 ?_
    refine ok_icmp_ge bJ7_fill_53178_7 (fun _ => ?_) (fun h7 => absurd (nI_le (by omega) (by omega)) h7)
    refine ok_retv eJ7_fill_53178_20 rfl ?_
    exact ⟨rfl, by rw [hj]⟩
  | succ j ih =>
    intro i hj
    refine ok_step (ps := []) (L' := [some (.ref 81), some (.int v), some (.int (nI i)), some (.int (nI 8))]) (st' := [.int (nI 8), .int (nI i)]) (σ' := (rf_r α 81 (fl 0 i v (α 81)), μ)) (pc' := 7) kJ7_fill_53178_5 rfl rfl rf_a0 ?_
    refine ok_icmp_ge bJ7_fill_53178_7 (fun h7 => absurd h7 (nI_ge (by omega) (by omega))) (fun _ => ?_)
    refine ok_step (ps := [rf_in (nI i) 8]) (L' := [some (.ref 81), some (.int v), some (.int ((nI i) + (nI 1))), some (.int (nI 8))]) (st' := []) (σ' := (rf_w (rf_r α 81 (fl 0 i v (α 81))) 81 ((nI i).toNatClampNeg) v, μ)) (pc' := 17) kJ7_fill_53178_10 rfl rfl (rf_a1 (rf_in_n (a := i) rfl (by omega)) rf_a0) ?_
    try rw [(show (nI i).toNatClampNeg = i from rf_cl_n rfl (by omega))]
    try rw [(show ((nI i) + (nI 1)) = nI (i + 1) from nI_add _ _)]
    refine ok_goto bJ7_fill_53178_17 ?_
    rw [rfw_fl (by omega)]
    exact ih (i + 1) (by omega)
theorem fill81 {v : Int32} : rf_At (rf_T Ln xs) MJ7_fill_53178 1 0 ([some (.ref 81), some (.int v), none, none], [], 108, (α, μ)) none 108 (rf_r α 81 (fl 0 8 v (α 81)), μ) := by
  refine rf_pa ?_
  refine ok_step (ps := []) (L' := [some (.ref 81), some (.int v), some (.int (nI 0)), some (.int (nI 8))]) (st' := []) (σ' := (α, μ)) (pc' := 5) kJ7_fill_53178_0 rfl rfl rf_a0 ?_
  have hl := fill81_l (Ln := Ln) (xs := xs) (α := α) (μ := μ) (v := v) 8 0 (by omega)
  rw [rfr_0] at hl
  exact hl
theorem fill82_l {v : Int32}  : ∀ (j i : Nat), i + j = 72 → rf_Ok (rf_T Ln xs) MJ7_fill_53178 1 5 [some (.ref 82), some (.int v), some (.int (nI i)), some (.int (nI 72))] [] (rf_r α 82 (fl 0 i v (α 82)), μ) (fun r s => r = none ∧ s = (rf_r α 82 (fl 0 72 v (α 82)), μ)) := by
  intro j
  induction j with
  | zero =>
    intro i hj
    have hj : i = 72 := by omega
    refine ok_step (ps := []) (L' := [some (.ref 82), some (.int v), some (.int (nI i)), some (.int (nI 72))]) (st' := [.int (nI 72), .int (nI i)]) (σ' := (rf_r α 82 (fl 0 i v (α 82)), μ)) (pc' := 7) kJ7_fill_53178_5 rfl rfl rf_a0 ?_
    refine ok_icmp_ge bJ7_fill_53178_7 (fun _ => ?_) (fun h7 => absurd (nI_le (by omega) (by omega)) h7)
    refine ok_retv eJ7_fill_53178_20 rfl ?_
    exact ⟨rfl, by rw [hj]⟩
  | succ j ih =>
    intro i hj
    refine ok_step (ps := []) (L' := [some (.ref 82), some (.int v), some (.int (nI i)), some (.int (nI 72))]) (st' := [.int (nI 72), .int (nI i)]) (σ' := (rf_r α 82 (fl 0 i v (α 82)), μ)) (pc' := 7) kJ7_fill_53178_5 rfl rfl rf_a0 ?_
    refine ok_icmp_ge bJ7_fill_53178_7 (fun h7 => absurd h7 (nI_ge (by omega) (by omega))) (fun _ => ?_)
    refine ok_step (ps := [rf_in (nI i) 72]) (L' := [some (.ref 82), some (.int v), some (.int ((nI i) + (nI 1))), some (.int (nI 72))]) (st' := []) (σ' := (rf_w (rf_r α 82 (fl 0 i v (α 82))) 82 ((nI i).toNatClampNeg) v, μ)) (pc' := 17) kJ7_fill_53178_10 rfl rfl (rf_a1 (rf_in_n (a := i) rfl (by omega)) rf_a0) ?_
    try rw [(show (nI i).toNatClampNeg = i from rf_cl_n rfl (by omega))]
    try rw [(show ((nI i) + (nI 1)) = nI (i + 1) from nI_add _ _)]
    refine ok_goto bJ7_fill_53178_17 ?_
    rw [rfw_fl (by omega)]
    exact ih (i + 1) (by omega)
theorem fill82 {v : Int32} : rf_At (rf_T Ln xs) MJ7_fill_53178 1 0 ([some (.ref 82), some (.int v), none, none], [], 108, (α, μ)) none 108 (rf_r α 82 (fl 0 72 v (α 82)), μ) := by
  refine rf_pa ?_
  refine ok_step (ps := []) (L' := [some (.ref 82), some (.int v), some (.int (nI 0)), some (.int (nI 72))]) (st' := []) (σ' := (α, μ)) (pc' := 5) kJ7_fill_53178_0 rfl rfl rf_a0 ?_
  have hl := fill82_l (Ln := Ln) (xs := xs) (α := α) (μ := μ) (v := v) 72 0 (by omega)
  rw [rfr_0] at hl
  exact hl
end H39
