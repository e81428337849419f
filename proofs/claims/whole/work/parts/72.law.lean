theorem rk_i {ty : FieldType} {r : Option Value} (h : rk (some ty) r = true) (hl : ty ≠ .long) : ∃ v, r = some (.int v) := by
  unfold rk at h
  split at h
  · exact absurd (by rename_i e; injection e) hl
  · cases h
  · exact ⟨_, rfl⟩
  · cases h
theorem rk_l {r : Option Value} (h : rk (some .long) r = true) : ∃ v, r = some (.long v) := by
  cases r with
  | none => cases h
  | some v => cases v <;> first | exact ⟨_, rfl⟩ | cases h
theorem law_go {L i : Nat} (h : ¬ nI L - nI 6 < nI i) (hL : L ≤ 384) (hi : i ≤ 1000) : i + 6 ≤ L := by
  rcases Nat.lt_or_ge L (i + 6) with h1 | h1
  · refine absurd ?_ h
    rw [Int32.lt_iff_toInt_lt, nI_toInt (by omega)]
    rcases Nat.lt_or_ge L 6 with h2 | h2
    · rw [Int32.toInt_sub, nI_toInt (by omega), nI_toInt (by omega), Int.bmod_def]
      omega
    · rw [pk_sub h2, nI_toInt (by omega)]
      omega
  · exact h1
theorem law_end {L i : Nat} (h : L ≤ i) (hL : L ≤ 384) (hi : i ≤ 1000) : nI L - nI 6 < nI i := by
  by_cases e : nI L - nI 6 < nI i
  · exact e
  · have := law_go e hL hi
    omega
section H72
variable {Ln : Nat} {xs : Nat → Int32}
theorem law_l (hL : Ln ≤ 384) : ∀ (j z : Nat) (α μ : Nat → Nat → Int32), Ln ≤ z + j → z ≤ Ln + 6 → J α μ → rf_Ok (rf_T Ln xs) ML_law 62 18 [some (.ref 1000), some (.ref 0), some (.ref 94), some (.int (nI z))] [] (α, μ) (fun r _ => r = some (.int (nI 1))) := by
  intro j
  induction j with
  | zero =>
    intro z α μ h1 h2 hJ
    refine ok_step (ps := []) (L' := [some (.ref 1000), some (.ref 0), some (.ref 94), some (.int (nI z))]) (st' := [.int ((nI Ln) - (nI 6)), .int (nI z)]) (σ' := (α, μ)) (pc' := 24) kL_law_18 rfl rfl rf_a0 ?_
    refine ok_icmp_gt bL_law_24 (fun _ => ?_) (fun h24 => absurd (law_end (by omega) hL (by omega)) h24)
    refine ok_step (ps := []) (L' := [some (.ref 1000), some (.ref 0), some (.ref 94), some (.int (nI z))]) (st' := [.int (nI 1)]) (σ' := (α, μ)) (pc' := 1756) kL_law_1755 rfl rfl rf_a0 ?_
    refine ok_retz eL_law_1756 rfl (Or.inr rfl) ?_
    rfl
  | succ j ih =>
    intro z α μ h1 h2 hJ
    refine ok_step (ps := []) (L' := [some (.ref 1000), some (.ref 0), some (.ref 94), some (.int (nI z))]) (st' := [.int ((nI Ln) - (nI 6)), .int (nI z)]) (σ' := (α, μ)) (pc' := 24) kL_law_18 rfl rfl rf_a0 ?_
    refine ok_icmp_gt bL_law_24 (fun h24 => ?_) (fun h24 => ?_)
    · refine ok_step (ps := []) (L' := [some (.ref 1000), some (.ref 0), some (.ref 94), some (.int (nI z))]) (st' := [.int (nI 1)]) (σ' := (α, μ)) (pc' := 1756) kL_law_1755 rfl rfl rf_a0 ?_
      refine ok_retz eL_law_1756 rfl (Or.inr rfl) ?_
      rfl
    · have h6 := law_go h24 hL (by omega)
      refine ok_step (ps := [rf_in (nI z) Ln]) (L' := [some (.ref 1000), some (.ref 0), some (.ref 94), some (.int (nI z))]) (st' := [.int ((xs ((nI z).toNatClampNeg)) &&& (nI 63))]) (σ' := (α, μ)) (pc' := 33) kL_law_27 rfl rfl (rf_a1 (rf_in_n (a := z) rfl (by omega) (Nat.ble_eq_true_of_le (by omega))) rf_a0) ?_
      try rw [(show (nI z).toNatClampNeg = z from rf_cl_n rfl (by omega))]
      refine ok_table bL_law_33 (fun h33 => ?_) (fun i t ht h33 => ?_)
      · refine ok_step (ps := []) (L' := [some (.ref 1000), some (.ref 0), some (.ref 94), some (.int ((nI z) + (nI 6)))]) (st' := []) (σ' := (α, μ)) (pc' := 1752) kL_law_1749 rfl rfl rf_a0 ?_
        try rw [(show ((nI z) + (nI 6)) = nI (z + 6) from nI_add _ _)]
        refine ok_goto bL_law_1752 ?_
        exact ih (z + 6) α μ (by omega) (by omega) hJ
      · match i, ht, h33 with
        | 0, ht, h33 =>
          cases ht
          refine ok_step (ps := []) (L' := [some (.ref 1000), some (.ref 0), some (.ref 94), some (.int (nI z))]) (st' := [.ref 0]) (σ' := (α, μ)) (pc' := 237) kL_law_236 rfl rfl rf_a0 ?_
          refine ok_Vx (As := []) (b := 0) (st := []) mkX11_station qL_law_237 rfl (rc_0) rfl rfl rfl rfl (Nat.le_of_ble_eq_true rfl) (op_station hJ) (fun r1 σ1 hq => ?_)
          obtain ⟨hk, α1, rfl, hm⟩ := hq
          obtain ⟨v, rfl⟩ := rk_i hk (by decide)
          refine ok_step (ps := []) (L' := [some (.ref 1000), some (.ref 0), some (.ref 94), some (.int (nI z))]) (st' := [.ref 94, .int v]) (σ' := (α1, μ)) (pc' := 241) kL_law_240 rfl rfl rf_a0 ?_
          refine ok_Vx (As := []) (b := 94) (st := [.int v]) mkX12_station qL_law_241 rfl (rc_94) rfl rfl rfl rfl (Nat.le_of_ble_eq_true rfl) (hm) (fun r1 σ1 hq => ?_)
          obtain ⟨rfl, μ1, rfl, hJ1⟩ := hq
          refine ok_icmp_eq bL_law_244 (fun _ => ?_) (fun h244 => absurd (rfl) h244)
          refine ok_step (ps := []) (L' := [some (.ref 1000), some (.ref 0), some (.ref 94), some (.int ((nI z) + (nI 6)))]) (st' := []) (σ' := (α1, μ1)) (pc' := 1752) kL_law_1749 rfl rfl rf_a0 ?_
          try rw [(show ((nI z) + (nI 6)) = nI (z + 6) from nI_add _ _)]
          refine ok_goto bL_law_1752 ?_
          exact ih (z + 6) α1 μ1 (by omega) (by omega) hJ1
        | 1, ht, h33 =>
          cases ht
          refine ok_step (ps := [rf_in ((nI z) + (nI 1)) Ln, rf_in ((nI z) + (nI 2)) Ln, rf_in ((nI z) + (nI 3)) Ln]) (L' := [some (.ref 1000), some (.ref 0), some (.ref 94), some (.int (nI z))]) (st' := [.int (xs (((nI z) + (nI 3)).toNatClampNeg)), .int (xs (((nI z) + (nI 2)).toNatClampNeg)), .int (xs (((nI z) + (nI 1)).toNatClampNeg)), .ref 0]) (σ' := (α, μ)) (pc' := 265) kL_law_249 rfl rfl (rf_a1 (rf_in_n (a := z + 1) (nI_add _ _) (by omega) (Nat.ble_eq_true_of_le (by omega))) (rf_a1 (rf_in_n (a := z + 2) (nI_add _ _) (by omega) (Nat.ble_eq_true_of_le (by omega))) (rf_a1 (rf_in_n (a := z + 3) (nI_add _ _) (by omega) (Nat.ble_eq_true_of_le (by omega))) rf_a0))) ?_
          try rw [(show ((nI z) + (nI 1)) = nI (1 + z) from rf_eq (rf_nadd (x := nI z) (y := nI 1) rfl rfl) (by omega))]
          try rw [(show (nI (1 + z)).toNatClampNeg = (1 + z) from rf_cl_n rfl (by omega))]
          try rw [(show ((nI z) + (nI 2)) = nI (2 + z) from rf_eq (rf_nadd (x := nI z) (y := nI 2) rfl rfl) (by omega))]
          try rw [(show (nI (2 + z)).toNatClampNeg = (2 + z) from rf_cl_n rfl (by omega))]
          try rw [(show ((nI z) + (nI 3)) = nI (3 + z) from rf_eq (rf_nadd (x := nI z) (y := nI 3) rfl rfl) (by omega))]
          try rw [(show (nI (3 + z)).toNatClampNeg = (3 + z) from rf_cl_n rfl (by omega))]
          refine ok_Vx (As := [.int (xs (1 + z)), .int (xs (2 + z)), .int (xs (3 + z))]) (b := 0) (st := []) mkX11_walk qL_law_265 rfl (rc_0) rfl rfl rfl rfl (Nat.le_of_ble_eq_true rfl) (op_walk hJ) (fun r1 σ1 hq => ?_)
          obtain ⟨hk, α1, rfl, hm⟩ := hq
          obtain ⟨v, rfl⟩ := rk_i hk (by decide)
          refine ok_step (ps := [rf_in ((nI z) + (nI 1)) Ln, rf_in ((nI z) + (nI 2)) Ln, rf_in ((nI z) + (nI 3)) Ln]) (L' := [some (.ref 1000), some (.ref 0), some (.ref 94), some (.int (nI z))]) (st' := [.int (xs (((nI z) + (nI 3)).toNatClampNeg)), .int (xs (((nI z) + (nI 2)).toNatClampNeg)), .int (xs (((nI z) + (nI 1)).toNatClampNeg)), .ref 94, .int v]) (σ' := (α1, μ)) (pc' := 284) kL_law_268 rfl rfl (rf_a1 (rf_in_n (a := z + 1) (nI_add _ _) (by omega) (Nat.ble_eq_true_of_le (by omega))) (rf_a1 (rf_in_n (a := z + 2) (nI_add _ _) (by omega) (Nat.ble_eq_true_of_le (by omega))) (rf_a1 (rf_in_n (a := z + 3) (nI_add _ _) (by omega) (Nat.ble_eq_true_of_le (by omega))) rf_a0))) ?_
          try rw [(show ((nI z) + (nI 1)) = nI (1 + z) from rf_eq (rf_nadd (x := nI z) (y := nI 1) rfl rfl) (by omega))]
          try rw [(show (nI (1 + z)).toNatClampNeg = (1 + z) from rf_cl_n rfl (by omega))]
          try rw [(show ((nI z) + (nI 2)) = nI (2 + z) from rf_eq (rf_nadd (x := nI z) (y := nI 2) rfl rfl) (by omega))]
          try rw [(show (nI (2 + z)).toNatClampNeg = (2 + z) from rf_cl_n rfl (by omega))]
          try rw [(show ((nI z) + (nI 3)) = nI (3 + z) from rf_eq (rf_nadd (x := nI z) (y := nI 3) rfl rfl) (by omega))]
          try rw [(show (nI (3 + z)).toNatClampNeg = (3 + z) from rf_cl_n rfl (by omega))]
          refine ok_Vx (As := [.int (xs (1 + z)), .int (xs (2 + z)), .int (xs (3 + z))]) (b := 94) (st := [.int v]) mkX12_walk qL_law_284 rfl (rc_94) rfl rfl rfl rfl (Nat.le_of_ble_eq_true rfl) (hm) (fun r1 σ1 hq => ?_)
          obtain ⟨rfl, μ1, rfl, hJ1⟩ := hq
          refine ok_icmp_eq bL_law_287 (fun _ => ?_) (fun h287 => absurd (rfl) h287)
          refine ok_step (ps := []) (L' := [some (.ref 1000), some (.ref 0), some (.ref 94), some (.int ((nI z) + (nI 6)))]) (st' := []) (σ' := (α1, μ1)) (pc' := 1752) kL_law_1749 rfl rfl rf_a0 ?_
          try rw [(show ((nI z) + (nI 6)) = nI (z + 6) from nI_add _ _)]
          refine ok_goto bL_law_1752 ?_
          exact ih (z + 6) α1 μ1 (by omega) (by omega) hJ1
        | 2, ht, h33 =>
          cases ht
          refine ok_step (ps := [rf_in ((nI z) + (nI 1)) Ln, rf_in ((nI z) + (nI 2)) Ln, rf_in ((nI z) + (nI 3)) Ln]) (L' := [some (.ref 1000), some (.ref 0), some (.ref 94), some (.int (nI z))]) (st' := [.int (xs (((nI z) + (nI 3)).toNatClampNeg)), .int (xs (((nI z) + (nI 2)).toNatClampNeg)), .int (xs (((nI z) + (nI 1)).toNatClampNeg)), .ref 0]) (σ' := (α, μ)) (pc' := 308) kL_law_292 rfl rfl (rf_a1 (rf_in_n (a := z + 1) (nI_add _ _) (by omega) (Nat.ble_eq_true_of_le (by omega))) (rf_a1 (rf_in_n (a := z + 2) (nI_add _ _) (by omega) (Nat.ble_eq_true_of_le (by omega))) (rf_a1 (rf_in_n (a := z + 3) (nI_add _ _) (by omega) (Nat.ble_eq_true_of_le (by omega))) rf_a0))) ?_
          try rw [(show ((nI z) + (nI 1)) = nI (1 + z) from rf_eq (rf_nadd (x := nI z) (y := nI 1) rfl rfl) (by omega))]
          try rw [(show (nI (1 + z)).toNatClampNeg = (1 + z) from rf_cl_n rfl (by omega))]
          try rw [(show ((nI z) + (nI 2)) = nI (2 + z) from rf_eq (rf_nadd (x := nI z) (y := nI 2) rfl rfl) (by omega))]
          try rw [(show (nI (2 + z)).toNatClampNeg = (2 + z) from rf_cl_n rfl (by omega))]
          try rw [(show ((nI z) + (nI 3)) = nI (3 + z) from rf_eq (rf_nadd (x := nI z) (y := nI 3) rfl rfl) (by omega))]
          try rw [(show (nI (3 + z)).toNatClampNeg = (3 + z) from rf_cl_n rfl (by omega))]
          refine ok_Vx (As := [.int (xs (1 + z)), .int (xs (2 + z)), .int (xs (3 + z))]) (b := 0) (st := []) mkX11_line qL_law_308 rfl (rc_0) rfl rfl rfl rfl (Nat.le_of_ble_eq_true rfl) (op_line hJ) (fun r1 σ1 hq => ?_)
          obtain ⟨hk, α1, rfl, hm⟩ := hq
          obtain ⟨v, rfl⟩ := rk_i hk (by decide)
          refine ok_step (ps := [rf_in ((nI z) + (nI 1)) Ln, rf_in ((nI z) + (nI 2)) Ln, rf_in ((nI z) + (nI 3)) Ln]) (L' := [some (.ref 1000), some (.ref 0), some (.ref 94), some (.int (nI z))]) (st' := [.int (xs (((nI z) + (nI 3)).toNatClampNeg)), .int (xs (((nI z) + (nI 2)).toNatClampNeg)), .int (xs (((nI z) + (nI 1)).toNatClampNeg)), .ref 94, .int v]) (σ' := (α1, μ)) (pc' := 327) kL_law_311 rfl rfl (rf_a1 (rf_in_n (a := z + 1) (nI_add _ _) (by omega) (Nat.ble_eq_true_of_le (by omega))) (rf_a1 (rf_in_n (a := z + 2) (nI_add _ _) (by omega) (Nat.ble_eq_true_of_le (by omega))) (rf_a1 (rf_in_n (a := z + 3) (nI_add _ _) (by omega) (Nat.ble_eq_true_of_le (by omega))) rf_a0))) ?_
          try rw [(show ((nI z) + (nI 1)) = nI (1 + z) from rf_eq (rf_nadd (x := nI z) (y := nI 1) rfl rfl) (by omega))]
          try rw [(show (nI (1 + z)).toNatClampNeg = (1 + z) from rf_cl_n rfl (by omega))]
          try rw [(show ((nI z) + (nI 2)) = nI (2 + z) from rf_eq (rf_nadd (x := nI z) (y := nI 2) rfl rfl) (by omega))]
          try rw [(show (nI (2 + z)).toNatClampNeg = (2 + z) from rf_cl_n rfl (by omega))]
          try rw [(show ((nI z) + (nI 3)) = nI (3 + z) from rf_eq (rf_nadd (x := nI z) (y := nI 3) rfl rfl) (by omega))]
          try rw [(show (nI (3 + z)).toNatClampNeg = (3 + z) from rf_cl_n rfl (by omega))]
          refine ok_Vx (As := [.int (xs (1 + z)), .int (xs (2 + z)), .int (xs (3 + z))]) (b := 94) (st := [.int v]) mkX12_line qL_law_327 rfl (rc_94) rfl rfl rfl rfl (Nat.le_of_ble_eq_true rfl) (hm) (fun r1 σ1 hq => ?_)
          obtain ⟨rfl, μ1, rfl, hJ1⟩ := hq
          refine ok_icmp_eq bL_law_330 (fun _ => ?_) (fun h330 => absurd (rfl) h330)
          refine ok_step (ps := []) (L' := [some (.ref 1000), some (.ref 0), some (.ref 94), some (.int ((nI z) + (nI 6)))]) (st' := []) (σ' := (α1, μ1)) (pc' := 1752) kL_law_1749 rfl rfl rf_a0 ?_
          try rw [(show ((nI z) + (nI 6)) = nI (z + 6) from nI_add _ _)]
          refine ok_goto bL_law_1752 ?_
          exact ih (z + 6) α1 μ1 (by omega) (by omega) hJ1
        | 3, ht, h33 =>
          cases ht
          refine ok_step (ps := [rf_in ((nI z) + (nI 1)) Ln, rf_in ((nI z) + (nI 2)) Ln, rf_in ((nI z) + (nI 3)) Ln]) (L' := [some (.ref 1000), some (.ref 0), some (.ref 94), some (.int (nI z))]) (st' := [.int (xs (((nI z) + (nI 3)).toNatClampNeg)), .int (xs (((nI z) + (nI 2)).toNatClampNeg)), .int (xs (((nI z) + (nI 1)).toNatClampNeg)), .ref 0]) (σ' := (α, μ)) (pc' := 351) kL_law_335 rfl rfl (rf_a1 (rf_in_n (a := z + 1) (nI_add _ _) (by omega) (Nat.ble_eq_true_of_le (by omega))) (rf_a1 (rf_in_n (a := z + 2) (nI_add _ _) (by omega) (Nat.ble_eq_true_of_le (by omega))) (rf_a1 (rf_in_n (a := z + 3) (nI_add _ _) (by omega) (Nat.ble_eq_true_of_le (by omega))) rf_a0))) ?_
          try rw [(show ((nI z) + (nI 1)) = nI (1 + z) from rf_eq (rf_nadd (x := nI z) (y := nI 1) rfl rfl) (by omega))]
          try rw [(show (nI (1 + z)).toNatClampNeg = (1 + z) from rf_cl_n rfl (by omega))]
          try rw [(show ((nI z) + (nI 2)) = nI (2 + z) from rf_eq (rf_nadd (x := nI z) (y := nI 2) rfl rfl) (by omega))]
          try rw [(show (nI (2 + z)).toNatClampNeg = (2 + z) from rf_cl_n rfl (by omega))]
          try rw [(show ((nI z) + (nI 3)) = nI (3 + z) from rf_eq (rf_nadd (x := nI z) (y := nI 3) rfl rfl) (by omega))]
          try rw [(show (nI (3 + z)).toNatClampNeg = (3 + z) from rf_cl_n rfl (by omega))]
          refine ok_Vx (As := [.int (xs (1 + z)), .int (xs (2 + z)), .int (xs (3 + z))]) (b := 0) (st := []) mkX11_extend qL_law_351 rfl (rc_0) rfl rfl rfl rfl (Nat.le_of_ble_eq_true rfl) (op_extend hJ) (fun r1 σ1 hq => ?_)
          obtain ⟨hk, α1, rfl, hm⟩ := hq
          obtain ⟨v, rfl⟩ := rk_i hk (by decide)
          refine ok_step (ps := [rf_in ((nI z) + (nI 1)) Ln, rf_in ((nI z) + (nI 2)) Ln, rf_in ((nI z) + (nI 3)) Ln]) (L' := [some (.ref 1000), some (.ref 0), some (.ref 94), some (.int (nI z))]) (st' := [.int (xs (((nI z) + (nI 3)).toNatClampNeg)), .int (xs (((nI z) + (nI 2)).toNatClampNeg)), .int (xs (((nI z) + (nI 1)).toNatClampNeg)), .ref 94, .int v]) (σ' := (α1, μ)) (pc' := 370) kL_law_354 rfl rfl (rf_a1 (rf_in_n (a := z + 1) (nI_add _ _) (by omega) (Nat.ble_eq_true_of_le (by omega))) (rf_a1 (rf_in_n (a := z + 2) (nI_add _ _) (by omega) (Nat.ble_eq_true_of_le (by omega))) (rf_a1 (rf_in_n (a := z + 3) (nI_add _ _) (by omega) (Nat.ble_eq_true_of_le (by omega))) rf_a0))) ?_
          try rw [(show ((nI z) + (nI 1)) = nI (1 + z) from rf_eq (rf_nadd (x := nI z) (y := nI 1) rfl rfl) (by omega))]
          try rw [(show (nI (1 + z)).toNatClampNeg = (1 + z) from rf_cl_n rfl (by omega))]
          try rw [(show ((nI z) + (nI 2)) = nI (2 + z) from rf_eq (rf_nadd (x := nI z) (y := nI 2) rfl rfl) (by omega))]
          try rw [(show (nI (2 + z)).toNatClampNeg = (2 + z) from rf_cl_n rfl (by omega))]
          try rw [(show ((nI z) + (nI 3)) = nI (3 + z) from rf_eq (rf_nadd (x := nI z) (y := nI 3) rfl rfl) (by omega))]
          try rw [(show (nI (3 + z)).toNatClampNeg = (3 + z) from rf_cl_n rfl (by omega))]
          refine ok_Vx (As := [.int (xs (1 + z)), .int (xs (2 + z)), .int (xs (3 + z))]) (b := 94) (st := [.int v]) mkX12_extend qL_law_370 rfl (rc_94) rfl rfl rfl rfl (Nat.le_of_ble_eq_true rfl) (hm) (fun r1 σ1 hq => ?_)
          obtain ⟨rfl, μ1, rfl, hJ1⟩ := hq
          refine ok_icmp_eq bL_law_373 (fun _ => ?_) (fun h373 => absurd (rfl) h373)
          refine ok_step (ps := []) (L' := [some (.ref 1000), some (.ref 0), some (.ref 94), some (.int ((nI z) + (nI 6)))]) (st' := []) (σ' := (α1, μ1)) (pc' := 1752) kL_law_1749 rfl rfl rf_a0 ?_
          try rw [(show ((nI z) + (nI 6)) = nI (z + 6) from nI_add _ _)]
          refine ok_goto bL_law_1752 ?_
          exact ih (z + 6) α1 μ1 (by omega) (by omega) hJ1
        | 4, ht, h33 =>
          cases ht
          refine ok_step (ps := [rf_in ((nI z) + (nI 1)) Ln, rf_in ((nI z) + (nI 2)) Ln]) (L' := [some (.ref 1000), some (.ref 0), some (.ref 94), some (.int (nI z))]) (st' := [.int (xs (((nI z) + (nI 2)).toNatClampNeg)), .int (xs (((nI z) + (nI 1)).toNatClampNeg)), .ref 0]) (σ' := (α, μ)) (pc' := 389) kL_law_378 rfl rfl (rf_a1 (rf_in_n (a := z + 1) (nI_add _ _) (by omega) (Nat.ble_eq_true_of_le (by omega))) (rf_a1 (rf_in_n (a := z + 2) (nI_add _ _) (by omega) (Nat.ble_eq_true_of_le (by omega))) rf_a0)) ?_
          try rw [(show ((nI z) + (nI 1)) = nI (1 + z) from rf_eq (rf_nadd (x := nI z) (y := nI 1) rfl rfl) (by omega))]
          try rw [(show (nI (1 + z)).toNatClampNeg = (1 + z) from rf_cl_n rfl (by omega))]
          try rw [(show ((nI z) + (nI 2)) = nI (2 + z) from rf_eq (rf_nadd (x := nI z) (y := nI 2) rfl rfl) (by omega))]
          try rw [(show (nI (2 + z)).toNatClampNeg = (2 + z) from rf_cl_n rfl (by omega))]
          refine ok_Vx (As := [.int (xs (1 + z)), .int (xs (2 + z))]) (b := 0) (st := []) mkX11_ofLine qL_law_389 rfl (rc_0) rfl rfl rfl rfl (Nat.le_of_ble_eq_true rfl) (op_ofLine hJ) (fun r1 σ1 hq => ?_)
          obtain ⟨hk, α1, rfl, hm⟩ := hq
          obtain ⟨v, rfl⟩ := rk_i hk (by decide)
          refine ok_step (ps := [rf_in ((nI z) + (nI 1)) Ln, rf_in ((nI z) + (nI 2)) Ln]) (L' := [some (.ref 1000), some (.ref 0), some (.ref 94), some (.int (nI z))]) (st' := [.int (xs (((nI z) + (nI 2)).toNatClampNeg)), .int (xs (((nI z) + (nI 1)).toNatClampNeg)), .ref 94, .int v]) (σ' := (α1, μ)) (pc' := 403) kL_law_392 rfl rfl (rf_a1 (rf_in_n (a := z + 1) (nI_add _ _) (by omega) (Nat.ble_eq_true_of_le (by omega))) (rf_a1 (rf_in_n (a := z + 2) (nI_add _ _) (by omega) (Nat.ble_eq_true_of_le (by omega))) rf_a0)) ?_
          try rw [(show ((nI z) + (nI 1)) = nI (1 + z) from rf_eq (rf_nadd (x := nI z) (y := nI 1) rfl rfl) (by omega))]
          try rw [(show (nI (1 + z)).toNatClampNeg = (1 + z) from rf_cl_n rfl (by omega))]
          try rw [(show ((nI z) + (nI 2)) = nI (2 + z) from rf_eq (rf_nadd (x := nI z) (y := nI 2) rfl rfl) (by omega))]
          try rw [(show (nI (2 + z)).toNatClampNeg = (2 + z) from rf_cl_n rfl (by omega))]
          refine ok_Vx (As := [.int (xs (1 + z)), .int (xs (2 + z))]) (b := 94) (st := [.int v]) mkX12_ofLine qL_law_403 rfl (rc_94) rfl rfl rfl rfl (Nat.le_of_ble_eq_true rfl) (hm) (fun r1 σ1 hq => ?_)
          obtain ⟨rfl, μ1, rfl, hJ1⟩ := hq
          refine ok_icmp_eq bL_law_406 (fun _ => ?_) (fun h406 => absurd (rfl) h406)
          refine ok_step (ps := []) (L' := [some (.ref 1000), some (.ref 0), some (.ref 94), some (.int ((nI z) + (nI 6)))]) (st' := []) (σ' := (α1, μ1)) (pc' := 1752) kL_law_1749 rfl rfl rf_a0 ?_
          try rw [(show ((nI z) + (nI 6)) = nI (z + 6) from nI_add _ _)]
          refine ok_goto bL_law_1752 ?_
          exact ih (z + 6) α1 μ1 (by omega) (by omega) hJ1
        | 5, ht, h33 =>
          cases ht
          refine ok_step (ps := [rf_in ((nI z) + (nI 1)) Ln, rf_in ((nI z) + (nI 2)) Ln, rf_in ((nI z) + (nI 3)) Ln]) (L' := [some (.ref 1000), some (.ref 0), some (.ref 94), some (.int (nI z))]) (st' := [.int (xs (((nI z) + (nI 3)).toNatClampNeg)), .int (xs (((nI z) + (nI 2)).toNatClampNeg)), .int (xs (((nI z) + (nI 1)).toNatClampNeg)), .ref 0]) (σ' := (α, μ)) (pc' := 427) kL_law_411 rfl rfl (rf_a1 (rf_in_n (a := z + 1) (nI_add _ _) (by omega) (Nat.ble_eq_true_of_le (by omega))) (rf_a1 (rf_in_n (a := z + 2) (nI_add _ _) (by omega) (Nat.ble_eq_true_of_le (by omega))) (rf_a1 (rf_in_n (a := z + 3) (nI_add _ _) (by omega) (Nat.ble_eq_true_of_le (by omega))) rf_a0))) ?_
          try rw [(show ((nI z) + (nI 1)) = nI (1 + z) from rf_eq (rf_nadd (x := nI z) (y := nI 1) rfl rfl) (by omega))]
          try rw [(show (nI (1 + z)).toNatClampNeg = (1 + z) from rf_cl_n rfl (by omega))]
          try rw [(show ((nI z) + (nI 2)) = nI (2 + z) from rf_eq (rf_nadd (x := nI z) (y := nI 2) rfl rfl) (by omega))]
          try rw [(show (nI (2 + z)).toNatClampNeg = (2 + z) from rf_cl_n rfl (by omega))]
          try rw [(show ((nI z) + (nI 3)) = nI (3 + z) from rf_eq (rf_nadd (x := nI z) (y := nI 3) rfl rfl) (by omega))]
          try rw [(show (nI (3 + z)).toNatClampNeg = (3 + z) from rf_cl_n rfl (by omega))]
          refine ok_Vx (As := [.int (xs (1 + z)), .int (xs (2 + z)), .int (xs (3 + z))]) (b := 0) (st := []) mkX11_train qL_law_427 rfl (rc_0) rfl rfl rfl rfl (Nat.le_of_ble_eq_true rfl) (op_train hJ) (fun r1 σ1 hq => ?_)
          obtain ⟨hk, α1, rfl, hm⟩ := hq
          obtain ⟨v, rfl⟩ := rk_i hk (by decide)
          refine ok_step (ps := [rf_in ((nI z) + (nI 1)) Ln, rf_in ((nI z) + (nI 2)) Ln, rf_in ((nI z) + (nI 3)) Ln]) (L' := [some (.ref 1000), some (.ref 0), some (.ref 94), some (.int (nI z))]) (st' := [.int (xs (((nI z) + (nI 3)).toNatClampNeg)), .int (xs (((nI z) + (nI 2)).toNatClampNeg)), .int (xs (((nI z) + (nI 1)).toNatClampNeg)), .ref 94, .int v]) (σ' := (α1, μ)) (pc' := 446) kL_law_430 rfl rfl (rf_a1 (rf_in_n (a := z + 1) (nI_add _ _) (by omega) (Nat.ble_eq_true_of_le (by omega))) (rf_a1 (rf_in_n (a := z + 2) (nI_add _ _) (by omega) (Nat.ble_eq_true_of_le (by omega))) (rf_a1 (rf_in_n (a := z + 3) (nI_add _ _) (by omega) (Nat.ble_eq_true_of_le (by omega))) rf_a0))) ?_
          try rw [(show ((nI z) + (nI 1)) = nI (1 + z) from rf_eq (rf_nadd (x := nI z) (y := nI 1) rfl rfl) (by omega))]
          try rw [(show (nI (1 + z)).toNatClampNeg = (1 + z) from rf_cl_n rfl (by omega))]
          try rw [(show ((nI z) + (nI 2)) = nI (2 + z) from rf_eq (rf_nadd (x := nI z) (y := nI 2) rfl rfl) (by omega))]
          try rw [(show (nI (2 + z)).toNatClampNeg = (2 + z) from rf_cl_n rfl (by omega))]
          try rw [(show ((nI z) + (nI 3)) = nI (3 + z) from rf_eq (rf_nadd (x := nI z) (y := nI 3) rfl rfl) (by omega))]
          try rw [(show (nI (3 + z)).toNatClampNeg = (3 + z) from rf_cl_n rfl (by omega))]
          refine ok_Vx (As := [.int (xs (1 + z)), .int (xs (2 + z)), .int (xs (3 + z))]) (b := 94) (st := [.int v]) mkX12_train qL_law_446 rfl (rc_94) rfl rfl rfl rfl (Nat.le_of_ble_eq_true rfl) (hm) (fun r1 σ1 hq => ?_)
          obtain ⟨rfl, μ1, rfl, hJ1⟩ := hq
          refine ok_icmp_eq bL_law_449 (fun _ => ?_) (fun h449 => absurd (rfl) h449)
          refine ok_step (ps := []) (L' := [some (.ref 1000), some (.ref 0), some (.ref 94), some (.int ((nI z) + (nI 6)))]) (st' := []) (σ' := (α1, μ1)) (pc' := 1752) kL_law_1749 rfl rfl rf_a0 ?_
          try rw [(show ((nI z) + (nI 6)) = nI (z + 6) from nI_add _ _)]
          refine ok_goto bL_law_1752 ?_
          exact ih (z + 6) α1 μ1 (by omega) (by omega) hJ1
        | 6, ht, h33 =>
          cases ht
          refine ok_step (ps := [rf_in ((nI z) + (nI 1)) Ln, rf_in ((nI z) + (nI 2)) Ln]) (L' := [some (.ref 1000), some (.ref 0), some (.ref 94), some (.int (nI z))]) (st' := [.int (xs (((nI z) + (nI 2)).toNatClampNeg)), .int (xs (((nI z) + (nI 1)).toNatClampNeg)), .ref 0]) (σ' := (α, μ)) (pc' := 465) kL_law_454 rfl rfl (rf_a1 (rf_in_n (a := z + 1) (nI_add _ _) (by omega) (Nat.ble_eq_true_of_le (by omega))) (rf_a1 (rf_in_n (a := z + 2) (nI_add _ _) (by omega) (Nat.ble_eq_true_of_le (by omega))) rf_a0)) ?_
          try rw [(show ((nI z) + (nI 1)) = nI (1 + z) from rf_eq (rf_nadd (x := nI z) (y := nI 1) rfl rfl) (by omega))]
          try rw [(show (nI (1 + z)).toNatClampNeg = (1 + z) from rf_cl_n rfl (by omega))]
          try rw [(show ((nI z) + (nI 2)) = nI (2 + z) from rf_eq (rf_nadd (x := nI z) (y := nI 2) rfl rfl) (by omega))]
          try rw [(show (nI (2 + z)).toNatClampNeg = (2 + z) from rf_cl_n rfl (by omega))]
          refine ok_Vx (As := [.int (xs (1 + z)), .int (xs (2 + z))]) (b := 0) (st := []) mkX11_ofTrain qL_law_465 rfl (rc_0) rfl rfl rfl rfl (Nat.le_of_ble_eq_true rfl) (op_ofTrain hJ) (fun r1 σ1 hq => ?_)
          obtain ⟨hk, α1, rfl, hm⟩ := hq
          obtain ⟨v, rfl⟩ := rk_i hk (by decide)
          refine ok_step (ps := [rf_in ((nI z) + (nI 1)) Ln, rf_in ((nI z) + (nI 2)) Ln]) (L' := [some (.ref 1000), some (.ref 0), some (.ref 94), some (.int (nI z))]) (st' := [.int (xs (((nI z) + (nI 2)).toNatClampNeg)), .int (xs (((nI z) + (nI 1)).toNatClampNeg)), .ref 94, .int v]) (σ' := (α1, μ)) (pc' := 479) kL_law_468 rfl rfl (rf_a1 (rf_in_n (a := z + 1) (nI_add _ _) (by omega) (Nat.ble_eq_true_of_le (by omega))) (rf_a1 (rf_in_n (a := z + 2) (nI_add _ _) (by omega) (Nat.ble_eq_true_of_le (by omega))) rf_a0)) ?_
          try rw [(show ((nI z) + (nI 1)) = nI (1 + z) from rf_eq (rf_nadd (x := nI z) (y := nI 1) rfl rfl) (by omega))]
          try rw [(show (nI (1 + z)).toNatClampNeg = (1 + z) from rf_cl_n rfl (by omega))]
          try rw [(show ((nI z) + (nI 2)) = nI (2 + z) from rf_eq (rf_nadd (x := nI z) (y := nI 2) rfl rfl) (by omega))]
          try rw [(show (nI (2 + z)).toNatClampNeg = (2 + z) from rf_cl_n rfl (by omega))]
          refine ok_Vx (As := [.int (xs (1 + z)), .int (xs (2 + z))]) (b := 94) (st := [.int v]) mkX12_ofTrain qL_law_479 rfl (rc_94) rfl rfl rfl rfl (Nat.le_of_ble_eq_true rfl) (hm) (fun r1 σ1 hq => ?_)
          obtain ⟨rfl, μ1, rfl, hJ1⟩ := hq
          refine ok_icmp_eq bL_law_482 (fun _ => ?_) (fun h482 => absurd (rfl) h482)
          refine ok_step (ps := []) (L' := [some (.ref 1000), some (.ref 0), some (.ref 94), some (.int ((nI z) + (nI 6)))]) (st' := []) (σ' := (α1, μ1)) (pc' := 1752) kL_law_1749 rfl rfl rf_a0 ?_
          try rw [(show ((nI z) + (nI 6)) = nI (z + 6) from nI_add _ _)]
          refine ok_goto bL_law_1752 ?_
          exact ih (z + 6) α1 μ1 (by omega) (by omega) hJ1
        | 7, ht, h33 =>
          cases ht
          refine ok_step (ps := [rf_in ((nI z) + (nI 1)) Ln, rf_in ((nI z) + (nI 2)) Ln, rf_in ((nI z) + (nI 3)) Ln]) (L' := [some (.ref 1000), some (.ref 0), some (.ref 94), some (.int (nI z))]) (st' := [.int (xs (((nI z) + (nI 3)).toNatClampNeg)), .int (xs (((nI z) + (nI 2)).toNatClampNeg)), .int (xs (((nI z) + (nI 1)).toNatClampNeg)), .ref 0]) (σ' := (α, μ)) (pc' := 503) kL_law_487 rfl rfl (rf_a1 (rf_in_n (a := z + 1) (nI_add _ _) (by omega) (Nat.ble_eq_true_of_le (by omega))) (rf_a1 (rf_in_n (a := z + 2) (nI_add _ _) (by omega) (Nat.ble_eq_true_of_le (by omega))) (rf_a1 (rf_in_n (a := z + 3) (nI_add _ _) (by omega) (Nat.ble_eq_true_of_le (by omega))) rf_a0))) ?_
          try rw [(show ((nI z) + (nI 1)) = nI (1 + z) from rf_eq (rf_nadd (x := nI z) (y := nI 1) rfl rfl) (by omega))]
          try rw [(show (nI (1 + z)).toNatClampNeg = (1 + z) from rf_cl_n rfl (by omega))]
          try rw [(show ((nI z) + (nI 2)) = nI (2 + z) from rf_eq (rf_nadd (x := nI z) (y := nI 2) rfl rfl) (by omega))]
          try rw [(show (nI (2 + z)).toNatClampNeg = (2 + z) from rf_cl_n rfl (by omega))]
          try rw [(show ((nI z) + (nI 3)) = nI (3 + z) from rf_eq (rf_nadd (x := nI z) (y := nI 3) rfl rfl) (by omega))]
          try rw [(show (nI (3 + z)).toNatClampNeg = (3 + z) from rf_cl_n rfl (by omega))]
          refine ok_Vx (As := [.int (xs (1 + z)), .int (xs (2 + z)), .int (xs (3 + z))]) (b := 0) (st := []) mkX11_stop qL_law_503 rfl (rc_0) rfl rfl rfl rfl (Nat.le_of_ble_eq_true rfl) (op_stop hJ) (fun r1 σ1 hq => ?_)
          obtain ⟨hk, α1, rfl, hm⟩ := hq
          obtain ⟨v, rfl⟩ := rk_i hk (by decide)
          refine ok_step (ps := [rf_in ((nI z) + (nI 1)) Ln, rf_in ((nI z) + (nI 2)) Ln, rf_in ((nI z) + (nI 3)) Ln]) (L' := [some (.ref 1000), some (.ref 0), some (.ref 94), some (.int (nI z))]) (st' := [.int (xs (((nI z) + (nI 3)).toNatClampNeg)), .int (xs (((nI z) + (nI 2)).toNatClampNeg)), .int (xs (((nI z) + (nI 1)).toNatClampNeg)), .ref 94, .int v]) (σ' := (α1, μ)) (pc' := 522) kL_law_506 rfl rfl (rf_a1 (rf_in_n (a := z + 1) (nI_add _ _) (by omega) (Nat.ble_eq_true_of_le (by omega))) (rf_a1 (rf_in_n (a := z + 2) (nI_add _ _) (by omega) (Nat.ble_eq_true_of_le (by omega))) (rf_a1 (rf_in_n (a := z + 3) (nI_add _ _) (by omega) (Nat.ble_eq_true_of_le (by omega))) rf_a0))) ?_
          try rw [(show ((nI z) + (nI 1)) = nI (1 + z) from rf_eq (rf_nadd (x := nI z) (y := nI 1) rfl rfl) (by omega))]
          try rw [(show (nI (1 + z)).toNatClampNeg = (1 + z) from rf_cl_n rfl (by omega))]
          try rw [(show ((nI z) + (nI 2)) = nI (2 + z) from rf_eq (rf_nadd (x := nI z) (y := nI 2) rfl rfl) (by omega))]
          try rw [(show (nI (2 + z)).toNatClampNeg = (2 + z) from rf_cl_n rfl (by omega))]
          try rw [(show ((nI z) + (nI 3)) = nI (3 + z) from rf_eq (rf_nadd (x := nI z) (y := nI 3) rfl rfl) (by omega))]
          try rw [(show (nI (3 + z)).toNatClampNeg = (3 + z) from rf_cl_n rfl (by omega))]
          refine ok_Vx (As := [.int (xs (1 + z)), .int (xs (2 + z)), .int (xs (3 + z))]) (b := 94) (st := [.int v]) mkX12_stop qL_law_522 rfl (rc_94) rfl rfl rfl rfl (Nat.le_of_ble_eq_true rfl) (hm) (fun r1 σ1 hq => ?_)
          obtain ⟨rfl, μ1, rfl, hJ1⟩ := hq
          refine ok_icmp_eq bL_law_525 (fun _ => ?_) (fun h525 => absurd (rfl) h525)
          refine ok_step (ps := []) (L' := [some (.ref 1000), some (.ref 0), some (.ref 94), some (.int ((nI z) + (nI 6)))]) (st' := []) (σ' := (α1, μ1)) (pc' := 1752) kL_law_1749 rfl rfl rf_a0 ?_
          try rw [(show ((nI z) + (nI 6)) = nI (z + 6) from nI_add _ _)]
          refine ok_goto bL_law_1752 ?_
          exact ih (z + 6) α1 μ1 (by omega) (by omega) hJ1
        | 8, ht, h33 =>
          cases ht
          refine ok_step (ps := [rf_in ((nI z) + (nI 1)) Ln, rf_in ((nI z) + (nI 2)) Ln, rf_in ((nI z) + (nI 3)) Ln, rf_in ((nI z) + (nI 4)) Ln]) (L' := [some (.ref 1000), some (.ref 0), some (.ref 94), some (.int (nI z))]) (st' := [.int (xs (((nI z) + (nI 4)).toNatClampNeg)), .int (xs (((nI z) + (nI 3)).toNatClampNeg)), .int (xs (((nI z) + (nI 2)).toNatClampNeg)), .int (xs (((nI z) + (nI 1)).toNatClampNeg)), .ref 0]) (σ' := (α, μ)) (pc' := 551) kL_law_530 rfl rfl (rf_a1 (rf_in_n (a := z + 1) (nI_add _ _) (by omega) (Nat.ble_eq_true_of_le (by omega))) (rf_a1 (rf_in_n (a := z + 2) (nI_add _ _) (by omega) (Nat.ble_eq_true_of_le (by omega))) (rf_a1 (rf_in_n (a := z + 3) (nI_add _ _) (by omega) (Nat.ble_eq_true_of_le (by omega))) (rf_a1 (rf_in_n (a := z + 4) (nI_add _ _) (by omega) (Nat.ble_eq_true_of_le (by omega))) rf_a0)))) ?_
          try rw [(show ((nI z) + (nI 1)) = nI (1 + z) from rf_eq (rf_nadd (x := nI z) (y := nI 1) rfl rfl) (by omega))]
          try rw [(show (nI (1 + z)).toNatClampNeg = (1 + z) from rf_cl_n rfl (by omega))]
          try rw [(show ((nI z) + (nI 2)) = nI (2 + z) from rf_eq (rf_nadd (x := nI z) (y := nI 2) rfl rfl) (by omega))]
          try rw [(show (nI (2 + z)).toNatClampNeg = (2 + z) from rf_cl_n rfl (by omega))]
          try rw [(show ((nI z) + (nI 3)) = nI (3 + z) from rf_eq (rf_nadd (x := nI z) (y := nI 3) rfl rfl) (by omega))]
          try rw [(show (nI (3 + z)).toNatClampNeg = (3 + z) from rf_cl_n rfl (by omega))]
          try rw [(show ((nI z) + (nI 4)) = nI (4 + z) from rf_eq (rf_nadd (x := nI z) (y := nI 4) rfl rfl) (by omega))]
          try rw [(show (nI (4 + z)).toNatClampNeg = (4 + z) from rf_cl_n rfl (by omega))]
          refine ok_Vx (As := [.int (xs (1 + z)), .int (xs (2 + z)), .int (xs (3 + z)), .int (xs (4 + z))]) (b := 0) (st := []) mkX11_group qL_law_551 rfl (rc_0) rfl rfl rfl rfl (Nat.le_of_ble_eq_true rfl) (op_group hJ) (fun r1 σ1 hq => ?_)
          obtain ⟨hk, α1, rfl, hm⟩ := hq
          obtain ⟨v, rfl⟩ := rk_i hk (by decide)
          refine ok_step (ps := [rf_in ((nI z) + (nI 1)) Ln, rf_in ((nI z) + (nI 2)) Ln, rf_in ((nI z) + (nI 3)) Ln, rf_in ((nI z) + (nI 4)) Ln]) (L' := [some (.ref 1000), some (.ref 0), some (.ref 94), some (.int (nI z))]) (st' := [.int (xs (((nI z) + (nI 4)).toNatClampNeg)), .int (xs (((nI z) + (nI 3)).toNatClampNeg)), .int (xs (((nI z) + (nI 2)).toNatClampNeg)), .int (xs (((nI z) + (nI 1)).toNatClampNeg)), .ref 94, .int v]) (σ' := (α1, μ)) (pc' := 575) kL_law_554 rfl rfl (rf_a1 (rf_in_n (a := z + 1) (nI_add _ _) (by omega) (Nat.ble_eq_true_of_le (by omega))) (rf_a1 (rf_in_n (a := z + 2) (nI_add _ _) (by omega) (Nat.ble_eq_true_of_le (by omega))) (rf_a1 (rf_in_n (a := z + 3) (nI_add _ _) (by omega) (Nat.ble_eq_true_of_le (by omega))) (rf_a1 (rf_in_n (a := z + 4) (nI_add _ _) (by omega) (Nat.ble_eq_true_of_le (by omega))) rf_a0)))) ?_
          try rw [(show ((nI z) + (nI 1)) = nI (1 + z) from rf_eq (rf_nadd (x := nI z) (y := nI 1) rfl rfl) (by omega))]
          try rw [(show (nI (1 + z)).toNatClampNeg = (1 + z) from rf_cl_n rfl (by omega))]
          try rw [(show ((nI z) + (nI 2)) = nI (2 + z) from rf_eq (rf_nadd (x := nI z) (y := nI 2) rfl rfl) (by omega))]
          try rw [(show (nI (2 + z)).toNatClampNeg = (2 + z) from rf_cl_n rfl (by omega))]
          try rw [(show ((nI z) + (nI 3)) = nI (3 + z) from rf_eq (rf_nadd (x := nI z) (y := nI 3) rfl rfl) (by omega))]
          try rw [(show (nI (3 + z)).toNatClampNeg = (3 + z) from rf_cl_n rfl (by omega))]
          try rw [(show ((nI z) + (nI 4)) = nI (4 + z) from rf_eq (rf_nadd (x := nI z) (y := nI 4) rfl rfl) (by omega))]
          try rw [(show (nI (4 + z)).toNatClampNeg = (4 + z) from rf_cl_n rfl (by omega))]
          refine ok_Vx (As := [.int (xs (1 + z)), .int (xs (2 + z)), .int (xs (3 + z)), .int (xs (4 + z))]) (b := 94) (st := [.int v]) mkX12_group qL_law_575 rfl (rc_94) rfl rfl rfl rfl (Nat.le_of_ble_eq_true rfl) (hm) (fun r1 σ1 hq => ?_)
          obtain ⟨rfl, μ1, rfl, hJ1⟩ := hq
          refine ok_icmp_eq bL_law_578 (fun _ => ?_) (fun h578 => absurd (rfl) h578)
          refine ok_step (ps := []) (L' := [some (.ref 1000), some (.ref 0), some (.ref 94), some (.int ((nI z) + (nI 6)))]) (st' := []) (σ' := (α1, μ1)) (pc' := 1752) kL_law_1749 rfl rfl rf_a0 ?_
          try rw [(show ((nI z) + (nI 6)) = nI (z + 6) from nI_add _ _)]
          refine ok_goto bL_law_1752 ?_
          exact ih (z + 6) α1 μ1 (by omega) (by omega) hJ1
        | 9, ht, h33 =>
          cases ht
          refine ok_step (ps := [rf_in ((nI z) + (nI 1)) Ln, rf_in ((nI z) + (nI 2)) Ln]) (L' := [some (.ref 1000), some (.ref 0), some (.ref 94), some (.int (nI z))]) (st' := [.int (xs (((nI z) + (nI 2)).toNatClampNeg)), .int (xs (((nI z) + (nI 1)).toNatClampNeg)), .ref 0]) (σ' := (α, μ)) (pc' := 594) kL_law_583 rfl rfl (rf_a1 (rf_in_n (a := z + 1) (nI_add _ _) (by omega) (Nat.ble_eq_true_of_le (by omega))) (rf_a1 (rf_in_n (a := z + 2) (nI_add _ _) (by omega) (Nat.ble_eq_true_of_le (by omega))) rf_a0)) ?_
          try rw [(show ((nI z) + (nI 1)) = nI (1 + z) from rf_eq (rf_nadd (x := nI z) (y := nI 1) rfl rfl) (by omega))]
          try rw [(show (nI (1 + z)).toNatClampNeg = (1 + z) from rf_cl_n rfl (by omega))]
          try rw [(show ((nI z) + (nI 2)) = nI (2 + z) from rf_eq (rf_nadd (x := nI z) (y := nI 2) rfl rfl) (by omega))]
          try rw [(show (nI (2 + z)).toNatClampNeg = (2 + z) from rf_cl_n rfl (by omega))]
          refine ok_Vx (As := [.int (xs (1 + z)), .int (xs (2 + z))]) (b := 0) (st := []) mkX11_ofGroup qL_law_594 rfl (rc_0) rfl rfl rfl rfl (Nat.le_of_ble_eq_true rfl) (op_ofGroup hJ) (fun r1 σ1 hq => ?_)
          obtain ⟨hk, α1, rfl, hm⟩ := hq
          obtain ⟨v, rfl⟩ := rk_i hk (by decide)
          refine ok_step (ps := [rf_in ((nI z) + (nI 1)) Ln, rf_in ((nI z) + (nI 2)) Ln]) (L' := [some (.ref 1000), some (.ref 0), some (.ref 94), some (.int (nI z))]) (st' := [.int (xs (((nI z) + (nI 2)).toNatClampNeg)), .int (xs (((nI z) + (nI 1)).toNatClampNeg)), .ref 94, .int v]) (σ' := (α1, μ)) (pc' := 608) kL_law_597 rfl rfl (rf_a1 (rf_in_n (a := z + 1) (nI_add _ _) (by omega) (Nat.ble_eq_true_of_le (by omega))) (rf_a1 (rf_in_n (a := z + 2) (nI_add _ _) (by omega) (Nat.ble_eq_true_of_le (by omega))) rf_a0)) ?_
          try rw [(show ((nI z) + (nI 1)) = nI (1 + z) from rf_eq (rf_nadd (x := nI z) (y := nI 1) rfl rfl) (by omega))]
          try rw [(show (nI (1 + z)).toNatClampNeg = (1 + z) from rf_cl_n rfl (by omega))]
          try rw [(show ((nI z) + (nI 2)) = nI (2 + z) from rf_eq (rf_nadd (x := nI z) (y := nI 2) rfl rfl) (by omega))]
          try rw [(show (nI (2 + z)).toNatClampNeg = (2 + z) from rf_cl_n rfl (by omega))]
          refine ok_Vx (As := [.int (xs (1 + z)), .int (xs (2 + z))]) (b := 94) (st := [.int v]) mkX12_ofGroup qL_law_608 rfl (rc_94) rfl rfl rfl rfl (Nat.le_of_ble_eq_true rfl) (hm) (fun r1 σ1 hq => ?_)
          obtain ⟨rfl, μ1, rfl, hJ1⟩ := hq
          refine ok_icmp_eq bL_law_611 (fun _ => ?_) (fun h611 => absurd (rfl) h611)
          refine ok_step (ps := []) (L' := [some (.ref 1000), some (.ref 0), some (.ref 94), some (.int ((nI z) + (nI 6)))]) (st' := []) (σ' := (α1, μ1)) (pc' := 1752) kL_law_1749 rfl rfl rf_a0 ?_
          try rw [(show ((nI z) + (nI 6)) = nI (z + 6) from nI_add _ _)]
          refine ok_goto bL_law_1752 ?_
          exact ih (z + 6) α1 μ1 (by omega) (by omega) hJ1
        | 10, ht, h33 =>
          cases ht
          refine ok_step (ps := [rf_in ((nI z) + (nI 1)) Ln, rf_in ((nI z) + (nI 2)) Ln]) (L' := [some (.ref 1000), some (.ref 0), some (.ref 94), some (.int (nI z))]) (st' := [.int (xs (((nI z) + (nI 2)).toNatClampNeg)), .int (xs (((nI z) + (nI 1)).toNatClampNeg)), .ref 0]) (σ' := (α, μ)) (pc' := 627) kL_law_616 rfl rfl (rf_a1 (rf_in_n (a := z + 1) (nI_add _ _) (by omega) (Nat.ble_eq_true_of_le (by omega))) (rf_a1 (rf_in_n (a := z + 2) (nI_add _ _) (by omega) (Nat.ble_eq_true_of_le (by omega))) rf_a0)) ?_
          try rw [(show ((nI z) + (nI 1)) = nI (1 + z) from rf_eq (rf_nadd (x := nI z) (y := nI 1) rfl rfl) (by omega))]
          try rw [(show (nI (1 + z)).toNatClampNeg = (1 + z) from rf_cl_n rfl (by omega))]
          try rw [(show ((nI z) + (nI 2)) = nI (2 + z) from rf_eq (rf_nadd (x := nI z) (y := nI 2) rfl rfl) (by omega))]
          try rw [(show (nI (2 + z)).toNatClampNeg = (2 + z) from rf_cl_n rfl (by omega))]
          refine ok_Vx (As := [.int (xs (1 + z)), .int (xs (2 + z))]) (b := 0) (st := []) mkX11_as qL_law_627 rfl (rc_0) rfl rfl rfl rfl (Nat.le_of_ble_eq_true rfl) (op_as hJ) (fun r1 σ1 hq => ?_)
          obtain ⟨hk, α1, rfl, hm⟩ := hq
          obtain ⟨v, rfl⟩ := rk_i hk (by decide)
          refine ok_step (ps := [rf_in ((nI z) + (nI 1)) Ln, rf_in ((nI z) + (nI 2)) Ln]) (L' := [some (.ref 1000), some (.ref 0), some (.ref 94), some (.int (nI z))]) (st' := [.int (xs (((nI z) + (nI 2)).toNatClampNeg)), .int (xs (((nI z) + (nI 1)).toNatClampNeg)), .ref 94, .int v]) (σ' := (α1, μ)) (pc' := 641) kL_law_630 rfl rfl (rf_a1 (rf_in_n (a := z + 1) (nI_add _ _) (by omega) (Nat.ble_eq_true_of_le (by omega))) (rf_a1 (rf_in_n (a := z + 2) (nI_add _ _) (by omega) (Nat.ble_eq_true_of_le (by omega))) rf_a0)) ?_
          try rw [(show ((nI z) + (nI 1)) = nI (1 + z) from rf_eq (rf_nadd (x := nI z) (y := nI 1) rfl rfl) (by omega))]
          try rw [(show (nI (1 + z)).toNatClampNeg = (1 + z) from rf_cl_n rfl (by omega))]
          try rw [(show ((nI z) + (nI 2)) = nI (2 + z) from rf_eq (rf_nadd (x := nI z) (y := nI 2) rfl rfl) (by omega))]
          try rw [(show (nI (2 + z)).toNatClampNeg = (2 + z) from rf_cl_n rfl (by omega))]
          refine ok_Vx (As := [.int (xs (1 + z)), .int (xs (2 + z))]) (b := 94) (st := [.int v]) mkX12_as qL_law_641 rfl (rc_94) rfl rfl rfl rfl (Nat.le_of_ble_eq_true rfl) (hm) (fun r1 σ1 hq => ?_)
          obtain ⟨rfl, μ1, rfl, hJ1⟩ := hq
          refine ok_icmp_eq bL_law_644 (fun _ => ?_) (fun h644 => absurd (rfl) h644)
          refine ok_step (ps := []) (L' := [some (.ref 1000), some (.ref 0), some (.ref 94), some (.int ((nI z) + (nI 6)))]) (st' := []) (σ' := (α1, μ1)) (pc' := 1752) kL_law_1749 rfl rfl rf_a0 ?_
          try rw [(show ((nI z) + (nI 6)) = nI (z + 6) from nI_add _ _)]
          refine ok_goto bL_law_1752 ?_
          exact ih (z + 6) α1 μ1 (by omega) (by omega) hJ1
        | 11, ht, h33 =>
          cases ht
          refine ok_step (ps := [rf_in ((nI z) + (nI 1)) Ln, rf_in ((nI z) + (nI 2)) Ln]) (L' := [some (.ref 1000), some (.ref 0), some (.ref 94), some (.int (nI z))]) (st' := [.int (xs (((nI z) + (nI 2)).toNatClampNeg)), .int (xs (((nI z) + (nI 1)).toNatClampNeg)), .ref 0]) (σ' := (α, μ)) (pc' := 660) kL_law_649 rfl rfl (rf_a1 (rf_in_n (a := z + 1) (nI_add _ _) (by omega) (Nat.ble_eq_true_of_le (by omega))) (rf_a1 (rf_in_n (a := z + 2) (nI_add _ _) (by omega) (Nat.ble_eq_true_of_le (by omega))) rf_a0)) ?_
          try rw [(show ((nI z) + (nI 1)) = nI (1 + z) from rf_eq (rf_nadd (x := nI z) (y := nI 1) rfl rfl) (by omega))]
          try rw [(show (nI (1 + z)).toNatClampNeg = (1 + z) from rf_cl_n rfl (by omega))]
          try rw [(show ((nI z) + (nI 2)) = nI (2 + z) from rf_eq (rf_nadd (x := nI z) (y := nI 2) rfl rfl) (by omega))]
          try rw [(show (nI (2 + z)).toNatClampNeg = (2 + z) from rf_cl_n rfl (by omega))]
          refine ok_Vx (As := [.int (xs (1 + z)), .int (xs (2 + z))]) (b := 0) (st := []) mkX11_believe qL_law_660 rfl (rc_0) rfl rfl rfl rfl (Nat.le_of_ble_eq_true rfl) (op_believe hJ) (fun r1 σ1 hq => ?_)
          obtain ⟨hk, α1, rfl, hm⟩ := hq
          obtain ⟨v, rfl⟩ := rk_i hk (by decide)
          refine ok_step (ps := [rf_in ((nI z) + (nI 1)) Ln, rf_in ((nI z) + (nI 2)) Ln]) (L' := [some (.ref 1000), some (.ref 0), some (.ref 94), some (.int (nI z))]) (st' := [.int (xs (((nI z) + (nI 2)).toNatClampNeg)), .int (xs (((nI z) + (nI 1)).toNatClampNeg)), .ref 94, .int v]) (σ' := (α1, μ)) (pc' := 674) kL_law_663 rfl rfl (rf_a1 (rf_in_n (a := z + 1) (nI_add _ _) (by omega) (Nat.ble_eq_true_of_le (by omega))) (rf_a1 (rf_in_n (a := z + 2) (nI_add _ _) (by omega) (Nat.ble_eq_true_of_le (by omega))) rf_a0)) ?_
          try rw [(show ((nI z) + (nI 1)) = nI (1 + z) from rf_eq (rf_nadd (x := nI z) (y := nI 1) rfl rfl) (by omega))]
          try rw [(show (nI (1 + z)).toNatClampNeg = (1 + z) from rf_cl_n rfl (by omega))]
          try rw [(show ((nI z) + (nI 2)) = nI (2 + z) from rf_eq (rf_nadd (x := nI z) (y := nI 2) rfl rfl) (by omega))]
          try rw [(show (nI (2 + z)).toNatClampNeg = (2 + z) from rf_cl_n rfl (by omega))]
          refine ok_Vx (As := [.int (xs (1 + z)), .int (xs (2 + z))]) (b := 94) (st := [.int v]) mkX12_believe qL_law_674 rfl (rc_94) rfl rfl rfl rfl (Nat.le_of_ble_eq_true rfl) (hm) (fun r1 σ1 hq => ?_)
          obtain ⟨rfl, μ1, rfl, hJ1⟩ := hq
          refine ok_icmp_eq bL_law_677 (fun _ => ?_) (fun h677 => absurd (rfl) h677)
          refine ok_step (ps := []) (L' := [some (.ref 1000), some (.ref 0), some (.ref 94), some (.int ((nI z) + (nI 6)))]) (st' := []) (σ' := (α1, μ1)) (pc' := 1752) kL_law_1749 rfl rfl rf_a0 ?_
          try rw [(show ((nI z) + (nI 6)) = nI (z + 6) from nI_add _ _)]
          refine ok_goto bL_law_1752 ?_
          exact ih (z + 6) α1 μ1 (by omega) (by omega) hJ1
        | 12, ht, h33 =>
          cases ht
          refine ok_step (ps := [rf_in ((nI z) + (nI 1)) Ln, rf_in ((nI z) + (nI 2)) Ln]) (L' := [some (.ref 1000), some (.ref 0), some (.ref 94), some (.int (nI z))]) (st' := [.int (xs (((nI z) + (nI 2)).toNatClampNeg)), .int (xs (((nI z) + (nI 1)).toNatClampNeg)), .ref 0]) (σ' := (α, μ)) (pc' := 693) kL_law_682 rfl rfl (rf_a1 (rf_in_n (a := z + 1) (nI_add _ _) (by omega) (Nat.ble_eq_true_of_le (by omega))) (rf_a1 (rf_in_n (a := z + 2) (nI_add _ _) (by omega) (Nat.ble_eq_true_of_le (by omega))) rf_a0)) ?_
          try rw [(show ((nI z) + (nI 1)) = nI (1 + z) from rf_eq (rf_nadd (x := nI z) (y := nI 1) rfl rfl) (by omega))]
          try rw [(show (nI (1 + z)).toNatClampNeg = (1 + z) from rf_cl_n rfl (by omega))]
          try rw [(show ((nI z) + (nI 2)) = nI (2 + z) from rf_eq (rf_nadd (x := nI z) (y := nI 2) rfl rfl) (by omega))]
          try rw [(show (nI (2 + z)).toNatClampNeg = (2 + z) from rf_cl_n rfl (by omega))]
          refine ok_Vx (As := [.int (xs (1 + z)), .int (xs (2 + z))]) (b := 0) (st := []) mkX11_price qL_law_693 rfl (rc_0) rfl rfl rfl rfl (Nat.le_of_ble_eq_true rfl) (op_price hJ) (fun r1 σ1 hq => ?_)
          obtain ⟨hk, α1, rfl, hm⟩ := hq
          obtain ⟨v, rfl⟩ := rk_i hk (by decide)
          refine ok_step (ps := [rf_in ((nI z) + (nI 1)) Ln, rf_in ((nI z) + (nI 2)) Ln]) (L' := [some (.ref 1000), some (.ref 0), some (.ref 94), some (.int (nI z))]) (st' := [.int (xs (((nI z) + (nI 2)).toNatClampNeg)), .int (xs (((nI z) + (nI 1)).toNatClampNeg)), .ref 94, .int v]) (σ' := (α1, μ)) (pc' := 707) kL_law_696 rfl rfl (rf_a1 (rf_in_n (a := z + 1) (nI_add _ _) (by omega) (Nat.ble_eq_true_of_le (by omega))) (rf_a1 (rf_in_n (a := z + 2) (nI_add _ _) (by omega) (Nat.ble_eq_true_of_le (by omega))) rf_a0)) ?_
          try rw [(show ((nI z) + (nI 1)) = nI (1 + z) from rf_eq (rf_nadd (x := nI z) (y := nI 1) rfl rfl) (by omega))]
          try rw [(show (nI (1 + z)).toNatClampNeg = (1 + z) from rf_cl_n rfl (by omega))]
          try rw [(show ((nI z) + (nI 2)) = nI (2 + z) from rf_eq (rf_nadd (x := nI z) (y := nI 2) rfl rfl) (by omega))]
          try rw [(show (nI (2 + z)).toNatClampNeg = (2 + z) from rf_cl_n rfl (by omega))]
          refine ok_Vx (As := [.int (xs (1 + z)), .int (xs (2 + z))]) (b := 94) (st := [.int v]) mkX12_price qL_law_707 rfl (rc_94) rfl rfl rfl rfl (Nat.le_of_ble_eq_true rfl) (hm) (fun r1 σ1 hq => ?_)
          obtain ⟨rfl, μ1, rfl, hJ1⟩ := hq
          refine ok_icmp_eq bL_law_710 (fun _ => ?_) (fun h710 => absurd (rfl) h710)
          refine ok_step (ps := []) (L' := [some (.ref 1000), some (.ref 0), some (.ref 94), some (.int ((nI z) + (nI 6)))]) (st' := []) (σ' := (α1, μ1)) (pc' := 1752) kL_law_1749 rfl rfl rf_a0 ?_
          try rw [(show ((nI z) + (nI 6)) = nI (z + 6) from nI_add _ _)]
          refine ok_goto bL_law_1752 ?_
          exact ih (z + 6) α1 μ1 (by omega) (by omega) hJ1
        | 13, ht, h33 =>
          cases ht
          refine ok_step (ps := [rf_in ((nI z) + (nI 1)) Ln, rf_in ((nI z) + (nI 2)) Ln, rf_in ((nI z) + (nI 3)) Ln]) (L' := [some (.ref 1000), some (.ref 0), some (.ref 94), some (.int (nI z))]) (st' := [.int (xs (((nI z) + (nI 3)).toNatClampNeg)), .long ((((xs (((nI z) + (nI 1)).toNatClampNeg)).toInt64) <<< ((nI 32).toInt64 &&& 63)) ||| (((xs (((nI z) + (nI 2)).toNatClampNeg)).toInt64) &&& (lN 4294967295))), .ref 0]) (σ' := (α, μ)) (pc' := 741) kL_law_715 rfl rfl (rf_a1 (rf_in_n (a := z + 1) (nI_add _ _) (by omega) (Nat.ble_eq_true_of_le (by omega))) (rf_a1 (rf_in_n (a := z + 2) (nI_add _ _) (by omega) (Nat.ble_eq_true_of_le (by omega))) (rf_a1 (rf_in_n (a := z + 3) (nI_add _ _) (by omega) (Nat.ble_eq_true_of_le (by omega))) rf_a0))) ?_
          try rw [(show ((nI z) + (nI 1)) = nI (1 + z) from rf_eq (rf_nadd (x := nI z) (y := nI 1) rfl rfl) (by omega))]
          try rw [(show (nI (1 + z)).toNatClampNeg = (1 + z) from rf_cl_n rfl (by omega))]
          try rw [(show ((nI z) + (nI 2)) = nI (2 + z) from rf_eq (rf_nadd (x := nI z) (y := nI 2) rfl rfl) (by omega))]
          try rw [(show (nI (2 + z)).toNatClampNeg = (2 + z) from rf_cl_n rfl (by omega))]
          try rw [(show ((nI z) + (nI 3)) = nI (3 + z) from rf_eq (rf_nadd (x := nI z) (y := nI 3) rfl rfl) (by omega))]
          try rw [(show (nI (3 + z)).toNatClampNeg = (3 + z) from rf_cl_n rfl (by omega))]
          refine ok_Vx (As := [.long ((((xs (1 + z)).toInt64) <<< ((nI 32).toInt64 &&& 63)) ||| (((xs (2 + z)).toInt64) &&& (lN 4294967295))), .int (xs (3 + z))]) (b := 0) (st := []) mkX11_feed qL_law_741 rfl (rc_0) rfl rfl rfl rfl (Nat.le_of_ble_eq_true rfl) (op_feed hJ) (fun r1 σ1 hq => ?_)
          obtain ⟨hk, α1, rfl, hm⟩ := hq
          obtain ⟨v, rfl⟩ := rk_i hk (by decide)
          refine ok_step (ps := [rf_in ((nI z) + (nI 1)) Ln, rf_in ((nI z) + (nI 2)) Ln, rf_in ((nI z) + (nI 3)) Ln]) (L' := [some (.ref 1000), some (.ref 0), some (.ref 94), some (.int (nI z))]) (st' := [.int (xs (((nI z) + (nI 3)).toNatClampNeg)), .long ((((xs (((nI z) + (nI 1)).toNatClampNeg)).toInt64) <<< ((nI 32).toInt64 &&& 63)) ||| (((xs (((nI z) + (nI 2)).toNatClampNeg)).toInt64) &&& (lN 4294967295))), .ref 94, .int v]) (σ' := (α1, μ)) (pc' := 770) kL_law_744 rfl rfl (rf_a1 (rf_in_n (a := z + 1) (nI_add _ _) (by omega) (Nat.ble_eq_true_of_le (by omega))) (rf_a1 (rf_in_n (a := z + 2) (nI_add _ _) (by omega) (Nat.ble_eq_true_of_le (by omega))) (rf_a1 (rf_in_n (a := z + 3) (nI_add _ _) (by omega) (Nat.ble_eq_true_of_le (by omega))) rf_a0))) ?_
          try rw [(show ((nI z) + (nI 1)) = nI (1 + z) from rf_eq (rf_nadd (x := nI z) (y := nI 1) rfl rfl) (by omega))]
          try rw [(show (nI (1 + z)).toNatClampNeg = (1 + z) from rf_cl_n rfl (by omega))]
          try rw [(show ((nI z) + (nI 2)) = nI (2 + z) from rf_eq (rf_nadd (x := nI z) (y := nI 2) rfl rfl) (by omega))]
          try rw [(show (nI (2 + z)).toNatClampNeg = (2 + z) from rf_cl_n rfl (by omega))]
          try rw [(show ((nI z) + (nI 3)) = nI (3 + z) from rf_eq (rf_nadd (x := nI z) (y := nI 3) rfl rfl) (by omega))]
          try rw [(show (nI (3 + z)).toNatClampNeg = (3 + z) from rf_cl_n rfl (by omega))]
          refine ok_Vx (As := [.long ((((xs (1 + z)).toInt64) <<< ((nI 32).toInt64 &&& 63)) ||| (((xs (2 + z)).toInt64) &&& (lN 4294967295))), .int (xs (3 + z))]) (b := 94) (st := [.int v]) mkX12_feed qL_law_770 rfl (rc_94) rfl rfl rfl rfl (Nat.le_of_ble_eq_true rfl) (hm) (fun r1 σ1 hq => ?_)
          obtain ⟨rfl, μ1, rfl, hJ1⟩ := hq
          refine ok_icmp_eq bL_law_773 (fun _ => ?_) (fun h773 => absurd (rfl) h773)
          refine ok_step (ps := []) (L' := [some (.ref 1000), some (.ref 0), some (.ref 94), some (.int ((nI z) + (nI 6)))]) (st' := []) (σ' := (α1, μ1)) (pc' := 1752) kL_law_1749 rfl rfl rf_a0 ?_
          try rw [(show ((nI z) + (nI 6)) = nI (z + 6) from nI_add _ _)]
          refine ok_goto bL_law_1752 ?_
          exact ih (z + 6) α1 μ1 (by omega) (by omega) hJ1
        | 14, ht, h33 =>
          cases ht
          refine ok_step (ps := [rf_in ((nI z) + (nI 1)) Ln]) (L' := [some (.ref 1000), some (.ref 0), some (.ref 94), some (.int (nI z))]) (st' := [.int (xs (((nI z) + (nI 1)).toNatClampNeg)), .ref 0]) (σ' := (α, μ)) (pc' := 784) kL_law_778 rfl rfl (rf_a1 (rf_in_n (a := z + 1) (nI_add _ _) (by omega) (Nat.ble_eq_true_of_le (by omega))) rf_a0) ?_
          try rw [(show ((nI z) + (nI 1)) = nI (1 + z) from rf_eq (rf_nadd (x := nI z) (y := nI 1) rfl rfl) (by omega))]
          try rw [(show (nI (1 + z)).toNatClampNeg = (1 + z) from rf_cl_n rfl (by omega))]
          refine ok_Vx (As := [.int (xs (1 + z))]) (b := 0) (st := []) mkX11_text qL_law_784 rfl (rc_0) rfl rfl rfl rfl (Nat.le_of_ble_eq_true rfl) (op_text hJ) (fun r1 σ1 hq => ?_)
          obtain ⟨hk, α1, rfl, hm⟩ := hq
          obtain ⟨v, rfl⟩ := rk_i hk (by decide)
          refine ok_step (ps := [rf_in ((nI z) + (nI 1)) Ln]) (L' := [some (.ref 1000), some (.ref 0), some (.ref 94), some (.int (nI z))]) (st' := [.int (xs (((nI z) + (nI 1)).toNatClampNeg)), .ref 94, .int v]) (σ' := (α1, μ)) (pc' := 793) kL_law_787 rfl rfl (rf_a1 (rf_in_n (a := z + 1) (nI_add _ _) (by omega) (Nat.ble_eq_true_of_le (by omega))) rf_a0) ?_
          try rw [(show ((nI z) + (nI 1)) = nI (1 + z) from rf_eq (rf_nadd (x := nI z) (y := nI 1) rfl rfl) (by omega))]
          try rw [(show (nI (1 + z)).toNatClampNeg = (1 + z) from rf_cl_n rfl (by omega))]
          refine ok_Vx (As := [.int (xs (1 + z))]) (b := 94) (st := [.int v]) mkX12_text qL_law_793 rfl (rc_94) rfl rfl rfl rfl (Nat.le_of_ble_eq_true rfl) (hm) (fun r1 σ1 hq => ?_)
          obtain ⟨rfl, μ1, rfl, hJ1⟩ := hq
          refine ok_icmp_eq bL_law_796 (fun _ => ?_) (fun h796 => absurd (rfl) h796)
          refine ok_step (ps := []) (L' := [some (.ref 1000), some (.ref 0), some (.ref 94), some (.int ((nI z) + (nI 6)))]) (st' := []) (σ' := (α1, μ1)) (pc' := 1752) kL_law_1749 rfl rfl rf_a0 ?_
          try rw [(show ((nI z) + (nI 6)) = nI (z + 6) from nI_add _ _)]
          refine ok_goto bL_law_1752 ?_
          exact ih (z + 6) α1 μ1 (by omega) (by omega) hJ1
        | 15, ht, h33 =>
          cases ht
          refine ok_step (ps := [rf_in ((nI z) + (nI 1)) Ln, rf_in ((nI z) + (nI 2)) Ln, rf_in ((nI z) + (nI 3)) Ln, rf_in ((nI z) + (nI 4)) Ln, rf_in ((nI z) + (nI 5)) Ln]) (L' := [some (.ref 1000), some (.ref 0), some (.ref 94), some (.int (nI z))]) (st' := [.int (xs (((nI z) + (nI 5)).toNatClampNeg)), .int (xs (((nI z) + (nI 4)).toNatClampNeg)), .int (xs (((nI z) + (nI 3)).toNatClampNeg)), .int (xs (((nI z) + (nI 2)).toNatClampNeg)), .int (xs (((nI z) + (nI 1)).toNatClampNeg)), .ref 0]) (σ' := (α, μ)) (pc' := 827) kL_law_801 rfl rfl (rf_a1 (rf_in_n (a := z + 1) (nI_add _ _) (by omega) (Nat.ble_eq_true_of_le (by omega))) (rf_a1 (rf_in_n (a := z + 2) (nI_add _ _) (by omega) (Nat.ble_eq_true_of_le (by omega))) (rf_a1 (rf_in_n (a := z + 3) (nI_add _ _) (by omega) (Nat.ble_eq_true_of_le (by omega))) (rf_a1 (rf_in_n (a := z + 4) (nI_add _ _) (by omega) (Nat.ble_eq_true_of_le (by omega))) (rf_a1 (rf_in_n (a := z + 5) (nI_add _ _) (by omega) (Nat.ble_eq_true_of_le (by omega))) rf_a0))))) ?_
          try rw [(show ((nI z) + (nI 1)) = nI (1 + z) from rf_eq (rf_nadd (x := nI z) (y := nI 1) rfl rfl) (by omega))]
          try rw [(show (nI (1 + z)).toNatClampNeg = (1 + z) from rf_cl_n rfl (by omega))]
          try rw [(show ((nI z) + (nI 2)) = nI (2 + z) from rf_eq (rf_nadd (x := nI z) (y := nI 2) rfl rfl) (by omega))]
          try rw [(show (nI (2 + z)).toNatClampNeg = (2 + z) from rf_cl_n rfl (by omega))]
          try rw [(show ((nI z) + (nI 3)) = nI (3 + z) from rf_eq (rf_nadd (x := nI z) (y := nI 3) rfl rfl) (by omega))]
          try rw [(show (nI (3 + z)).toNatClampNeg = (3 + z) from rf_cl_n rfl (by omega))]
          try rw [(show ((nI z) + (nI 4)) = nI (4 + z) from rf_eq (rf_nadd (x := nI z) (y := nI 4) rfl rfl) (by omega))]
          try rw [(show (nI (4 + z)).toNatClampNeg = (4 + z) from rf_cl_n rfl (by omega))]
          try rw [(show ((nI z) + (nI 5)) = nI (5 + z) from rf_eq (rf_nadd (x := nI z) (y := nI 5) rfl rfl) (by omega))]
          try rw [(show (nI (5 + z)).toNatClampNeg = (5 + z) from rf_cl_n rfl (by omega))]
          refine ok_Vx (As := [.int (xs (1 + z)), .int (xs (2 + z)), .int (xs (3 + z)), .int (xs (4 + z)), .int (xs (5 + z))]) (b := 0) (st := []) mkX11_law qL_law_827 rfl (rc_0) rfl rfl rfl rfl (Nat.le_of_ble_eq_true rfl) (op_law hJ) (fun r1 σ1 hq => ?_)
          obtain ⟨hk, α1, rfl, hm⟩ := hq
          obtain ⟨v, rfl⟩ := rk_i hk (by decide)
          refine ok_step (ps := [rf_in ((nI z) + (nI 1)) Ln, rf_in ((nI z) + (nI 2)) Ln, rf_in ((nI z) + (nI 3)) Ln, rf_in ((nI z) + (nI 4)) Ln, rf_in ((nI z) + (nI 5)) Ln]) (L' := [some (.ref 1000), some (.ref 0), some (.ref 94), some (.int (nI z))]) (st' := [.int (xs (((nI z) + (nI 5)).toNatClampNeg)), .int (xs (((nI z) + (nI 4)).toNatClampNeg)), .int (xs (((nI z) + (nI 3)).toNatClampNeg)), .int (xs (((nI z) + (nI 2)).toNatClampNeg)), .int (xs (((nI z) + (nI 1)).toNatClampNeg)), .ref 94, .int v]) (σ' := (α1, μ)) (pc' := 856) kL_law_830 rfl rfl (rf_a1 (rf_in_n (a := z + 1) (nI_add _ _) (by omega) (Nat.ble_eq_true_of_le (by omega))) (rf_a1 (rf_in_n (a := z + 2) (nI_add _ _) (by omega) (Nat.ble_eq_true_of_le (by omega))) (rf_a1 (rf_in_n (a := z + 3) (nI_add _ _) (by omega) (Nat.ble_eq_true_of_le (by omega))) (rf_a1 (rf_in_n (a := z + 4) (nI_add _ _) (by omega) (Nat.ble_eq_true_of_le (by omega))) (rf_a1 (rf_in_n (a := z + 5) (nI_add _ _) (by omega) (Nat.ble_eq_true_of_le (by omega))) rf_a0))))) ?_
          try rw [(show ((nI z) + (nI 1)) = nI (1 + z) from rf_eq (rf_nadd (x := nI z) (y := nI 1) rfl rfl) (by omega))]
          try rw [(show (nI (1 + z)).toNatClampNeg = (1 + z) from rf_cl_n rfl (by omega))]
          try rw [(show ((nI z) + (nI 2)) = nI (2 + z) from rf_eq (rf_nadd (x := nI z) (y := nI 2) rfl rfl) (by omega))]
          try rw [(show (nI (2 + z)).toNatClampNeg = (2 + z) from rf_cl_n rfl (by omega))]
          try rw [(show ((nI z) + (nI 3)) = nI (3 + z) from rf_eq (rf_nadd (x := nI z) (y := nI 3) rfl rfl) (by omega))]
          try rw [(show (nI (3 + z)).toNatClampNeg = (3 + z) from rf_cl_n rfl (by omega))]
          try rw [(show ((nI z) + (nI 4)) = nI (4 + z) from rf_eq (rf_nadd (x := nI z) (y := nI 4) rfl rfl) (by omega))]
          try rw [(show (nI (4 + z)).toNatClampNeg = (4 + z) from rf_cl_n rfl (by omega))]
          try rw [(show ((nI z) + (nI 5)) = nI (5 + z) from rf_eq (rf_nadd (x := nI z) (y := nI 5) rfl rfl) (by omega))]
          try rw [(show (nI (5 + z)).toNatClampNeg = (5 + z) from rf_cl_n rfl (by omega))]
          refine ok_Vx (As := [.int (xs (1 + z)), .int (xs (2 + z)), .int (xs (3 + z)), .int (xs (4 + z)), .int (xs (5 + z))]) (b := 94) (st := [.int v]) mkX12_law qL_law_856 rfl (rc_94) rfl rfl rfl rfl (Nat.le_of_ble_eq_true rfl) (hm) (fun r1 σ1 hq => ?_)
          obtain ⟨rfl, μ1, rfl, hJ1⟩ := hq
          refine ok_icmp_eq bL_law_859 (fun _ => ?_) (fun h859 => absurd (rfl) h859)
          refine ok_step (ps := []) (L' := [some (.ref 1000), some (.ref 0), some (.ref 94), some (.int ((nI z) + (nI 6)))]) (st' := []) (σ' := (α1, μ1)) (pc' := 1752) kL_law_1749 rfl rfl rf_a0 ?_
          try rw [(show ((nI z) + (nI 6)) = nI (z + 6) from nI_add _ _)]
          refine ok_goto bL_law_1752 ?_
          exact ih (z + 6) α1 μ1 (by omega) (by omega) hJ1
        | 16, ht, h33 =>
          cases ht
          refine ok_step (ps := [rf_in ((nI z) + (nI 1)) Ln]) (L' := [some (.ref 1000), some (.ref 0), some (.ref 94), some (.int (nI z))]) (st' := [.int (xs (((nI z) + (nI 1)).toNatClampNeg)), .ref 0]) (σ' := (α, μ)) (pc' := 870) kL_law_864 rfl rfl (rf_a1 (rf_in_n (a := z + 1) (nI_add _ _) (by omega) (Nat.ble_eq_true_of_le (by omega))) rf_a0) ?_
          try rw [(show ((nI z) + (nI 1)) = nI (1 + z) from rf_eq (rf_nadd (x := nI z) (y := nI 1) rfl rfl) (by omega))]
          try rw [(show (nI (1 + z)).toNatClampNeg = (1 + z) from rf_cl_n rfl (by omega))]
          refine ok_Vx (As := [.int (xs (1 + z))]) (b := 0) (st := []) mkX11_walked qL_law_870 rfl (rc_0) rfl rfl rfl rfl (Nat.le_of_ble_eq_true rfl) (op_walked hJ) (fun r1 σ1 hq => ?_)
          obtain ⟨hk, α1, rfl, hm⟩ := hq
          obtain ⟨v, rfl⟩ := rk_i hk (by decide)
          refine ok_step (ps := [rf_in ((nI z) + (nI 1)) Ln]) (L' := [some (.ref 1000), some (.ref 0), some (.ref 94), some (.int (nI z))]) (st' := [.int (xs (((nI z) + (nI 1)).toNatClampNeg)), .ref 94, .int v]) (σ' := (α1, μ)) (pc' := 879) kL_law_873 rfl rfl (rf_a1 (rf_in_n (a := z + 1) (nI_add _ _) (by omega) (Nat.ble_eq_true_of_le (by omega))) rf_a0) ?_
          try rw [(show ((nI z) + (nI 1)) = nI (1 + z) from rf_eq (rf_nadd (x := nI z) (y := nI 1) rfl rfl) (by omega))]
          try rw [(show (nI (1 + z)).toNatClampNeg = (1 + z) from rf_cl_n rfl (by omega))]
          refine ok_Vx (As := [.int (xs (1 + z))]) (b := 94) (st := [.int v]) mkX12_walked qL_law_879 rfl (rc_94) rfl rfl rfl rfl (Nat.le_of_ble_eq_true rfl) (hm) (fun r1 σ1 hq => ?_)
          obtain ⟨rfl, μ1, rfl, hJ1⟩ := hq
          refine ok_icmp_eq bL_law_882 (fun _ => ?_) (fun h882 => absurd (rfl) h882)
          refine ok_step (ps := []) (L' := [some (.ref 1000), some (.ref 0), some (.ref 94), some (.int ((nI z) + (nI 6)))]) (st' := []) (σ' := (α1, μ1)) (pc' := 1752) kL_law_1749 rfl rfl rf_a0 ?_
          try rw [(show ((nI z) + (nI 6)) = nI (z + 6) from nI_add _ _)]
          refine ok_goto bL_law_1752 ?_
          exact ih (z + 6) α1 μ1 (by omega) (by omega) hJ1
        | 17, ht, h33 =>
          cases ht
          refine ok_step (ps := [rf_in ((nI z) + (nI 1)) Ln]) (L' := [some (.ref 1000), some (.ref 0), some (.ref 94), some (.int (nI z))]) (st' := [.int (xs (((nI z) + (nI 1)).toNatClampNeg)), .ref 0]) (σ' := (α, μ)) (pc' := 893) kL_law_887 rfl rfl (rf_a1 (rf_in_n (a := z + 1) (nI_add _ _) (by omega) (Nat.ble_eq_true_of_le (by omega))) rf_a0) ?_
          try rw [(show ((nI z) + (nI 1)) = nI (1 + z) from rf_eq (rf_nadd (x := nI z) (y := nI 1) rfl rfl) (by omega))]
          try rw [(show (nI (1 + z)).toNatClampNeg = (1 + z) from rf_cl_n rfl (by omega))]
          refine ok_Vx (As := [.int (xs (1 + z))]) (b := 0) (st := []) mkX11_shift qL_law_893 rfl (rc_0) rfl rfl rfl rfl (Nat.le_of_ble_eq_true rfl) (op_shift hJ) (fun r1 σ1 hq => ?_)
          obtain ⟨hk, α1, rfl, hm⟩ := hq
          obtain ⟨v, rfl⟩ := rk_i hk (by decide)
          refine ok_step (ps := [rf_in ((nI z) + (nI 1)) Ln]) (L' := [some (.ref 1000), some (.ref 0), some (.ref 94), some (.int (nI z))]) (st' := [.int (xs (((nI z) + (nI 1)).toNatClampNeg)), .ref 94, .int v]) (σ' := (α1, μ)) (pc' := 902) kL_law_896 rfl rfl (rf_a1 (rf_in_n (a := z + 1) (nI_add _ _) (by omega) (Nat.ble_eq_true_of_le (by omega))) rf_a0) ?_
          try rw [(show ((nI z) + (nI 1)) = nI (1 + z) from rf_eq (rf_nadd (x := nI z) (y := nI 1) rfl rfl) (by omega))]
          try rw [(show (nI (1 + z)).toNatClampNeg = (1 + z) from rf_cl_n rfl (by omega))]
          refine ok_Vx (As := [.int (xs (1 + z))]) (b := 94) (st := [.int v]) mkX12_shift qL_law_902 rfl (rc_94) rfl rfl rfl rfl (Nat.le_of_ble_eq_true rfl) (hm) (fun r1 σ1 hq => ?_)
          obtain ⟨rfl, μ1, rfl, hJ1⟩ := hq
          refine ok_icmp_eq bL_law_905 (fun _ => ?_) (fun h905 => absurd (rfl) h905)
          refine ok_step (ps := []) (L' := [some (.ref 1000), some (.ref 0), some (.ref 94), some (.int ((nI z) + (nI 6)))]) (st' := []) (σ' := (α1, μ1)) (pc' := 1752) kL_law_1749 rfl rfl rf_a0 ?_
          try rw [(show ((nI z) + (nI 6)) = nI (z + 6) from nI_add _ _)]
          refine ok_goto bL_law_1752 ?_
          exact ih (z + 6) α1 μ1 (by omega) (by omega) hJ1
        | 18, ht, h33 =>
          cases ht
          refine ok_step (ps := [rf_in ((nI z) + (nI 1)) Ln, rf_in ((nI z) + (nI 2)) Ln]) (L' := [some (.ref 1000), some (.ref 0), some (.ref 94), some (.int (nI z))]) (st' := [.int (xs (((nI z) + (nI 2)).toNatClampNeg)), .int (xs (((nI z) + (nI 1)).toNatClampNeg)), .ref 0]) (σ' := (α, μ)) (pc' := 921) kL_law_910 rfl rfl (rf_a1 (rf_in_n (a := z + 1) (nI_add _ _) (by omega) (Nat.ble_eq_true_of_le (by omega))) (rf_a1 (rf_in_n (a := z + 2) (nI_add _ _) (by omega) (Nat.ble_eq_true_of_le (by omega))) rf_a0)) ?_
          try rw [(show ((nI z) + (nI 1)) = nI (1 + z) from rf_eq (rf_nadd (x := nI z) (y := nI 1) rfl rfl) (by omega))]
          try rw [(show (nI (1 + z)).toNatClampNeg = (1 + z) from rf_cl_n rfl (by omega))]
          try rw [(show ((nI z) + (nI 2)) = nI (2 + z) from rf_eq (rf_nadd (x := nI z) (y := nI 2) rfl rfl) (by omega))]
          try rw [(show (nI (2 + z)).toNatClampNeg = (2 + z) from rf_cl_n rfl (by omega))]
          refine ok_Vx (As := [.int (xs (1 + z)), .int (xs (2 + z))]) (b := 0) (st := []) mkX11_lots qL_law_921 rfl (rc_0) rfl rfl rfl rfl (Nat.le_of_ble_eq_true rfl) (op_lots hJ) (fun r1 σ1 hq => ?_)
          obtain ⟨hk, α1, rfl, hm⟩ := hq
          obtain ⟨v, rfl⟩ := rk_i hk (by decide)
          refine ok_step (ps := [rf_in ((nI z) + (nI 1)) Ln, rf_in ((nI z) + (nI 2)) Ln]) (L' := [some (.ref 1000), some (.ref 0), some (.ref 94), some (.int (nI z))]) (st' := [.int (xs (((nI z) + (nI 2)).toNatClampNeg)), .int (xs (((nI z) + (nI 1)).toNatClampNeg)), .ref 94, .int v]) (σ' := (α1, μ)) (pc' := 935) kL_law_924 rfl rfl (rf_a1 (rf_in_n (a := z + 1) (nI_add _ _) (by omega) (Nat.ble_eq_true_of_le (by omega))) (rf_a1 (rf_in_n (a := z + 2) (nI_add _ _) (by omega) (Nat.ble_eq_true_of_le (by omega))) rf_a0)) ?_
          try rw [(show ((nI z) + (nI 1)) = nI (1 + z) from rf_eq (rf_nadd (x := nI z) (y := nI 1) rfl rfl) (by omega))]
          try rw [(show (nI (1 + z)).toNatClampNeg = (1 + z) from rf_cl_n rfl (by omega))]
          try rw [(show ((nI z) + (nI 2)) = nI (2 + z) from rf_eq (rf_nadd (x := nI z) (y := nI 2) rfl rfl) (by omega))]
          try rw [(show (nI (2 + z)).toNatClampNeg = (2 + z) from rf_cl_n rfl (by omega))]
          refine ok_Vx (As := [.int (xs (1 + z)), .int (xs (2 + z))]) (b := 94) (st := [.int v]) mkX12_lots qL_law_935 rfl (rc_94) rfl rfl rfl rfl (Nat.le_of_ble_eq_true rfl) (hm) (fun r1 σ1 hq => ?_)
          obtain ⟨rfl, μ1, rfl, hJ1⟩ := hq
          refine ok_icmp_eq bL_law_938 (fun _ => ?_) (fun h938 => absurd (rfl) h938)
          refine ok_step (ps := []) (L' := [some (.ref 1000), some (.ref 0), some (.ref 94), some (.int ((nI z) + (nI 6)))]) (st' := []) (σ' := (α1, μ1)) (pc' := 1752) kL_law_1749 rfl rfl rf_a0 ?_
          try rw [(show ((nI z) + (nI 6)) = nI (z + 6) from nI_add _ _)]
          refine ok_goto bL_law_1752 ?_
          exact ih (z + 6) α1 μ1 (by omega) (by omega) hJ1
        | 19, ht, h33 =>
          cases ht
          refine ok_step (ps := [rf_in ((nI z) + (nI 1)) Ln, rf_in ((nI z) + (nI 2)) Ln]) (L' := [some (.ref 1000), some (.ref 0), some (.ref 94), some (.int (nI z))]) (st' := [.int (xs (((nI z) + (nI 2)).toNatClampNeg)), .int (xs (((nI z) + (nI 1)).toNatClampNeg)), .ref 0]) (σ' := (α, μ)) (pc' := 954) kL_law_943 rfl rfl (rf_a1 (rf_in_n (a := z + 1) (nI_add _ _) (by omega) (Nat.ble_eq_true_of_le (by omega))) (rf_a1 (rf_in_n (a := z + 2) (nI_add _ _) (by omega) (Nat.ble_eq_true_of_le (by omega))) rf_a0)) ?_
          try rw [(show ((nI z) + (nI 1)) = nI (1 + z) from rf_eq (rf_nadd (x := nI z) (y := nI 1) rfl rfl) (by omega))]
          try rw [(show (nI (1 + z)).toNatClampNeg = (1 + z) from rf_cl_n rfl (by omega))]
          try rw [(show ((nI z) + (nI 2)) = nI (2 + z) from rf_eq (rf_nadd (x := nI z) (y := nI 2) rfl rfl) (by omega))]
          try rw [(show (nI (2 + z)).toNatClampNeg = (2 + z) from rf_cl_n rfl (by omega))]
          refine ok_Vx (As := [.int (xs (1 + z)), .int (xs (2 + z))]) (b := 0) (st := []) mkX11_ofShift qL_law_954 rfl (rc_0) rfl rfl rfl rfl (Nat.le_of_ble_eq_true rfl) (op_ofShift hJ) (fun r1 σ1 hq => ?_)
          obtain ⟨hk, α1, rfl, hm⟩ := hq
          obtain ⟨v, rfl⟩ := rk_i hk (by decide)
          refine ok_step (ps := [rf_in ((nI z) + (nI 1)) Ln, rf_in ((nI z) + (nI 2)) Ln]) (L' := [some (.ref 1000), some (.ref 0), some (.ref 94), some (.int (nI z))]) (st' := [.int (xs (((nI z) + (nI 2)).toNatClampNeg)), .int (xs (((nI z) + (nI 1)).toNatClampNeg)), .ref 94, .int v]) (σ' := (α1, μ)) (pc' := 968) kL_law_957 rfl rfl (rf_a1 (rf_in_n (a := z + 1) (nI_add _ _) (by omega) (Nat.ble_eq_true_of_le (by omega))) (rf_a1 (rf_in_n (a := z + 2) (nI_add _ _) (by omega) (Nat.ble_eq_true_of_le (by omega))) rf_a0)) ?_
          try rw [(show ((nI z) + (nI 1)) = nI (1 + z) from rf_eq (rf_nadd (x := nI z) (y := nI 1) rfl rfl) (by omega))]
          try rw [(show (nI (1 + z)).toNatClampNeg = (1 + z) from rf_cl_n rfl (by omega))]
          try rw [(show ((nI z) + (nI 2)) = nI (2 + z) from rf_eq (rf_nadd (x := nI z) (y := nI 2) rfl rfl) (by omega))]
          try rw [(show (nI (2 + z)).toNatClampNeg = (2 + z) from rf_cl_n rfl (by omega))]
          refine ok_Vx (As := [.int (xs (1 + z)), .int (xs (2 + z))]) (b := 94) (st := [.int v]) mkX12_ofShift qL_law_968 rfl (rc_94) rfl rfl rfl rfl (Nat.le_of_ble_eq_true rfl) (hm) (fun r1 σ1 hq => ?_)
          obtain ⟨rfl, μ1, rfl, hJ1⟩ := hq
          refine ok_icmp_eq bL_law_971 (fun _ => ?_) (fun h971 => absurd (rfl) h971)
          refine ok_step (ps := []) (L' := [some (.ref 1000), some (.ref 0), some (.ref 94), some (.int ((nI z) + (nI 6)))]) (st' := []) (σ' := (α1, μ1)) (pc' := 1752) kL_law_1749 rfl rfl rf_a0 ?_
          try rw [(show ((nI z) + (nI 6)) = nI (z + 6) from nI_add _ _)]
          refine ok_goto bL_law_1752 ?_
          exact ih (z + 6) α1 μ1 (by omega) (by omega) hJ1
        | 20, ht, h33 =>
          cases ht
          refine ok_step (ps := [rf_in ((nI z) + (nI 1)) Ln, rf_in ((nI z) + (nI 2)) Ln]) (L' := [some (.ref 1000), some (.ref 0), some (.ref 94), some (.int (nI z))]) (st' := [.int (xs (((nI z) + (nI 2)).toNatClampNeg)), .int (xs (((nI z) + (nI 1)).toNatClampNeg)), .ref 0]) (σ' := (α, μ)) (pc' := 987) kL_law_976 rfl rfl (rf_a1 (rf_in_n (a := z + 1) (nI_add _ _) (by omega) (Nat.ble_eq_true_of_le (by omega))) (rf_a1 (rf_in_n (a := z + 2) (nI_add _ _) (by omega) (Nat.ble_eq_true_of_le (by omega))) rf_a0)) ?_
          try rw [(show ((nI z) + (nI 1)) = nI (1 + z) from rf_eq (rf_nadd (x := nI z) (y := nI 1) rfl rfl) (by omega))]
          try rw [(show (nI (1 + z)).toNatClampNeg = (1 + z) from rf_cl_n rfl (by omega))]
          try rw [(show ((nI z) + (nI 2)) = nI (2 + z) from rf_eq (rf_nadd (x := nI z) (y := nI 2) rfl rfl) (by omega))]
          try rw [(show (nI (2 + z)).toNatClampNeg = (2 + z) from rf_cl_n rfl (by omega))]
          refine ok_Vx (As := [.int (xs (1 + z)), .int (xs (2 + z))]) (b := 0) (st := []) mkX11_odds qL_law_987 rfl (rc_0) rfl rfl rfl rfl (Nat.le_of_ble_eq_true rfl) (op_odds hJ) (fun r1 σ1 hq => ?_)
          obtain ⟨hk, α1, rfl, hm⟩ := hq
          obtain ⟨v, rfl⟩ := rk_i hk (by decide)
          refine ok_step (ps := [rf_in ((nI z) + (nI 1)) Ln, rf_in ((nI z) + (nI 2)) Ln]) (L' := [some (.ref 1000), some (.ref 0), some (.ref 94), some (.int (nI z))]) (st' := [.int (xs (((nI z) + (nI 2)).toNatClampNeg)), .int (xs (((nI z) + (nI 1)).toNatClampNeg)), .ref 94, .int v]) (σ' := (α1, μ)) (pc' := 1001) kL_law_990 rfl rfl (rf_a1 (rf_in_n (a := z + 1) (nI_add _ _) (by omega) (Nat.ble_eq_true_of_le (by omega))) (rf_a1 (rf_in_n (a := z + 2) (nI_add _ _) (by omega) (Nat.ble_eq_true_of_le (by omega))) rf_a0)) ?_
          try rw [(show ((nI z) + (nI 1)) = nI (1 + z) from rf_eq (rf_nadd (x := nI z) (y := nI 1) rfl rfl) (by omega))]
          try rw [(show (nI (1 + z)).toNatClampNeg = (1 + z) from rf_cl_n rfl (by omega))]
          try rw [(show ((nI z) + (nI 2)) = nI (2 + z) from rf_eq (rf_nadd (x := nI z) (y := nI 2) rfl rfl) (by omega))]
          try rw [(show (nI (2 + z)).toNatClampNeg = (2 + z) from rf_cl_n rfl (by omega))]
          refine ok_Vx (As := [.int (xs (1 + z)), .int (xs (2 + z))]) (b := 94) (st := [.int v]) mkX12_odds qL_law_1001 rfl (rc_94) rfl rfl rfl rfl (Nat.le_of_ble_eq_true rfl) (hm) (fun r1 σ1 hq => ?_)
          obtain ⟨rfl, μ1, rfl, hJ1⟩ := hq
          refine ok_icmp_eq bL_law_1004 (fun _ => ?_) (fun h1004 => absurd (rfl) h1004)
          refine ok_step (ps := []) (L' := [some (.ref 1000), some (.ref 0), some (.ref 94), some (.int ((nI z) + (nI 6)))]) (st' := []) (σ' := (α1, μ1)) (pc' := 1752) kL_law_1749 rfl rfl rf_a0 ?_
          try rw [(show ((nI z) + (nI 6)) = nI (z + 6) from nI_add _ _)]
          refine ok_goto bL_law_1752 ?_
          exact ih (z + 6) α1 μ1 (by omega) (by omega) hJ1
        | 21, ht, h33 =>
          cases ht
          refine ok_step (ps := []) (L' := [some (.ref 1000), some (.ref 0), some (.ref 94), some (.int (nI z))]) (st' := [.ref 0]) (σ' := (α, μ)) (pc' := 1010) kL_law_1009 rfl rfl rf_a0 ?_
          refine ok_Vx (As := []) (b := 0) (st := []) mkX11_unpaid qL_law_1010 rfl (rc_0) rfl rfl rfl rfl (Nat.le_of_ble_eq_true rfl) (op_unpaid hJ) (fun r1 σ1 hq => ?_)
          obtain ⟨hk, α1, rfl, hm⟩ := hq
          obtain ⟨v, rfl⟩ := rk_i hk (by decide)
          refine ok_step (ps := []) (L' := [some (.ref 1000), some (.ref 0), some (.ref 94), some (.int (nI z))]) (st' := [.ref 94, .int v]) (σ' := (α1, μ)) (pc' := 1014) kL_law_1013 rfl rfl rf_a0 ?_
          refine ok_Vx (As := []) (b := 94) (st := [.int v]) mkX12_unpaid qL_law_1014 rfl (rc_94) rfl rfl rfl rfl (Nat.le_of_ble_eq_true rfl) (hm) (fun r1 σ1 hq => ?_)
          obtain ⟨rfl, μ1, rfl, hJ1⟩ := hq
          refine ok_icmp_eq bL_law_1017 (fun _ => ?_) (fun h1017 => absurd (rfl) h1017)
          refine ok_step (ps := []) (L' := [some (.ref 1000), some (.ref 0), some (.ref 94), some (.int ((nI z) + (nI 6)))]) (st' := []) (σ' := (α1, μ1)) (pc' := 1752) kL_law_1749 rfl rfl rf_a0 ?_
          try rw [(show ((nI z) + (nI 6)) = nI (z + 6) from nI_add _ _)]
          refine ok_goto bL_law_1752 ?_
          exact ih (z + 6) α1 μ1 (by omega) (by omega) hJ1
        | 22, ht, h33 =>
          cases ht
          refine ok_step (ps := [rf_in ((nI z) + (nI 1)) Ln]) (L' := [some (.ref 1000), some (.ref 0), some (.ref 94), some (.int (nI z))]) (st' := [.int (xs (((nI z) + (nI 1)).toNatClampNeg)), .ref 0]) (σ' := (α, μ)) (pc' := 1028) kL_law_1022 rfl rfl (rf_a1 (rf_in_n (a := z + 1) (nI_add _ _) (by omega) (Nat.ble_eq_true_of_le (by omega))) rf_a0) ?_
          try rw [(show ((nI z) + (nI 1)) = nI (1 + z) from rf_eq (rf_nadd (x := nI z) (y := nI 1) rfl rfl) (by omega))]
          try rw [(show (nI (1 + z)).toNatClampNeg = (1 + z) from rf_cl_n rfl (by omega))]
          refine ok_Vx (As := [.int (xs (1 + z))]) (b := 0) (st := []) mkX11_coin qL_law_1028 rfl (rc_0) rfl rfl rfl rfl (Nat.le_of_ble_eq_true rfl) (op_coin hJ) (fun r1 σ1 hq => ?_)
          obtain ⟨hk, α1, rfl, hm⟩ := hq
          obtain ⟨v, rfl⟩ := rk_l hk
          refine ok_step (ps := [rf_in ((nI z) + (nI 1)) Ln]) (L' := [some (.ref 1000), some (.ref 0), some (.ref 94), some (.int (nI z))]) (st' := [.int (xs (((nI z) + (nI 1)).toNatClampNeg)), .ref 94, .long v]) (σ' := (α1, μ)) (pc' := 1037) kL_law_1031 rfl rfl (rf_a1 (rf_in_n (a := z + 1) (nI_add _ _) (by omega) (Nat.ble_eq_true_of_le (by omega))) rf_a0) ?_
          try rw [(show ((nI z) + (nI 1)) = nI (1 + z) from rf_eq (rf_nadd (x := nI z) (y := nI 1) rfl rfl) (by omega))]
          try rw [(show (nI (1 + z)).toNatClampNeg = (1 + z) from rf_cl_n rfl (by omega))]
          refine ok_Vx (As := [.int (xs (1 + z))]) (b := 94) (st := [.long v]) mkX12_coin qL_law_1037 rfl (rc_94) rfl rfl rfl rfl (Nat.le_of_ble_eq_true rfl) (hm) (fun r1 σ1 hq => ?_)
          obtain ⟨rfl, μ1, rfl, hJ1⟩ := hq
          refine ok_step (ps := []) (L' := [some (.ref 1000), some (.ref 0), some (.ref 94), some (.int (nI z))]) (st' := [.int (lg_cmp v v)]) (σ' := (α1, μ1)) (pc' := 1041) kL_law_1040 rfl rfl rf_a0 ?_
          refine ok_if_eq bL_law_1041 (fun _ => ?_) (fun h1041 => absurd (lgc_eq.mpr rfl) h1041)
          refine ok_step (ps := []) (L' := [some (.ref 1000), some (.ref 0), some (.ref 94), some (.int ((nI z) + (nI 6)))]) (st' := []) (σ' := (α1, μ1)) (pc' := 1752) kL_law_1749 rfl rfl rf_a0 ?_
          try rw [(show ((nI z) + (nI 6)) = nI (z + 6) from nI_add _ _)]
          refine ok_goto bL_law_1752 ?_
          exact ih (z + 6) α1 μ1 (by omega) (by omega) hJ1
        | 23, ht, h33 =>
          cases ht
          refine ok_step (ps := [rf_in ((nI z) + (nI 1)) Ln, rf_in ((nI z) + (nI 2)) Ln]) (L' := [some (.ref 1000), some (.ref 0), some (.ref 94), some (.int (nI z))]) (st' := [.int (xs (((nI z) + (nI 2)).toNatClampNeg)), .int (xs (((nI z) + (nI 1)).toNatClampNeg)), .ref 0]) (σ' := (α, μ)) (pc' := 1057) kL_law_1046 rfl rfl (rf_a1 (rf_in_n (a := z + 1) (nI_add _ _) (by omega) (Nat.ble_eq_true_of_le (by omega))) (rf_a1 (rf_in_n (a := z + 2) (nI_add _ _) (by omega) (Nat.ble_eq_true_of_le (by omega))) rf_a0)) ?_
          try rw [(show ((nI z) + (nI 1)) = nI (1 + z) from rf_eq (rf_nadd (x := nI z) (y := nI 1) rfl rfl) (by omega))]
          try rw [(show (nI (1 + z)).toNatClampNeg = (1 + z) from rf_cl_n rfl (by omega))]
          try rw [(show ((nI z) + (nI 2)) = nI (2 + z) from rf_eq (rf_nadd (x := nI z) (y := nI 2) rfl rfl) (by omega))]
          try rw [(show (nI (2 + z)).toNatClampNeg = (2 + z) from rf_cl_n rfl (by omega))]
          refine ok_Vx (As := [.int (xs (1 + z)), .int (xs (2 + z))]) (b := 0) (st := []) mkX11_best qL_law_1057 rfl (rc_0) rfl rfl rfl rfl (Nat.le_of_ble_eq_true rfl) (op_best hJ) (fun r1 σ1 hq => ?_)
          obtain ⟨hk, α1, rfl, hm⟩ := hq
          obtain ⟨v, rfl⟩ := rk_i hk (by decide)
          refine ok_step (ps := [rf_in ((nI z) + (nI 1)) Ln, rf_in ((nI z) + (nI 2)) Ln]) (L' := [some (.ref 1000), some (.ref 0), some (.ref 94), some (.int (nI z))]) (st' := [.int (xs (((nI z) + (nI 2)).toNatClampNeg)), .int (xs (((nI z) + (nI 1)).toNatClampNeg)), .ref 94, .int v]) (σ' := (α1, μ)) (pc' := 1071) kL_law_1060 rfl rfl (rf_a1 (rf_in_n (a := z + 1) (nI_add _ _) (by omega) (Nat.ble_eq_true_of_le (by omega))) (rf_a1 (rf_in_n (a := z + 2) (nI_add _ _) (by omega) (Nat.ble_eq_true_of_le (by omega))) rf_a0)) ?_
          try rw [(show ((nI z) + (nI 1)) = nI (1 + z) from rf_eq (rf_nadd (x := nI z) (y := nI 1) rfl rfl) (by omega))]
          try rw [(show (nI (1 + z)).toNatClampNeg = (1 + z) from rf_cl_n rfl (by omega))]
          try rw [(show ((nI z) + (nI 2)) = nI (2 + z) from rf_eq (rf_nadd (x := nI z) (y := nI 2) rfl rfl) (by omega))]
          try rw [(show (nI (2 + z)).toNatClampNeg = (2 + z) from rf_cl_n rfl (by omega))]
          refine ok_Vx (As := [.int (xs (1 + z)), .int (xs (2 + z))]) (b := 94) (st := [.int v]) mkX12_best qL_law_1071 rfl (rc_94) rfl rfl rfl rfl (Nat.le_of_ble_eq_true rfl) (hm) (fun r1 σ1 hq => ?_)
          obtain ⟨rfl, μ1, rfl, hJ1⟩ := hq
          refine ok_icmp_eq bL_law_1074 (fun _ => ?_) (fun h1074 => absurd (rfl) h1074)
          refine ok_step (ps := []) (L' := [some (.ref 1000), some (.ref 0), some (.ref 94), some (.int ((nI z) + (nI 6)))]) (st' := []) (σ' := (α1, μ1)) (pc' := 1752) kL_law_1749 rfl rfl rf_a0 ?_
          try rw [(show ((nI z) + (nI 6)) = nI (z + 6) from nI_add _ _)]
          refine ok_goto bL_law_1752 ?_
          exact ih (z + 6) α1 μ1 (by omega) (by omega) hJ1
        | 24, ht, h33 =>
          cases ht
          refine ok_step (ps := [rf_in ((nI z) + (nI 1)) Ln]) (L' := [some (.ref 1000), some (.ref 0), some (.ref 94), some (.int (nI z))]) (st' := [.int (xs (((nI z) + (nI 1)).toNatClampNeg)), .ref 0]) (σ' := (α, μ)) (pc' := 1085) kL_law_1079 rfl rfl (rf_a1 (rf_in_n (a := z + 1) (nI_add _ _) (by omega) (Nat.ble_eq_true_of_le (by omega))) rf_a0) ?_
          try rw [(show ((nI z) + (nI 1)) = nI (1 + z) from rf_eq (rf_nadd (x := nI z) (y := nI 1) rfl rfl) (by omega))]
          try rw [(show (nI (1 + z)).toNatClampNeg = (1 + z) from rf_cl_n rfl (by omega))]
          refine ok_Vx (As := [.int (xs (1 + z))]) (b := 0) (st := []) mkX11_plan qL_law_1085 rfl (rc_0) rfl rfl rfl rfl (Nat.le_of_ble_eq_true rfl) (op_plan hJ) (fun r1 σ1 hq => ?_)
          obtain ⟨hk, α1, rfl, hm⟩ := hq
          obtain ⟨v, rfl⟩ := rk_i hk (by decide)
          refine ok_step (ps := [rf_in ((nI z) + (nI 1)) Ln]) (L' := [some (.ref 1000), some (.ref 0), some (.ref 94), some (.int (nI z))]) (st' := [.int (xs (((nI z) + (nI 1)).toNatClampNeg)), .ref 94, .int v]) (σ' := (α1, μ)) (pc' := 1094) kL_law_1088 rfl rfl (rf_a1 (rf_in_n (a := z + 1) (nI_add _ _) (by omega) (Nat.ble_eq_true_of_le (by omega))) rf_a0) ?_
          try rw [(show ((nI z) + (nI 1)) = nI (1 + z) from rf_eq (rf_nadd (x := nI z) (y := nI 1) rfl rfl) (by omega))]
          try rw [(show (nI (1 + z)).toNatClampNeg = (1 + z) from rf_cl_n rfl (by omega))]
          refine ok_Vx (As := [.int (xs (1 + z))]) (b := 94) (st := [.int v]) mkX12_plan qL_law_1094 rfl (rc_94) rfl rfl rfl rfl (Nat.le_of_ble_eq_true rfl) (hm) (fun r1 σ1 hq => ?_)
          obtain ⟨rfl, μ1, rfl, hJ1⟩ := hq
          refine ok_icmp_eq bL_law_1097 (fun _ => ?_) (fun h1097 => absurd (rfl) h1097)
          refine ok_step (ps := []) (L' := [some (.ref 1000), some (.ref 0), some (.ref 94), some (.int ((nI z) + (nI 6)))]) (st' := []) (σ' := (α1, μ1)) (pc' := 1752) kL_law_1749 rfl rfl rf_a0 ?_
          try rw [(show ((nI z) + (nI 6)) = nI (z + 6) from nI_add _ _)]
          refine ok_goto bL_law_1752 ?_
          exact ih (z + 6) α1 μ1 (by omega) (by omega) hJ1
        | 25, ht, h33 =>
          cases ht
          refine ok_step (ps := [rf_in ((nI z) + (nI 1)) Ln]) (L' := [some (.ref 1000), some (.ref 0), some (.ref 94), some (.int (nI z))]) (st' := [.int (xs (((nI z) + (nI 1)).toNatClampNeg)), .ref 0]) (σ' := (α, μ)) (pc' := 1108) kL_law_1102 rfl rfl (rf_a1 (rf_in_n (a := z + 1) (nI_add _ _) (by omega) (Nat.ble_eq_true_of_le (by omega))) rf_a0) ?_
          try rw [(show ((nI z) + (nI 1)) = nI (1 + z) from rf_eq (rf_nadd (x := nI z) (y := nI 1) rfl rfl) (by omega))]
          try rw [(show (nI (1 + z)).toNatClampNeg = (1 + z) from rf_cl_n rfl (by omega))]
          refine ok_Vx (As := [.int (xs (1 + z))]) (b := 0) (st := []) mkX11_days qL_law_1108 rfl (rc_0) rfl rfl rfl rfl (Nat.le_of_ble_eq_true rfl) (op_days hJ) (fun r1 σ1 hq => ?_)
          obtain ⟨hk, α1, rfl, hm⟩ := hq
          obtain ⟨v, rfl⟩ := rk_i hk (by decide)
          refine ok_step (ps := [rf_in ((nI z) + (nI 1)) Ln]) (L' := [some (.ref 1000), some (.ref 0), some (.ref 94), some (.int (nI z))]) (st' := [.int (xs (((nI z) + (nI 1)).toNatClampNeg)), .ref 94, .int v]) (σ' := (α1, μ)) (pc' := 1117) kL_law_1111 rfl rfl (rf_a1 (rf_in_n (a := z + 1) (nI_add _ _) (by omega) (Nat.ble_eq_true_of_le (by omega))) rf_a0) ?_
          try rw [(show ((nI z) + (nI 1)) = nI (1 + z) from rf_eq (rf_nadd (x := nI z) (y := nI 1) rfl rfl) (by omega))]
          try rw [(show (nI (1 + z)).toNatClampNeg = (1 + z) from rf_cl_n rfl (by omega))]
          refine ok_Vx (As := [.int (xs (1 + z))]) (b := 94) (st := [.int v]) mkX12_days qL_law_1117 rfl (rc_94) rfl rfl rfl rfl (Nat.le_of_ble_eq_true rfl) (hm) (fun r1 σ1 hq => ?_)
          obtain ⟨rfl, μ1, rfl, hJ1⟩ := hq
          refine ok_icmp_eq bL_law_1120 (fun _ => ?_) (fun h1120 => absurd (rfl) h1120)
          refine ok_step (ps := []) (L' := [some (.ref 1000), some (.ref 0), some (.ref 94), some (.int ((nI z) + (nI 6)))]) (st' := []) (σ' := (α1, μ1)) (pc' := 1752) kL_law_1749 rfl rfl rf_a0 ?_
          try rw [(show ((nI z) + (nI 6)) = nI (z + 6) from nI_add _ _)]
          refine ok_goto bL_law_1752 ?_
          exact ih (z + 6) α1 μ1 (by omega) (by omega) hJ1
        | 26, ht, h33 =>
          cases ht
          refine ok_step (ps := [rf_in ((nI z) + (nI 1)) Ln, rf_in ((nI z) + (nI 2)) Ln]) (L' := [some (.ref 1000), some (.ref 0), some (.ref 94), some (.int (nI z))]) (st' := [.int (xs (((nI z) + (nI 2)).toNatClampNeg)), .int (xs (((nI z) + (nI 1)).toNatClampNeg)), .ref 0]) (σ' := (α, μ)) (pc' := 1136) kL_law_1125 rfl rfl (rf_a1 (rf_in_n (a := z + 1) (nI_add _ _) (by omega) (Nat.ble_eq_true_of_le (by omega))) (rf_a1 (rf_in_n (a := z + 2) (nI_add _ _) (by omega) (Nat.ble_eq_true_of_le (by omega))) rf_a0)) ?_
          try rw [(show ((nI z) + (nI 1)) = nI (1 + z) from rf_eq (rf_nadd (x := nI z) (y := nI 1) rfl rfl) (by omega))]
          try rw [(show (nI (1 + z)).toNatClampNeg = (1 + z) from rf_cl_n rfl (by omega))]
          try rw [(show ((nI z) + (nI 2)) = nI (2 + z) from rf_eq (rf_nadd (x := nI z) (y := nI 2) rfl rfl) (by omega))]
          try rw [(show (nI (2 + z)).toNatClampNeg = (2 + z) from rf_cl_n rfl (by omega))]
          refine ok_Vx (As := [.int (xs (1 + z)), .int (xs (2 + z))]) (b := 0) (st := []) mkX11_find qL_law_1136 rfl (rc_0) rfl rfl rfl rfl (Nat.le_of_ble_eq_true rfl) (op_find hJ) (fun r1 σ1 hq => ?_)
          obtain ⟨hk, α1, rfl, hm⟩ := hq
          obtain ⟨v, rfl⟩ := rk_i hk (by decide)
          refine ok_step (ps := [rf_in ((nI z) + (nI 1)) Ln, rf_in ((nI z) + (nI 2)) Ln]) (L' := [some (.ref 1000), some (.ref 0), some (.ref 94), some (.int (nI z))]) (st' := [.int (xs (((nI z) + (nI 2)).toNatClampNeg)), .int (xs (((nI z) + (nI 1)).toNatClampNeg)), .ref 94, .int v]) (σ' := (α1, μ)) (pc' := 1150) kL_law_1139 rfl rfl (rf_a1 (rf_in_n (a := z + 1) (nI_add _ _) (by omega) (Nat.ble_eq_true_of_le (by omega))) (rf_a1 (rf_in_n (a := z + 2) (nI_add _ _) (by omega) (Nat.ble_eq_true_of_le (by omega))) rf_a0)) ?_
          try rw [(show ((nI z) + (nI 1)) = nI (1 + z) from rf_eq (rf_nadd (x := nI z) (y := nI 1) rfl rfl) (by omega))]
          try rw [(show (nI (1 + z)).toNatClampNeg = (1 + z) from rf_cl_n rfl (by omega))]
          try rw [(show ((nI z) + (nI 2)) = nI (2 + z) from rf_eq (rf_nadd (x := nI z) (y := nI 2) rfl rfl) (by omega))]
          try rw [(show (nI (2 + z)).toNatClampNeg = (2 + z) from rf_cl_n rfl (by omega))]
          refine ok_Vx (As := [.int (xs (1 + z)), .int (xs (2 + z))]) (b := 94) (st := [.int v]) mkX12_find qL_law_1150 rfl (rc_94) rfl rfl rfl rfl (Nat.le_of_ble_eq_true rfl) (hm) (fun r1 σ1 hq => ?_)
          obtain ⟨rfl, μ1, rfl, hJ1⟩ := hq
          refine ok_icmp_eq bL_law_1153 (fun _ => ?_) (fun h1153 => absurd (rfl) h1153)
          refine ok_step (ps := []) (L' := [some (.ref 1000), some (.ref 0), some (.ref 94), some (.int ((nI z) + (nI 6)))]) (st' := []) (σ' := (α1, μ1)) (pc' := 1752) kL_law_1749 rfl rfl rf_a0 ?_
          try rw [(show ((nI z) + (nI 6)) = nI (z + 6) from nI_add _ _)]
          refine ok_goto bL_law_1752 ?_
          exact ih (z + 6) α1 μ1 (by omega) (by omega) hJ1
        | 27, ht, h33 =>
          cases ht
          refine ok_step (ps := []) (L' := [some (.ref 1000), some (.ref 0), some (.ref 94), some (.int (nI z))]) (st' := [.ref 0]) (σ' := (α, μ)) (pc' := 1159) kL_law_1158 rfl rfl rf_a0 ?_
          refine ok_Vx (As := []) (b := 0) (st := []) mkX11_average qL_law_1159 rfl (rc_0) rfl rfl rfl rfl (Nat.le_of_ble_eq_true rfl) (op_average hJ) (fun r1 σ1 hq => ?_)
          obtain ⟨hk, α1, rfl, hm⟩ := hq
          obtain ⟨v, rfl⟩ := rk_i hk (by decide)
          refine ok_step (ps := []) (L' := [some (.ref 1000), some (.ref 0), some (.ref 94), some (.int (nI z))]) (st' := [.ref 94, .int v]) (σ' := (α1, μ)) (pc' := 1163) kL_law_1162 rfl rfl rf_a0 ?_
          refine ok_Vx (As := []) (b := 94) (st := [.int v]) mkX12_average qL_law_1163 rfl (rc_94) rfl rfl rfl rfl (Nat.le_of_ble_eq_true rfl) (hm) (fun r1 σ1 hq => ?_)
          obtain ⟨rfl, μ1, rfl, hJ1⟩ := hq
          refine ok_icmp_eq bL_law_1166 (fun _ => ?_) (fun h1166 => absurd (rfl) h1166)
          refine ok_step (ps := []) (L' := [some (.ref 1000), some (.ref 0), some (.ref 94), some (.int ((nI z) + (nI 6)))]) (st' := []) (σ' := (α1, μ1)) (pc' := 1752) kL_law_1749 rfl rfl rf_a0 ?_
          try rw [(show ((nI z) + (nI 6)) = nI (z + 6) from nI_add _ _)]
          refine ok_goto bL_law_1752 ?_
          exact ih (z + 6) α1 μ1 (by omega) (by omega) hJ1
        | 28, ht, h33 =>
          cases ht
          refine ok_step (ps := [rf_in ((nI z) + (nI 1)) Ln, rf_in ((nI z) + (nI 2)) Ln, rf_in ((nI z) + (nI 3)) Ln, rf_in ((nI z) + (nI 4)) Ln]) (L' := [some (.ref 1000), some (.ref 0), some (.ref 94), some (.int (nI z))]) (st' := [.int (xs (((nI z) + (nI 4)).toNatClampNeg)), .int (xs (((nI z) + (nI 3)).toNatClampNeg)), .int (xs (((nI z) + (nI 2)).toNatClampNeg)), .int (xs (((nI z) + (nI 1)).toNatClampNeg)), .ref 0]) (σ' := (α, μ)) (pc' := 1192) kL_law_1171 rfl rfl (rf_a1 (rf_in_n (a := z + 1) (nI_add _ _) (by omega) (Nat.ble_eq_true_of_le (by omega))) (rf_a1 (rf_in_n (a := z + 2) (nI_add _ _) (by omega) (Nat.ble_eq_true_of_le (by omega))) (rf_a1 (rf_in_n (a := z + 3) (nI_add _ _) (by omega) (Nat.ble_eq_true_of_le (by omega))) (rf_a1 (rf_in_n (a := z + 4) (nI_add _ _) (by omega) (Nat.ble_eq_true_of_le (by omega))) rf_a0)))) ?_
          try rw [(show ((nI z) + (nI 1)) = nI (1 + z) from rf_eq (rf_nadd (x := nI z) (y := nI 1) rfl rfl) (by omega))]
          try rw [(show (nI (1 + z)).toNatClampNeg = (1 + z) from rf_cl_n rfl (by omega))]
          try rw [(show ((nI z) + (nI 2)) = nI (2 + z) from rf_eq (rf_nadd (x := nI z) (y := nI 2) rfl rfl) (by omega))]
          try rw [(show (nI (2 + z)).toNatClampNeg = (2 + z) from rf_cl_n rfl (by omega))]
          try rw [(show ((nI z) + (nI 3)) = nI (3 + z) from rf_eq (rf_nadd (x := nI z) (y := nI 3) rfl rfl) (by omega))]
          try rw [(show (nI (3 + z)).toNatClampNeg = (3 + z) from rf_cl_n rfl (by omega))]
          try rw [(show ((nI z) + (nI 4)) = nI (4 + z) from rf_eq (rf_nadd (x := nI z) (y := nI 4) rfl rfl) (by omega))]
          try rw [(show (nI (4 + z)).toNatClampNeg = (4 + z) from rf_cl_n rfl (by omega))]
          refine ok_Vx (As := [.int (xs (1 + z)), .int (xs (2 + z)), .int (xs (3 + z)), .int (xs (4 + z))]) (b := 0) (st := []) mkX11_telling qL_law_1192 rfl (rc_0) rfl rfl rfl rfl (Nat.le_of_ble_eq_true rfl) (op_telling hJ) (fun r1 σ1 hq => ?_)
          obtain ⟨hk, α1, rfl, hm⟩ := hq
          obtain ⟨v, rfl⟩ := rk_i hk (by decide)
          refine ok_step (ps := [rf_in ((nI z) + (nI 1)) Ln, rf_in ((nI z) + (nI 2)) Ln, rf_in ((nI z) + (nI 3)) Ln, rf_in ((nI z) + (nI 4)) Ln]) (L' := [some (.ref 1000), some (.ref 0), some (.ref 94), some (.int (nI z))]) (st' := [.int (xs (((nI z) + (nI 4)).toNatClampNeg)), .int (xs (((nI z) + (nI 3)).toNatClampNeg)), .int (xs (((nI z) + (nI 2)).toNatClampNeg)), .int (xs (((nI z) + (nI 1)).toNatClampNeg)), .ref 94, .int v]) (σ' := (α1, μ)) (pc' := 1216) kL_law_1195 rfl rfl (rf_a1 (rf_in_n (a := z + 1) (nI_add _ _) (by omega) (Nat.ble_eq_true_of_le (by omega))) (rf_a1 (rf_in_n (a := z + 2) (nI_add _ _) (by omega) (Nat.ble_eq_true_of_le (by omega))) (rf_a1 (rf_in_n (a := z + 3) (nI_add _ _) (by omega) (Nat.ble_eq_true_of_le (by omega))) (rf_a1 (rf_in_n (a := z + 4) (nI_add _ _) (by omega) (Nat.ble_eq_true_of_le (by omega))) rf_a0)))) ?_
          try rw [(show ((nI z) + (nI 1)) = nI (1 + z) from rf_eq (rf_nadd (x := nI z) (y := nI 1) rfl rfl) (by omega))]
          try rw [(show (nI (1 + z)).toNatClampNeg = (1 + z) from rf_cl_n rfl (by omega))]
          try rw [(show ((nI z) + (nI 2)) = nI (2 + z) from rf_eq (rf_nadd (x := nI z) (y := nI 2) rfl rfl) (by omega))]
          try rw [(show (nI (2 + z)).toNatClampNeg = (2 + z) from rf_cl_n rfl (by omega))]
          try rw [(show ((nI z) + (nI 3)) = nI (3 + z) from rf_eq (rf_nadd (x := nI z) (y := nI 3) rfl rfl) (by omega))]
          try rw [(show (nI (3 + z)).toNatClampNeg = (3 + z) from rf_cl_n rfl (by omega))]
          try rw [(show ((nI z) + (nI 4)) = nI (4 + z) from rf_eq (rf_nadd (x := nI z) (y := nI 4) rfl rfl) (by omega))]
          try rw [(show (nI (4 + z)).toNatClampNeg = (4 + z) from rf_cl_n rfl (by omega))]
          refine ok_Vx (As := [.int (xs (1 + z)), .int (xs (2 + z)), .int (xs (3 + z)), .int (xs (4 + z))]) (b := 94) (st := [.int v]) mkX12_telling qL_law_1216 rfl (rc_94) rfl rfl rfl rfl (Nat.le_of_ble_eq_true rfl) (hm) (fun r1 σ1 hq => ?_)
          obtain ⟨rfl, μ1, rfl, hJ1⟩ := hq
          refine ok_icmp_eq bL_law_1219 (fun _ => ?_) (fun h1219 => absurd (rfl) h1219)
          refine ok_step (ps := []) (L' := [some (.ref 1000), some (.ref 0), some (.ref 94), some (.int ((nI z) + (nI 6)))]) (st' := []) (σ' := (α1, μ1)) (pc' := 1752) kL_law_1749 rfl rfl rf_a0 ?_
          try rw [(show ((nI z) + (nI 6)) = nI (z + 6) from nI_add _ _)]
          refine ok_goto bL_law_1752 ?_
          exact ih (z + 6) α1 μ1 (by omega) (by omega) hJ1
        | 29, ht, h33 =>
          cases ht
          refine ok_step (ps := [rf_in ((nI z) + (nI 1)) Ln]) (L' := [some (.ref 1000), some (.ref 0), some (.ref 94), some (.int (nI z))]) (st' := [.int (xs (((nI z) + (nI 1)).toNatClampNeg)), .ref 0]) (σ' := (α, μ)) (pc' := 1230) kL_law_1224 rfl rfl (rf_a1 (rf_in_n (a := z + 1) (nI_add _ _) (by omega) (Nat.ble_eq_true_of_le (by omega))) rf_a0) ?_
          try rw [(show ((nI z) + (nI 1)) = nI (1 + z) from rf_eq (rf_nadd (x := nI z) (y := nI 1) rfl rfl) (by omega))]
          try rw [(show (nI (1 + z)).toNatClampNeg = (1 + z) from rf_cl_n rfl (by omega))]
          refine ok_Vx (As := [.int (xs (1 + z))]) (b := 0) (st := []) mkX11_turn qL_law_1230 rfl (rc_0) rfl rfl rfl rfl (Nat.le_of_ble_eq_true rfl) (op_turn hJ) (fun r1 σ1 hq => ?_)
          obtain ⟨hk, α1, rfl, hm⟩ := hq
          obtain ⟨v, rfl⟩ := rk_i hk (by decide)
          refine ok_step (ps := [rf_in ((nI z) + (nI 1)) Ln]) (L' := [some (.ref 1000), some (.ref 0), some (.ref 94), some (.int (nI z))]) (st' := [.int (xs (((nI z) + (nI 1)).toNatClampNeg)), .ref 94, .int v]) (σ' := (α1, μ)) (pc' := 1239) kL_law_1233 rfl rfl (rf_a1 (rf_in_n (a := z + 1) (nI_add _ _) (by omega) (Nat.ble_eq_true_of_le (by omega))) rf_a0) ?_
          try rw [(show ((nI z) + (nI 1)) = nI (1 + z) from rf_eq (rf_nadd (x := nI z) (y := nI 1) rfl rfl) (by omega))]
          try rw [(show (nI (1 + z)).toNatClampNeg = (1 + z) from rf_cl_n rfl (by omega))]
          refine ok_Vx (As := [.int (xs (1 + z))]) (b := 94) (st := [.int v]) mkX12_turn qL_law_1239 rfl (rc_94) rfl rfl rfl rfl (Nat.le_of_ble_eq_true rfl) (hm) (fun r1 σ1 hq => ?_)
          obtain ⟨rfl, μ1, rfl, hJ1⟩ := hq
          refine ok_icmp_eq bL_law_1242 (fun _ => ?_) (fun h1242 => absurd (rfl) h1242)
          refine ok_step (ps := []) (L' := [some (.ref 1000), some (.ref 0), some (.ref 94), some (.int ((nI z) + (nI 6)))]) (st' := []) (σ' := (α1, μ1)) (pc' := 1752) kL_law_1749 rfl rfl rf_a0 ?_
          try rw [(show ((nI z) + (nI 6)) = nI (z + 6) from nI_add _ _)]
          refine ok_goto bL_law_1752 ?_
          exact ih (z + 6) α1 μ1 (by omega) (by omega) hJ1
        | 30, ht, h33 =>
          cases ht
          refine ok_step (ps := [rf_in ((nI z) + (nI 1)) Ln, rf_in ((nI z) + (nI 2)) Ln]) (L' := [some (.ref 1000), some (.ref 0), some (.ref 94), some (.int (nI z))]) (st' := [.int (xs (((nI z) + (nI 2)).toNatClampNeg)), .int (xs (((nI z) + (nI 1)).toNatClampNeg)), .ref 0]) (σ' := (α, μ)) (pc' := 1258) kL_law_1247 rfl rfl (rf_a1 (rf_in_n (a := z + 1) (nI_add _ _) (by omega) (Nat.ble_eq_true_of_le (by omega))) (rf_a1 (rf_in_n (a := z + 2) (nI_add _ _) (by omega) (Nat.ble_eq_true_of_le (by omega))) rf_a0)) ?_
          try rw [(show ((nI z) + (nI 1)) = nI (1 + z) from rf_eq (rf_nadd (x := nI z) (y := nI 1) rfl rfl) (by omega))]
          try rw [(show (nI (1 + z)).toNatClampNeg = (1 + z) from rf_cl_n rfl (by omega))]
          try rw [(show ((nI z) + (nI 2)) = nI (2 + z) from rf_eq (rf_nadd (x := nI z) (y := nI 2) rfl rfl) (by omega))]
          try rw [(show (nI (2 + z)).toNatClampNeg = (2 + z) from rf_cl_n rfl (by omega))]
          refine ok_Vx (As := [.int (xs (1 + z)), .int (xs (2 + z))]) (b := 0) (st := []) mkX11_gate qL_law_1258 rfl (rc_0) rfl rfl rfl rfl (Nat.le_of_ble_eq_true rfl) (op_gate hJ) (fun r1 σ1 hq => ?_)
          obtain ⟨hk, α1, rfl, hm⟩ := hq
          obtain ⟨v, rfl⟩ := rk_i hk (by decide)
          refine ok_step (ps := [rf_in ((nI z) + (nI 1)) Ln, rf_in ((nI z) + (nI 2)) Ln]) (L' := [some (.ref 1000), some (.ref 0), some (.ref 94), some (.int (nI z))]) (st' := [.int (xs (((nI z) + (nI 2)).toNatClampNeg)), .int (xs (((nI z) + (nI 1)).toNatClampNeg)), .ref 94, .int v]) (σ' := (α1, μ)) (pc' := 1272) kL_law_1261 rfl rfl (rf_a1 (rf_in_n (a := z + 1) (nI_add _ _) (by omega) (Nat.ble_eq_true_of_le (by omega))) (rf_a1 (rf_in_n (a := z + 2) (nI_add _ _) (by omega) (Nat.ble_eq_true_of_le (by omega))) rf_a0)) ?_
          try rw [(show ((nI z) + (nI 1)) = nI (1 + z) from rf_eq (rf_nadd (x := nI z) (y := nI 1) rfl rfl) (by omega))]
          try rw [(show (nI (1 + z)).toNatClampNeg = (1 + z) from rf_cl_n rfl (by omega))]
          try rw [(show ((nI z) + (nI 2)) = nI (2 + z) from rf_eq (rf_nadd (x := nI z) (y := nI 2) rfl rfl) (by omega))]
          try rw [(show (nI (2 + z)).toNatClampNeg = (2 + z) from rf_cl_n rfl (by omega))]
          refine ok_Vx (As := [.int (xs (1 + z)), .int (xs (2 + z))]) (b := 94) (st := [.int v]) mkX12_gate qL_law_1272 rfl (rc_94) rfl rfl rfl rfl (Nat.le_of_ble_eq_true rfl) (hm) (fun r1 σ1 hq => ?_)
          obtain ⟨rfl, μ1, rfl, hJ1⟩ := hq
          refine ok_icmp_eq bL_law_1275 (fun _ => ?_) (fun h1275 => absurd (rfl) h1275)
          refine ok_step (ps := []) (L' := [some (.ref 1000), some (.ref 0), some (.ref 94), some (.int ((nI z) + (nI 6)))]) (st' := []) (σ' := (α1, μ1)) (pc' := 1752) kL_law_1749 rfl rfl rf_a0 ?_
          try rw [(show ((nI z) + (nI 6)) = nI (z + 6) from nI_add _ _)]
          refine ok_goto bL_law_1752 ?_
          exact ih (z + 6) α1 μ1 (by omega) (by omega) hJ1
        | 31, ht, h33 =>
          cases ht
          refine ok_step (ps := [rf_in ((nI z) + (nI 1)) Ln, rf_in ((nI z) + (nI 2)) Ln]) (L' := [some (.ref 1000), some (.ref 0), some (.ref 94), some (.int (nI z))]) (st' := [.int (xs (((nI z) + (nI 2)).toNatClampNeg)), .int (xs (((nI z) + (nI 1)).toNatClampNeg)), .ref 0]) (σ' := (α, μ)) (pc' := 1291) kL_law_1280 rfl rfl (rf_a1 (rf_in_n (a := z + 1) (nI_add _ _) (by omega) (Nat.ble_eq_true_of_le (by omega))) (rf_a1 (rf_in_n (a := z + 2) (nI_add _ _) (by omega) (Nat.ble_eq_true_of_le (by omega))) rf_a0)) ?_
          try rw [(show ((nI z) + (nI 1)) = nI (1 + z) from rf_eq (rf_nadd (x := nI z) (y := nI 1) rfl rfl) (by omega))]
          try rw [(show (nI (1 + z)).toNatClampNeg = (1 + z) from rf_cl_n rfl (by omega))]
          try rw [(show ((nI z) + (nI 2)) = nI (2 + z) from rf_eq (rf_nadd (x := nI z) (y := nI 2) rfl rfl) (by omega))]
          try rw [(show (nI (2 + z)).toNatClampNeg = (2 + z) from rf_cl_n rfl (by omega))]
          refine ok_Vx (As := [.int (xs (1 + z)), .int (xs (2 + z))]) (b := 0) (st := []) mkX11_wrong qL_law_1291 rfl (rc_0) rfl rfl rfl rfl (Nat.le_of_ble_eq_true rfl) (op_wrong hJ) (fun r1 σ1 hq => ?_)
          obtain ⟨hk, α1, rfl, hm⟩ := hq
          obtain ⟨v, rfl⟩ := rk_l hk
          refine ok_step (ps := [rf_in ((nI z) + (nI 1)) Ln, rf_in ((nI z) + (nI 2)) Ln]) (L' := [some (.ref 1000), some (.ref 0), some (.ref 94), some (.int (nI z))]) (st' := [.int (xs (((nI z) + (nI 2)).toNatClampNeg)), .int (xs (((nI z) + (nI 1)).toNatClampNeg)), .ref 94, .long v]) (σ' := (α1, μ)) (pc' := 1305) kL_law_1294 rfl rfl (rf_a1 (rf_in_n (a := z + 1) (nI_add _ _) (by omega) (Nat.ble_eq_true_of_le (by omega))) (rf_a1 (rf_in_n (a := z + 2) (nI_add _ _) (by omega) (Nat.ble_eq_true_of_le (by omega))) rf_a0)) ?_
          try rw [(show ((nI z) + (nI 1)) = nI (1 + z) from rf_eq (rf_nadd (x := nI z) (y := nI 1) rfl rfl) (by omega))]
          try rw [(show (nI (1 + z)).toNatClampNeg = (1 + z) from rf_cl_n rfl (by omega))]
          try rw [(show ((nI z) + (nI 2)) = nI (2 + z) from rf_eq (rf_nadd (x := nI z) (y := nI 2) rfl rfl) (by omega))]
          try rw [(show (nI (2 + z)).toNatClampNeg = (2 + z) from rf_cl_n rfl (by omega))]
          refine ok_Vx (As := [.int (xs (1 + z)), .int (xs (2 + z))]) (b := 94) (st := [.long v]) mkX12_wrong_ qL_law_1305 rfl (rc_94) rfl rfl rfl rfl (Nat.le_of_ble_eq_true rfl) (hm) (fun r1 σ1 hq => ?_)
          obtain ⟨rfl, μ1, rfl, hJ1⟩ := hq
          refine ok_step (ps := []) (L' := [some (.ref 1000), some (.ref 0), some (.ref 94), some (.int (nI z))]) (st' := [.int (lg_cmp v v)]) (σ' := (α1, μ1)) (pc' := 1309) kL_law_1308 rfl rfl rf_a0 ?_
          refine ok_if_eq bL_law_1309 (fun _ => ?_) (fun h1309 => absurd (lgc_eq.mpr rfl) h1309)
          refine ok_step (ps := []) (L' := [some (.ref 1000), some (.ref 0), some (.ref 94), some (.int ((nI z) + (nI 6)))]) (st' := []) (σ' := (α1, μ1)) (pc' := 1752) kL_law_1749 rfl rfl rf_a0 ?_
          try rw [(show ((nI z) + (nI 6)) = nI (z + 6) from nI_add _ _)]
          refine ok_goto bL_law_1752 ?_
          exact ih (z + 6) α1 μ1 (by omega) (by omega) hJ1
        | 32, ht, h33 =>
          cases ht
          refine ok_step (ps := [rf_in ((nI z) + (nI 1)) Ln, rf_in ((nI z) + (nI 2)) Ln]) (L' := [some (.ref 1000), some (.ref 0), some (.ref 94), some (.int (nI z))]) (st' := [.int (xs (((nI z) + (nI 2)).toNatClampNeg)), .int (xs (((nI z) + (nI 1)).toNatClampNeg)), .ref 0]) (σ' := (α, μ)) (pc' := 1325) kL_law_1314 rfl rfl (rf_a1 (rf_in_n (a := z + 1) (nI_add _ _) (by omega) (Nat.ble_eq_true_of_le (by omega))) (rf_a1 (rf_in_n (a := z + 2) (nI_add _ _) (by omega) (Nat.ble_eq_true_of_le (by omega))) rf_a0)) ?_
          try rw [(show ((nI z) + (nI 1)) = nI (1 + z) from rf_eq (rf_nadd (x := nI z) (y := nI 1) rfl rfl) (by omega))]
          try rw [(show (nI (1 + z)).toNatClampNeg = (1 + z) from rf_cl_n rfl (by omega))]
          try rw [(show ((nI z) + (nI 2)) = nI (2 + z) from rf_eq (rf_nadd (x := nI z) (y := nI 2) rfl rfl) (by omega))]
          try rw [(show (nI (2 + z)).toNatClampNeg = (2 + z) from rf_cl_n rfl (by omega))]
          refine ok_Vx (As := [.int (xs (1 + z)), .int (xs (2 + z))]) (b := 0) (st := []) mkX11_seen qL_law_1325 rfl (rc_0) rfl rfl rfl rfl (Nat.le_of_ble_eq_true rfl) (op_seen hJ) (fun r1 σ1 hq => ?_)
          obtain ⟨hk, α1, rfl, hm⟩ := hq
          obtain ⟨v, rfl⟩ := rk_i hk (by decide)
          refine ok_step (ps := [rf_in ((nI z) + (nI 1)) Ln, rf_in ((nI z) + (nI 2)) Ln]) (L' := [some (.ref 1000), some (.ref 0), some (.ref 94), some (.int (nI z))]) (st' := [.int (xs (((nI z) + (nI 2)).toNatClampNeg)), .int (xs (((nI z) + (nI 1)).toNatClampNeg)), .ref 94, .int v]) (σ' := (α1, μ)) (pc' := 1339) kL_law_1328 rfl rfl (rf_a1 (rf_in_n (a := z + 1) (nI_add _ _) (by omega) (Nat.ble_eq_true_of_le (by omega))) (rf_a1 (rf_in_n (a := z + 2) (nI_add _ _) (by omega) (Nat.ble_eq_true_of_le (by omega))) rf_a0)) ?_
          try rw [(show ((nI z) + (nI 1)) = nI (1 + z) from rf_eq (rf_nadd (x := nI z) (y := nI 1) rfl rfl) (by omega))]
          try rw [(show (nI (1 + z)).toNatClampNeg = (1 + z) from rf_cl_n rfl (by omega))]
          try rw [(show ((nI z) + (nI 2)) = nI (2 + z) from rf_eq (rf_nadd (x := nI z) (y := nI 2) rfl rfl) (by omega))]
          try rw [(show (nI (2 + z)).toNatClampNeg = (2 + z) from rf_cl_n rfl (by omega))]
          refine ok_Vx (As := [.int (xs (1 + z)), .int (xs (2 + z))]) (b := 94) (st := [.int v]) mkX12_seen qL_law_1339 rfl (rc_94) rfl rfl rfl rfl (Nat.le_of_ble_eq_true rfl) (hm) (fun r1 σ1 hq => ?_)
          obtain ⟨rfl, μ1, rfl, hJ1⟩ := hq
          refine ok_icmp_eq bL_law_1342 (fun _ => ?_) (fun h1342 => absurd (rfl) h1342)
          refine ok_step (ps := []) (L' := [some (.ref 1000), some (.ref 0), some (.ref 94), some (.int ((nI z) + (nI 6)))]) (st' := []) (σ' := (α1, μ1)) (pc' := 1752) kL_law_1749 rfl rfl rf_a0 ?_
          try rw [(show ((nI z) + (nI 6)) = nI (z + 6) from nI_add _ _)]
          refine ok_goto bL_law_1752 ?_
          exact ih (z + 6) α1 μ1 (by omega) (by omega) hJ1
        | 33, ht, h33 =>
          cases ht
          refine ok_step (ps := [rf_in ((nI z) + (nI 1)) Ln]) (L' := [some (.ref 1000), some (.ref 0), some (.ref 94), some (.int (nI z))]) (st' := [.int (xs (((nI z) + (nI 1)).toNatClampNeg)), .ref 0]) (σ' := (α, μ)) (pc' := 1353) kL_law_1347 rfl rfl (rf_a1 (rf_in_n (a := z + 1) (nI_add _ _) (by omega) (Nat.ble_eq_true_of_le (by omega))) rf_a0) ?_
          try rw [(show ((nI z) + (nI 1)) = nI (1 + z) from rf_eq (rf_nadd (x := nI z) (y := nI 1) rfl rfl) (by omega))]
          try rw [(show (nI (1 + z)).toNatClampNeg = (1 + z) from rf_cl_n rfl (by omega))]
          refine ok_Vx (As := [.int (xs (1 + z))]) (b := 0) (st := []) mkX11_fair qL_law_1353 rfl (rc_0) rfl rfl rfl rfl (Nat.le_of_ble_eq_true rfl) (op_fair hJ) (fun r1 σ1 hq => ?_)
          obtain ⟨hk, α1, rfl, hm⟩ := hq
          obtain ⟨v, rfl⟩ := rk_i hk (by decide)
          refine ok_step (ps := [rf_in ((nI z) + (nI 1)) Ln]) (L' := [some (.ref 1000), some (.ref 0), some (.ref 94), some (.int (nI z))]) (st' := [.int (xs (((nI z) + (nI 1)).toNatClampNeg)), .ref 94, .int v]) (σ' := (α1, μ)) (pc' := 1362) kL_law_1356 rfl rfl (rf_a1 (rf_in_n (a := z + 1) (nI_add _ _) (by omega) (Nat.ble_eq_true_of_le (by omega))) rf_a0) ?_
          try rw [(show ((nI z) + (nI 1)) = nI (1 + z) from rf_eq (rf_nadd (x := nI z) (y := nI 1) rfl rfl) (by omega))]
          try rw [(show (nI (1 + z)).toNatClampNeg = (1 + z) from rf_cl_n rfl (by omega))]
          refine ok_Vx (As := [.int (xs (1 + z))]) (b := 94) (st := [.int v]) mkX12_fair qL_law_1362 rfl (rc_94) rfl rfl rfl rfl (Nat.le_of_ble_eq_true rfl) (hm) (fun r1 σ1 hq => ?_)
          obtain ⟨rfl, μ1, rfl, hJ1⟩ := hq
          refine ok_icmp_eq bL_law_1365 (fun _ => ?_) (fun h1365 => absurd (rfl) h1365)
          refine ok_step (ps := []) (L' := [some (.ref 1000), some (.ref 0), some (.ref 94), some (.int ((nI z) + (nI 6)))]) (st' := []) (σ' := (α1, μ1)) (pc' := 1752) kL_law_1749 rfl rfl rf_a0 ?_
          try rw [(show ((nI z) + (nI 6)) = nI (z + 6) from nI_add _ _)]
          refine ok_goto bL_law_1752 ?_
          exact ih (z + 6) α1 μ1 (by omega) (by omega) hJ1
        | 34, ht, h33 =>
          cases ht
          refine ok_step (ps := [rf_in ((nI z) + (nI 1)) Ln]) (L' := [some (.ref 1000), some (.ref 0), some (.ref 94), some (.int (nI z))]) (st' := [.int (xs (((nI z) + (nI 1)).toNatClampNeg)), .ref 0]) (σ' := (α, μ)) (pc' := 1376) kL_law_1370 rfl rfl (rf_a1 (rf_in_n (a := z + 1) (nI_add _ _) (by omega) (Nat.ble_eq_true_of_le (by omega))) rf_a0) ?_
          try rw [(show ((nI z) + (nI 1)) = nI (1 + z) from rf_eq (rf_nadd (x := nI z) (y := nI 1) rfl rfl) (by omega))]
          try rw [(show (nI (1 + z)).toNatClampNeg = (1 + z) from rf_cl_n rfl (by omega))]
          refine ok_Vx (As := [.int (xs (1 + z))]) (b := 0) (st := []) mkX11_seed qL_law_1376 rfl (rc_0) rfl rfl rfl rfl (Nat.le_of_ble_eq_true rfl) (op_seed hJ) (fun r1 σ1 hq => ?_)
          obtain ⟨hk, α1, rfl, hm⟩ := hq
          obtain ⟨v, rfl⟩ := rk_i hk (by decide)
          refine ok_step (ps := [rf_in ((nI z) + (nI 1)) Ln]) (L' := [some (.ref 1000), some (.ref 0), some (.ref 94), some (.int (nI z))]) (st' := [.int (xs (((nI z) + (nI 1)).toNatClampNeg)), .ref 94, .int v]) (σ' := (α1, μ)) (pc' := 1385) kL_law_1379 rfl rfl (rf_a1 (rf_in_n (a := z + 1) (nI_add _ _) (by omega) (Nat.ble_eq_true_of_le (by omega))) rf_a0) ?_
          try rw [(show ((nI z) + (nI 1)) = nI (1 + z) from rf_eq (rf_nadd (x := nI z) (y := nI 1) rfl rfl) (by omega))]
          try rw [(show (nI (1 + z)).toNatClampNeg = (1 + z) from rf_cl_n rfl (by omega))]
          refine ok_Vx (As := [.int (xs (1 + z))]) (b := 94) (st := [.int v]) mkX12_seed qL_law_1385 rfl (rc_94) rfl rfl rfl rfl (Nat.le_of_ble_eq_true rfl) (hm) (fun r1 σ1 hq => ?_)
          obtain ⟨rfl, μ1, rfl, hJ1⟩ := hq
          refine ok_icmp_eq bL_law_1388 (fun _ => ?_) (fun h1388 => absurd (rfl) h1388)
          refine ok_step (ps := []) (L' := [some (.ref 1000), some (.ref 0), some (.ref 94), some (.int ((nI z) + (nI 6)))]) (st' := []) (σ' := (α1, μ1)) (pc' := 1752) kL_law_1749 rfl rfl rf_a0 ?_
          try rw [(show ((nI z) + (nI 6)) = nI (z + 6) from nI_add _ _)]
          refine ok_goto bL_law_1752 ?_
          exact ih (z + 6) α1 μ1 (by omega) (by omega) hJ1
        | 35, ht, h33 =>
          cases ht
          refine ok_step (ps := [rf_in ((nI z) + (nI 1)) Ln, rf_in ((nI z) + (nI 2)) Ln, rf_in ((nI z) + (nI 3)) Ln]) (L' := [some (.ref 1000), some (.ref 0), some (.ref 94), some (.int (nI z))]) (st' := [.int (xs (((nI z) + (nI 3)).toNatClampNeg)), .int (xs (((nI z) + (nI 2)).toNatClampNeg)), .int (xs (((nI z) + (nI 1)).toNatClampNeg)), .ref 0]) (σ' := (α, μ)) (pc' := 1409) kL_law_1393 rfl rfl (rf_a1 (rf_in_n (a := z + 1) (nI_add _ _) (by omega) (Nat.ble_eq_true_of_le (by omega))) (rf_a1 (rf_in_n (a := z + 2) (nI_add _ _) (by omega) (Nat.ble_eq_true_of_le (by omega))) (rf_a1 (rf_in_n (a := z + 3) (nI_add _ _) (by omega) (Nat.ble_eq_true_of_le (by omega))) rf_a0))) ?_
          try rw [(show ((nI z) + (nI 1)) = nI (1 + z) from rf_eq (rf_nadd (x := nI z) (y := nI 1) rfl rfl) (by omega))]
          try rw [(show (nI (1 + z)).toNatClampNeg = (1 + z) from rf_cl_n rfl (by omega))]
          try rw [(show ((nI z) + (nI 2)) = nI (2 + z) from rf_eq (rf_nadd (x := nI z) (y := nI 2) rfl rfl) (by omega))]
          try rw [(show (nI (2 + z)).toNatClampNeg = (2 + z) from rf_cl_n rfl (by omega))]
          try rw [(show ((nI z) + (nI 3)) = nI (3 + z) from rf_eq (rf_nadd (x := nI z) (y := nI 3) rfl rfl) (by omega))]
          try rw [(show (nI (3 + z)).toNatClampNeg = (3 + z) from rf_cl_n rfl (by omega))]
          refine ok_Vx (As := [.int (xs (1 + z)), .int (xs (2 + z)), .int (xs (3 + z))]) (b := 0) (st := []) mkX11_voice qL_law_1409 rfl (rc_0) rfl rfl rfl rfl (Nat.le_of_ble_eq_true rfl) (op_voice hJ) (fun r1 σ1 hq => ?_)
          obtain ⟨hk, α1, rfl, hm⟩ := hq
          obtain ⟨v, rfl⟩ := rk_i hk (by decide)
          refine ok_step (ps := [rf_in ((nI z) + (nI 1)) Ln, rf_in ((nI z) + (nI 2)) Ln, rf_in ((nI z) + (nI 3)) Ln]) (L' := [some (.ref 1000), some (.ref 0), some (.ref 94), some (.int (nI z))]) (st' := [.int (xs (((nI z) + (nI 3)).toNatClampNeg)), .int (xs (((nI z) + (nI 2)).toNatClampNeg)), .int (xs (((nI z) + (nI 1)).toNatClampNeg)), .ref 94, .int v]) (σ' := (α1, μ)) (pc' := 1428) kL_law_1412 rfl rfl (rf_a1 (rf_in_n (a := z + 1) (nI_add _ _) (by omega) (Nat.ble_eq_true_of_le (by omega))) (rf_a1 (rf_in_n (a := z + 2) (nI_add _ _) (by omega) (Nat.ble_eq_true_of_le (by omega))) (rf_a1 (rf_in_n (a := z + 3) (nI_add _ _) (by omega) (Nat.ble_eq_true_of_le (by omega))) rf_a0))) ?_
          try rw [(show ((nI z) + (nI 1)) = nI (1 + z) from rf_eq (rf_nadd (x := nI z) (y := nI 1) rfl rfl) (by omega))]
          try rw [(show (nI (1 + z)).toNatClampNeg = (1 + z) from rf_cl_n rfl (by omega))]
          try rw [(show ((nI z) + (nI 2)) = nI (2 + z) from rf_eq (rf_nadd (x := nI z) (y := nI 2) rfl rfl) (by omega))]
          try rw [(show (nI (2 + z)).toNatClampNeg = (2 + z) from rf_cl_n rfl (by omega))]
          try rw [(show ((nI z) + (nI 3)) = nI (3 + z) from rf_eq (rf_nadd (x := nI z) (y := nI 3) rfl rfl) (by omega))]
          try rw [(show (nI (3 + z)).toNatClampNeg = (3 + z) from rf_cl_n rfl (by omega))]
          refine ok_Vx (As := [.int (xs (1 + z)), .int (xs (2 + z)), .int (xs (3 + z))]) (b := 94) (st := [.int v]) mkX12_voice qL_law_1428 rfl (rc_94) rfl rfl rfl rfl (Nat.le_of_ble_eq_true rfl) (hm) (fun r1 σ1 hq => ?_)
          obtain ⟨rfl, μ1, rfl, hJ1⟩ := hq
          refine ok_icmp_eq bL_law_1431 (fun _ => ?_) (fun h1431 => absurd (rfl) h1431)
          refine ok_step (ps := []) (L' := [some (.ref 1000), some (.ref 0), some (.ref 94), some (.int ((nI z) + (nI 6)))]) (st' := []) (σ' := (α1, μ1)) (pc' := 1752) kL_law_1749 rfl rfl rf_a0 ?_
          try rw [(show ((nI z) + (nI 6)) = nI (z + 6) from nI_add _ _)]
          refine ok_goto bL_law_1752 ?_
          exact ih (z + 6) α1 μ1 (by omega) (by omega) hJ1
        | 36, ht, h33 =>
          cases ht
          refine ok_step (ps := [rf_in ((nI z) + (nI 1)) Ln]) (L' := [some (.ref 1000), some (.ref 0), some (.ref 94), some (.int (nI z))]) (st' := [.int (xs (((nI z) + (nI 1)).toNatClampNeg)), .ref 0]) (σ' := (α, μ)) (pc' := 1442) kL_law_1436 rfl rfl (rf_a1 (rf_in_n (a := z + 1) (nI_add _ _) (by omega) (Nat.ble_eq_true_of_le (by omega))) rf_a0) ?_
          try rw [(show ((nI z) + (nI 1)) = nI (1 + z) from rf_eq (rf_nadd (x := nI z) (y := nI 1) rfl rfl) (by omega))]
          try rw [(show (nI (1 + z)).toNatClampNeg = (1 + z) from rf_cl_n rfl (by omega))]
          refine ok_Vx (As := [.int (xs (1 + z))]) (b := 0) (st := []) mkX11_trace qL_law_1442 rfl (rc_0) rfl rfl rfl rfl (Nat.le_of_ble_eq_true rfl) (op_trace hJ) (fun r1 σ1 hq => ?_)
          obtain ⟨hk, α1, rfl, hm⟩ := hq
          obtain ⟨v, rfl⟩ := rk_i hk (by decide)
          refine ok_step (ps := [rf_in ((nI z) + (nI 1)) Ln]) (L' := [some (.ref 1000), some (.ref 0), some (.ref 94), some (.int (nI z))]) (st' := [.int (xs (((nI z) + (nI 1)).toNatClampNeg)), .ref 94, .int v]) (σ' := (α1, μ)) (pc' := 1451) kL_law_1445 rfl rfl (rf_a1 (rf_in_n (a := z + 1) (nI_add _ _) (by omega) (Nat.ble_eq_true_of_le (by omega))) rf_a0) ?_
          try rw [(show ((nI z) + (nI 1)) = nI (1 + z) from rf_eq (rf_nadd (x := nI z) (y := nI 1) rfl rfl) (by omega))]
          try rw [(show (nI (1 + z)).toNatClampNeg = (1 + z) from rf_cl_n rfl (by omega))]
          refine ok_Vx (As := [.int (xs (1 + z))]) (b := 94) (st := [.int v]) mkX12_trace qL_law_1451 rfl (rc_94) rfl rfl rfl rfl (Nat.le_of_ble_eq_true rfl) (hm) (fun r1 σ1 hq => ?_)
          obtain ⟨rfl, μ1, rfl, hJ1⟩ := hq
          refine ok_icmp_eq bL_law_1454 (fun _ => ?_) (fun h1454 => absurd (rfl) h1454)
          refine ok_step (ps := []) (L' := [some (.ref 1000), some (.ref 0), some (.ref 94), some (.int ((nI z) + (nI 6)))]) (st' := []) (σ' := (α1, μ1)) (pc' := 1752) kL_law_1749 rfl rfl rf_a0 ?_
          try rw [(show ((nI z) + (nI 6)) = nI (z + 6) from nI_add _ _)]
          refine ok_goto bL_law_1752 ?_
          exact ih (z + 6) α1 μ1 (by omega) (by omega) hJ1
        | 37, ht, h33 =>
          cases ht
          refine ok_step (ps := [rf_in ((nI z) + (nI 1)) Ln, rf_in ((nI z) + (nI 2)) Ln, rf_in ((nI z) + (nI 3)) Ln]) (L' := [some (.ref 1000), some (.ref 0), some (.ref 94), some (.int (nI z))]) (st' := [.int (xs (((nI z) + (nI 3)).toNatClampNeg)), .int (xs (((nI z) + (nI 2)).toNatClampNeg)), .int (xs (((nI z) + (nI 1)).toNatClampNeg)), .ref 0]) (σ' := (α, μ)) (pc' := 1475) kL_law_1459 rfl rfl (rf_a1 (rf_in_n (a := z + 1) (nI_add _ _) (by omega) (Nat.ble_eq_true_of_le (by omega))) (rf_a1 (rf_in_n (a := z + 2) (nI_add _ _) (by omega) (Nat.ble_eq_true_of_le (by omega))) (rf_a1 (rf_in_n (a := z + 3) (nI_add _ _) (by omega) (Nat.ble_eq_true_of_le (by omega))) rf_a0))) ?_
          try rw [(show ((nI z) + (nI 1)) = nI (1 + z) from rf_eq (rf_nadd (x := nI z) (y := nI 1) rfl rfl) (by omega))]
          try rw [(show (nI (1 + z)).toNatClampNeg = (1 + z) from rf_cl_n rfl (by omega))]
          try rw [(show ((nI z) + (nI 2)) = nI (2 + z) from rf_eq (rf_nadd (x := nI z) (y := nI 2) rfl rfl) (by omega))]
          try rw [(show (nI (2 + z)).toNatClampNeg = (2 + z) from rf_cl_n rfl (by omega))]
          try rw [(show ((nI z) + (nI 3)) = nI (3 + z) from rf_eq (rf_nadd (x := nI z) (y := nI 3) rfl rfl) (by omega))]
          try rw [(show (nI (3 + z)).toNatClampNeg = (3 + z) from rf_cl_n rfl (by omega))]
          refine ok_Vx (As := [.int (xs (1 + z)), .int (xs (2 + z)), .int (xs (3 + z))]) (b := 0) (st := []) mkX11_sheet qL_law_1475 rfl (rc_0) rfl rfl rfl rfl (Nat.le_of_ble_eq_true rfl) (op_sheet hJ) (fun r1 σ1 hq => ?_)
          obtain ⟨hk, α1, rfl, hm⟩ := hq
          obtain ⟨v, rfl⟩ := rk_i hk (by decide)
          refine ok_step (ps := [rf_in ((nI z) + (nI 1)) Ln, rf_in ((nI z) + (nI 2)) Ln, rf_in ((nI z) + (nI 3)) Ln]) (L' := [some (.ref 1000), some (.ref 0), some (.ref 94), some (.int (nI z))]) (st' := [.int (xs (((nI z) + (nI 3)).toNatClampNeg)), .int (xs (((nI z) + (nI 2)).toNatClampNeg)), .int (xs (((nI z) + (nI 1)).toNatClampNeg)), .ref 94, .int v]) (σ' := (α1, μ)) (pc' := 1494) kL_law_1478 rfl rfl (rf_a1 (rf_in_n (a := z + 1) (nI_add _ _) (by omega) (Nat.ble_eq_true_of_le (by omega))) (rf_a1 (rf_in_n (a := z + 2) (nI_add _ _) (by omega) (Nat.ble_eq_true_of_le (by omega))) (rf_a1 (rf_in_n (a := z + 3) (nI_add _ _) (by omega) (Nat.ble_eq_true_of_le (by omega))) rf_a0))) ?_
          try rw [(show ((nI z) + (nI 1)) = nI (1 + z) from rf_eq (rf_nadd (x := nI z) (y := nI 1) rfl rfl) (by omega))]
          try rw [(show (nI (1 + z)).toNatClampNeg = (1 + z) from rf_cl_n rfl (by omega))]
          try rw [(show ((nI z) + (nI 2)) = nI (2 + z) from rf_eq (rf_nadd (x := nI z) (y := nI 2) rfl rfl) (by omega))]
          try rw [(show (nI (2 + z)).toNatClampNeg = (2 + z) from rf_cl_n rfl (by omega))]
          try rw [(show ((nI z) + (nI 3)) = nI (3 + z) from rf_eq (rf_nadd (x := nI z) (y := nI 3) rfl rfl) (by omega))]
          try rw [(show (nI (3 + z)).toNatClampNeg = (3 + z) from rf_cl_n rfl (by omega))]
          refine ok_Vx (As := [.int (xs (1 + z)), .int (xs (2 + z)), .int (xs (3 + z))]) (b := 94) (st := [.int v]) mkX12_sheet qL_law_1494 rfl (rc_94) rfl rfl rfl rfl (Nat.le_of_ble_eq_true rfl) (hm) (fun r1 σ1 hq => ?_)
          obtain ⟨rfl, μ1, rfl, hJ1⟩ := hq
          refine ok_icmp_eq bL_law_1497 (fun _ => ?_) (fun h1497 => absurd (rfl) h1497)
          refine ok_step (ps := []) (L' := [some (.ref 1000), some (.ref 0), some (.ref 94), some (.int ((nI z) + (nI 6)))]) (st' := []) (σ' := (α1, μ1)) (pc' := 1752) kL_law_1749 rfl rfl rf_a0 ?_
          try rw [(show ((nI z) + (nI 6)) = nI (z + 6) from nI_add _ _)]
          refine ok_goto bL_law_1752 ?_
          exact ih (z + 6) α1 μ1 (by omega) (by omega) hJ1
        | 38, ht, h33 =>
          cases ht
          refine ok_step (ps := [rf_in ((nI z) + (nI 1)) Ln, rf_in ((nI z) + (nI 2)) Ln, rf_in ((nI z) + (nI 3)) Ln]) (L' := [some (.ref 1000), some (.ref 0), some (.ref 94), some (.int (nI z))]) (st' := [.int (xs (((nI z) + (nI 3)).toNatClampNeg)), .int (xs (((nI z) + (nI 2)).toNatClampNeg)), .int (xs (((nI z) + (nI 1)).toNatClampNeg)), .ref 0]) (σ' := (α, μ)) (pc' := 1518) kL_law_1502 rfl rfl (rf_a1 (rf_in_n (a := z + 1) (nI_add _ _) (by omega) (Nat.ble_eq_true_of_le (by omega))) (rf_a1 (rf_in_n (a := z + 2) (nI_add _ _) (by omega) (Nat.ble_eq_true_of_le (by omega))) (rf_a1 (rf_in_n (a := z + 3) (nI_add _ _) (by omega) (Nat.ble_eq_true_of_le (by omega))) rf_a0))) ?_
          try rw [(show ((nI z) + (nI 1)) = nI (1 + z) from rf_eq (rf_nadd (x := nI z) (y := nI 1) rfl rfl) (by omega))]
          try rw [(show (nI (1 + z)).toNatClampNeg = (1 + z) from rf_cl_n rfl (by omega))]
          try rw [(show ((nI z) + (nI 2)) = nI (2 + z) from rf_eq (rf_nadd (x := nI z) (y := nI 2) rfl rfl) (by omega))]
          try rw [(show (nI (2 + z)).toNatClampNeg = (2 + z) from rf_cl_n rfl (by omega))]
          try rw [(show ((nI z) + (nI 3)) = nI (3 + z) from rf_eq (rf_nadd (x := nI z) (y := nI 3) rfl rfl) (by omega))]
          try rw [(show (nI (3 + z)).toNatClampNeg = (3 + z) from rf_cl_n rfl (by omega))]
          refine ok_Vx (As := [.int (xs (1 + z)), .int (xs (2 + z)), .int (xs (3 + z))]) (b := 0) (st := []) mkX11_put qL_law_1518 rfl (rc_0) rfl rfl rfl rfl (Nat.le_of_ble_eq_true rfl) (op_put hJ) (fun r1 σ1 hq => ?_)
          obtain ⟨hk, α1, rfl, hm⟩ := hq
          obtain ⟨v, rfl⟩ := rk_i hk (by decide)
          refine ok_step (ps := [rf_in ((nI z) + (nI 1)) Ln, rf_in ((nI z) + (nI 2)) Ln, rf_in ((nI z) + (nI 3)) Ln]) (L' := [some (.ref 1000), some (.ref 0), some (.ref 94), some (.int (nI z))]) (st' := [.int (xs (((nI z) + (nI 3)).toNatClampNeg)), .int (xs (((nI z) + (nI 2)).toNatClampNeg)), .int (xs (((nI z) + (nI 1)).toNatClampNeg)), .ref 94, .int v]) (σ' := (α1, μ)) (pc' := 1537) kL_law_1521 rfl rfl (rf_a1 (rf_in_n (a := z + 1) (nI_add _ _) (by omega) (Nat.ble_eq_true_of_le (by omega))) (rf_a1 (rf_in_n (a := z + 2) (nI_add _ _) (by omega) (Nat.ble_eq_true_of_le (by omega))) (rf_a1 (rf_in_n (a := z + 3) (nI_add _ _) (by omega) (Nat.ble_eq_true_of_le (by omega))) rf_a0))) ?_
          try rw [(show ((nI z) + (nI 1)) = nI (1 + z) from rf_eq (rf_nadd (x := nI z) (y := nI 1) rfl rfl) (by omega))]
          try rw [(show (nI (1 + z)).toNatClampNeg = (1 + z) from rf_cl_n rfl (by omega))]
          try rw [(show ((nI z) + (nI 2)) = nI (2 + z) from rf_eq (rf_nadd (x := nI z) (y := nI 2) rfl rfl) (by omega))]
          try rw [(show (nI (2 + z)).toNatClampNeg = (2 + z) from rf_cl_n rfl (by omega))]
          try rw [(show ((nI z) + (nI 3)) = nI (3 + z) from rf_eq (rf_nadd (x := nI z) (y := nI 3) rfl rfl) (by omega))]
          try rw [(show (nI (3 + z)).toNatClampNeg = (3 + z) from rf_cl_n rfl (by omega))]
          refine ok_Vx (As := [.int (xs (1 + z)), .int (xs (2 + z)), .int (xs (3 + z))]) (b := 94) (st := [.int v]) mkX12_put qL_law_1537 rfl (rc_94) rfl rfl rfl rfl (Nat.le_of_ble_eq_true rfl) (hm) (fun r1 σ1 hq => ?_)
          obtain ⟨rfl, μ1, rfl, hJ1⟩ := hq
          refine ok_icmp_eq bL_law_1540 (fun _ => ?_) (fun h1540 => absurd (rfl) h1540)
          refine ok_step (ps := []) (L' := [some (.ref 1000), some (.ref 0), some (.ref 94), some (.int ((nI z) + (nI 6)))]) (st' := []) (σ' := (α1, μ1)) (pc' := 1752) kL_law_1749 rfl rfl rf_a0 ?_
          try rw [(show ((nI z) + (nI 6)) = nI (z + 6) from nI_add _ _)]
          refine ok_goto bL_law_1752 ?_
          exact ih (z + 6) α1 μ1 (by omega) (by omega) hJ1
        | 39, ht, h33 =>
          cases ht
          refine ok_step (ps := [rf_in ((nI z) + (nI 1)) Ln, rf_in ((nI z) + (nI 2)) Ln, rf_in ((nI z) + (nI 3)) Ln, rf_in ((nI z) + (nI 4)) Ln, rf_in ((nI z) + (nI 5)) Ln]) (L' := [some (.ref 1000), some (.ref 0), some (.ref 94), some (.int (nI z))]) (st' := [.int (xs (((nI z) + (nI 5)).toNatClampNeg)), .int (xs (((nI z) + (nI 4)).toNatClampNeg)), .int (xs (((nI z) + (nI 3)).toNatClampNeg)), .int (xs (((nI z) + (nI 2)).toNatClampNeg)), .int (xs (((nI z) + (nI 1)).toNatClampNeg)), .ref 0]) (σ' := (α, μ)) (pc' := 1571) kL_law_1545 rfl rfl (rf_a1 (rf_in_n (a := z + 1) (nI_add _ _) (by omega) (Nat.ble_eq_true_of_le (by omega))) (rf_a1 (rf_in_n (a := z + 2) (nI_add _ _) (by omega) (Nat.ble_eq_true_of_le (by omega))) (rf_a1 (rf_in_n (a := z + 3) (nI_add _ _) (by omega) (Nat.ble_eq_true_of_le (by omega))) (rf_a1 (rf_in_n (a := z + 4) (nI_add _ _) (by omega) (Nat.ble_eq_true_of_le (by omega))) (rf_a1 (rf_in_n (a := z + 5) (nI_add _ _) (by omega) (Nat.ble_eq_true_of_le (by omega))) rf_a0))))) ?_
          try rw [(show ((nI z) + (nI 1)) = nI (1 + z) from rf_eq (rf_nadd (x := nI z) (y := nI 1) rfl rfl) (by omega))]
          try rw [(show (nI (1 + z)).toNatClampNeg = (1 + z) from rf_cl_n rfl (by omega))]
          try rw [(show ((nI z) + (nI 2)) = nI (2 + z) from rf_eq (rf_nadd (x := nI z) (y := nI 2) rfl rfl) (by omega))]
          try rw [(show (nI (2 + z)).toNatClampNeg = (2 + z) from rf_cl_n rfl (by omega))]
          try rw [(show ((nI z) + (nI 3)) = nI (3 + z) from rf_eq (rf_nadd (x := nI z) (y := nI 3) rfl rfl) (by omega))]
          try rw [(show (nI (3 + z)).toNatClampNeg = (3 + z) from rf_cl_n rfl (by omega))]
          try rw [(show ((nI z) + (nI 4)) = nI (4 + z) from rf_eq (rf_nadd (x := nI z) (y := nI 4) rfl rfl) (by omega))]
          try rw [(show (nI (4 + z)).toNatClampNeg = (4 + z) from rf_cl_n rfl (by omega))]
          try rw [(show ((nI z) + (nI 5)) = nI (5 + z) from rf_eq (rf_nadd (x := nI z) (y := nI 5) rfl rfl) (by omega))]
          try rw [(show (nI (5 + z)).toNatClampNeg = (5 + z) from rf_cl_n rfl (by omega))]
          refine ok_Vx (As := [.int (xs (1 + z)), .int (xs (2 + z)), .int (xs (3 + z)), .int (xs (4 + z)), .int (xs (5 + z))]) (b := 0) (st := []) mkX11_move qL_law_1571 rfl (rc_0) rfl rfl rfl rfl (Nat.le_of_ble_eq_true rfl) (op_move hJ) (fun r1 σ1 hq => ?_)
          obtain ⟨hk, α1, rfl, hm⟩ := hq
          obtain ⟨v, rfl⟩ := rk_i hk (by decide)
          refine ok_step (ps := [rf_in ((nI z) + (nI 1)) Ln, rf_in ((nI z) + (nI 2)) Ln, rf_in ((nI z) + (nI 3)) Ln, rf_in ((nI z) + (nI 4)) Ln, rf_in ((nI z) + (nI 5)) Ln]) (L' := [some (.ref 1000), some (.ref 0), some (.ref 94), some (.int (nI z))]) (st' := [.int (xs (((nI z) + (nI 5)).toNatClampNeg)), .int (xs (((nI z) + (nI 4)).toNatClampNeg)), .int (xs (((nI z) + (nI 3)).toNatClampNeg)), .int (xs (((nI z) + (nI 2)).toNatClampNeg)), .int (xs (((nI z) + (nI 1)).toNatClampNeg)), .ref 94, .int v]) (σ' := (α1, μ)) (pc' := 1600) kL_law_1574 rfl rfl (rf_a1 (rf_in_n (a := z + 1) (nI_add _ _) (by omega) (Nat.ble_eq_true_of_le (by omega))) (rf_a1 (rf_in_n (a := z + 2) (nI_add _ _) (by omega) (Nat.ble_eq_true_of_le (by omega))) (rf_a1 (rf_in_n (a := z + 3) (nI_add _ _) (by omega) (Nat.ble_eq_true_of_le (by omega))) (rf_a1 (rf_in_n (a := z + 4) (nI_add _ _) (by omega) (Nat.ble_eq_true_of_le (by omega))) (rf_a1 (rf_in_n (a := z + 5) (nI_add _ _) (by omega) (Nat.ble_eq_true_of_le (by omega))) rf_a0))))) ?_
          try rw [(show ((nI z) + (nI 1)) = nI (1 + z) from rf_eq (rf_nadd (x := nI z) (y := nI 1) rfl rfl) (by omega))]
          try rw [(show (nI (1 + z)).toNatClampNeg = (1 + z) from rf_cl_n rfl (by omega))]
          try rw [(show ((nI z) + (nI 2)) = nI (2 + z) from rf_eq (rf_nadd (x := nI z) (y := nI 2) rfl rfl) (by omega))]
          try rw [(show (nI (2 + z)).toNatClampNeg = (2 + z) from rf_cl_n rfl (by omega))]
          try rw [(show ((nI z) + (nI 3)) = nI (3 + z) from rf_eq (rf_nadd (x := nI z) (y := nI 3) rfl rfl) (by omega))]
          try rw [(show (nI (3 + z)).toNatClampNeg = (3 + z) from rf_cl_n rfl (by omega))]
          try rw [(show ((nI z) + (nI 4)) = nI (4 + z) from rf_eq (rf_nadd (x := nI z) (y := nI 4) rfl rfl) (by omega))]
          try rw [(show (nI (4 + z)).toNatClampNeg = (4 + z) from rf_cl_n rfl (by omega))]
          try rw [(show ((nI z) + (nI 5)) = nI (5 + z) from rf_eq (rf_nadd (x := nI z) (y := nI 5) rfl rfl) (by omega))]
          try rw [(show (nI (5 + z)).toNatClampNeg = (5 + z) from rf_cl_n rfl (by omega))]
          refine ok_Vx (As := [.int (xs (1 + z)), .int (xs (2 + z)), .int (xs (3 + z)), .int (xs (4 + z)), .int (xs (5 + z))]) (b := 94) (st := [.int v]) mkX12_move qL_law_1600 rfl (rc_94) rfl rfl rfl rfl (Nat.le_of_ble_eq_true rfl) (hm) (fun r1 σ1 hq => ?_)
          obtain ⟨rfl, μ1, rfl, hJ1⟩ := hq
          refine ok_icmp_eq bL_law_1603 (fun _ => ?_) (fun h1603 => absurd (rfl) h1603)
          refine ok_step (ps := []) (L' := [some (.ref 1000), some (.ref 0), some (.ref 94), some (.int ((nI z) + (nI 6)))]) (st' := []) (σ' := (α1, μ1)) (pc' := 1752) kL_law_1749 rfl rfl rf_a0 ?_
          try rw [(show ((nI z) + (nI 6)) = nI (z + 6) from nI_add _ _)]
          refine ok_goto bL_law_1752 ?_
          exact ih (z + 6) α1 μ1 (by omega) (by omega) hJ1
        | 40, ht, h33 =>
          cases ht
          refine ok_step (ps := [rf_in ((nI z) + (nI 1)) Ln]) (L' := [some (.ref 1000), some (.ref 0), some (.ref 94), some (.int (nI z))]) (st' := [.int (xs (((nI z) + (nI 1)).toNatClampNeg)), .ref 0]) (σ' := (α, μ)) (pc' := 1614) kL_law_1608 rfl rfl (rf_a1 (rf_in_n (a := z + 1) (nI_add _ _) (by omega) (Nat.ble_eq_true_of_le (by omega))) rf_a0) ?_
          try rw [(show ((nI z) + (nI 1)) = nI (1 + z) from rf_eq (rf_nadd (x := nI z) (y := nI 1) rfl rfl) (by omega))]
          try rw [(show (nI (1 + z)).toNatClampNeg = (1 + z) from rf_cl_n rfl (by omega))]
          refine ok_Vx (As := [.int (xs (1 + z))]) (b := 0) (st := []) mkX11_groups qL_law_1614 rfl (rc_0) rfl rfl rfl rfl (Nat.le_of_ble_eq_true rfl) (op_groups hJ) (fun r1 σ1 hq => ?_)
          obtain ⟨hk, α1, rfl, hm⟩ := hq
          obtain ⟨v, rfl⟩ := rk_i hk (by decide)
          refine ok_step (ps := [rf_in ((nI z) + (nI 1)) Ln]) (L' := [some (.ref 1000), some (.ref 0), some (.ref 94), some (.int (nI z))]) (st' := [.int (xs (((nI z) + (nI 1)).toNatClampNeg)), .ref 94, .int v]) (σ' := (α1, μ)) (pc' := 1623) kL_law_1617 rfl rfl (rf_a1 (rf_in_n (a := z + 1) (nI_add _ _) (by omega) (Nat.ble_eq_true_of_le (by omega))) rf_a0) ?_
          try rw [(show ((nI z) + (nI 1)) = nI (1 + z) from rf_eq (rf_nadd (x := nI z) (y := nI 1) rfl rfl) (by omega))]
          try rw [(show (nI (1 + z)).toNatClampNeg = (1 + z) from rf_cl_n rfl (by omega))]
          refine ok_Vx (As := [.int (xs (1 + z))]) (b := 94) (st := [.int v]) mkX12_groups qL_law_1623 rfl (rc_94) rfl rfl rfl rfl (Nat.le_of_ble_eq_true rfl) (hm) (fun r1 σ1 hq => ?_)
          obtain ⟨rfl, μ1, rfl, hJ1⟩ := hq
          refine ok_icmp_eq bL_law_1626 (fun _ => ?_) (fun h1626 => absurd (rfl) h1626)
          refine ok_step (ps := []) (L' := [some (.ref 1000), some (.ref 0), some (.ref 94), some (.int ((nI z) + (nI 6)))]) (st' := []) (σ' := (α1, μ1)) (pc' := 1752) kL_law_1749 rfl rfl rf_a0 ?_
          try rw [(show ((nI z) + (nI 6)) = nI (z + 6) from nI_add _ _)]
          refine ok_goto bL_law_1752 ?_
          exact ih (z + 6) α1 μ1 (by omega) (by omega) hJ1
        | 41, ht, h33 =>
          cases ht
          refine ok_step (ps := []) (L' := [some (.ref 1000), some (.ref 0), some (.ref 94), some (.int (nI z))]) (st' := [.ref 0]) (σ' := (α, μ)) (pc' := 1632) kL_law_1631 rfl rfl rf_a0 ?_
          refine ok_Vx (As := []) (b := 0) (st := []) mkX11_image qL_law_1632 rfl (rc_0) rfl rfl rfl rfl (Nat.le_of_ble_eq_true rfl) (op_image hJ) (fun r1 σ1 hq => ?_)
          obtain ⟨hk, α1, rfl, hm⟩ := hq
          obtain ⟨v, rfl⟩ := rk_i hk (by decide)
          refine ok_step (ps := []) (L' := [some (.ref 1000), some (.ref 0), some (.ref 94), some (.int (nI z))]) (st' := [.ref 94, .int v]) (σ' := (α1, μ)) (pc' := 1636) kL_law_1635 rfl rfl rf_a0 ?_
          refine ok_Vx (As := []) (b := 94) (st := [.int v]) mkX12_image qL_law_1636 rfl (rc_94) rfl rfl rfl rfl (Nat.le_of_ble_eq_true rfl) (hm) (fun r1 σ1 hq => ?_)
          obtain ⟨rfl, μ1, rfl, hJ1⟩ := hq
          refine ok_icmp_eq bL_law_1639 (fun _ => ?_) (fun h1639 => absurd (rfl) h1639)
          refine ok_step (ps := []) (L' := [some (.ref 1000), some (.ref 0), some (.ref 94), some (.int ((nI z) + (nI 6)))]) (st' := []) (σ' := (α1, μ1)) (pc' := 1752) kL_law_1749 rfl rfl rf_a0 ?_
          try rw [(show ((nI z) + (nI 6)) = nI (z + 6) from nI_add _ _)]
          refine ok_goto bL_law_1752 ?_
          exact ih (z + 6) α1 μ1 (by omega) (by omega) hJ1
        | 42, ht, h33 =>
          cases ht
          refine ok_step (ps := []) (L' := [some (.ref 1000), some (.ref 0), some (.ref 94), some (.int (nI z))]) (st' := [.ref 0]) (σ' := (α, μ)) (pc' := 1645) kL_law_1644 rfl rfl rf_a0 ?_
          refine ok_Vx (As := []) (b := 0) (st := []) mkX11_restore qL_law_1645 rfl (rc_0) rfl rfl rfl rfl (Nat.le_of_ble_eq_true rfl) (op_restore hJ) (fun r1 σ1 hq => ?_)
          obtain ⟨hk, α1, rfl, hm⟩ := hq
          obtain ⟨v, rfl⟩ := rk_i hk (by decide)
          refine ok_step (ps := []) (L' := [some (.ref 1000), some (.ref 0), some (.ref 94), some (.int (nI z))]) (st' := [.ref 94, .int v]) (σ' := (α1, μ)) (pc' := 1649) kL_law_1648 rfl rfl rf_a0 ?_
          refine ok_Vx (As := []) (b := 94) (st := [.int v]) mkX12_restore qL_law_1649 rfl (rc_94) rfl rfl rfl rfl (Nat.le_of_ble_eq_true rfl) (hm) (fun r1 σ1 hq => ?_)
          obtain ⟨rfl, μ1, rfl, hJ1⟩ := hq
          refine ok_icmp_eq bL_law_1652 (fun _ => ?_) (fun h1652 => absurd (rfl) h1652)
          refine ok_step (ps := []) (L' := [some (.ref 1000), some (.ref 0), some (.ref 94), some (.int ((nI z) + (nI 6)))]) (st' := []) (σ' := (α1, μ1)) (pc' := 1752) kL_law_1749 rfl rfl rf_a0 ?_
          try rw [(show ((nI z) + (nI 6)) = nI (z + 6) from nI_add _ _)]
          refine ok_goto bL_law_1752 ?_
          exact ih (z + 6) α1 μ1 (by omega) (by omega) hJ1
        | 43, ht, h33 =>
          cases ht
          refine ok_step (ps := [rf_in ((nI z) + (nI 1)) Ln]) (L' := [some (.ref 1000), some (.ref 0), some (.ref 94), some (.int (nI z))]) (st' := [.int (xs (((nI z) + (nI 1)).toNatClampNeg)), .ref 0]) (σ' := (α, μ)) (pc' := 1663) kL_law_1657 rfl rfl (rf_a1 (rf_in_n (a := z + 1) (nI_add _ _) (by omega) (Nat.ble_eq_true_of_le (by omega))) rf_a0) ?_
          try rw [(show ((nI z) + (nI 1)) = nI (1 + z) from rf_eq (rf_nadd (x := nI z) (y := nI 1) rfl rfl) (by omega))]
          try rw [(show (nI (1 + z)).toNatClampNeg = (1 + z) from rf_cl_n rfl (by omega))]
          refine ok_Vx (As := [.int (xs (1 + z))]) (b := 0) (st := []) mkX11_tell qL_law_1663 rfl (rc_0) rfl rfl rfl rfl (Nat.le_of_ble_eq_true rfl) (op_tell hJ) (fun r1 σ1 hq => ?_)
          obtain ⟨hk, α1, rfl, hm⟩ := hq
          obtain ⟨v, rfl⟩ := rk_i hk (by decide)
          refine ok_step (ps := [rf_in ((nI z) + (nI 1)) Ln]) (L' := [some (.ref 1000), some (.ref 0), some (.ref 94), some (.int (nI z))]) (st' := [.int (xs (((nI z) + (nI 1)).toNatClampNeg)), .ref 94, .int v]) (σ' := (α1, μ)) (pc' := 1672) kL_law_1666 rfl rfl (rf_a1 (rf_in_n (a := z + 1) (nI_add _ _) (by omega) (Nat.ble_eq_true_of_le (by omega))) rf_a0) ?_
          try rw [(show ((nI z) + (nI 1)) = nI (1 + z) from rf_eq (rf_nadd (x := nI z) (y := nI 1) rfl rfl) (by omega))]
          try rw [(show (nI (1 + z)).toNatClampNeg = (1 + z) from rf_cl_n rfl (by omega))]
          refine ok_Vx (As := [.int (xs (1 + z))]) (b := 94) (st := [.int v]) mkX12_tell qL_law_1672 rfl (rc_94) rfl rfl rfl rfl (Nat.le_of_ble_eq_true rfl) (hm) (fun r1 σ1 hq => ?_)
          obtain ⟨rfl, μ1, rfl, hJ1⟩ := hq
          refine ok_icmp_eq bL_law_1675 (fun _ => ?_) (fun h1675 => absurd (rfl) h1675)
          refine ok_step (ps := []) (L' := [some (.ref 1000), some (.ref 0), some (.ref 94), some (.int ((nI z) + (nI 6)))]) (st' := []) (σ' := (α1, μ1)) (pc' := 1752) kL_law_1749 rfl rfl rf_a0 ?_
          try rw [(show ((nI z) + (nI 6)) = nI (z + 6) from nI_add _ _)]
          refine ok_goto bL_law_1752 ?_
          exact ih (z + 6) α1 μ1 (by omega) (by omega) hJ1
        | 44, ht, h33 =>
          cases ht
          refine ok_step (ps := [rf_in ((nI z) + (nI 1)) Ln]) (L' := [some (.ref 1000), some (.ref 0), some (.ref 94), some (.int (nI z))]) (st' := [.int (xs (((nI z) + (nI 1)).toNatClampNeg)), .ref 0]) (σ' := (α, μ)) (pc' := 1686) kL_law_1680 rfl rfl (rf_a1 (rf_in_n (a := z + 1) (nI_add _ _) (by omega) (Nat.ble_eq_true_of_le (by omega))) rf_a0) ?_
          try rw [(show ((nI z) + (nI 1)) = nI (1 + z) from rf_eq (rf_nadd (x := nI z) (y := nI 1) rfl rfl) (by omega))]
          try rw [(show (nI (1 + z)).toNatClampNeg = (1 + z) from rf_cl_n rfl (by omega))]
          refine ok_Vx (As := [.int (xs (1 + z))]) (b := 0) (st := []) mkX11_check qL_law_1686 rfl (rc_0) rfl rfl rfl rfl (Nat.le_of_ble_eq_true rfl) (op_check hJ) (fun r1 σ1 hq => ?_)
          obtain ⟨hk, α1, rfl, hm⟩ := hq
          obtain ⟨v, rfl⟩ := rk_i hk (by decide)
          refine ok_step (ps := [rf_in ((nI z) + (nI 1)) Ln]) (L' := [some (.ref 1000), some (.ref 0), some (.ref 94), some (.int (nI z))]) (st' := [.int (xs (((nI z) + (nI 1)).toNatClampNeg)), .ref 94, .int v]) (σ' := (α1, μ)) (pc' := 1695) kL_law_1689 rfl rfl (rf_a1 (rf_in_n (a := z + 1) (nI_add _ _) (by omega) (Nat.ble_eq_true_of_le (by omega))) rf_a0) ?_
          try rw [(show ((nI z) + (nI 1)) = nI (1 + z) from rf_eq (rf_nadd (x := nI z) (y := nI 1) rfl rfl) (by omega))]
          try rw [(show (nI (1 + z)).toNatClampNeg = (1 + z) from rf_cl_n rfl (by omega))]
          refine ok_Vx (As := [.int (xs (1 + z))]) (b := 94) (st := [.int v]) mkX12_check qL_law_1695 rfl (rc_94) rfl rfl rfl rfl (Nat.le_of_ble_eq_true rfl) (hm) (fun r1 σ1 hq => ?_)
          obtain ⟨rfl, μ1, rfl, hJ1⟩ := hq
          refine ok_icmp_eq bL_law_1698 (fun _ => ?_) (fun h1698 => absurd (rfl) h1698)
          refine ok_step (ps := []) (L' := [some (.ref 1000), some (.ref 0), some (.ref 94), some (.int ((nI z) + (nI 6)))]) (st' := []) (σ' := (α1, μ1)) (pc' := 1752) kL_law_1749 rfl rfl rf_a0 ?_
          try rw [(show ((nI z) + (nI 6)) = nI (z + 6) from nI_add _ _)]
          refine ok_goto bL_law_1752 ?_
          exact ih (z + 6) α1 μ1 (by omega) (by omega) hJ1
        | 45, ht, h33 =>
          cases ht
          refine ok_step (ps := [rf_in ((nI z) + (nI 1)) Ln]) (L' := [some (.ref 1000), some (.ref 0), some (.ref 94), some (.int (nI z))]) (st' := [.int (xs (((nI z) + (nI 1)).toNatClampNeg)), .ref 0]) (σ' := (α, μ)) (pc' := 1709) kL_law_1703 rfl rfl (rf_a1 (rf_in_n (a := z + 1) (nI_add _ _) (by omega) (Nat.ble_eq_true_of_le (by omega))) rf_a0) ?_
          try rw [(show ((nI z) + (nI 1)) = nI (1 + z) from rf_eq (rf_nadd (x := nI z) (y := nI 1) rfl rfl) (by omega))]
          try rw [(show (nI (1 + z)).toNatClampNeg = (1 + z) from rf_cl_n rfl (by omega))]
          refine ok_Vx (As := [.int (xs (1 + z))]) (b := 0) (st := []) mkX11_count qL_law_1709 rfl (rc_0) rfl rfl rfl rfl (Nat.le_of_ble_eq_true rfl) (op_count hJ) (fun r1 σ1 hq => ?_)
          obtain ⟨hk, α1, rfl, hm⟩ := hq
          obtain ⟨v, rfl⟩ := rk_i hk (by decide)
          refine ok_step (ps := [rf_in ((nI z) + (nI 1)) Ln]) (L' := [some (.ref 1000), some (.ref 0), some (.ref 94), some (.int (nI z))]) (st' := [.int (xs (((nI z) + (nI 1)).toNatClampNeg)), .ref 94, .int v]) (σ' := (α1, μ)) (pc' := 1718) kL_law_1712 rfl rfl (rf_a1 (rf_in_n (a := z + 1) (nI_add _ _) (by omega) (Nat.ble_eq_true_of_le (by omega))) rf_a0) ?_
          try rw [(show ((nI z) + (nI 1)) = nI (1 + z) from rf_eq (rf_nadd (x := nI z) (y := nI 1) rfl rfl) (by omega))]
          try rw [(show (nI (1 + z)).toNatClampNeg = (1 + z) from rf_cl_n rfl (by omega))]
          refine ok_Vx (As := [.int (xs (1 + z))]) (b := 94) (st := [.int v]) mkX12_count qL_law_1718 rfl (rc_94) rfl rfl rfl rfl (Nat.le_of_ble_eq_true rfl) (hm) (fun r1 σ1 hq => ?_)
          obtain ⟨rfl, μ1, rfl, hJ1⟩ := hq
          refine ok_icmp_eq bL_law_1721 (fun _ => ?_) (fun h1721 => absurd (rfl) h1721)
          refine ok_step (ps := []) (L' := [some (.ref 1000), some (.ref 0), some (.ref 94), some (.int ((nI z) + (nI 6)))]) (st' := []) (σ' := (α1, μ1)) (pc' := 1752) kL_law_1749 rfl rfl rf_a0 ?_
          try rw [(show ((nI z) + (nI 6)) = nI (z + 6) from nI_add _ _)]
          refine ok_goto bL_law_1752 ?_
          exact ih (z + 6) α1 μ1 (by omega) (by omega) hJ1
        | 46, ht, h33 =>
          cases ht
          refine ok_step (ps := [rf_in ((nI z) + (nI 1)) Ln]) (L' := [some (.ref 1000), some (.ref 0), some (.ref 94), some (.int (nI z))]) (st' := [.int (xs (((nI z) + (nI 1)).toNatClampNeg)), .ref 0]) (σ' := (α, μ)) (pc' := 1732) kL_law_1726 rfl rfl (rf_a1 (rf_in_n (a := z + 1) (nI_add _ _) (by omega) (Nat.ble_eq_true_of_le (by omega))) rf_a0) ?_
          try rw [(show ((nI z) + (nI 1)) = nI (1 + z) from rf_eq (rf_nadd (x := nI z) (y := nI 1) rfl rfl) (by omega))]
          try rw [(show (nI (1 + z)).toNatClampNeg = (1 + z) from rf_cl_n rfl (by omega))]
          refine ok_Vx (As := [.int (xs (1 + z))]) (b := 0) (st := []) mkX11_told qL_law_1732 rfl (rc_0) rfl rfl rfl rfl (Nat.le_of_ble_eq_true rfl) (op_told hJ) (fun r1 σ1 hq => ?_)
          obtain ⟨hk, α1, rfl, hm⟩ := hq
          obtain ⟨v, rfl⟩ := rk_i hk (by decide)
          refine ok_step (ps := [rf_in ((nI z) + (nI 1)) Ln]) (L' := [some (.ref 1000), some (.ref 0), some (.ref 94), some (.int (nI z))]) (st' := [.int (xs (((nI z) + (nI 1)).toNatClampNeg)), .ref 94, .int v]) (σ' := (α1, μ)) (pc' := 1741) kL_law_1735 rfl rfl (rf_a1 (rf_in_n (a := z + 1) (nI_add _ _) (by omega) (Nat.ble_eq_true_of_le (by omega))) rf_a0) ?_
          try rw [(show ((nI z) + (nI 1)) = nI (1 + z) from rf_eq (rf_nadd (x := nI z) (y := nI 1) rfl rfl) (by omega))]
          try rw [(show (nI (1 + z)).toNatClampNeg = (1 + z) from rf_cl_n rfl (by omega))]
          refine ok_Vx (As := [.int (xs (1 + z))]) (b := 94) (st := [.int v]) mkX12_told qL_law_1741 rfl (rc_94) rfl rfl rfl rfl (Nat.le_of_ble_eq_true rfl) (hm) (fun r1 σ1 hq => ?_)
          obtain ⟨rfl, μ1, rfl, hJ1⟩ := hq
          refine ok_icmp_eq bL_law_1744 (fun _ => ?_) (fun h1744 => absurd (rfl) h1744)
          refine ok_step (ps := []) (L' := [some (.ref 1000), some (.ref 0), some (.ref 94), some (.int ((nI z) + (nI 6)))]) (st' := []) (σ' := (α1, μ1)) (pc' := 1752) kL_law_1749 rfl rfl rf_a0 ?_
          try rw [(show ((nI z) + (nI 6)) = nI (z + 6) from nI_add _ _)]
          refine ok_goto bL_law_1752 ?_
          exact ih (z + 6) α1 μ1 (by omega) (by omega) hJ1
        | i + 47, ht, _ => simp at ht
end H72
