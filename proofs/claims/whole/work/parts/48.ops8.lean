/-- what comes in of a GROUP, times what stands below the line -/
def fC (d : Nat → Int32) (g : Nat) : Nat := if s_now d g = true then cn d 8 * nB d * cn d (194 + 8 * g) else cn d 9 * nW d (cn d (191 + 8 * g)) * cn d (194 + 8 * g)
def fP (d : Nat → Int32) (g : Nat) : Nat := if s_now d g = true then cn d (194 + 8 * g) * nW d (cn d (191 + 8 * g)) else 0
theorem mul_le3 {a b c x y z : Nat} (h1 : a ≤ x) (h2 : b ≤ y) (h3 : c ≤ z) : a * b * c ≤ x * y * z := Nat.mul_le_mul (Nat.mul_le_mul h1 h2) h3
section S48
variable {d : Nat → Int32} {g e : Nat}
theorem m194 (hI : Iv d) (hg : g < 16) : cn d (194 + 8 * g) ≤ 999 ∧ d (194 + 8 * g) = nI (cn d (194 + 8 * g)) := ⟨hI.leb (b := 999) (bd_194 (i := g) hg rfl) (by decide), hI.atb (b := 999) (bd_194 (i := g) hg rfl) (by decide)⟩
theorem wt_n (hI : Iv d) (hg : g < 16) : s_with d (d (191 + 8 * g)) = nI (nW d (cn d (191 + 8 * g))) ∧ nW d (cn d (191 + 8 * g)) ≤ 72 := by
  have h := with_n hI (cn d (191 + 8 * g))
  rw [← hI.atb (b := 11) (bd_191 (i := g) hg rfl) (by decide)] at h
  have h1 := nW_le (d := d) (cn d (191 + 8 * g))
  have h2 := nA_le hI
  exact ⟨h, by omega⟩
theorem fC_le (hI : Iv d) (hg : g < 16) : fC d g ≤ 999 * 72 * 999 := by
  have h1 := (m194 hI hg).1
  have h2 := (wt_n hI hg).2
  have h3 := nB_le hI
  have h4 := hI.le8
  have h5 := hI.le9
  unfold fC
  split
  · exact mul_le3 (by omega) h3 h1
  · exact mul_le3 h5 h2 h1
theorem fP_le (hI : Iv d) (hg : g < 16) : fP d g ≤ 999 * 72 := by
  have h1 := (m194 hI hg).1
  have h2 := (wt_n hI hg).2
  unfold fP
  split
  · exact Nat.mul_le_mul h1 h2
  · omega
theorem sC_le (hI : Iv d) : sumN (fC d) (cn d 4) < 2 ^ 40 := by
  have b4 := hI.le4
  have h := sumN_le (f := fC d) (b := 999 * 72 * 999) (n := cn d 4) (fun g hg => fC_le hI (by omega))
  exact Nat.lt_of_le_of_lt (Nat.le_trans h (Nat.mul_le_mul b4 (Nat.le_refl (999 * 72 * 999)))) (Nat.lt_of_succ_le (Nat.le_of_ble_eq_true rfl))
theorem sP_le (hI : Iv d) : ∀ n, n ≤ 16 → sumN (fP d) n ≤ 16 * (999 * 72) := fun n hn => by
  have h := sumN_le (f := fP d) (b := 999 * 72) (n := n) (fun g hg => fP_le hI (by omega))
  exact Nat.le_trans h (Nat.mul_le_mul hn (Nat.le_refl (999 * 72)))
theorem cq_1 (hI : Iv d) (hg : g < 16) (h : s_now d g = true) : lN (sumN (fC d) g) + (d 8).toInt64 * lN (nB d) * (d (194 + 8 * g)).toInt64 = lN (sumN (fC d) (g + 1)) := by
  have h1 := m194 hI hg
  have b8 := hI.le8
  rw [sumN, fC, if_pos h, h1.2, hI.at8, nI_l (by omega), nI_l (by omega), lN_mul, lN_mul, lN_add]
theorem cq_2 (hI : Iv d) (hg : g < 16) (h : s_now d g = false) : lN (sumN (fC d) g) + (d 9).toInt64 * (s_with d (d (191 + 8 * g))).toInt64 * (d (194 + 8 * g)).toInt64 = lN (sumN (fC d) (g + 1)) := by
  have h1 := m194 hI hg
  have h2 := wt_n hI hg
  have b9 := hI.le9
  rw [h2.1, sumN, fC, if_neg (by rw [h]; decide), h1.2, hI.at9, nI_l (by omega), nI_l (by omega), nI_l (by omega), lN_mul, lN_mul, lN_add]
theorem cq_3 (hI : Iv d) (hg : g < 16) (h : s_now d g = true) {v : Int32} (hv : v.toInt64 = lN (nB d)) : lN (sumN (fC d) g) + (d (194 + 8 * g)).toInt64 * (d 8).toInt64 * v.toInt64 = lN (sumN (fC d) (g + 1)) := by
  rw [← cq_1 hI hg h, hv, Int64.mul_comm (d (194 + 8 * g)).toInt64, Int64.mul_assoc, Int64.mul_comm (d (194 + 8 * g)).toInt64, ← Int64.mul_assoc]
theorem cq_4 (hI : Iv d) (hg : g < 16) (h : s_now d g = false) : lN (sumN (fC d) g) + (d (194 + 8 * g)).toInt64 * (d 9).toInt64 * (s_with d (d (191 + 8 * g))).toInt64 = lN (sumN (fC d) (g + 1)) := by
  rw [← cq_2 hI hg h, Int64.mul_comm (d (194 + 8 * g)).toInt64, Int64.mul_assoc, Int64.mul_comm (d (194 + 8 * g)).toInt64, ← Int64.mul_assoc]
theorem bl_0 (hI : Iv d) (h : s_all d = 0) : (nI 1).toInt64 = lN (nB d) := by
  rw [show nB d = 1 from if_pos ((all_0 hI).mp h), nI_l (by decide)]
theorem bl_1 (hI : Iv d) (h : ¬ s_all d = 0) : (s_all d).toInt64 = lN (nB d) := by
  have := nA_le hI
  rw [show nB d = nA d from if_neg (fun e => h ((all_0 hI).mpr e)), all_n hI, nI_l (by omega)]
theorem wr_1 (hI : Iv d) (hg : g < 16) (h : s_now d g = true) : nI (sumN (fP d) g) + d (194 + 8 * g) * s_with d (d (191 + 8 * g)) = nI (sumN (fP d) (g + 1)) := by
  have h1 := m194 hI hg
  rw [(wt_n hI hg).1, sumN, fP, if_pos h, h1.2, pk_mul, nI_add]
theorem wr_0 (h : s_now d g = false) : nI (sumN (fP d) g) = nI (sumN (fP d) (g + 1)) := by
  rw [sumN, show fP d g = 0 from if_neg (by rw [h]; decide), Nat.add_zero]
theorem wr_2 (hI : Iv d) (hg : g < 16) (he : e ≤ 1000) (h : s_now d g = true) : lN (sumN (fun g => fP d g * e) g) + (d (194 + 8 * g)).toInt64 * (s_with d (d (191 + 8 * g))).toInt64 * (nI e).toInt64 = lN (sumN (fun g => fP d g * e) (g + 1)) := by
  have h1 := m194 hI hg
  have h2 := wt_n hI hg
  rw [h2.1, sumN, show fP d g = cn d (194 + 8 * g) * nW d (cn d (191 + 8 * g)) from if_pos h, h1.2, nI_l (by omega), nI_l (by omega), nI_l (by omega), lN_mul, lN_mul, lN_add]
theorem wr_3 (h : s_now d g = false) : lN (sumN (fun g => fP d g * e) g) + lN 0 = lN (sumN (fun g => fP d g * e) (g + 1)) := by
  rw [sumN, show fP d g = 0 from if_neg (by rw [h]; decide), Nat.zero_mul, lN_add]
theorem sP_mul : ∀ n, sumN (fun g => fP d g * e) n = sumN (fP d) n * e
  | 0 => (Nat.zero_mul e).symm
  | n + 1 => by rw [sumN, sumN, sP_mul n, Nat.add_mul]
theorem sP_0 (h : nA d = 0) : ∀ n, sumN (fP d) n = 0
  | 0 => rfl
  | n + 1 => by
    have h1 := nW_le (d := d) (cn d (191 + 8 * n))
    rw [sumN, sP_0 h n, Nat.zero_add]
    unfold fP
    split
    · rw [show nW d (cn d (191 + 8 * n)) = 0 by omega, Nat.mul_zero]
    · rfl
end S48
section H48
variable {Ln : Nat} {xs : Nat → Int32} {α μ ν γ : Nat → Nat → Int32} {d : Nat → Int32}
theorem c_coin_l   : ∀ (j i : Nat) (α : Nat → Nat → Int32), J α μ → i + j = cn (μ 95) 4 → rf_Ok (rf_T Ln xs) MX10_coinAbove 8 14 [some (.ref 1), some (.long (lN (nB (μ 95)))), none, some (.long (lN (sumN (fC (μ 95)) i))), none, some (.int (nI i)), none, none] [] (α, μ) (fun r s => r = some (.long (lN (sumN (fC (μ 95)) (cn (μ 95) 4)))) ∧ ∃ α' : Nat → Nat → Int32, s = (α', μ) ∧ J α' μ) := by
  intro j
  induction j with
  | zero =>
    intro i α hJ hj
    have hR := hJ.1.1.1
    have hI := hJ.2
    have b0 := hI.le0
    have b2 := hI.le2
    have b3 := hI.le3
    have b4 := hI.le4
    have b5 := hI.le5
    have b8 := hI.le8
    have b9 := hI.le9
    have hj : i = cn (μ 95) 4 := by omega
    refine ok_step (ps := []) (L' := [some (.ref 1), some (.long (lN (nB (μ 95)))), none, some (.long (lN (sumN (fC (μ 95)) i))), none, some (.int (nI i)), none, none]) (st' := [.int (α 10 0), .int (nI i)]) (σ' := (α, μ)) (pc' := 23) kX10_coinAbove_14 rfl rfl rf_a0 ?_
    try rw [(show α 10 0 = μ 95 4 from hR 9 0 4 rfl)]
    refine ok_icmp_ge bX10_coinAbove_23 (fun _ => ?_) (fun h23 => absurd (le_of hI.at4 (by omega) (by omega)) h23)
    refine ok_step (ps := []) (L' := [some (.ref 1), some (.long (lN (nB (μ 95)))), none, some (.long (lN (sumN (fC (μ 95)) i))), none, some (.int (nI i)), none, none]) (st' := [.long (lN (sumN (fC (μ 95)) i))]) (σ' := (α, μ)) (pc' := 101) kX10_coinAbove_100 rfl rfl rf_a0 ?_
    refine ok_retl eX10_coinAbove_101 rfl ?_
    exact ⟨by rw [hj], _, rfl, hJ⟩
  | succ j ih =>
    intro i α hJ hj
    have hR := hJ.1.1.1
    have hI := hJ.2
    have b0 := hI.le0
    have b2 := hI.le2
    have b3 := hI.le3
    have b4 := hI.le4
    have b5 := hI.le5
    have b8 := hI.le8
    have b9 := hI.le9
    refine ok_step (ps := []) (L' := [some (.ref 1), some (.long (lN (nB (μ 95)))), none, some (.long (lN (sumN (fC (μ 95)) i))), none, some (.int (nI i)), none, none]) (st' := [.int (α 10 0), .int (nI i)]) (σ' := (α, μ)) (pc' := 23) kX10_coinAbove_14 rfl rfl rf_a0 ?_
    try rw [(show α 10 0 = μ 95 4 from hR 9 0 4 rfl)]
    refine ok_icmp_ge bX10_coinAbove_23 (fun h23 => absurd h23 (nle_of hI.at4 (by omega) (by omega))) (fun _ => ?_)
    refine ok_step (ps := []) (L' := [some (.ref 1), some (.long (lN (nB (μ 95)))), none, some (.long (lN (sumN (fC (μ 95)) i))), none, some (.int (nI i)), none, none]) (st' := [.int (nI i), .ref 1]) (σ' := (α, μ)) (pc' := 29) kX10_coinAbove_26 rfl rfl rf_a0 ?_
    refine ok_Vx (As := [.int (nI i)]) (b := 1) (st := []) mkX10_paysNow qX10_coinAbove_29 rfl (rc_1) rfl rfl rfl rfl (Nat.le_of_ble_eq_true rfl) (c_now hJ (by omega)) (fun r1 σ1 hq => ?_)
    obtain ⟨rfl, α, rfl, hJ⟩ := qJ hJ hq
    have hR := hJ.1.1.1
    refine ok_if_eq bX10_coinAbove_32 (fun h32 => ?_) (fun h32 => ?_)
    · refine ok_step (ps := [rf_in (nI i) 16]) (L' := [some (.ref 1), some (.long (lN (nB (μ 95)))), none, some (.long (lN (sumN (fC (μ 95)) i))), none, some (.int (nI i)), none, none]) (st' := [.int (α 12 ((nI i).toNatClampNeg)), .ref 19, .long ((α 10 2).toInt64)]) (σ' := (α, μ)) (pc' := 70) kX10_coinAbove_48 rfl rfl (rf_a1 (rf_in_n (a := i) rfl (by omega)) rf_a0) ?_
      try rw [(show α 10 2 = μ 95 9 from hR 9 2 9 rfl)]
      try rw [(show (nI i).toNatClampNeg = i from rf_cl_n rfl (by omega))]
      try rw [(show α 12 i = μ 95 (191 + 8 * i) from rl_11 hR (i := i) (by omega) (by omega))]
      refine ok_V (As := [.int (μ 95 (191 + 8 * i))]) (b := 19) (st := [.long ((μ 95 9).toInt64)]) mkX7_lotsWith qX10_coinAbove_70 rfl (rc_19) rfl rfl rfl rfl (Nat.le_of_ble_eq_true rfl) (c_with hR hI) ?_
      refine ok_step (ps := []) (L' := [some (.ref 1), some (.long (lN (nB (μ 95)))), none, some (.long (lN (sumN (fC (μ 95)) i))), none, some (.int (nI i)), none, none]) (st' := [.long (((μ 95 9).toInt64) * ((s_with (μ 95) (μ 95 (191 + 8 * i))).toInt64))]) (σ' := (α, μ)) (pc' := 75) kX10_coinAbove_73 rfl rfl rf_a0 ?_
      refine ok_step (ps := [rf_in (nI i) 16]) (L' := [some (.ref 1), some (.long (lN (nB (μ 95)))), none, some (.long ((lN (sumN (fC (μ 95)) i)) + ((((μ 95 9).toInt64) * ((s_with (μ 95) (μ 95 (191 + 8 * i))).toInt64)) * ((α 15 ((nI i).toNatClampNeg)).toInt64)))), none, some (.int ((nI i) + (nI 1))), some (.long (((μ 95 9).toInt64) * ((s_with (μ 95) (μ 95 (191 + 8 * i))).toInt64))), none]) (st' := []) (σ' := (α, μ)) (pc' := 97) kX10_coinAbove_75 rfl rfl (rf_a1 (rf_in_n (a := i) rfl (by omega)) rf_a0) ?_
      try rw [(show (nI i).toNatClampNeg = i from rf_cl_n rfl (by omega))]
      try rw [(show α 15 i = μ 95 (194 + 8 * i) from rl_14 hR (i := i) (by omega) (by omega))]
      try rw [(show ((nI i) + (nI 1)) = nI (i + 1) from nI_add _ _)]
      refine ok_goto bX10_coinAbove_97 ?_
      rw [show ((lN (sumN (fC (μ 95)) i)) + ((((μ 95 9).toInt64) * ((s_with (μ 95) (μ 95 (191 + 8 * i))).toInt64)) * ((μ 95 (194 + 8 * i)).toInt64)) : Int64) = lN (sumN (fC (μ 95)) (i + 1)) from cq_2 hI (by omega) (bI_0.mp h32)]
      refine ok_kill (x := 6) ?_
      exact ih (i + 1) α hJ (by omega)
    · refine ok_step (ps := []) (L' := [some (.ref 1), some (.long (lN (nB (μ 95)))), none, some (.long (lN (sumN (fC (μ 95)) i))), none, some (.int (nI i)), none, none]) (st' := [.long (((α 10 1).toInt64) * (lN (nB (μ 95))))]) (σ' := (α, μ)) (pc' := 45) kX10_coinAbove_35 rfl rfl rf_a0 ?_
      try rw [(show α 10 1 = μ 95 8 from hR 9 1 8 rfl)]
      refine ok_goto bX10_coinAbove_45 ?_
      refine ok_step (ps := [rf_in (nI i) 16]) (L' := [some (.ref 1), some (.long (lN (nB (μ 95)))), none, some (.long ((lN (sumN (fC (μ 95)) i)) + ((((μ 95 8).toInt64) * (lN (nB (μ 95)))) * ((α 15 ((nI i).toNatClampNeg)).toInt64)))), none, some (.int ((nI i) + (nI 1))), some (.long (((μ 95 8).toInt64) * (lN (nB (μ 95))))), none]) (st' := []) (σ' := (α, μ)) (pc' := 97) kX10_coinAbove_75 rfl rfl (rf_a1 (rf_in_n (a := i) rfl (by omega)) rf_a0) ?_
      try rw [(show (nI i).toNatClampNeg = i from rf_cl_n rfl (by omega))]
      try rw [(show α 15 i = μ 95 (194 + 8 * i) from rl_14 hR (i := i) (by omega) (by omega))]
      try rw [(show ((nI i) + (nI 1)) = nI (i + 1) from nI_add _ _)]
      refine ok_goto bX10_coinAbove_97 ?_
      rw [show ((lN (sumN (fC (μ 95)) i)) + ((((μ 95 8).toInt64) * (lN (nB (μ 95)))) * ((μ 95 (194 + 8 * i)).toInt64)) : Int64) = lN (sumN (fC (μ 95)) (i + 1)) from cq_1 hI (by omega) (bI_n0.mp h32)]
      refine ok_kill (x := 6) ?_
      exact ih (i + 1) α hJ (by omega)
theorem c_coin (hJ : J α μ) : rf_Ok (rf_T Ln xs) MX10_coinAbove 8 0 [some (.ref 1), none, none, none, none, none, none, none] [] (α, μ) (fun r s => r = some (.long (lN (sumN (fC (μ 95)) (cn (μ 95) 4)))) ∧ ∃ α' : Nat → Nat → Int32, s = (α', μ) ∧ J α' μ) := by
  have hR := hJ.1.1.1
  have hI := hJ.2
  have b0 := hI.le0
  have b2 := hI.le2
  have b3 := hI.le3
  have b4 := hI.le4
  have b5 := hI.le5
  have b8 := hI.le8
  have b9 := hI.le9
  have b7 := nB_le hI
  refine ok_step (ps := []) (L' := [some (.ref 1), none, none, none, none, none, none, none]) (st' := [.ref 19]) (σ' := (α, μ)) (pc' := 4) kX10_coinAbove_0 rfl rfl rf_a0 ?_
  refine ok_V (As := []) (b := 19) (st := []) mkX7_below qX10_coinAbove_4 rfl (rc_19) rfl rfl rfl rfl (Nat.le_of_ble_eq_true rfl) (c_below hR hI) ?_
  refine ok_step (ps := []) (L' := [some (.ref 1), some (.long ((rf_max (s_all (μ 95)) (nI 1)).toInt64)), none, some (.long (lN 0)), none, some (.int (nI 0)), none, none]) (st' := []) (σ' := (α, μ)) (pc' := 14) kX10_coinAbove_7 rfl rfl rf_a0 ?_
  rw [below_n hI, nI_l (by omega)]
  exact c_coin_l (cn (μ 95) 4) 0 α hJ (by omega)
theorem m_coin_l   : ∀ (j i : Nat) (ν : Nat → Nat → Int32), J α ν → ν 95 = d → i + j = cn d 4 → rf_Ok (rf_T Ln xs) MX12_coinUp 50 10 [some (.ref 94), some (.int (s_all d)), some (.long (lN (sumN (fC d) i))), none, some (.int (nI i)), none, none] [] (γ, ν) (fun r s => r = some (.long (lN (sumN (fC d) (cn d 4)))) ∧ ∃ ν' : Nat → Nat → Int32, s = (γ, ν') ∧ J α ν' ∧ ν' 95 = d) := by
  intro j
  induction j with
  | zero =>
    intro i ν hJ hd hj
    have hI : Iv d := by rw [← hd]; exact hJ.2
    have b0 := hI.le0
    have b2 := hI.le2
    have b3 := hI.le3
    have b4 := hI.le4
    have b5 := hI.le5
    have b8 := hI.le8
    have b9 := hI.le9
    have hj : i = cn d 4 := by omega
    refine ok_step (ps := [rf_in (nI 4) 700]) (L' := [some (.ref 94), some (.int (s_all d)), some (.long (lN (sumN (fC d) i))), none, some (.int (nI i)), none, none]) (st' := [.int (ν 95 ((nI 4).toNatClampNeg)), .int (nI i)]) (σ' := (γ, ν)) (pc' := 18) kX12_coinUp_10 rfl rfl (rf_a1 (rf_in_n (a := 4) rfl (by omega)) rf_a0) ?_
    try rw [(show (nI 4).toNatClampNeg = 4 from rf_cl_n rfl (by omega))]
    try rw [(show ν 95 4 = d 4 from congrFun hd _)]
    refine ok_icmp_ge bX12_coinUp_18 (fun _ => ?_) (fun h18 => absurd (le_of hI.at4 (by omega) (by omega)) h18)
    refine ok_step (ps := []) (L' := [some (.ref 94), some (.int (s_all d)), some (.long (lN (sumN (fC d) i))), none, some (.int (nI i)), none, none]) (st' := [.long (lN (sumN (fC d) i))]) (σ' := (γ, ν)) (pc' := 99) kX12_coinUp_98 rfl rfl rf_a0 ?_
    refine ok_retl eX12_coinUp_99 rfl ?_
    exact ⟨by rw [hj], _, rfl, hJ, hd⟩
  | succ j ih =>
    intro i ν hJ hd hj
    have hI : Iv d := by rw [← hd]; exact hJ.2
    have b0 := hI.le0
    have b2 := hI.le2
    have b3 := hI.le3
    have b4 := hI.le4
    have b5 := hI.le5
    have b8 := hI.le8
    have b9 := hI.le9
    refine ok_step (ps := [rf_in (nI 4) 700]) (L' := [some (.ref 94), some (.int (s_all d)), some (.long (lN (sumN (fC d) i))), none, some (.int (nI i)), none, none]) (st' := [.int (ν 95 ((nI 4).toNatClampNeg)), .int (nI i)]) (σ' := (γ, ν)) (pc' := 18) kX12_coinUp_10 rfl rfl (rf_a1 (rf_in_n (a := 4) rfl (by omega)) rf_a0) ?_
    try rw [(show (nI 4).toNatClampNeg = 4 from rf_cl_n rfl (by omega))]
    try rw [(show ν 95 4 = d 4 from congrFun hd _)]
    refine ok_icmp_ge bX12_coinUp_18 (fun h18 => absurd h18 (nle_of hI.at4 (by omega) (by omega))) (fun _ => ?_)
    refine ok_step (ps := []) (L' := [some (.ref 94), some (.int (s_all d)), some (.long (lN (sumN (fC d) i))), none, some (.int (nI i)), none, none]) (st' := [.int (nI 4), .int (nI i), .ref 94]) (σ' := (γ, ν)) (pc' := 25) kX12_coinUp_21 rfl rfl rf_a0 ?_
    refine ok_V (As := [.int (nI i), .int (nI 4)]) (b := 94) (st := []) mkX12_gr qX12_coinUp_25 rfl (rc_94) rfl rfl rfl rfl (Nat.le_of_ble_eq_true rfl) (m_gr_d (j := (194 + 8 * i)) hd (by omega) (by omega) (by omega)) ?_
    refine ok_step (ps := []) (L' := [some (.ref 94), some (.int (s_all d)), some (.long (lN (sumN (fC d) i))), none, some (.int (nI i)), some (.long ((d (194 + 8 * i)).toInt64)), none]) (st' := [.int (nI i), .ref 94, .long (lN (sumN (fC d) i))]) (σ' := (γ, ν)) (pc' := 35) kX12_coinUp_28 rfl rfl rf_a0 ?_
    refine ok_Vx (As := [.int (nI i)]) (b := 94) (st := [.long (lN (sumN (fC d) i))]) mkX12_pays qX12_coinUp_35 rfl (rc_94) rfl rfl rfl rfl (Nat.le_of_ble_eq_true rfl) (m_pays hJ hd (by omega)) (fun r1 σ1 hq => ?_)
    obtain ⟨rfl, ν, rfl, hJ, hd, -⟩ := hq
    refine ok_if_eq bX12_coinUp_38 (fun h38 => ?_) (fun h38 => ?_)
    · refine ok_step (ps := [rf_in (nI 9) 700]) (L' := [some (.ref 94), some (.int (s_all d)), some (.long (lN (sumN (fC d) i))), none, some (.int (nI i)), some (.long ((d (194 + 8 * i)).toInt64)), none]) (st' := [.int (nI 1), .int (nI i), .ref 94, .ref 94, .long (((d (194 + 8 * i)).toInt64) * ((ν 95 ((nI 9).toNatClampNeg)).toInt64)), .long (lN (sumN (fC d) i))]) (σ' := (γ, ν)) (pc' := 82) kX12_coinUp_66 rfl rfl (rf_a1 (rf_in_n (a := 9) rfl (by omega)) rf_a0) ?_
      try rw [(show (nI 9).toNatClampNeg = 9 from rf_cl_n rfl (by omega))]
      try rw [(show ν 95 9 = d 9 from congrFun hd _)]
      refine ok_V (As := [.int (nI i), .int (nI 1)]) (b := 94) (st := [.ref 94, .long (((d (194 + 8 * i)).toInt64) * ((d 9).toInt64)), .long (lN (sumN (fC d) i))]) mkX12_gr qX12_coinUp_82 rfl (rc_94) rfl rfl rfl rfl (Nat.le_of_ble_eq_true rfl) (m_gr_d (j := (191 + 8 * i)) hd (by omega) (by omega) (by omega)) ?_
      refine ok_V (As := [.int (d (191 + 8 * i))]) (b := 94) (st := [.long (((d (194 + 8 * i)).toInt64) * ((d 9).toInt64)), .long (lN (sumN (fC d) i))]) mkX12_lotsWith qX12_coinUp_85 rfl (rc_94) rfl rfl rfl rfl (Nat.le_of_ble_eq_true rfl) (m_with_d hI hd) ?_
      refine ok_step (ps := []) (L' := [some (.ref 94), some (.int (s_all d)), some (.long (lN (sumN (fC d) i))), none, some (.int (nI i)), some (.long ((d (194 + 8 * i)).toInt64)), none]) (st' := [.long ((((d (194 + 8 * i)).toInt64) * ((d 9).toInt64)) * ((s_with d (d (191 + 8 * i))).toInt64)), .long (lN (sumN (fC d) i))]) (σ' := (γ, ν)) (pc' := 90) kX12_coinUp_88 rfl rfl rf_a0 ?_
      refine ok_step (ps := []) (L' := [some (.ref 94), some (.int (s_all d)), some (.long ((lN (sumN (fC d) i)) + ((((d (194 + 8 * i)).toInt64) * ((d 9).toInt64)) * ((s_with d (d (191 + 8 * i))).toInt64)))), none, some (.int ((nI i) + (nI 1))), some (.long ((d (194 + 8 * i)).toInt64)), none]) (st' := []) (σ' := (γ, ν)) (pc' := 95) kX12_coinUp_90 rfl rfl rf_a0 ?_
      try rw [(show ((nI i) + (nI 1)) = nI (i + 1) from nI_add _ _)]
      refine ok_goto bX12_coinUp_95 ?_
      rw [show ((lN (sumN (fC d) i)) + ((((d (194 + 8 * i)).toInt64) * ((d 9).toInt64)) * ((s_with d (d (191 + 8 * i))).toInt64)) : Int64) = lN (sumN (fC (d)) (i + 1)) from cq_4 hI (by omega) (bI_0.mp h38)]
      refine ok_kill (x := 5) ?_
      exact ih (i + 1) ν hJ hd (by omega)
    · refine ok_step (ps := [rf_in (nI 8) 700]) (L' := [some (.ref 94), some (.int (s_all d)), some (.long (lN (sumN (fC d) i))), none, some (.int (nI i)), some (.long ((d (194 + 8 * i)).toInt64)), none]) (st' := [.int (s_all d), .long (((d (194 + 8 * i)).toInt64) * ((ν 95 ((nI 8).toNatClampNeg)).toInt64)), .long (lN (sumN (fC d) i))]) (σ' := (γ, ν)) (pc' := 53) kX12_coinUp_41 rfl rfl (rf_a1 (rf_in_n (a := 8) rfl (by omega)) rf_a0) ?_
      try rw [(show (nI 8).toNatClampNeg = 8 from rf_cl_n rfl (by omega))]
      try rw [(show ν 95 8 = d 8 from congrFun hd _)]
      refine ok_if_ne bX12_coinUp_53 (fun h53 => ?_) (fun h53 => ?_)
      · refine ok_step (ps := []) (L' := [some (.ref 94), some (.int (s_all d)), some (.long (lN (sumN (fC d) i))), none, some (.int (nI i)), some (.long ((d (194 + 8 * i)).toInt64)), none]) (st' := [.int (s_all d), .long (((d (194 + 8 * i)).toInt64) * ((d 8).toInt64)), .long (lN (sumN (fC d) i))]) (σ' := (γ, ν)) (pc' := 61) kX12_coinUp_60 rfl rfl rf_a0 ?_
        refine ok_step (ps := []) (L' := [some (.ref 94), some (.int (s_all d)), some (.long (lN (sumN (fC d) i))), none, some (.int (nI i)), some (.long ((d (194 + 8 * i)).toInt64)), none]) (st' := [.long ((((d (194 + 8 * i)).toInt64) * ((d 8).toInt64)) * ((s_all d).toInt64)), .long (lN (sumN (fC d) i))]) (σ' := (γ, ν)) (pc' := 63) kX12_coinUp_61 rfl rfl rf_a0 ?_
        refine ok_goto bX12_coinUp_63 ?_
        refine ok_step (ps := []) (L' := [some (.ref 94), some (.int (s_all d)), some (.long ((lN (sumN (fC d) i)) + ((((d (194 + 8 * i)).toInt64) * ((d 8).toInt64)) * ((s_all d).toInt64)))), none, some (.int ((nI i) + (nI 1))), some (.long ((d (194 + 8 * i)).toInt64)), none]) (st' := []) (σ' := (γ, ν)) (pc' := 95) kX12_coinUp_90 rfl rfl rf_a0 ?_
        try rw [(show ((nI i) + (nI 1)) = nI (i + 1) from nI_add _ _)]
        refine ok_goto bX12_coinUp_95 ?_
        rw [show ((lN (sumN (fC d) i)) + ((((d (194 + 8 * i)).toInt64) * ((d 8).toInt64)) * ((s_all d).toInt64)) : Int64) = lN (sumN (fC (d)) (i + 1)) from cq_3 hI (by omega) (bI_n0.mp h38) (bl_1 hI h53)]
        refine ok_kill (x := 5) ?_
        exact ih (i + 1) ν hJ hd (by omega)
      · refine ok_step (ps := []) (L' := [some (.ref 94), some (.int (s_all d)), some (.long (lN (sumN (fC d) i))), none, some (.int (nI i)), some (.long ((d (194 + 8 * i)).toInt64)), none]) (st' := [.int (nI 1), .long (((d (194 + 8 * i)).toInt64) * ((d 8).toInt64)), .long (lN (sumN (fC d) i))]) (σ' := (γ, ν)) (pc' := 57) kX12_coinUp_56 rfl rfl rf_a0 ?_
        refine ok_goto bX12_coinUp_57 ?_
        refine ok_step (ps := []) (L' := [some (.ref 94), some (.int (s_all d)), some (.long (lN (sumN (fC d) i))), none, some (.int (nI i)), some (.long ((d (194 + 8 * i)).toInt64)), none]) (st' := [.long ((((d (194 + 8 * i)).toInt64) * ((d 8).toInt64)) * ((nI 1).toInt64)), .long (lN (sumN (fC d) i))]) (σ' := (γ, ν)) (pc' := 63) kX12_coinUp_61 rfl rfl rf_a0 ?_
        refine ok_goto bX12_coinUp_63 ?_
        refine ok_step (ps := []) (L' := [some (.ref 94), some (.int (s_all d)), some (.long ((lN (sumN (fC d) i)) + ((((d (194 + 8 * i)).toInt64) * ((d 8).toInt64)) * ((nI 1).toInt64)))), none, some (.int ((nI i) + (nI 1))), some (.long ((d (194 + 8 * i)).toInt64)), none]) (st' := []) (σ' := (γ, ν)) (pc' := 95) kX12_coinUp_90 rfl rfl rf_a0 ?_
        try rw [(show ((nI i) + (nI 1)) = nI (i + 1) from nI_add _ _)]
        refine ok_goto bX12_coinUp_95 ?_
        rw [show ((lN (sumN (fC d) i)) + ((((d (194 + 8 * i)).toInt64) * ((d 8).toInt64)) * ((nI 1).toInt64)) : Int64) = lN (sumN (fC (d)) (i + 1)) from cq_3 hI (by omega) (bI_n0.mp h38) (bl_0 hI h53)]
        refine ok_kill (x := 5) ?_
        exact ih (i + 1) ν hJ hd (by omega)
theorem m_coin (hJ : J α ν) (hd : ν 95 = d) : rf_Ok (rf_T Ln xs) MX12_coinUp 50 0 [some (.ref 94), none, none, none, none, none, none] [] (γ, ν) (fun r s => r = some (.long (lN (sumN (fC d) (cn d 4)))) ∧ ∃ ν' : Nat → Nat → Int32, s = (γ, ν') ∧ J α ν' ∧ ν' 95 = d) := by
  have hI : Iv d := by rw [← hd]; exact hJ.2
  refine ok_step (ps := []) (L' := [some (.ref 94), none, none, none, none, none, none]) (st' := [.ref 94]) (σ' := (γ, ν)) (pc' := 1) kX12_coinUp_0 rfl rfl rf_a0 ?_
  refine ok_V (As := []) (b := 94) (st := []) mkX12_allLots qX12_coinUp_1 rfl (rc_94) rfl rfl rfl rfl (Nat.le_of_ble_eq_true rfl) (m_all_d hI hd) ?_
  refine ok_step (ps := []) (L' := [some (.ref 94), some (.int (s_all d)), some (.long (lN 0)), none, some (.int (nI 0)), none, none]) (st' := []) (σ' := (γ, ν)) (pc' := 10) kX12_coinUp_4 rfl rfl rf_a0 ?_
  exact m_coin_l (cn d 4) 0 ν hJ hd (by omega)
theorem op_coin {part : Int32} (hJ : J α μ)  : Op (rf_T Ln xs) MX11_coin MX12_coin [some (.ref 0), some (.int part)] [some (.ref 94), some (.int part), none] α μ := by
  have hR := hJ.1.1.1
  have hI := hJ.2
  have b0 := hI.le0
  have b1 := hI.le1
  have b2 := hI.le2
  have b3 := hI.le3
  have b4 := hI.le4
  have b5 := hI.le5
  have b6 := hI.le6
  have b8 := hI.le8
  have b9 := hI.le9
  have b11 := hI.le11
  have b12 := hI.le12
  have hA := nA_le hI
  have hB := nB_le hI
  have hB1 := nB_pos (d := μ 95)
  have hS := sC_le hI
  refine ok_step (ps := []) (L' := [some (.ref 0), some (.int part)]) (st' := [.int (nI 1), .int (nI 0), .int part]) (σ' := (α, μ)) (pc' := 3) kX11_coin_0 rfl rfl rf_a0 ?_
  refine ok_S (As := [.int part, .int (nI 0), .int (nI 1)]) (st := []) mkX11_within qX11_coin_3 rfl rfl rfl rfl rfl (Nat.le_of_ble_eq_true rfl) (c_within) ?_
  refine ok_if_ne bX11_coin_6 (fun h6 => ?_) (fun h6 => ?_)
  · refine ok_step (ps := []) (L' := [some (.ref 0), some (.int part)]) (st' := [.ref 1]) (σ' := (α, μ)) (pc' := 21) kX11_coin_17 rfl rfl rf_a0 ?_
    refine ok_Vx (As := []) (b := 1) (st := []) mkX10_coinAbove qX11_coin_21 rfl (rc_1) rfl rfl rfl rfl (Nat.le_of_ble_eq_true rfl) (c_coin hJ) (fun r1 σ1 hq => ?_)
    obtain ⟨rfl, α, rfl, hJ⟩ := hq
    have hR := hJ.1.1.1
    refine ok_step (ps := []) (L' := [some (.ref 0), some (.int part)]) (st' := [.ref 19, .long (lN (sumN (fC (μ 95)) (cn (μ 95) 4)))]) (σ' := (α, μ)) (pc' := 31) kX11_coin_24 rfl rfl rf_a0 ?_
    refine ok_V (As := []) (b := 19) (st := [.long (lN (sumN (fC (μ 95)) (cn (μ 95) 4)))]) mkX7_below qX11_coin_31 rfl (rc_19) rfl rfl rfl rfl (Nat.le_of_ble_eq_true rfl) (c_below hR hI) ?_
    refine ok_step (ps := []) (L' := [some (.ref 0), some (.int part)]) (st' := [.int part, .long ((rf_max (s_all (μ 95)) (nI 1)).toInt64), .long (lN (sumN (fC (μ 95)) (cn (μ 95) 4)))]) (σ' := (α, μ)) (pc' := 36) kX11_coin_34 rfl rfl rf_a0 ?_
    rw [show (rf_max (s_all (μ 95)) (nI 1)).toInt64 = lN (nB (μ 95)) from by rw [below_n hI, nI_l (by omega)]]
    refine ok_S (As := [.long (lN (sumN (fC (μ 95)) (cn (μ 95) 4))), .long (lN (nB (μ 95))), .int part]) (st := []) mkX11_lowest qX11_coin_36 rfl rfl rfl rfl rfl (Nat.le_of_ble_eq_true rfl) (c_low (a0 := (sumN (fC (μ 95)) (cn (μ 95) 4))) (b0 := (nB (μ 95))) (by omega) (by omega) (by omega) (by omega)) ?_
    refine ok_retl eX11_coin_39 rfl ?_
    refine ⟨rfl, _, rfl, ?_⟩
    refine ok_step (ps := []) (L' := [some (.ref 94), some (.int part), none]) (st' := [.long (lN 1), .long (lN 0), .long part.toInt64]) (σ' := (α, μ)) (pc' := 4) kX12_coin_0 rfl rfl rf_a0 ?_
    refine ok_S (As := [.long part.toInt64, .long (lN 0), .long (lN 1)]) (st := []) mkX12_in qX12_coin_4 rfl rfl rfl rfl rfl (Nat.le_of_ble_eq_true rfl) (m_in) ?_
    rw [show wl part.toInt64 (lN 0) (lN 1) = wi part (nI 0) (nI 1) from wl_of rfl (nI_l (by decide)).symm (nI_l (by decide)).symm]
    refine ok_if_ne bX12_coin_7 (fun _ => ?_) (fun g7 => absurd g7 (h6))
    refine ok_step (ps := []) (L' := [some (.ref 94), some (.int part), none]) (st' := [.ref 94]) (σ' := (α, μ)) (pc' := 18) kX12_coin_17 rfl rfl rf_a0 ?_
    refine ok_V (As := []) (b := 94) (st := []) mkX12_allLots qX12_coin_18 rfl (rc_94) rfl rfl rfl rfl (Nat.le_of_ble_eq_true rfl) (m_all hI) ?_
    refine ok_step (ps := []) (L' := [some (.ref 94), some (.int part), some (.int (s_all (μ 95)))]) (st' := [.ref 94]) (σ' := (α, μ)) (pc' := 23) kX12_coin_21 rfl rfl rf_a0 ?_
    refine ok_Vx (As := []) (b := 94) (st := []) mkX12_coinUp qX12_coin_23 rfl (rc_94) rfl rfl rfl rfl (Nat.le_of_ble_eq_true rfl) (m_coin hJ rfl) (fun r1 σ1 hq => ?_)
    obtain ⟨rfl, ν, rfl, hJ2, -⟩ := hq
    refine ok_step (ps := []) (L' := [some (.ref 94), some (.int part), some (.int (s_all (μ 95)))]) (st' := [.int (s_all (μ 95)), .long (lN (sumN (fC (μ 95)) (cn (μ 95) 4)))]) (σ' := (α, ν)) (pc' := 27) kX12_coin_26 rfl rfl rf_a0 ?_
    refine ok_if_ne bX12_coin_27 (fun g27 => ?_) (fun g27 => ?_)
    · have g0 : nA (μ 95) ≠ 0 := fun e => g27 ((all_0 hI).mpr e)
      refine ok_step (ps := []) (L' := [some (.ref 94), some (.int part), some (.int (s_all (μ 95)))]) (st' := [.long ((s_all (μ 95)).toInt64), .long (lN (sumN (fC (μ 95)) (cn (μ 95) 4)))]) (σ' := (α, ν)) (pc' := 36) kX12_coin_34 rfl rfl rf_a0 ?_
      refine ok_step (ps := []) (L' := [some (.ref 94), some (.int part), some (.int (s_all (μ 95)))]) (st' := [.int part, .long ((s_all (μ 95)).toInt64), .long (lN (sumN (fC (μ 95)) (cn (μ 95) 4)))]) (σ' := (α, ν)) (pc' := 37) kX12_coin_36 rfl rfl rf_a0 ?_
      rw [show (s_all (μ 95)).toInt64 = lN (nA (μ 95)) from by rw [all_n hI, nI_l (by omega)]]
      refine ok_S (As := [.long (lN (sumN (fC (μ 95)) (cn (μ 95) 4))), .long (lN (nA (μ 95))), .int part]) (st := []) mkX12_part qX12_coin_37 rfl rfl rfl rfl rfl (Nat.le_of_ble_eq_true rfl) (m_part (a0 := (sumN (fC (μ 95)) (cn (μ 95) 4))) (b0 := (nA (μ 95))) (by omega) (by omega) (by omega)) ?_
      refine ok_retl eX12_coin_40 rfl ?_
      refine ⟨?_, _, rfl, hJ2⟩
      rw [show nB (μ 95) = nA (μ 95) from if_neg (fun e => g27 ((all_0 hI).mpr e))]
    · refine ok_step (ps := []) (L' := [some (.ref 94), some (.int part), some (.int (s_all (μ 95)))]) (st' := [.long (lN 1), .long (lN (sumN (fC (μ 95)) (cn (μ 95) 4)))]) (σ' := (α, ν)) (pc' := 31) kX12_coin_30 rfl rfl rf_a0 ?_
      refine ok_goto bX12_coin_31 ?_
      refine ok_step (ps := []) (L' := [some (.ref 94), some (.int part), some (.int (s_all (μ 95)))]) (st' := [.int part, .long (lN 1), .long (lN (sumN (fC (μ 95)) (cn (μ 95) 4)))]) (σ' := (α, ν)) (pc' := 37) kX12_coin_36 rfl rfl rf_a0 ?_
      refine ok_S (As := [.long (lN (sumN (fC (μ 95)) (cn (μ 95) 4))), .long (lN 1), .int part]) (st := []) mkX12_part qX12_coin_37 rfl rfl rfl rfl rfl (Nat.le_of_ble_eq_true rfl) (m_part (a0 := (sumN (fC (μ 95)) (cn (μ 95) 4))) (b0 := 1) (by omega) (by omega) (by omega)) ?_
      refine ok_retl eX12_coin_40 rfl ?_
      refine ⟨?_, _, rfl, hJ2⟩
      rw [show nB (μ 95) = 1 from if_pos ((all_0 hI).mp g27)]
  · refine ok_step (ps := []) (L' := [some (.ref 0), some (.int part)]) (st' := [.int (-1000000001), .ref 0]) (σ' := (α, μ)) (pc' := 12) kX11_coin_9 rfl rfl rf_a0 ?_
    refine ok_V (As := [.int (-1000000001)]) (b := 0) (st := []) mkX11_error qX11_coin_12 rfl (rc_0) rfl rfl rfl rfl (Nat.le_of_ble_eq_true rfl) (c_error (k := 1) (by decide) (by decide) (by decide)) ?_
    refine ok_step (ps := []) (L' := [some (.ref 0), some (.int part)]) (st' := [.long (((-1000000000) - nI 1).toInt64)]) (σ' := (rf_w α 93 1 (α 93 1 + nI 1), μ)) (pc' := 16) kX11_coin_15 rfl rfl rf_a0 ?_
    refine ok_retl eX11_coin_16 rfl ?_
    refine ⟨rfl, _, rfl, ?_⟩
    refine ok_step (ps := []) (L' := [some (.ref 94), some (.int part), none]) (st' := [.long (lN 1), .long (lN 0), .long part.toInt64]) (σ' := (rf_w α 93 1 (α 93 1 + nI 1), μ)) (pc' := 4) kX12_coin_0 rfl rfl rf_a0 ?_
    refine ok_S (As := [.long part.toInt64, .long (lN 0), .long (lN 1)]) (st := []) mkX12_in qX12_coin_4 rfl rfl rfl rfl rfl (Nat.le_of_ble_eq_true rfl) (m_in) ?_
    rw [show wl part.toInt64 (lN 0) (lN 1) = wi part (nI 0) (nI 1) from wl_of rfl (nI_l (by decide)).symm (nI_l (by decide)).symm]
    refine ok_if_ne bX12_coin_7 (fun g7 => absurd (h6) g7) (fun _ => ?_)
    refine ok_step (ps := []) (L' := [some (.ref 94), some (.int part), none]) (st' := [.int (nI 1), .ref 94]) (σ' := (rf_w α 93 1 (α 93 1 + nI 1), μ)) (pc' := 12) kX12_coin_10 rfl rfl rf_a0 ?_
    refine ok_V (As := [.int (nI 1)]) (b := 94) (st := []) mkX12_finds qX12_coin_12 rfl (rc_94) rfl rfl rfl rfl (Nat.le_of_ble_eq_true rfl) (m_finds (k := 1) (by decide)) ?_
    refine ok_step (ps := []) (L' := [some (.ref 94), some (.int part), none]) (st' := [.long (((-1000000000) - nI 1).toInt64)]) (σ' := (rf_w α 93 1 (α 93 1 + nI 1), rf_w μ 97 1 (μ 97 1 + nI 1))) (pc' := 16) kX12_coin_15 rfl rfl rf_a0 ?_
    refine ok_retl eX12_coin_16 rfl ?_
    exact ⟨rfl, _, rfl, hJ.err (k := 1) (by decide)⟩
theorem c_wr_l   : ∀ (j i : Nat) (α : Nat → Nat → Int32), J α μ → i + j = cn (μ 95) 4 → rf_Ok (rf_T Ln xs) MX10_payersLookedAt 8 4 [some (.ref 1), some (.int (nI (sumN (fP (μ 95)) i))), some (.int (nI i))] [] (α, μ) (fun r s => r = some (.int (nI (sumN (fP (μ 95)) (cn (μ 95) 4)))) ∧ ∃ α' : Nat → Nat → Int32, s = (α', μ) ∧ J α' μ) := by
  intro j
  induction j with
  | zero =>
    intro i α hJ hj
    have hR := hJ.1.1.1
    have hI := hJ.2
    have b0 := hI.le0
    have b2 := hI.le2
    have b3 := hI.le3
    have b4 := hI.le4
    have b5 := hI.le5
    have b8 := hI.le8
    have b9 := hI.le9
    have hj : i = cn (μ 95) 4 := by omega
    refine ok_step (ps := []) (L' := [some (.ref 1), some (.int (nI (sumN (fP (μ 95)) i))), some (.int (nI i))]) (st' := [.int (α 10 0), .int (nI i)]) (σ' := (α, μ)) (pc' := 12) kX10_payersLookedAt_4 rfl rfl rf_a0 ?_
    try rw [(show α 10 0 = μ 95 4 from hR 9 0 4 rfl)]
    refine ok_icmp_ge bX10_payersLookedAt_12 (fun _ => ?_) (fun h12 => absurd (le_of hI.at4 (by omega) (by omega)) h12)
    refine ok_step (ps := []) (L' := [some (.ref 1), some (.int (nI (sumN (fP (μ 95)) i))), some (.int (nI i))]) (st' := [.int (nI (sumN (fP (μ 95)) i))]) (σ' := (α, μ)) (pc' := 59) kX10_payersLookedAt_58 rfl rfl rf_a0 ?_
    refine ok_reti eX10_payersLookedAt_59 rfl ?_
    exact ⟨by rw [hj], _, rfl, hJ⟩
  | succ j ih =>
    intro i α hJ hj
    have hR := hJ.1.1.1
    have hI := hJ.2
    have b0 := hI.le0
    have b2 := hI.le2
    have b3 := hI.le3
    have b4 := hI.le4
    have b5 := hI.le5
    have b8 := hI.le8
    have b9 := hI.le9
    refine ok_step (ps := []) (L' := [some (.ref 1), some (.int (nI (sumN (fP (μ 95)) i))), some (.int (nI i))]) (st' := [.int (α 10 0), .int (nI i)]) (σ' := (α, μ)) (pc' := 12) kX10_payersLookedAt_4 rfl rfl rf_a0 ?_
    try rw [(show α 10 0 = μ 95 4 from hR 9 0 4 rfl)]
    refine ok_icmp_ge bX10_payersLookedAt_12 (fun h12 => absurd h12 (nle_of hI.at4 (by omega) (by omega))) (fun _ => ?_)
    refine ok_step (ps := []) (L' := [some (.ref 1), some (.int (nI (sumN (fP (μ 95)) i))), some (.int (nI i))]) (st' := [.int (nI i), .ref 1]) (σ' := (α, μ)) (pc' := 17) kX10_payersLookedAt_15 rfl rfl rf_a0 ?_
    refine ok_Vx (As := [.int (nI i)]) (b := 1) (st := []) mkX10_paysNow qX10_payersLookedAt_17 rfl (rc_1) rfl rfl rfl rfl (Nat.le_of_ble_eq_true rfl) (c_now hJ (by omega)) (fun r1 σ1 hq => ?_)
    obtain ⟨rfl, α, rfl, hJ⟩ := qJ hJ hq
    have hR := hJ.1.1.1
    refine ok_if_eq bX10_payersLookedAt_20 (fun h20 => ?_) (fun h20 => ?_)
    · refine ok_step (ps := []) (L' := [some (.ref 1), some (.int (nI (sumN (fP (μ 95)) i))), some (.int ((nI i) + (nI 1)))]) (st' := []) (σ' := (α, μ)) (pc' := 55) kX10_payersLookedAt_52 rfl rfl rf_a0 ?_
      try rw [(show ((nI i) + (nI 1)) = nI (i + 1) from nI_add _ _)]
      refine ok_goto bX10_payersLookedAt_55 ?_
      rw [show (nI (sumN (fP (μ 95)) i) : Int32) = nI (sumN (fP (μ 95)) (i + 1)) from wr_0 (bI_0.mp h20)]
      exact ih (i + 1) α hJ (by omega)
    · refine ok_step (ps := [rf_in (nI i) 16, rf_in (nI i) 16]) (L' := [some (.ref 1), some (.int (nI (sumN (fP (μ 95)) i))), some (.int (nI i))]) (st' := [.int (α 12 ((nI i).toNatClampNeg)), .ref 19, .int (α 15 ((nI i).toNatClampNeg)), .int (nI (sumN (fP (μ 95)) i))]) (σ' := (α, μ)) (pc' := 46) kX10_payersLookedAt_23 rfl rfl (rf_a1 (rf_in_n (a := i) rfl (by omega)) (rf_a1 (rf_in_n (a := i) rfl (by omega)) rf_a0)) ?_
      try rw [(show (nI i).toNatClampNeg = i from rf_cl_n rfl (by omega))]
      try rw [(show α 15 i = μ 95 (194 + 8 * i) from rl_14 hR (i := i) (by omega) (by omega))]
      try rw [(show (nI i).toNatClampNeg = i from rf_cl_n rfl (by omega))]
      try rw [(show α 12 i = μ 95 (191 + 8 * i) from rl_11 hR (i := i) (by omega) (by omega))]
      refine ok_V (As := [.int (μ 95 (191 + 8 * i))]) (b := 19) (st := [.int (μ 95 (194 + 8 * i)), .int (nI (sumN (fP (μ 95)) i))]) mkX7_lotsWith qX10_payersLookedAt_46 rfl (rc_19) rfl rfl rfl rfl (Nat.le_of_ble_eq_true rfl) (c_with hR hI) ?_
      refine ok_step (ps := []) (L' := [some (.ref 1), some (.int ((nI (sumN (fP (μ 95)) i)) + ((μ 95 (194 + 8 * i)) * (s_with (μ 95) (μ 95 (191 + 8 * i)))))), some (.int (nI i))]) (st' := []) (σ' := (α, μ)) (pc' := 52) kX10_payersLookedAt_49 rfl rfl rf_a0 ?_
      refine ok_step (ps := []) (L' := [some (.ref 1), some (.int ((nI (sumN (fP (μ 95)) i)) + ((μ 95 (194 + 8 * i)) * (s_with (μ 95) (μ 95 (191 + 8 * i)))))), some (.int ((nI i) + (nI 1)))]) (st' := []) (σ' := (α, μ)) (pc' := 55) kX10_payersLookedAt_52 rfl rfl rf_a0 ?_
      try rw [(show ((nI i) + (nI 1)) = nI (i + 1) from nI_add _ _)]
      refine ok_goto bX10_payersLookedAt_55 ?_
      rw [show ((nI (sumN (fP (μ 95)) i)) + ((μ 95 (194 + 8 * i)) * (s_with (μ 95) (μ 95 (191 + 8 * i)))) : Int32) = nI (sumN (fP (μ 95)) (i + 1)) from wr_1 hI (by omega) (bI_n0.mp h20)]
      exact ih (i + 1) α hJ (by omega)
theorem c_wr (hJ : J α μ) : rf_Ok (rf_T Ln xs) MX10_payersLookedAt 8 0 [some (.ref 1), none, none] [] (α, μ) (fun r s => r = some (.int (nI (sumN (fP (μ 95)) (cn (μ 95) 4)))) ∧ ∃ α' : Nat → Nat → Int32, s = (α', μ) ∧ J α' μ) := by
  refine ok_step (ps := []) (L' := [some (.ref 1), some (.int (nI 0)), some (.int (nI 0))]) (st' := []) (σ' := (α, μ)) (pc' := 4) kX10_payersLookedAt_0 rfl rfl rf_a0 ?_
  exact c_wr_l (cn (μ 95) 4) 0 α hJ (by omega)
theorem m_wr_l {e : Nat} {part : Int32} {Q : Option Value → rf_Mem → Prop} (he : e ≤ 1000) (k : ∀ ν : Nat → Nat → Int32, J α ν → ν 95 = d → rf_Ok (rf_T Ln xs) MX12_wrong_ 60 99 [some (.ref 94), some (.int (nI e)), some (.int part), some (.int (s_all d)), some (.long (lN (sumN (fun g => fP d g * e) (cn d 4)))), none, none] [] (γ, ν) Q) : ∀ (j i : Nat) (ν : Nat → Nat → Int32), J α ν → ν 95 = d → i + j = cn d 4 → rf_Ok (rf_T Ln xs) MX12_wrong_ 60 40 [some (.ref 94), some (.int (nI e)), some (.int part), some (.int (s_all d)), some (.long (lN (sumN (fun g => fP d g * e) i))), none, some (.int (nI i))] [] (γ, ν) (Q) := by
  intro j
  induction j with
  | zero =>
    intro i ν hJ hd hj
    have hI : Iv d := by rw [← hd]; exact hJ.2
    have b0 := hI.le0
    have b2 := hI.le2
    have b3 := hI.le3
    have b4 := hI.le4
    have b5 := hI.le5
    have b8 := hI.le8
    have b9 := hI.le9
    have hj : i = cn d 4 := by omega
    refine ok_step (ps := [rf_in (nI 4) 700]) (L' := [some (.ref 94), some (.int (nI e)), some (.int part), some (.int (s_all d)), some (.long (lN (sumN (fun g => fP d g * e) i))), none, some (.int (nI i))]) (st' := [.int (ν 95 ((nI 4).toNatClampNeg)), .int (nI i)]) (σ' := (γ, ν)) (pc' := 48) kX12_wrong__40 rfl rfl (rf_a1 (rf_in_n (a := 4) rfl (by omega)) rf_a0) ?_
    try rw [(show (nI 4).toNatClampNeg = 4 from rf_cl_n rfl (by omega))]
    try rw [(show ν 95 4 = d 4 from congrFun hd _)]
    refine ok_icmp_ge bX12_wrong__48 (fun _ => ?_) (fun h48 => absurd (le_of hI.at4 (by omega) (by omega)) h48)
    subst hj
    refine ok_kill (x := 6) ?_
    exact k ν hJ hd
  | succ j ih =>
    intro i ν hJ hd hj
    have hI : Iv d := by rw [← hd]; exact hJ.2
    have b0 := hI.le0
    have b2 := hI.le2
    have b3 := hI.le3
    have b4 := hI.le4
    have b5 := hI.le5
    have b8 := hI.le8
    have b9 := hI.le9
    refine ok_step (ps := [rf_in (nI 4) 700]) (L' := [some (.ref 94), some (.int (nI e)), some (.int part), some (.int (s_all d)), some (.long (lN (sumN (fun g => fP d g * e) i))), none, some (.int (nI i))]) (st' := [.int (ν 95 ((nI 4).toNatClampNeg)), .int (nI i)]) (σ' := (γ, ν)) (pc' := 48) kX12_wrong__40 rfl rfl (rf_a1 (rf_in_n (a := 4) rfl (by omega)) rf_a0) ?_
    try rw [(show (nI 4).toNatClampNeg = 4 from rf_cl_n rfl (by omega))]
    try rw [(show ν 95 4 = d 4 from congrFun hd _)]
    refine ok_icmp_ge bX12_wrong__48 (fun h48 => absurd h48 (nle_of hI.at4 (by omega) (by omega))) (fun _ => ?_)
    refine ok_step (ps := []) (L' := [some (.ref 94), some (.int (nI e)), some (.int part), some (.int (s_all d)), some (.long (lN (sumN (fun g => fP d g * e) i))), none, some (.int (nI i))]) (st' := [.int (nI i), .ref 94, .long (lN (sumN (fun g => fP d g * e) i))]) (σ' := (γ, ν)) (pc' := 56) kX12_wrong__51 rfl rfl rf_a0 ?_
    refine ok_Vx (As := [.int (nI i)]) (b := 94) (st := [.long (lN (sumN (fun g => fP d g * e) i))]) mkX12_pays qX12_wrong__56 rfl (rc_94) rfl rfl rfl rfl (Nat.le_of_ble_eq_true rfl) (m_pays hJ hd (by omega)) (fun r1 σ1 hq => ?_)
    obtain ⟨rfl, ν, rfl, hJ, hd, -⟩ := hq
    refine ok_if_eq bX12_wrong__59 (fun h59 => ?_) (fun h59 => ?_)
    · refine ok_step (ps := []) (L' := [some (.ref 94), some (.int (nI e)), some (.int part), some (.int (s_all d)), some (.long (lN (sumN (fun g => fP d g * e) i))), none, some (.int (nI i))]) (st' := [.long (lN 0), .long (lN (sumN (fun g => fP d g * e) i))]) (σ' := (γ, ν)) (pc' := 90) kX12_wrong__89 rfl rfl rf_a0 ?_
      refine ok_step (ps := []) (L' := [some (.ref 94), some (.int (nI e)), some (.int part), some (.int (s_all d)), some (.long ((lN (sumN (fun g => fP d g * e) i)) + (lN 0))), none, some (.int ((nI i) + (nI 1)))]) (st' := []) (σ' := (γ, ν)) (pc' := 96) kX12_wrong__90 rfl rfl rf_a0 ?_
      try rw [(show ((nI i) + (nI 1)) = nI (i + 1) from nI_add _ _)]
      refine ok_goto bX12_wrong__96 ?_
      rw [show ((lN (sumN (fun g => fP d g * e) i)) + (lN 0) : Int64) = lN (sumN (fun g => fP d g * e) (i + 1)) from wr_3 (bI_0.mp h59)]
      exact ih (i + 1) ν hJ hd (by omega)
    · refine ok_step (ps := []) (L' := [some (.ref 94), some (.int (nI e)), some (.int part), some (.int (s_all d)), some (.long (lN (sumN (fun g => fP d g * e) i))), none, some (.int (nI i))]) (st' := [.int (nI 4), .int (nI i), .ref 94, .long (lN (sumN (fun g => fP d g * e) i))]) (σ' := (γ, ν)) (pc' := 66) kX12_wrong__62 rfl rfl rf_a0 ?_
      refine ok_V (As := [.int (nI i), .int (nI 4)]) (b := 94) (st := [.long (lN (sumN (fun g => fP d g * e) i))]) mkX12_gr qX12_wrong__66 rfl (rc_94) rfl rfl rfl rfl (Nat.le_of_ble_eq_true rfl) (m_gr_d (j := (194 + 8 * i)) hd (by omega) (by omega) (by omega)) ?_
      refine ok_step (ps := []) (L' := [some (.ref 94), some (.int (nI e)), some (.int part), some (.int (s_all d)), some (.long (lN (sumN (fun g => fP d g * e) i))), none, some (.int (nI i))]) (st' := [.int (nI 1), .int (nI i), .ref 94, .ref 94, .long ((d (194 + 8 * i)).toInt64), .long (lN (sumN (fun g => fP d g * e) i))]) (σ' := (γ, ν)) (pc' := 75) kX12_wrong__69 rfl rfl rf_a0 ?_
      refine ok_V (As := [.int (nI i), .int (nI 1)]) (b := 94) (st := [.ref 94, .long ((d (194 + 8 * i)).toInt64), .long (lN (sumN (fun g => fP d g * e) i))]) mkX12_gr qX12_wrong__75 rfl (rc_94) rfl rfl rfl rfl (Nat.le_of_ble_eq_true rfl) (m_gr_d (j := (191 + 8 * i)) hd (by omega) (by omega) (by omega)) ?_
      refine ok_V (As := [.int (d (191 + 8 * i))]) (b := 94) (st := [.long ((d (194 + 8 * i)).toInt64), .long (lN (sumN (fun g => fP d g * e) i))]) mkX12_lotsWith qX12_wrong__78 rfl (rc_94) rfl rfl rfl rfl (Nat.le_of_ble_eq_true rfl) (m_with_d hI hd) ?_
      refine ok_step (ps := []) (L' := [some (.ref 94), some (.int (nI e)), some (.int part), some (.int (s_all d)), some (.long (lN (sumN (fun g => fP d g * e) i))), none, some (.int (nI i))]) (st' := [.long ((((d (194 + 8 * i)).toInt64) * ((s_with d (d (191 + 8 * i))).toInt64)) * ((nI e).toInt64)), .long (lN (sumN (fun g => fP d g * e) i))]) (σ' := (γ, ν)) (pc' := 86) kX12_wrong__81 rfl rfl rf_a0 ?_
      refine ok_goto bX12_wrong__86 ?_
      refine ok_step (ps := []) (L' := [some (.ref 94), some (.int (nI e)), some (.int part), some (.int (s_all d)), some (.long ((lN (sumN (fun g => fP d g * e) i)) + ((((d (194 + 8 * i)).toInt64) * ((s_with d (d (191 + 8 * i))).toInt64)) * ((nI e).toInt64)))), none, some (.int ((nI i) + (nI 1)))]) (st' := []) (σ' := (γ, ν)) (pc' := 96) kX12_wrong__90 rfl rfl rf_a0 ?_
      try rw [(show ((nI i) + (nI 1)) = nI (i + 1) from nI_add _ _)]
      refine ok_goto bX12_wrong__96 ?_
      rw [show ((lN (sumN (fun g => fP d g * e) i)) + ((((d (194 + 8 * i)).toInt64) * ((s_with d (d (191 + 8 * i))).toInt64)) * ((nI e).toInt64)) : Int64) = lN (sumN (fun g => fP d g * e) (i + 1)) from wr_2 hI (by omega) he (bI_n0.mp h59)]
      exact ih (i + 1) ν hJ hd (by omega)
theorem op_wrong {e0 : Int32} {part : Int32} (hJ : J α μ)  : Op (rf_T Ln xs) MX11_wrong MX12_wrong_ [some (.ref 0), some (.int e0), some (.int part)] [some (.ref 94), some (.int e0), some (.int part), none, none, none, none] α μ := by
  have hR := hJ.1.1.1
  have hI := hJ.2
  have b0 := hI.le0
  have b1 := hI.le1
  have b2 := hI.le2
  have b3 := hI.le3
  have b4 := hI.le4
  have b5 := hI.le5
  have b6 := hI.le6
  have b8 := hI.le8
  have b9 := hI.le9
  have b11 := hI.le11
  have b12 := hI.le12
  have hA := nA_le hI
  have hB := nB_le hI
  have hB1 := nB_pos (d := μ 95)
  have hS := sP_le hI (cn (μ 95) 4) (by omega)
  refine ok_step (ps := []) (L' := [some (.ref 0), some (.int e0), some (.int part)]) (st' := [.int (nI 1000), .int (nI 0), .int e0]) (σ' := (α, μ)) (pc' := 5) kX11_wrong_0 rfl rfl rf_a0 ?_
  refine ok_S (As := [.int e0, .int (nI 0), .int (nI 1000)]) (st := []) mkX11_within qX11_wrong_5 rfl rfl rfl rfl rfl (Nat.le_of_ble_eq_true rfl) (c_within) ?_
  refine ok_if_eq bX11_wrong_8 (fun h8 => ?_) (fun h8 => ?_)
  · refine ok_step (ps := []) (L' := [some (.ref 0), some (.int e0), some (.int part)]) (st' := [.int (-1000000001), .ref 0]) (σ' := (α, μ)) (pc' := 23) kX11_wrong_20 rfl rfl rf_a0 ?_
    refine ok_V (As := [.int (-1000000001)]) (b := 0) (st := []) mkX11_error qX11_wrong_23 rfl (rc_0) rfl rfl rfl rfl (Nat.le_of_ble_eq_true rfl) (c_error (k := 1) (by decide) (by decide) (by decide)) ?_
    refine ok_step (ps := []) (L' := [some (.ref 0), some (.int e0), some (.int part)]) (st' := [.long (((-1000000000) - nI 1).toInt64)]) (σ' := (rf_w α 93 1 (α 93 1 + nI 1), μ)) (pc' := 27) kX11_wrong_26 rfl rfl rf_a0 ?_
    refine ok_retl eX11_wrong_27 rfl ?_
    refine ⟨rfl, _, rfl, ?_⟩
    refine ok_step (ps := []) (L' := [some (.ref 94), some (.int e0), some (.int part), none, none, none, none]) (st' := [.long (lN 1000), .long (lN 0), .long e0.toInt64]) (σ' := (rf_w α 93 1 (α 93 1 + nI 1), μ)) (pc' := 6) kX12_wrong__0 rfl rfl rf_a0 ?_
    refine ok_S (As := [.long e0.toInt64, .long (lN 0), .long (lN 1000)]) (st := []) mkX12_in qX12_wrong__6 rfl rfl rfl rfl rfl (Nat.le_of_ble_eq_true rfl) (m_in) ?_
    rw [show wl e0.toInt64 (lN 0) (lN 1000) = wi e0 (nI 0) (nI 1000) from wl_of rfl (nI_l (by decide)).symm (nI_l (by decide)).symm]
    refine ok_if_eq bX12_wrong__9 (fun _ => ?_) (fun g9 => absurd (h8) g9)
    refine ok_step (ps := []) (L' := [some (.ref 94), some (.int e0), some (.int part), none, none, none, none]) (st' := [.int (nI 1), .ref 94]) (σ' := (rf_w α 93 1 (α 93 1 + nI 1), μ)) (pc' := 24) kX12_wrong__22 rfl rfl rf_a0 ?_
    refine ok_V (As := [.int (nI 1)]) (b := 94) (st := []) mkX12_finds qX12_wrong__24 rfl (rc_94) rfl rfl rfl rfl (Nat.le_of_ble_eq_true rfl) (m_finds (k := 1) (by decide)) ?_
    refine ok_step (ps := []) (L' := [some (.ref 94), some (.int e0), some (.int part), none, none, none, none]) (st' := [.long (((-1000000000) - nI 1).toInt64)]) (σ' := (rf_w α 93 1 (α 93 1 + nI 1), rf_w μ 97 1 (μ 97 1 + nI 1))) (pc' := 28) kX12_wrong__27 rfl rfl rf_a0 ?_
    refine ok_retl eX12_wrong__28 rfl ?_
    exact ⟨rfl, _, rfl, hJ.err (k := 1) (by decide)⟩
  · obtain ⟨e, he1, he2, rfl⟩ := wi_of (bI_n0.mp h8) (by decide) (by decide)
    refine ok_step (ps := []) (L' := [some (.ref 0), some (.int (nI e)), some (.int part)]) (st' := [.int (nI 1), .int (nI 0), .int part]) (σ' := (α, μ)) (pc' := 14) kX11_wrong_11 rfl rfl rf_a0 ?_
    refine ok_S (As := [.int part, .int (nI 0), .int (nI 1)]) (st := []) mkX11_within qX11_wrong_14 rfl rfl rfl rfl rfl (Nat.le_of_ble_eq_true rfl) (c_within) ?_
    refine ok_if_ne bX11_wrong_17 (fun h17 => ?_) (fun h17 => ?_)
    · obtain ⟨k, hk1, hk2, rfl⟩ := wi_of (bI_n0.mp h17) (by decide) (by decide)
      refine ok_step (ps := []) (L' := [some (.ref 0), some (.int (nI e)), some (.int (nI k))]) (st' := [.ref 1, .long ((nI e).toInt64)]) (σ' := (α, μ)) (pc' := 34) kX11_wrong_28 rfl rfl rf_a0 ?_
      refine ok_Vx (As := []) (b := 1) (st := [.long ((nI e).toInt64)]) mkX10_payersLookedAt qX11_wrong_34 rfl (rc_1) rfl rfl rfl rfl (Nat.le_of_ble_eq_true rfl) (c_wr hJ) (fun r1 σ1 hq => ?_)
      obtain ⟨rfl, α, rfl, hJ⟩ := hq
      have hR := hJ.1.1.1
      refine ok_step (ps := []) (L' := [some (.ref 0), some (.int (nI e)), some (.int (nI k))]) (st' := [.ref 19, .long (lN 1000), .long (((nI e).toInt64) * ((nI (sumN (fP (μ 95)) (cn (μ 95) 4))).toInt64))]) (σ' := (α, μ)) (pc' := 49) kX11_wrong_37 rfl rfl rf_a0 ?_
      refine ok_V (As := []) (b := 19) (st := [.long (lN 1000), .long (((nI e).toInt64) * ((nI (sumN (fP (μ 95)) (cn (μ 95) 4))).toInt64))]) mkX7_below qX11_wrong_49 rfl (rc_19) rfl rfl rfl rfl (Nat.le_of_ble_eq_true rfl) (c_below hR hI) ?_
      refine ok_step (ps := []) (L' := [some (.ref 0), some (.int (nI e)), some (.int (nI k))]) (st' := [.int (nI k), .long ((lN 1000) * ((rf_max (s_all (μ 95)) (nI 1)).toInt64)), .long (((nI e).toInt64) * ((nI (sumN (fP (μ 95)) (cn (μ 95) 4))).toInt64))]) (σ' := (α, μ)) (pc' := 55) kX11_wrong_52 rfl rfl rf_a0 ?_
      rw [show (((nI e).toInt64) * ((nI (sumN (fP (μ 95)) (cn (μ 95) 4))).toInt64) : Int64) = lN (e * (sumN (fP (μ 95)) (cn (μ 95) 4))) from by rw [nI_l (by omega), nI_l (by omega), lN_mul], show ((lN 1000) * ((rf_max (s_all (μ 95)) (nI 1)).toInt64) : Int64) = lN (1000 * nB (μ 95)) from by rw [below_n hI, nI_l (by omega)]; exact lN_mul 1000 _]
      have hM : e * (sumN (fP (μ 95)) (cn (μ 95) 4)) ≤ 1000 * (16 * (999 * 72)) := Nat.mul_le_mul he2 hS
      refine ok_S (As := [.long (lN (e * (sumN (fP (μ 95)) (cn (μ 95) 4)))), .long (lN (1000 * nB (μ 95))), .int (nI k)]) (st := []) mkX11_lowest qX11_wrong_55 rfl rfl rfl rfl rfl (Nat.le_of_ble_eq_true rfl) (c_low (a0 := (e * (sumN (fP (μ 95)) (cn (μ 95) 4)))) (b0 := (1000 * nB (μ 95))) (by omega) (by omega) (by omega) (by omega)) ?_
      refine ok_retl eX11_wrong_58 rfl ?_
      refine ⟨rfl, _, rfl, ?_⟩
      refine ok_step (ps := []) (L' := [some (.ref 94), some (.int (nI e)), some (.int (nI k)), none, none, none, none]) (st' := [.long (lN 1000), .long (lN 0), .long ((nI e).toInt64)]) (σ' := (α, μ)) (pc' := 6) kX12_wrong__0 rfl rfl rf_a0 ?_
      refine ok_S (As := [.long ((nI e).toInt64), .long (lN 0), .long (lN 1000)]) (st := []) mkX12_in qX12_wrong__6 rfl rfl rfl rfl rfl (Nat.le_of_ble_eq_true rfl) (m_in) ?_
      rw [show wl ((nI e).toInt64) (lN 0) (lN 1000) = wi (nI e) (nI 0) (nI 1000) from wl_of rfl (nI_l (by decide)).symm (nI_l (by decide)).symm]
      refine ok_if_eq bX12_wrong__9 (fun g9 => absurd g9 (h8)) (fun _ => ?_)
      refine ok_step (ps := []) (L' := [some (.ref 94), some (.int (nI e)), some (.int (nI k)), none, none, none, none]) (st' := [.long (lN 1), .long (lN 0), .long ((nI k).toInt64)]) (σ' := (α, μ)) (pc' := 16) kX12_wrong__12 rfl rfl rf_a0 ?_
      refine ok_S (As := [.long ((nI k).toInt64), .long (lN 0), .long (lN 1)]) (st := []) mkX12_in qX12_wrong__16 rfl rfl rfl rfl rfl (Nat.le_of_ble_eq_true rfl) (m_in) ?_
      rw [show wl ((nI k).toInt64) (lN 0) (lN 1) = wi (nI k) (nI 0) (nI 1) from wl_of rfl (nI_l (by decide)).symm (nI_l (by decide)).symm]
      refine ok_if_ne bX12_wrong__19 (fun _ => ?_) (fun g19 => absurd g19 (h17))
      refine ok_step (ps := []) (L' := [some (.ref 94), some (.int (nI e)), some (.int (nI k)), none, none, none, none]) (st' := [.ref 94]) (σ' := (α, μ)) (pc' := 30) kX12_wrong__29 rfl rfl rf_a0 ?_
      refine ok_V (As := []) (b := 94) (st := []) mkX12_allLots qX12_wrong__30 rfl (rc_94) rfl rfl rfl rfl (Nat.le_of_ble_eq_true rfl) (m_all hI) ?_
      refine ok_step (ps := []) (L' := [some (.ref 94), some (.int (nI e)), some (.int (nI k)), some (.int (s_all (μ 95))), some (.long (lN 0)), none, some (.int (nI 0))]) (st' := []) (σ' := (α, μ)) (pc' := 40) kX12_wrong__33 rfl rfl rf_a0 ?_
      refine m_wr_l (d := μ 95) he2 (fun ν hJ2 hd => ?_) (cn (μ 95) 4) 0 μ hJ rfl (by omega)
      refine ok_step (ps := []) (L' := [some (.ref 94), some (.int (nI e)), some (.int (nI k)), some (.int (s_all (μ 95))), some (.long (lN (sumN (fun g => fP (μ 95) g * e) (cn (μ 95) 4)))), none, none]) (st' := [.int (s_all (μ 95))]) (σ' := (α, ν)) (pc' := 100) kX12_wrong__99 rfl rfl rf_a0 ?_
      refine ok_if_ne bX12_wrong__100 (fun g100 => ?_) (fun g100 => ?_)
      · have g0 : nA (μ 95) ≠ 0 := fun e => g100 ((all_0 hI).mpr e)
        refine ok_step (ps := []) (L' := [some (.ref 94), some (.int (nI e)), some (.int (nI k)), some (.int (s_all (μ 95))), some (.long (lN (sumN (fun g => fP (μ 95) g * e) (cn (μ 95) 4)))), none, none]) (st' := [.int (nI k), .long ((lN 1000) * ((s_all (μ 95)).toInt64)), .long (lN (sumN (fun g => fP (μ 95) g * e) (cn (μ 95) 4)))]) (σ' := (α, ν)) (pc' := 117) kX12_wrong__108 rfl rfl rf_a0 ?_
        rw [sP_mul, Nat.mul_comm (sumN (fP (μ 95)) (cn (μ 95) 4)) e, show ((lN 1000) * ((s_all (μ 95)).toInt64) : Int64) = lN (1000 * nA (μ 95)) from by rw [all_n hI, nI_l (by omega)]; exact lN_mul 1000 _]
        refine ok_S (As := [.long (lN (e * (sumN (fP (μ 95)) (cn (μ 95) 4)))), .long (lN (1000 * nA (μ 95))), .int (nI k)]) (st := []) mkX12_part qX12_wrong__117 rfl rfl rfl rfl rfl (Nat.le_of_ble_eq_true rfl) (m_part (a0 := (e * (sumN (fP (μ 95)) (cn (μ 95) 4)))) (b0 := (1000 * nA (μ 95))) (by omega) (by omega) (by omega)) ?_
        refine ok_retl eX12_wrong__120 rfl ?_
        refine ⟨?_, _, rfl, hJ2⟩
        rw [show nB (μ 95) = nA (μ 95) from if_neg (fun e => g100 ((all_0 hI).mpr e))]
      · refine ok_step (ps := []) (L' := [some (.ref 94), some (.int (nI e)), some (.int (nI k)), some (.int (s_all (μ 95))), some (.long (lN (sumN (fun g => fP (μ 95) g * e) (cn (μ 95) 4)))), none, none]) (st' := [.long ((nI k).toInt64)]) (σ' := (α, ν)) (pc' := 105) kX12_wrong__103 rfl rfl rf_a0 ?_
        refine ok_goto bX12_wrong__105 ?_
        refine ok_retl eX12_wrong__120 rfl ?_
        have g0 := (all_0 hI).mp g100
        refine ⟨?_, _, rfl, hJ2⟩
        rw [sP_0 g0, show nB (μ 95) = 1 from if_pos g0, Nat.mul_zero, Nat.gcd_zero_left, nI_l (by omega)]
        rcases (show k = 0 ∨ k = 1 by omega) with rfl | rfl <;> rfl
    · refine ok_step (ps := []) (L' := [some (.ref 0), some (.int (nI e)), some (.int part)]) (st' := [.int (-1000000001), .ref 0]) (σ' := (α, μ)) (pc' := 23) kX11_wrong_20 rfl rfl rf_a0 ?_
      refine ok_V (As := [.int (-1000000001)]) (b := 0) (st := []) mkX11_error qX11_wrong_23 rfl (rc_0) rfl rfl rfl rfl (Nat.le_of_ble_eq_true rfl) (c_error (k := 1) (by decide) (by decide) (by decide)) ?_
      refine ok_step (ps := []) (L' := [some (.ref 0), some (.int (nI e)), some (.int part)]) (st' := [.long (((-1000000000) - nI 1).toInt64)]) (σ' := (rf_w α 93 1 (α 93 1 + nI 1), μ)) (pc' := 27) kX11_wrong_26 rfl rfl rf_a0 ?_
      refine ok_retl eX11_wrong_27 rfl ?_
      refine ⟨rfl, _, rfl, ?_⟩
      refine ok_step (ps := []) (L' := [some (.ref 94), some (.int (nI e)), some (.int part), none, none, none, none]) (st' := [.long (lN 1000), .long (lN 0), .long ((nI e).toInt64)]) (σ' := (rf_w α 93 1 (α 93 1 + nI 1), μ)) (pc' := 6) kX12_wrong__0 rfl rfl rf_a0 ?_
      refine ok_S (As := [.long ((nI e).toInt64), .long (lN 0), .long (lN 1000)]) (st := []) mkX12_in qX12_wrong__6 rfl rfl rfl rfl rfl (Nat.le_of_ble_eq_true rfl) (m_in) ?_
      rw [show wl ((nI e).toInt64) (lN 0) (lN 1000) = wi (nI e) (nI 0) (nI 1000) from wl_of rfl (nI_l (by decide)).symm (nI_l (by decide)).symm]
      refine ok_if_eq bX12_wrong__9 (fun g9 => absurd g9 (h8)) (fun _ => ?_)
      refine ok_step (ps := []) (L' := [some (.ref 94), some (.int (nI e)), some (.int part), none, none, none, none]) (st' := [.long (lN 1), .long (lN 0), .long part.toInt64]) (σ' := (rf_w α 93 1 (α 93 1 + nI 1), μ)) (pc' := 16) kX12_wrong__12 rfl rfl rf_a0 ?_
      refine ok_S (As := [.long part.toInt64, .long (lN 0), .long (lN 1)]) (st := []) mkX12_in qX12_wrong__16 rfl rfl rfl rfl rfl (Nat.le_of_ble_eq_true rfl) (m_in) ?_
      rw [show wl part.toInt64 (lN 0) (lN 1) = wi part (nI 0) (nI 1) from wl_of rfl (nI_l (by decide)).symm (nI_l (by decide)).symm]
      refine ok_if_ne bX12_wrong__19 (fun g19 => absurd (h17) g19) (fun _ => ?_)
      refine ok_step (ps := []) (L' := [some (.ref 94), some (.int (nI e)), some (.int part), none, none, none, none]) (st' := [.int (nI 1), .ref 94]) (σ' := (rf_w α 93 1 (α 93 1 + nI 1), μ)) (pc' := 24) kX12_wrong__22 rfl rfl rf_a0 ?_
      refine ok_V (As := [.int (nI 1)]) (b := 94) (st := []) mkX12_finds qX12_wrong__24 rfl (rc_94) rfl rfl rfl rfl (Nat.le_of_ble_eq_true rfl) (m_finds (k := 1) (by decide)) ?_
      refine ok_step (ps := []) (L' := [some (.ref 94), some (.int (nI e)), some (.int part), none, none, none, none]) (st' := [.long (((-1000000000) - nI 1).toInt64)]) (σ' := (rf_w α 93 1 (α 93 1 + nI 1), rf_w μ 97 1 (μ 97 1 + nI 1))) (pc' := 28) kX12_wrong__27 rfl rfl rf_a0 ?_
      refine ok_retl eX12_wrong__28 rfl ?_
      exact ⟨rfl, _, rfl, hJ.err (k := 1) (by decide)⟩
end H48
