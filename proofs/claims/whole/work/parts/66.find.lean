/-- the model's memory while it looks -/
def sE (μ ρ : Nat → Nat → Int32) : Prop := (∀ k, k ≠ 94 → k ≠ 95 → k ≠ 98 → k ≠ 100 → k ≠ 101 → ρ k = μ k) ∧ ∀ i, i < 4 ∨ (10 ≤ i ∧ i ≠ 15) → ρ 94 i = μ 94 i
theorem sE.rfl (μ : Nat → Nat → Int32) : sE μ μ := ⟨fun _ _ _ _ _ _ => Eq.refl _, fun _ _ => Eq.refl _⟩
theorem sE.sB {μ ν ρ : Nat → Nat → Int32} (h : sE μ ν) (g : sB ν ρ) : sE μ ρ := ⟨fun k h1 h2 h3 h4 h5 => (g.1 k h1 h3).trans (h.1 k h1 h2 h3 h4 h5), fun i hi => (g.2 i (by omega)).trans (h.2 i hi)⟩
theorem sE.w {μ ν : Nat → Nat → Int32} (h : sE μ ν) {k i : Nat} {v : Int32} (hk : k = 95 ∨ k = 100 ∨ k = 101 ∨ (k = 94 ∧ i = 15)) : sE μ (rf_w ν k i v) := ⟨fun k' h1 h2 h3 h4 h5 => by
    funext j
    rw [rf_w_at, if_neg (by omega), h.1 k' h1 h2 h3 h4 h5], fun j hj => by rw [rf_w_at, if_neg (by omega), h.2 j hj]⟩
def lq (α : Nat → Nat → Int32) (M : Nat) (q : Nat → Nat) : Nat → Nat → Int32 := fun k i => if k = 21 ∧ i < M then nI (q i) else α k i
theorem J.lots {α μ ρ : Nat → Nat → Int32} {d : Nat → Int32} {q : Nat → Nat} (h : J α μ) (h0 : μ 95 = d) (hm : sE μ ρ) (hd : ρ 95 = dq d (cn d 5) q) (hq : ∀ x, q x ≤ 9) : J (lq α (cn d 5) q) ρ := by
  subst h0
  have b5 := h.2.le5
  have hI := h.2
  obtain ⟨⟨⟨t0, t1, t2⟩, h2, h3, h4, ⟨v1, v2, v3⟩, h6⟩, -⟩ := h
  have a : ∀ k, k ≠ 21 → lq α (cn (μ 95) 5) q k = α k := fun k hk => by
    funext i
    unfold lq
    rw [if_neg (by omega)]
  have m : ∀ k, k ≠ 94 ∧ k ≠ 95 ∧ k ≠ 98 ∧ k ≠ 100 ∧ k ≠ 101 → ρ k = μ k := fun k hk => hm.1 k hk.1 hk.2.1 hk.2.2.1 hk.2.2.2.1 hk.2.2.2.2
  have ht : ∀ j, 520 ≤ j → j < 630 → ρ 95 j = μ 95 j := fun j h1 _ => by rw [hd, dq_o (by omega)]
  refine ⟨⟨⟨?_, ?_, ?_⟩, fun h0 => ?_, ?_, fun k hk => ?_, ⟨?_, ?_, fun i hi => ?_⟩, fun s hs => ?_⟩, by rw [hd]; exact dq_Iv hI hq⟩
  · rw [hd]
    intro c i j ho
    have e1 := t0 c i j ho
    have e2 := dec_off ho
    have e3 := off_bd ho
    by_cases e : c = 20
    · subst e
      have e4 : i < 8 ∧ j = 330 + i := by
        unfold off at ho
        simp only at ho
        split at ho
        · rename_i h8
          injection ho with ho
          exact ⟨h8, ho.symm⟩
        · cases ho
      obtain ⟨e4, rfl⟩ := e4
      unfold lq
      by_cases e5 : i < cn (μ 95) 5
      · rw [if_pos ⟨rfl, e5⟩, dq_i e5]
      · rw [if_neg (by omega), dq_o (by omega)]
        exact e1
    · rw [a (1 + c) (by omega), dq_o ?_]
      · exact e1
      · rintro ⟨f1, f2⟩
        have f3 : dec j = some (20, j - 330) := by
          have : j = 330 ∨ j = 331 ∨ j = 332 ∨ j = 333 ∨ j = 334 ∨ j = 335 ∨ j = 336 ∨ j = 337 := by omega
          rcases this with rfl | rfl | rfl | rfl | rfl | rfl | rfl | rfl <;> rfl
        rw [f3] at e2
        simp only [Option.some.injEq, Prod.mk.injEq] at e2
        omega
  · rw [a 29 (by omega), a 30 (by omega), ht 520 (by omega) (by omega)]
    exact t1.same (fun i hi => ht _ (by omega) (by omega)) (fun _ _ => Eq.refl _)
  · rw [a 32 (by omega), a 33 (by omega), ht 521 (by omega) (by omega)]
    exact t2.same (fun i hi => ht _ (by omega) (by omega)) (fun _ _ => Eq.refl _)
  · rw [hm.2 2 (by omega)] at h0
    obtain ⟨w1, w2, w3, w4⟩ := h2 h0
    rw [m 96 (by omega)]
    refine ⟨w1.same (fun c hc i => by rw [a _ (by omega)]) (fun _ _ => Eq.refl _), w2, ?_, ?_⟩
    · rw [a (38 + 28) (by omega), a (38 + 29) (by omega)]; exact w3
    · rw [a (38 + 31) (by omega), a (38 + 32) (by omega)]; exact w4
  · rw [a 0 (by omega), hm.2 2 (by omega)]; exact h3
  · rw [a 93 (by omega), m 97 (by omega)]; exact h4 k hk
  · rw [a 83 (by omega), hm.2 18 (by omega)]; exact v1
  · rw [hm.2 18 (by omega)]; exact v2
  · rw [a 84 (by omega), m 103 (by omega)]; exact v3 i hi
  · obtain ⟨s1, s2, s3, s4, s5⟩ := h6 s hs
    rw [a 86 (by omega), a 87 (by omega), m 104 (by omega), m 105 (by omega), m 106 (by omega), a (89 + s) (by omega)]
    exact ⟨s1, s2, s3, s4, s5⟩
section H66
variable {Ln : Nat} {xs : Nat → Int32} {α μ ν γ : Nat → Nat → Int32} {d : Nat → Int32} {n : Nat} {q : Nat → Nat}
theorem m_ubs_l {ν0 : Nat → Nat → Int32} {fine : Int32}  : ∀ (j i : Nat) (ν : Nat → Nat → Int32), J α ν → ν 95 = d → sB ν0 ν → i + j = cn d 4 → rf_Ok (rf_T Ln xs) MX12_unpaidBy 50 10 [some (.ref 94), some (.int fine), some (.int (sumI (f_unp d fine) i)), some (.int (s_all d)), some (.int (nI i))] [] (γ, ν) (fun r s => r = some (.int (sumI (f_unp d fine) (cn d 4))) ∧ ∃ ν' : Nat → Nat → Int32, s = (γ, ν') ∧ J α ν' ∧ ν' 95 = d ∧ sB ν0 ν') := by
  intro j
  induction j with
  | zero =>
    intro i ν hJ hd hs hj
    have hI : Iv d := by rw [← hd]; exact hJ.2
    have b0 := hI.le0
    have b2 := hI.le2
    have b3 := hI.le3
    have b4 := hI.le4
    have b5 := hI.le5
    have b8 := hI.le8
    have b9 := hI.le9
    have hj : i = cn d 4 := by omega
    refine ok_step (ps := [rf_in (nI 4) 700]) (L' := [some (.ref 94), some (.int fine), some (.int (sumI (f_unp d fine) i)), some (.int (s_all d)), some (.int (nI i))]) (st' := [.int (ν 95 ((nI 4).toNatClampNeg)), .int (nI i)]) (σ' := (γ, ν)) (pc' := 18) kX12_unpaidBy_10 rfl rfl (rf_a1 (rf_in_n (a := 4) rfl (by omega)) rf_a0) ?_
    try rw [(show (nI 4).toNatClampNeg = 4 from rf_cl_n rfl (by omega))]
    try rw [(show ν 95 4 = d 4 from congrFun hd _)]
    refine ok_icmp_ge bX12_unpaidBy_18 (fun _ => ?_) (fun h18 => absurd (le_of hI.at4 (by omega) (by omega)) h18)
    refine ok_step (ps := []) (L' := [some (.ref 94), some (.int fine), some (.int (sumI (f_unp d fine) i)), some (.int (s_all d)), some (.int (nI i))]) (st' := [.int (sumI (f_unp d fine) i)]) (σ' := (γ, ν)) (pc' := 64) kX12_unpaidBy_63 rfl rfl rf_a0 ?_
    refine ok_reti eX12_unpaidBy_64 rfl ?_
    exact ⟨by rw [hj], _, rfl, hJ, hd, hs⟩
  | succ j ih =>
    intro i ν hJ hd hs hj
    have hI : Iv d := by rw [← hd]; exact hJ.2
    have b0 := hI.le0
    have b2 := hI.le2
    have b3 := hI.le3
    have b4 := hI.le4
    have b5 := hI.le5
    have b8 := hI.le8
    have b9 := hI.le9
    refine ok_step (ps := [rf_in (nI 4) 700]) (L' := [some (.ref 94), some (.int fine), some (.int (sumI (f_unp d fine) i)), some (.int (s_all d)), some (.int (nI i))]) (st' := [.int (ν 95 ((nI 4).toNatClampNeg)), .int (nI i)]) (σ' := (γ, ν)) (pc' := 18) kX12_unpaidBy_10 rfl rfl (rf_a1 (rf_in_n (a := 4) rfl (by omega)) rf_a0) ?_
    try rw [(show (nI 4).toNatClampNeg = 4 from rf_cl_n rfl (by omega))]
    try rw [(show ν 95 4 = d 4 from congrFun hd _)]
    refine ok_icmp_ge bX12_unpaidBy_18 (fun h18 => absurd h18 (nle_of hI.at4 (by omega) (by omega))) (fun _ => ?_)
    refine ok_step (ps := []) (L' := [some (.ref 94), some (.int fine), some (.int (sumI (f_unp d fine) i)), some (.int (s_all d)), some (.int (nI i))]) (st' := [.int (nI 1), .int (nI i), .ref 94, .ref 94, .int (nI i), .ref 94, .int (sumI (f_unp d fine) i)]) (σ' := (γ, ν)) (pc' := 30) kX12_unpaidBy_21 rfl rfl rf_a0 ?_
    refine ok_V (As := [.int (nI i), .int (nI 1)]) (b := 94) (st := [.ref 94, .int (nI i), .ref 94, .int (sumI (f_unp d fine) i)]) mkX12_gr qX12_unpaidBy_30 rfl (rc_94) rfl rfl rfl rfl (Nat.le_of_ble_eq_true rfl) (m_gr_d (j := (191 + 8 * i)) hd (by omega) (by omega) (by omega)) ?_
    refine ok_V (As := [.int (d (191 + 8 * i))]) (b := 94) (st := [.int (nI i), .ref 94, .int (sumI (f_unp d fine) i)]) mkX12_lotsWith qX12_unpaidBy_33 rfl (rc_94) rfl rfl rfl rfl (Nat.le_of_ble_eq_true rfl) (m_with_d hI hd) ?_
    refine ok_step (ps := []) (L' := [some (.ref 94), some (.int fine), some (.int (sumI (f_unp d fine) i)), some (.int (s_all d)), some (.int (nI i))]) (st' := [.int fine, .int (s_all d), .int (s_with d (d (191 + 8 * i))), .int (nI i), .ref 94, .int (sumI (f_unp d fine) i)]) (σ' := (γ, ν)) (pc' := 38) kX12_unpaidBy_36 rfl rfl rf_a0 ?_
    refine ok_Vx (As := [.int (nI i), .int (s_with d (d (191 + 8 * i))), .int (s_all d), .int fine]) (b := 94) (st := [.int (sumI (f_unp d fine) i)]) mkX12_paysBy qX12_unpaidBy_38 rfl (rc_94) rfl rfl rfl rfl (Nat.le_of_ble_eq_true rfl) (m_payB hJ hd (by omega)) (fun r1 σ1 hq => ?_)
    obtain ⟨rfl, ν, rfl, hJ, hd, hs2⟩ := hq
    have hs := hs.tr hs2
    refine ok_if_eq bX12_unpaidBy_41 (fun h41 => ?_) (fun h41 => ?_)
    · refine ok_step (ps := []) (L' := [some (.ref 94), some (.int fine), some (.int (sumI (f_unp d fine) i)), some (.int (s_all d)), some (.int (nI i))]) (st' := [.int (nI 4), .int (nI i), .ref 94, .int (sumI (f_unp d fine) i)]) (σ' := (γ, ν)) (pc' := 52) kX12_unpaidBy_48 rfl rfl rf_a0 ?_
      refine ok_V (As := [.int (nI i), .int (nI 4)]) (b := 94) (st := [.int (sumI (f_unp d fine) i)]) mkX12_gr qX12_unpaidBy_52 rfl (rc_94) rfl rfl rfl rfl (Nat.le_of_ble_eq_true rfl) (m_gr_d (j := (194 + 8 * i)) hd (by omega) (by omega) (by omega)) ?_
      refine ok_step (ps := []) (L' := [some (.ref 94), some (.int fine), some (.int ((sumI (f_unp d fine) i) + (d (194 + 8 * i)))), some (.int (s_all d)), some (.int ((nI i) + (nI 1)))]) (st' := []) (σ' := (γ, ν)) (pc' := 60) kX12_unpaidBy_55 rfl rfl rf_a0 ?_
      try rw [(show ((nI i) + (nI 1)) = nI (i + 1) from nI_add _ _)]
      refine ok_goto bX12_unpaidBy_60 ?_
      rw [show (sumI (f_unp d fine) i) + (d (194 + 8 * i)) = sumI (f_unp d fine) (i + 1) from sI_1 (by simp [f_unp, nI_0, bI_0.mp h41])]
      exact ih (i + 1) ν hJ hd hs (by omega)
    · refine ok_step (ps := []) (L' := [some (.ref 94), some (.int fine), some (.int (sumI (f_unp d fine) i)), some (.int (s_all d)), some (.int (nI i))]) (st' := [.int (nI 0), .int (sumI (f_unp d fine) i)]) (σ' := (γ, ν)) (pc' := 45) kX12_unpaidBy_44 rfl rfl rf_a0 ?_
      refine ok_goto bX12_unpaidBy_45 ?_
      refine ok_step (ps := []) (L' := [some (.ref 94), some (.int fine), some (.int ((sumI (f_unp d fine) i) + (nI 0))), some (.int (s_all d)), some (.int ((nI i) + (nI 1)))]) (st' := []) (σ' := (γ, ν)) (pc' := 60) kX12_unpaidBy_55 rfl rfl rf_a0 ?_
      try rw [(show ((nI i) + (nI 1)) = nI (i + 1) from nI_add _ _)]
      refine ok_goto bX12_unpaidBy_60 ?_
      rw [show (sumI (f_unp d fine) i) + (nI 0) = sumI (f_unp d fine) (i + 1) from sI_1 (by simp [f_unp, nI_0, bI_n0.mp h41])]
      exact ih (i + 1) ν hJ hd hs (by omega)
theorem m_ubs {fine : Int32} (hJ : J α ν) (hd : ν 95 = d) : rf_Ok (rf_T Ln xs) MX12_unpaidBy 50 0 [some (.ref 94), some (.int fine), none, none, none] [] (γ, ν) (fun r s => r = some (.int (sumI (f_unp d fine) (cn d 4))) ∧ ∃ ν' : Nat → Nat → Int32, s = (γ, ν') ∧ J α ν' ∧ ν' 95 = d ∧ sB ν ν') := by
  have hI : Iv d := by rw [← hd]; exact hJ.2
  refine ok_step (ps := []) (L' := [some (.ref 94), some (.int fine), some (.int (nI 0)), none, none]) (st' := [.ref 94]) (σ' := (γ, ν)) (pc' := 3) kX12_unpaidBy_0 rfl rfl rf_a0 ?_
  refine ok_V (As := []) (b := 94) (st := []) mkX12_allLots qX12_unpaidBy_3 rfl (rc_94) rfl rfl rfl rfl (Nat.le_of_ble_eq_true rfl) (m_all_d hI hd) ?_
  refine ok_step (ps := []) (L' := [some (.ref 94), some (.int fine), some (.int (nI 0)), some (.int (s_all d)), some (.int (nI 0))]) (st' := []) (σ' := (γ, ν)) (pc' := 10) kX12_unpaidBy_6 rfl rfl rf_a0 ?_
  exact m_ubs_l (cn d 4) 0 ν hJ hd (sB.rfl ν) (by omega)
theorem m_coins_l {ν0 : Nat → Nat → Int32}   : ∀ (j i : Nat) (ν : Nat → Nat → Int32), J α ν → ν 95 = d → sB ν0 ν → i + j = cn d 4 → rf_Ok (rf_T Ln xs) MX12_coinUp 50 10 [some (.ref 94), some (.int (s_all d)), some (.long (lN (sumN (fC d) i))), none, some (.int (nI i)), none, none] [] (γ, ν) (fun r s => r = some (.long (lN (sumN (fC d) (cn d 4)))) ∧ ∃ ν' : Nat → Nat → Int32, s = (γ, ν') ∧ J α ν' ∧ ν' 95 = d ∧ sB ν0 ν') := by
  intro j
  induction j with
  | zero =>
    intro i ν hJ hd hs hj
    have hI : Iv d := by rw [← hd]; exact hJ.2
    have b0 := hI.le0
    have b2 := hI.le2
    have b3 := hI.le3
    have b4 := hI.le4
    have b5 := hI.le5
    have b8 := hI.le8
    have b9 := hI.le9
    have hj : i = cn d 4 := by omega
    refine ok_step (ps := [rf_in (nI 4) 700]) (L' := [some (.ref 94), some (.int (s_all d)), some (.long (lN (sumN (fC d) i))), none, some (.int (nI i)), none, none]) (st' := [.int (ν 95 ((nI 4).toNatClampNeg)), .int (nI i)]) (σ' := (γ, ν)) (pc' := 18) kX12_coinUp_10 rfl rfl (rf_a1 (rf_in_n (a := 4) rfl (by omega)) rf_a0) ?_
    try rw [(show (nI 4).toNatClampNeg = 4 from rf_cl_n rfl (by omega))]
    try rw [(show ν 95 4 = d 4 from congrFun hd _)]
    refine ok_icmp_ge bX12_coinUp_18 (fun _ => ?_) (fun h18 => absurd (le_of hI.at4 (by omega) (by omega)) h18)
    refine ok_step (ps := []) (L' := [some (.ref 94), some (.int (s_all d)), some (.long (lN (sumN (fC d) i))), none, some (.int (nI i)), none, none]) (st' := [.long (lN (sumN (fC d) i))]) (σ' := (γ, ν)) (pc' := 99) kX12_coinUp_98 rfl rfl rf_a0 ?_
    refine ok_retl eX12_coinUp_99 rfl ?_
    exact ⟨by rw [hj], _, rfl, hJ, hd, hs⟩
  | succ j ih =>
    intro i ν hJ hd hs hj
    have hI : Iv d := by rw [← hd]; exact hJ.2
    have b0 := hI.le0
    have b2 := hI.le2
    have b3 := hI.le3
    have b4 := hI.le4
    have b5 := hI.le5
    have b8 := hI.le8
    have b9 := hI.le9
    refine ok_step (ps := [rf_in (nI 4) 700]) (L' := [some (.ref 94), some (.int (s_all d)), some (.long (lN (sumN (fC d) i))), none, some (.int (nI i)), none, none]) (st' := [.int (ν 95 ((nI 4).toNatClampNeg)), .int (nI i)]) (σ' := (γ, ν)) (pc' := 18) kX12_coinUp_10 rfl rfl (rf_a1 (rf_in_n (a := 4) rfl (by omega)) rf_a0) ?_
    try rw [(show (nI 4).toNatClampNeg = 4 from rf_cl_n rfl (by omega))]
    try rw [(show ν 95 4 = d 4 from congrFun hd _)]
    refine ok_icmp_ge bX12_coinUp_18 (fun h18 => absurd h18 (nle_of hI.at4 (by omega) (by omega))) (fun _ => ?_)
    refine ok_step (ps := []) (L' := [some (.ref 94), some (.int (s_all d)), some (.long (lN (sumN (fC d) i))), none, some (.int (nI i)), none, none]) (st' := [.int (nI 4), .int (nI i), .ref 94]) (σ' := (γ, ν)) (pc' := 25) kX12_coinUp_21 rfl rfl rf_a0 ?_
    refine ok_V (As := [.int (nI i), .int (nI 4)]) (b := 94) (st := []) mkX12_gr qX12_coinUp_25 rfl (rc_94) rfl rfl rfl rfl (Nat.le_of_ble_eq_true rfl) (m_gr_d (j := (194 + 8 * i)) hd (by omega) (by omega) (by omega)) ?_
    refine ok_step (ps := []) (L' := [some (.ref 94), some (.int (s_all d)), some (.long (lN (sumN (fC d) i))), none, some (.int (nI i)), some (.long ((d (194 + 8 * i)).toInt64)), none]) (st' := [.int (nI i), .ref 94, .long (lN (sumN (fC d) i))]) (σ' := (γ, ν)) (pc' := 35) kX12_coinUp_28 rfl rfl rf_a0 ?_
    refine ok_Vx (As := [.int (nI i)]) (b := 94) (st := [.long (lN (sumN (fC d) i))]) mkX12_pays qX12_coinUp_35 rfl (rc_94) rfl rfl rfl rfl (Nat.le_of_ble_eq_true rfl) (m_pays hJ hd (by omega)) (fun r1 σ1 hq => ?_)
    obtain ⟨rfl, ν, rfl, hJ, hd, hs2⟩ := hq
    have hs := hs.tr hs2
    refine ok_if_eq bX12_coinUp_38 (fun h38 => ?_) (fun h38 => ?_)
    · refine ok_step (ps := [rf_in (nI 9) 700]) (L' := [some (.ref 94), some (.int (s_all d)), some (.long (lN (sumN (fC d) i))), none, some (.int (nI i)), some (.long ((d (194 + 8 * i)).toInt64)), none]) (st' := [.int (nI 1), .int (nI i), .ref 94, .ref 94, .long (((d (194 + 8 * i)).toInt64) * ((ν 95 ((nI 9).toNatClampNeg)).toInt64)), .long (lN (sumN (fC d) i))]) (σ' := (γ, ν)) (pc' := 82) kX12_coinUp_66 rfl rfl (rf_a1 (rf_in_n (a := 9) rfl (by omega)) rf_a0) ?_
      try rw [(show (nI 9).toNatClampNeg = 9 from rf_cl_n rfl (by omega))]
      try rw [(show ν 95 9 = d 9 from congrFun hd _)]
      refine ok_V (As := [.int (nI i), .int (nI 1)]) (b := 94) (st := [.ref 94, .long (((d (194 + 8 * i)).toInt64) * ((d 9).toInt64)), .long (lN (sumN (fC d) i))]) mkX12_gr qX12_coinUp_82 rfl (rc_94) rfl rfl rfl rfl (Nat.le_of_ble_eq_true rfl) (m_gr_d (j := (191 + 8 * i)) hd (by omega) (by omega) (by omega)) ?_
      refine ok_V (As := [.int (d (191 + 8 * i))]) (b := 94) (st := [.long (((d (194 + 8 * i)).toInt64) * ((d 9).toInt64)), .long (lN (sumN (fC d) i))]) mkX12_lotsWith qX12_coinUp_85 rfl (rc_94) rfl rfl rfl rfl (Nat.le_of_ble_eq_true rfl) (m_with_d hI hd) ?_
      refine ok_step (ps := []) (L' := [some (.ref 94), some (.int (s_all d)), some (.long (lN (sumN (fC d) i))), none, some (.int (nI i)), some (.long ((d (194 + 8 * i)).toInt64)), none]) (st' := [.long ((((d (194 + 8 * i)).toInt64) * ((d 9).toInt64)) * ((s_with d (d (191 + 8 * i))).toInt64)), .long (lN (sumN (fC d) i))]) (σ' := (γ, ν)) (pc' := 90) kX12_coinUp_88 rfl rfl rf_a0 ?_
      refine ok_step (ps := []) (L' := [some (.ref 94), some (.int (s_all d)), some (.long ((lN (sumN (fC d) i)) + ((((d (194 + 8 * i)).toInt64) * ((d 9).toInt64)) * ((s_with d (d (191 + 8 * i))).toInt64)))), none, some (.int ((nI i) + (nI 1))), some (.long ((d (194 + 8 * i)).toInt64)), none]) (st' := []) (σ' := (γ, ν)) (pc' := 95) kX12_coinUp_90 rfl rfl rf_a0 ?_
      try rw [(show ((nI i) + (nI 1)) = nI (i + 1) from nI_add _ _)]
      refine ok_goto bX12_coinUp_95 ?_
      rw [show ((lN (sumN (fC d) i)) + ((((d (194 + 8 * i)).toInt64) * ((d 9).toInt64)) * ((s_with d (d (191 + 8 * i))).toInt64)) : Int64) = lN (sumN (fC (d)) (i + 1)) from cq_4 hI (by omega) (bI_0.mp h38)]
      refine ok_kill (x := 5) ?_
      exact ih (i + 1) ν hJ hd hs (by omega)
    · refine ok_step (ps := [rf_in (nI 8) 700]) (L' := [some (.ref 94), some (.int (s_all d)), some (.long (lN (sumN (fC d) i))), none, some (.int (nI i)), some (.long ((d (194 + 8 * i)).toInt64)), none]) (st' := [.int (s_all d), .long (((d (194 + 8 * i)).toInt64) * ((ν 95 ((nI 8).toNatClampNeg)).toInt64)), .long (lN (sumN (fC d) i))]) (σ' := (γ, ν)) (pc' := 53) kX12_coinUp_41 rfl rfl (rf_a1 (rf_in_n (a := 8) rfl (by omega)) rf_a0) ?_
      try rw [(show (nI 8).toNatClampNeg = 8 from rf_cl_n rfl (by omega))]
      try rw [(show ν 95 8 = d 8 from congrFun hd _)]
      refine ok_if_ne bX12_coinUp_53 (fun h53 => ?_) (fun h53 => ?_)
      · refine ok_step (ps := []) (L' := [some (.ref 94), some (.int (s_all d)), some (.long (lN (sumN (fC d) i))), none, some (.int (nI i)), some (.long ((d (194 + 8 * i)).toInt64)), none]) (st' := [.int (s_all d), .long (((d (194 + 8 * i)).toInt64) * ((d 8).toInt64)), .long (lN (sumN (fC d) i))]) (σ' := (γ, ν)) (pc' := 61) kX12_coinUp_60 rfl rfl rf_a0 ?_
        refine ok_step (ps := []) (L' := [some (.ref 94), some (.int (s_all d)), some (.long (lN (sumN (fC d) i))), none, some (.int (nI i)), some (.long ((d (194 + 8 * i)).toInt64)), none]) (st' := [.long ((((d (194 + 8 * i)).toInt64) * ((d 8).toInt64)) * ((s_all d).toInt64)), .long (lN (sumN (fC d) i))]) (σ' := (γ, ν)) (pc' := 63) kX12_coinUp_61 rfl rfl rf_a0 ?_
        refine ok_goto bX12_coinUp_63 ?_
        refine ok_step (ps := []) (L' := [some (.ref 94), some (.int (s_all d)), some (.long ((lN (sumN (fC d) i)) + ((((d (194 + 8 * i)).toInt64) * ((d 8).toInt64)) * ((s_all d).toInt64)))), none, some (.int ((nI i) + (nI 1))), some (.long ((d (194 + 8 * i)).toInt64)), none]) (st' := []) (σ' := (γ, ν)) (pc' := 95) kX12_coinUp_90 rfl rfl rf_a0 ?_
        try rw [(show ((nI i) + (nI 1)) = nI (i + 1) from nI_add _ _)]
        refine ok_goto bX12_coinUp_95 ?_
        rw [show ((lN (sumN (fC d) i)) + ((((d (194 + 8 * i)).toInt64) * ((d 8).toInt64)) * ((s_all d).toInt64)) : Int64) = lN (sumN (fC (d)) (i + 1)) from cq_3 hI (by omega) (bI_n0.mp h38) (bl_1 hI h53)]
        refine ok_kill (x := 5) ?_
        exact ih (i + 1) ν hJ hd hs (by omega)
      · refine ok_step (ps := []) (L' := [some (.ref 94), some (.int (s_all d)), some (.long (lN (sumN (fC d) i))), none, some (.int (nI i)), some (.long ((d (194 + 8 * i)).toInt64)), none]) (st' := [.int (nI 1), .long (((d (194 + 8 * i)).toInt64) * ((d 8).toInt64)), .long (lN (sumN (fC d) i))]) (σ' := (γ, ν)) (pc' := 57) kX12_coinUp_56 rfl rfl rf_a0 ?_
        refine ok_goto bX12_coinUp_57 ?_
        refine ok_step (ps := []) (L' := [some (.ref 94), some (.int (s_all d)), some (.long (lN (sumN (fC d) i))), none, some (.int (nI i)), some (.long ((d (194 + 8 * i)).toInt64)), none]) (st' := [.long ((((d (194 + 8 * i)).toInt64) * ((d 8).toInt64)) * ((nI 1).toInt64)), .long (lN (sumN (fC d) i))]) (σ' := (γ, ν)) (pc' := 63) kX12_coinUp_61 rfl rfl rf_a0 ?_
        refine ok_goto bX12_coinUp_63 ?_
        refine ok_step (ps := []) (L' := [some (.ref 94), some (.int (s_all d)), some (.long ((lN (sumN (fC d) i)) + ((((d (194 + 8 * i)).toInt64) * ((d 8).toInt64)) * ((nI 1).toInt64)))), none, some (.int ((nI i) + (nI 1))), some (.long ((d (194 + 8 * i)).toInt64)), none]) (st' := []) (σ' := (γ, ν)) (pc' := 95) kX12_coinUp_90 rfl rfl rf_a0 ?_
        try rw [(show ((nI i) + (nI 1)) = nI (i + 1) from nI_add _ _)]
        refine ok_goto bX12_coinUp_95 ?_
        rw [show ((lN (sumN (fC d) i)) + ((((d (194 + 8 * i)).toInt64) * ((d 8).toInt64)) * ((nI 1).toInt64)) : Int64) = lN (sumN (fC (d)) (i + 1)) from cq_3 hI (by omega) (bI_n0.mp h38) (bl_0 hI h53)]
        refine ok_kill (x := 5) ?_
        exact ih (i + 1) ν hJ hd hs (by omega)
theorem m_coins (hJ : J α ν) (hd : ν 95 = d) : rf_Ok (rf_T Ln xs) MX12_coinUp 50 0 [some (.ref 94), none, none, none, none, none, none] [] (γ, ν) (fun r s => r = some (.long (lN (sumN (fC d) (cn d 4)))) ∧ ∃ ν' : Nat → Nat → Int32, s = (γ, ν') ∧ J α ν' ∧ ν' 95 = d ∧ sB ν ν') := by
  have hI : Iv d := by rw [← hd]; exact hJ.2
  refine ok_step (ps := []) (L' := [some (.ref 94), none, none, none, none, none, none]) (st' := [.ref 94]) (σ' := (γ, ν)) (pc' := 1) kX12_coinUp_0 rfl rfl rf_a0 ?_
  refine ok_V (As := []) (b := 94) (st := []) mkX12_allLots qX12_coinUp_1 rfl (rc_94) rfl rfl rfl rfl (Nat.le_of_ble_eq_true rfl) (m_all_d hI hd) ?_
  refine ok_step (ps := []) (L' := [some (.ref 94), some (.int (s_all d)), some (.long (lN 0)), none, some (.int (nI 0)), none, none]) (st' := []) (σ' := (γ, ν)) (pc' := 10) kX12_coinUp_4 rfl rfl rf_a0 ?_
  exact m_coins_l (cn d 4) 0 ν hJ hd (sB.rfl ν) (by omega)
theorem m_nx_l {p : Nat} {Q : Option Value → rf_Mem → Prop} (hd : ν 95 = dq d (cn d 5) q) (b5 : cn d 5 ≤ 8) (k : rf_Ok (rf_T Ln xs) MX12_isNext 1 4 [some (.ref 94), some (.int (nI (cn d 5))), some (.int (nI p)), none] [] (γ, ν) Q) : ∀ j, p + j < cn d 5 → (∀ x, p < x → x ≤ p + j → q x = 0) → rf_Ok (rf_T Ln xs) MX12_isNext 1 4 [some (.ref 94), some (.int (nI (cn d 5))), some (.int (nI (p + j))), none] [] (γ, ν) Q := by
  intro j
  induction j with
  | zero => intro _ _; exact k
  | succ j ih =>
    intro h1 h2
    have e : q (1 + p + j) = 0 := h2 _ (by omega) (by omega)
    rw [show p + (j + 1) = 1 + p + j by omega]
    refine ok_step (ps := []) (L' := [some (.ref 94), some (.int (nI (cn d 5))), some (.int (nI (1 + p + j))), none]) (st' := [.int (nI (1 + p + j))]) (σ' := (γ, ν)) (pc' := 5) kX12_isNext_4 rfl rfl rf_a0 ?_
    refine ok_if_le bX12_isNext_5 (fun h5 => absurd h5 (nle_of (b := 0) rfl (by omega) (by omega))) (fun _ => ?_)
    refine ok_step (ps := [rf_in ((nI 330) + (nI (1 + p + j))) 700]) (L' := [some (.ref 94), some (.int (nI (cn d 5))), some (.int (nI (1 + p + j))), none]) (st' := [.int (ν 95 (((nI 330) + (nI (1 + p + j))).toNatClampNeg))]) (σ' := (γ, ν)) (pc' := 18) kX12_isNext_8 rfl rfl (rf_a1 (rf_in_n (a := (331 + p + j)) (by (try rw [(show ((nI 330) + (nI (1 + p + j))) = nI (331 + p + j) from rf_eq (rf_nadd (x := nI 330) (y := nI (1 + p + j)) rfl rfl) (by omega))]); all_goals exact rfl) (by omega)) rf_a0) ?_
    try rw [(show ((nI 330) + (nI (1 + p + j))) = nI (331 + p + j) from rf_eq (rf_nadd (x := nI 330) (y := nI (1 + p + j)) rfl rfl) (by omega))]
    try rw [(show (nI (331 + p + j)).toNatClampNeg = (331 + p + j) from rf_cl_n rfl (by omega))]
    try rw [(show ν 95 (331 + p + j) = nI (q (1 + p + j)) from by rw [hd, show (331 + p + j) = 330 + (1 + p + j) by omega]; exact dq_i (by omega))]
    refine ok_if_ne bX12_isNext_18 (fun h18 => absurd (by rw [e]; rfl) h18) (fun _ => ?_)
    refine ok_step (ps := []) (L' := [some (.ref 94), some (.int (nI (cn d 5))), some (.int ((nI (1 + p + j)) + (-1))), none]) (st' := []) (σ' := (γ, ν)) (pc' := 24) kX12_isNext_21 rfl rfl rf_a0 ?_
    try rw [(show ((nI (1 + p + j)) + (-1)) = nI (p + j) from rf_eq (rf_ndec (x := nI (1 + p + j)) rfl (by omega)) (by omega))]
    refine ok_goto bX12_isNext_24 ?_
    exact ih (by omega) (fun x h3 h4 => h2 x h3 (by omega))
theorem m_nx0 (hd : ν 95 = dq d (cn d 5) q) (b5 : cn d 5 ≤ 8) (h1 : 1 ≤ cn d 5) (h2 : ∀ x, 0 < x → x < cn d 5 → q x = 0) : rf_At (rf_T Ln xs) MX12_isNext 1 0 ([some (.ref 94), some (.int (nI (cn d 5))), none, none], [], 108, (γ, ν)) (some (.int (nI 0))) 108 (γ, ν) := by
  refine rf_pa ?_
  have k : rf_Ok (rf_T Ln xs) MX12_isNext 1 4 [some (.ref 94), some (.int (nI (cn d 5))), some (.int (nI 0)), none] [] (γ, ν) (fun r s => r = some (.int (nI 0)) ∧ s = (γ, ν)) := by
    refine ok_step (ps := []) (L' := [some (.ref 94), some (.int (nI (cn d 5))), some (.int (nI 0)), none]) (st' := [.int (nI 0)]) (σ' := (γ, ν)) (pc' := 5) kX12_isNext_4 rfl rfl rf_a0 ?_
    refine ok_if_le bX12_isNext_5 (fun _ => ?_) (fun h5 => absurd ((by decide)) h5)
    refine ok_step (ps := []) (L' := [some (.ref 94), some (.int (nI (cn d 5))), some (.int (nI 0)), none]) (st' := [.int (nI 0)]) (σ' := (γ, ν)) (pc' := 28) kX12_isNext_27 rfl rfl rf_a0 ?_
    refine ok_if_ne bX12_isNext_28 (fun h28 => absurd ((by decide)) h28) (fun _ => ?_)
    refine ok_step (ps := []) (L' := [some (.ref 94), some (.int (nI (cn d 5))), some (.int (nI 0)), none]) (st' := [.int (nI 0)]) (σ' := (γ, ν)) (pc' := 32) kX12_isNext_31 rfl rfl rf_a0 ?_
    refine ok_retz eX12_isNext_32 rfl (Or.inl rfl) ?_
    exact ⟨rfl, rfl⟩
  refine ok_step (ps := []) (L' := [some (.ref 94), some (.int (nI (cn d 5))), some (.int ((nI (cn d 5)) - (nI 1))), none]) (st' := []) (σ' := (γ, ν)) (pc' := 4) kX12_isNext_0 rfl rfl rf_a0 ?_
  try rw [(show ((nI (cn d 5)) - (nI 1)) = nI ((cn d 5) - 1) from rf_eq (rf_nsub (x := nI (cn d 5)) (y := nI 1) rfl rfl (by omega)) (by omega))]
  have hl := m_nx_l (p := 0) hd b5 k (cn d 5 - 1) (by omega) (fun x h3 h4 => h2 x h3 (by omega))
  rw [Nat.zero_add] at hl
  exact hl
theorem nx_dq {p : Nat} (h1 : 1 + p < cn d 5) : upd (upd (upd (dq d (cn d 5) q) (331 + p) (nI 0)) (330 + p) (nI (1 + q p))) (329 + cn d 5) (nI (q (1 + p) - 1)) = dq d (cn d 5) (updN (updN (updN q (1 + p) 0) p (q p + 1)) (cn d 5 - 1) (q (1 + p) - 1)) := by
  funext j
  unfold upd dq updN
  by_cases e1 : j = 329 + cn d 5
  · rw [if_pos e1, if_pos (by omega), if_pos (by omega)]
  · rw [if_neg e1]
    by_cases e2 : j = 330 + p
    · rw [if_pos e2, if_pos (by omega), if_neg (by omega), if_pos (by omega), Nat.add_comm]
    · rw [if_neg e2]
      by_cases e3 : j = 331 + p
      · rw [if_pos e3, if_pos (by omega), if_neg (by omega), if_neg (by omega), if_pos (by omega)]
      · rw [if_neg e3]
        by_cases e4 : 330 ≤ j ∧ j < 330 + cn d 5
        · rw [if_pos e4, if_pos e4, if_neg (by omega), if_neg (by omega), if_neg (by omega)]
        · rw [if_neg e4, if_neg e4]
theorem m_nx1 {p : Nat} (hI : Iv d) (hd : ν 95 = dq d (cn d 5) q) (h1 : 1 + p < cn d 5) (h2 : ∀ x, 1 + p < x → x < cn d 5 → q x = 0) (h3 : 1 ≤ q (1 + p)) (h4 : ∀ x, q x ≤ 9) : rf_At (rf_T Ln xs) MX12_isNext 1 0 ([some (.ref 94), some (.int (nI (cn d 5))), none, none], [], 108, (γ, ν)) (some (.int (nI 1))) 108 (γ, rf_w (rf_w (rf_w ν 95 (331 + p) (nI 0)) 95 (330 + p) (nI (1 + q p))) 95 (329 + cn d 5) (nI (q (1 + p) - 1))) := by
  have b5 := hI.le5
  have q1 := h4 (1 + p)
  have q2 := h4 p
  refine rf_pa ?_
  have k : rf_Ok (rf_T Ln xs) MX12_isNext 1 4 [some (.ref 94), some (.int (nI (cn d 5))), some (.int (nI (1 + p))), none] [] (γ, ν) (fun r s => r = some (.int (nI 1)) ∧ s = (γ, rf_w (rf_w (rf_w ν 95 (331 + p) (nI 0)) 95 (330 + p) (nI (1 + q p))) 95 (329 + cn d 5) (nI (q (1 + p) - 1)))) := by
    refine ok_step (ps := []) (L' := [some (.ref 94), some (.int (nI (cn d 5))), some (.int (nI (1 + p))), none]) (st' := [.int (nI (1 + p))]) (σ' := (γ, ν)) (pc' := 5) kX12_isNext_4 rfl rfl rf_a0 ?_
    refine ok_if_le bX12_isNext_5 (fun h5 => absurd h5 (nle_of (b := 0) rfl (by omega) (by omega))) (fun _ => ?_)
    refine ok_step (ps := [rf_in ((nI 330) + (nI (1 + p))) 700]) (L' := [some (.ref 94), some (.int (nI (cn d 5))), some (.int (nI (1 + p))), none]) (st' := [.int (ν 95 (((nI 330) + (nI (1 + p))).toNatClampNeg))]) (σ' := (γ, ν)) (pc' := 18) kX12_isNext_8 rfl rfl (rf_a1 (rf_in_n (a := (331 + p)) (by (try rw [(show ((nI 330) + (nI (1 + p))) = nI (331 + p) from rf_eq (rf_nadd (x := nI 330) (y := nI (1 + p)) rfl rfl) (by omega))]); all_goals exact rfl) (by omega)) rf_a0) ?_
    try rw [(show ((nI 330) + (nI (1 + p))) = nI (331 + p) from rf_eq (rf_nadd (x := nI 330) (y := nI (1 + p)) rfl rfl) (by omega))]
    try rw [(show (nI (331 + p)).toNatClampNeg = (331 + p) from rf_cl_n rfl (by omega))]
    try rw [(show ν 95 (331 + p) = nI (q (1 + p)) from by rw [hd, show (331 + p) = 330 + (1 + p) by omega]; exact dq_i (by omega))]
    refine ok_if_ne bX12_isNext_18 (fun _ => ?_) (fun h18 => absurd h18 (fun e => absurd (nI_inj (b := 0) e (by omega) (by omega)) (by omega)))
    refine ok_step (ps := []) (L' := [some (.ref 94), some (.int (nI (cn d 5))), some (.int (nI (1 + p))), none]) (st' := [.int (nI (1 + p))]) (σ' := (γ, ν)) (pc' := 28) kX12_isNext_27 rfl rfl rf_a0 ?_
    refine ok_if_ne bX12_isNext_28 (fun _ => ?_) (fun h28 => absurd h28 (fun e => absurd (nI_inj (b := 0) e (by omega) (by omega)) (by omega)))
    refine ok_step (ps := [rf_in ((nI 330) + (nI (1 + p))) 700, rf_in ((nI 330) + (nI (1 + p))) 700, rf_in (((nI 330) + (nI (1 + p))) - (nI 1)) 700, rf_in (((nI 330) + (nI (1 + p))) - (nI 1)) 700, rf_in (((nI 330) + (nI (cn d 5))) - (nI 1)) 700]) (L' := [some (.ref 94), some (.int (nI (cn d 5))), some (.int (nI (1 + p))), some (.int ((ν 95 (((nI 330) + (nI (1 + p))).toNatClampNeg)) - (nI 1)))]) (st' := [.int (nI 1)]) (σ' := (γ, rf_w (rf_w (rf_w ν 95 (((nI 330) + (nI (1 + p))).toNatClampNeg) (nI 0)) 95 ((((nI 330) + (nI (1 + p))) - (nI 1)).toNatClampNeg) (((rf_w ν 95 (((nI 330) + (nI (1 + p))).toNatClampNeg) (nI 0)) 95 ((((nI 330) + (nI (1 + p))) - (nI 1)).toNatClampNeg)) + (nI 1))) 95 ((((nI 330) + (nI (cn d 5))) - (nI 1)).toNatClampNeg) ((ν 95 (((nI 330) + (nI (1 + p))).toNatClampNeg)) - (nI 1)))) (pc' := 87) kX12_isNext_33 rfl rfl (rf_a1 (rf_in_n (a := (331 + p)) (by (try rw [(show ((nI 330) + (nI (1 + p))) = nI (331 + p) from rf_eq (rf_nadd (x := nI 330) (y := nI (1 + p)) rfl rfl) (by omega))]); all_goals exact rfl) (by omega)) (rf_a1 (rf_in_n (a := (331 + p)) (by (try rw [(show ((nI 330) + (nI (1 + p))) = nI (331 + p) from rf_eq (rf_nadd (x := nI 330) (y := nI (1 + p)) rfl rfl) (by omega))]); (try rw [(show (nI (331 + p)).toNatClampNeg = (331 + p) from rf_cl_n rfl (by omega))]); (try rw [(show ν 95 (331 + p) = nI (q (1 + p)) from by rw [hd, show (331 + p) = 330 + (1 + p) by omega]; exact dq_i (by omega))]); (try rw [(show ((nI (q (1 + p))) - (nI 1)) = nI (q (1 + p) - 1) from rf_eq (rf_nsub (x := nI (q (1 + p))) (y := nI 1) rfl rfl (by omega)) (by omega))]); (try rw [(show ((nI 330) + (nI (1 + p))) = nI (331 + p) from rf_eq (rf_nadd (x := nI 330) (y := nI (1 + p)) rfl rfl) (by omega))]); all_goals exact rfl) (by omega)) (rf_a1 (rf_in_n (a := (330 + p)) (by (try rw [(show ((nI 330) + (nI (1 + p))) = nI (331 + p) from rf_eq (rf_nadd (x := nI 330) (y := nI (1 + p)) rfl rfl) (by omega))]); (try rw [(show (nI (331 + p)).toNatClampNeg = (331 + p) from rf_cl_n rfl (by omega))]); (try rw [(show ν 95 (331 + p) = nI (q (1 + p)) from by rw [hd, show (331 + p) = 330 + (1 + p) by omega]; exact dq_i (by omega))]); (try rw [(show ((nI (q (1 + p))) - (nI 1)) = nI (q (1 + p) - 1) from rf_eq (rf_nsub (x := nI (q (1 + p))) (y := nI 1) rfl rfl (by omega)) (by omega))]); (try rw [(show ((nI 330) + (nI (1 + p))) = nI (331 + p) from rf_eq (rf_nadd (x := nI 330) (y := nI (1 + p)) rfl rfl) (by omega))]); (try rw [(show (nI (331 + p)).toNatClampNeg = (331 + p) from rf_cl_n rfl (by omega))]); (try rw [(show ((nI 330) + (nI (1 + p))) = nI (331 + p) from rf_eq (rf_nadd (x := nI 330) (y := nI (1 + p)) rfl rfl) (by omega))]); (try rw [(show ((nI (331 + p)) - (nI 1)) = nI (330 + p) from rf_eq (rf_nsub (x := nI (331 + p)) (y := nI 1) rfl rfl (by omega)) (by omega))]); all_goals exact rfl) (by omega)) (rf_a1 (rf_in_n (a := (330 + p)) (by (try rw [(show ((nI 330) + (nI (1 + p))) = nI (331 + p) from rf_eq (rf_nadd (x := nI 330) (y := nI (1 + p)) rfl rfl) (by omega))]); (try rw [(show (nI (331 + p)).toNatClampNeg = (331 + p) from rf_cl_n rfl (by omega))]); (try rw [(show ν 95 (331 + p) = nI (q (1 + p)) from by rw [hd, show (331 + p) = 330 + (1 + p) by omega]; exact dq_i (by omega))]); (try rw [(show ((nI (q (1 + p))) - (nI 1)) = nI (q (1 + p) - 1) from rf_eq (rf_nsub (x := nI (q (1 + p))) (y := nI 1) rfl rfl (by omega)) (by omega))]); (try rw [(show ((nI 330) + (nI (1 + p))) = nI (331 + p) from rf_eq (rf_nadd (x := nI 330) (y := nI (1 + p)) rfl rfl) (by omega))]); (try rw [(show (nI (331 + p)).toNatClampNeg = (331 + p) from rf_cl_n rfl (by omega))]); (try rw [(show ((nI 330) + (nI (1 + p))) = nI (331 + p) from rf_eq (rf_nadd (x := nI 330) (y := nI (1 + p)) rfl rfl) (by omega))]); (try rw [(show ((nI (331 + p)) - (nI 1)) = nI (330 + p) from rf_eq (rf_nsub (x := nI (331 + p)) (y := nI 1) rfl rfl (by omega)) (by omega))]); (try rw [(show (nI (330 + p)).toNatClampNeg = (330 + p) from rf_cl_n rfl (by omega))]); (try rw [(show (rf_w ν 95 (331 + p) (nI 0)) 95 (330 + p) = ν 95 (330 + p) from by rw [rf_w_at, if_neg (fun h => absurd h.2 (by omega))])]); (try rw [(show ν 95 (330 + p) = nI (q p) from by rw [hd, show (330 + p) = 330 + p by omega]; exact dq_i (by omega))]); (try rw [(show ((nI (q p)) + (nI 1)) = nI (1 + q p) from rf_eq (rf_nadd (x := nI (q p)) (y := nI 1) rfl rfl) (by omega))]); all_goals exact rfl) (by omega)) (rf_a1 (rf_in_n (a := (329 + (cn d 5))) (by (try rw [(show ((nI 330) + (nI (1 + p))) = nI (331 + p) from rf_eq (rf_nadd (x := nI 330) (y := nI (1 + p)) rfl rfl) (by omega))]); (try rw [(show (nI (331 + p)).toNatClampNeg = (331 + p) from rf_cl_n rfl (by omega))]); (try rw [(show ν 95 (331 + p) = nI (q (1 + p)) from by rw [hd, show (331 + p) = 330 + (1 + p) by omega]; exact dq_i (by omega))]); (try rw [(show ((nI (q (1 + p))) - (nI 1)) = nI (q (1 + p) - 1) from rf_eq (rf_nsub (x := nI (q (1 + p))) (y := nI 1) rfl rfl (by omega)) (by omega))]); (try rw [(show ((nI 330) + (nI (1 + p))) = nI (331 + p) from rf_eq (rf_nadd (x := nI 330) (y := nI (1 + p)) rfl rfl) (by omega))]); (try rw [(show (nI (331 + p)).toNatClampNeg = (331 + p) from rf_cl_n rfl (by omega))]); (try rw [(show ((nI 330) + (nI (1 + p))) = nI (331 + p) from rf_eq (rf_nadd (x := nI 330) (y := nI (1 + p)) rfl rfl) (by omega))]); (try rw [(show ((nI (331 + p)) - (nI 1)) = nI (330 + p) from rf_eq (rf_nsub (x := nI (331 + p)) (y := nI 1) rfl rfl (by omega)) (by omega))]); (try rw [(show (nI (330 + p)).toNatClampNeg = (330 + p) from rf_cl_n rfl (by omega))]); (try rw [(show (rf_w ν 95 (331 + p) (nI 0)) 95 (330 + p) = ν 95 (330 + p) from by rw [rf_w_at, if_neg (fun h => absurd h.2 (by omega))])]); (try rw [(show ν 95 (330 + p) = nI (q p) from by rw [hd, show (330 + p) = 330 + p by omega]; exact dq_i (by omega))]); (try rw [(show ((nI (q p)) + (nI 1)) = nI (1 + q p) from rf_eq (rf_nadd (x := nI (q p)) (y := nI 1) rfl rfl) (by omega))]); (try rw [(show (nI (330 + p)).toNatClampNeg = (330 + p) from rf_cl_n rfl (by omega))]); (try rw [(show ((nI 330) + (nI (cn d 5))) = nI (330 + (cn d 5)) from rf_eq (rf_nadd (x := nI 330) (y := nI (cn d 5)) rfl rfl) (by omega))]); (try rw [(show ((nI (330 + (cn d 5))) - (nI 1)) = nI (329 + (cn d 5)) from rf_eq (rf_nsub (x := nI (330 + (cn d 5))) (y := nI 1) rfl rfl (by omega)) (by omega))]); all_goals exact rfl) (by omega)) rf_a0))))) ?_
    try rw [(show ((nI 330) + (nI (1 + p))) = nI (331 + p) from rf_eq (rf_nadd (x := nI 330) (y := nI (1 + p)) rfl rfl) (by omega))]
    try rw [(show (nI (331 + p)).toNatClampNeg = (331 + p) from rf_cl_n rfl (by omega))]
    try rw [(show ν 95 (331 + p) = nI (q (1 + p)) from by rw [hd, show (331 + p) = 330 + (1 + p) by omega]; exact dq_i (by omega))]
    try rw [(show ((nI (q (1 + p))) - (nI 1)) = nI (q (1 + p) - 1) from rf_eq (rf_nsub (x := nI (q (1 + p))) (y := nI 1) rfl rfl (by omega)) (by omega))]
    try rw [(show ((nI 330) + (nI (1 + p))) = nI (331 + p) from rf_eq (rf_nadd (x := nI 330) (y := nI (1 + p)) rfl rfl) (by omega))]
    try rw [(show (nI (331 + p)).toNatClampNeg = (331 + p) from rf_cl_n rfl (by omega))]
    try rw [(show ((nI 330) + (nI (1 + p))) = nI (331 + p) from rf_eq (rf_nadd (x := nI 330) (y := nI (1 + p)) rfl rfl) (by omega))]
    try rw [(show ((nI (331 + p)) - (nI 1)) = nI (330 + p) from rf_eq (rf_nsub (x := nI (331 + p)) (y := nI 1) rfl rfl (by omega)) (by omega))]
    try rw [(show (nI (330 + p)).toNatClampNeg = (330 + p) from rf_cl_n rfl (by omega))]
    try rw [(show (rf_w ν 95 (331 + p) (nI 0)) 95 (330 + p) = ν 95 (330 + p) from by rw [rf_w_at, if_neg (fun h => absurd h.2 (by omega))])]
    try rw [(show ν 95 (330 + p) = nI (q p) from by rw [hd, show (330 + p) = 330 + p by omega]; exact dq_i (by omega))]
    try rw [(show ((nI (q p)) + (nI 1)) = nI (1 + q p) from rf_eq (rf_nadd (x := nI (q p)) (y := nI 1) rfl rfl) (by omega))]
    try rw [(show (nI (330 + p)).toNatClampNeg = (330 + p) from rf_cl_n rfl (by omega))]
    try rw [(show ((nI 330) + (nI (cn d 5))) = nI (330 + (cn d 5)) from rf_eq (rf_nadd (x := nI 330) (y := nI (cn d 5)) rfl rfl) (by omega))]
    try rw [(show ((nI (330 + (cn d 5))) - (nI 1)) = nI (329 + (cn d 5)) from rf_eq (rf_nsub (x := nI (330 + (cn d 5))) (y := nI 1) rfl rfl (by omega)) (by omega))]
    try rw [(show (nI (329 + (cn d 5))).toNatClampNeg = (329 + (cn d 5)) from rf_cl_n rfl (by omega))]
    refine ok_retz eX12_isNext_87 rfl (Or.inr rfl) ?_
    exact ⟨rfl, rfl⟩
  refine ok_step (ps := []) (L' := [some (.ref 94), some (.int (nI (cn d 5))), some (.int ((nI (cn d 5)) - (nI 1))), none]) (st' := []) (σ' := (γ, ν)) (pc' := 4) kX12_isNext_0 rfl rfl rf_a0 ?_
  try rw [(show ((nI (cn d 5)) - (nI 1)) = nI ((cn d 5) - 1) from rf_eq (rf_nsub (x := nI (cn d 5)) (y := nI 1) rfl rfl (by omega)) (by omega))]
  have hl := m_nx_l (p := 1 + p) hd b5 k (cn d 5 - 1 - (1 + p)) (by omega) (fun x h3 h4 => h2 x h3 (by omega))
  rw [show 1 + p + (cn d 5 - 1 - (1 + p)) = cn d 5 - 1 by omega] at hl
  exact hl
end H66
