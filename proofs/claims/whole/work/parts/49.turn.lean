/-- those of a GROUP who don't pay, with a FINE; those whom no FINE turns; those who weigh -/
def fu (d : Nat → Int32) (fine : Int32) (g : Nat) : Nat := if s_pays d g fine (s_with d (d (191 + 8 * g))) (rf_max (s_all d) (nI 1)) = true then 0 else cn d (194 + 8 * g)
def fk (d : Nat → Int32) (g : Nat) : Nat := if und (cn d (190 + 8 * g)) 2 = true then 0 else if s_now d g = true then 0 else cn d (194 + 8 * g)
def fw (d : Nat → Int32) (fine : Int32) (g : Nat) : Nat := if und (cn d (190 + 8 * g)) 2 = true then fu d fine g else 0
theorem und_2 : ∀ k, k ≤ 7 → und k 2 = false → k = 0 ∨ k = 1 ∨ k = 5 ∨ k = 6 ∨ k = 7 := by decide
theorem sumN_add {f g h : Nat → Nat} : ∀ {n : Nat}, (∀ i, i < n → f i = g i + h i) → sumN f n = sumN g n + sumN h n
  | 0, _ => rfl
  | n + 1, e => by rw [sumN, sumN, sumN, sumN_add (fun i hi => e i (by omega)), e n (by omega)]; omega
theorem sumN_inc {f : Nat → Nat} {a : Nat} : ∀ (j : Nat), sumN f a ≤ sumN f (a + j)
  | 0 => Nat.le_refl _
  | j + 1 => Nat.le_trans (sumN_inc j) (Nat.le_add_right _ _)
section S49
variable {d : Nat → Int32} {g : Nat} {fine : Int32}
theorem fu_eq (hI : Iv d) (hg : g < 16) : fu d fine g = fk d g + fw d fine g := by
  unfold fk fw
  cases h : und (cn d (190 + 8 * g)) 2 with
  | true => simp
  | false =>
    simp only [Bool.false_eq_true, if_false, Nat.add_zero]
    unfold fu s_now
    have h7 := hI.leb (b := 7) (bd_190 (i := g) hg rfl) (by decide)
    rcases und_2 _ h7 h with e | e | e | e | e
    · rw [sp_0 e, sp_0 e]
    · rw [sp_1 e, sp_1 e]
    · rw [sp_5 e, sp_5 e]
    · rw [sp_6 e, sp_6 e]
    · rw [sp_7 e, sp_7 e]
theorem fu_le (hI : Iv d) (hg : g < 16) : fu d fine g ≤ 999 := by
  have := (m194 hI hg).1
  unfold fu
  split <;> omega
theorem fk_le (hI : Iv d) (hg : g < 16) : fk d g ≤ 999 := by
  have := (m194 hI hg).1
  unfold fk
  repeat' split
  all_goals omega
theorem fw_le (hI : Iv d) (hg : g < 16) : fw d fine g ≤ 999 := by
  have := fu_le (fine := fine) hI hg
  unfold fw
  split <;> omega
theorem s16 {f : Nat → Nat} {n : Nat} (h : ∀ i, i < n → f i ≤ 999) (hn : n ≤ 16) : sumN f n ≤ 15984 := by
  have h1 := sumN_le h
  have h2 := Nat.mul_le_mul hn (Nat.le_refl 999)
  omega
theorem unp_n (hI : Iv d) : sumI (f_unp d fine) (cn d 4) = nI (sumN (fu d fine) (cn d 4)) := by
  have b4 := hI.le4
  refine sumI_nat (fun g hg => ?_)
  unfold f_unp fu
  split
  · rfl
  · exact (m194 hI (by omega)).2
/-- the first FINE from f on, of k, by which no more than x don't pay; f + k: none -/
def tn (d : Nat → Int32) (x : Nat) : Nat → Nat → Nat
  | 0, f => f
  | k + 1, f => if sumN (fu d (nI f)) (cn d 4) ≤ x then f else tn d x k (f + 1)
def tI (t : Nat) : Int32 := if t < 1000 then nI t else (-1)
theorem tn_none {x : Nat} (hI : Iv d) (h : x < sumN (fk d) (cn d 4)) : ∀ k f, tn d x k f = f + k
  | 0, f => rfl
  | k + 1, f => by
    have b4 := hI.le4
    have e := sumN_add (f := fu d (nI f)) (g := fk d) (h := fw d (nI f)) (n := cn d 4) (fun i hi => fu_eq hI (by omega))
    rw [tn, if_neg (by omega), tn_none hI h k (f + 1)]
    omega
theorem tn_le {x : Nat} : ∀ k f, tn d x k f ≤ f + k
  | 0, f => Nat.le_refl _
  | k + 1, f => by
    have := tn_le (x := x) k (f + 1)
    unfold tn
    split <;> omega
theorem tI_ge {t : Nat} (h : t ≤ 1000) : (0 : Int32) ≤ tI t ↔ t < 1000 := by
  unfold tI
  by_cases h1 : t < 1000
  · rw [if_pos h1]
    exact ⟨fun _ => h1, fun _ => nI_le (a := 0) (by omega) (by omega)⟩
  · rw [if_neg h1]
    exact ⟨fun h2 => absurd h2 (by decide), fun h2 => absurd h2 h1⟩
theorem fk_0 (h : und (cn d (190 + 8 * g)) 2 = true) : nI (sumN (fk d) g) = nI (sumN (fk d) (g + 1)) := by rw [sumN, show fk d g = 0 from if_pos h, Nat.add_zero]
theorem fk_1 (h : und (cn d (190 + 8 * g)) 2 = false) (h2 : s_now d g = true) : nI (sumN (fk d) g) = nI (sumN (fk d) (g + 1)) := by rw [sumN, show fk d g = 0 from by unfold fk; rw [if_neg (by rw [h]; decide), if_pos h2], Nat.add_zero]
theorem fk_2 (hI : Iv d) (hg : g < 16) (h : und (cn d (190 + 8 * g)) 2 = false) (h2 : s_now d g = false) : nI (sumN (fk d) g + cn d (194 + 8 * g)) = nI (sumN (fk d) (g + 1)) := by rw [sumN, show fk d g = cn d (194 + 8 * g) from by unfold fk; rw [if_neg (by rw [h]; decide), if_neg (by rw [h2]; decide)]]
theorem fw_0 (h : und (cn d (190 + 8 * g)) 2 = false) : nI (sumN (fw d fine) g) = nI (sumN (fw d fine) (g + 1)) := by rw [sumN, show fw d fine g = 0 from if_neg (by rw [h]; decide), Nat.add_zero]
theorem fw_1 (h : und (cn d (190 + 8 * g)) 2 = true) (h2 : s_pays d g fine (s_with d (d (191 + 8 * g))) (rf_max (s_all d) (nI 1)) = true) : nI (sumN (fw d fine) g) = nI (sumN (fw d fine) (g + 1)) := by rw [sumN, show fw d fine g = 0 from by unfold fw fu; rw [if_pos h, if_pos h2], Nat.add_zero]
theorem fw_2 (h : und (cn d (190 + 8 * g)) 2 = true) (h2 : s_pays d g fine (s_with d (d (191 + 8 * g))) (rf_max (s_all d) (nI 1)) = false) : nI (sumN (fw d fine) g + cn d (194 + 8 * g)) = nI (sumN (fw d fine) (g + 1)) := by rw [sumN, show fw d fine g = cn d (194 + 8 * g) from by unfold fw fu; rw [if_pos h, if_neg (by rw [h2]; decide)]]
theorem fw_n (hI : Iv d) {i m j : Nat} (h : m < sumN (fw d fine) i) (hj : i + j = cn d 4) : ¬ sumN (fw d fine) (cn d 4) ≤ m := by
  have := sumN_inc (f := fw d fine) (a := i) j
  rw [hj] at this
  omega
end S49
section H49
variable {Ln : Nat} {xs : Nat → Int32} {α μ ν γ : Nat → Nat → Int32} {d : Nat → Int32}
theorem c_tu_l {f m : Nat} (hf : f ≤ 999) (hm : m ≤ 99999) : ∀ (j i : Nat) (α : Nat → Nat → Int32), J α μ → i + j = cn (μ 95) 4 → rf_Ok (rf_T Ln xs) MX10_isTurned 8 14 [some (.ref 1), some (.int (nI f)), some (.int (nI m)), some (.int (rf_max (s_all (μ 95)) (nI 1))), some (.int (nI ((sumN (fw (μ 95) (nI f)) i)))), some (.int (nI i))] [] (α, μ) (fun r s => r = some (.int (bI (decide (sumN (fw (μ 95) (nI f)) (cn (μ 95) 4) ≤ m)))) ∧ ∃ α' : Nat → Nat → Int32, s = (α', μ) ∧ J α' μ) := by
  intro j
  induction j with
  | zero =>
    intro i α hJ hj
    have hR := hJ.1.1.1
    have hI := hJ.2
    have b0 := hI.le0
    have b2 := hI.le2
    have b3 := hI.le3
    have b4 := hI.le4
    have b5 := hI.le5
    have b8 := hI.le8
    have b9 := hI.le9
    have hs := s16 (f := fw (μ 95) (nI f)) (n := i) (fun g hg => fw_le hI (by omega)) (by omega)
    have hj : i = cn (μ 95) 4 := by omega
    refine ok_step (ps := []) (L' := [some (.ref 1), some (.int (nI f)), some (.int (nI m)), some (.int (rf_max (s_all (μ 95)) (nI 1))), some (.int (nI ((sumN (fw (μ 95) (nI f)) i)))), some (.int (nI i))]) (st' := [.int (α 10 0), .int (nI i)]) (σ' := (α, μ)) (pc' := 23) kX10_isTurned_14 rfl rfl rf_a0 ?_
    try rw [(show α 10 0 = μ 95 4 from hR 9 0 4 rfl)]
    refine ok_icmp_ge bX10_isTurned_23 (fun _ => ?_) (fun h23 => absurd (le_of hI.at4 (by omega) (by omega)) h23)
    refine ok_step (ps := []) (L' := [some (.ref 1), some (.int (nI f)), some (.int (nI m)), some (.int (rf_max (s_all (μ 95)) (nI 1))), some (.int (nI ((sumN (fw (μ 95) (nI f)) i)))), some (.int (nI i))]) (st' := [.int (nI m), .int (nI ((sumN (fw (μ 95) (nI f)) i)))]) (σ' := (α, μ)) (pc' := 101) kX10_isTurned_98 rfl rfl rf_a0 ?_
    refine ok_icmp_gt bX10_isTurned_101 (fun h101 => ?_) (fun h101 => ?_)
    · refine ok_step (ps := []) (L' := [some (.ref 1), some (.int (nI f)), some (.int (nI m)), some (.int (rf_max (s_all (μ 95)) (nI 1))), some (.int (nI ((sumN (fw (μ 95) (nI f)) i)))), some (.int (nI i))]) (st' := [.int (nI 0)]) (σ' := (α, μ)) (pc' := 109) kX10_isTurned_108 rfl rfl rf_a0 ?_
      refine ok_retz eX10_isTurned_109 rfl (Or.inl rfl) ?_
      subst hj
      exact ⟨rz (decide_eq_false (by rw [nI_ltI (by omega) (by omega)] at h101; omega)), _, rfl, hJ⟩
    · refine ok_step (ps := []) (L' := [some (.ref 1), some (.int (nI f)), some (.int (nI m)), some (.int (rf_max (s_all (μ 95)) (nI 1))), some (.int (nI ((sumN (fw (μ 95) (nI f)) i)))), some (.int (nI i))]) (st' := [.int (nI 1)]) (σ' := (α, μ)) (pc' := 105) kX10_isTurned_104 rfl rfl rf_a0 ?_
      refine ok_goto bX10_isTurned_105 ?_
      refine ok_retz eX10_isTurned_109 rfl (Or.inr rfl) ?_
      subst hj
      exact ⟨ro (decide_eq_true (by rw [nI_ltI (by omega) (by omega)] at h101; omega)), _, rfl, hJ⟩
  | succ j ih =>
    intro i α hJ hj
    have hR := hJ.1.1.1
    have hI := hJ.2
    have b0 := hI.le0
    have b2 := hI.le2
    have b3 := hI.le3
    have b4 := hI.le4
    have b5 := hI.le5
    have b8 := hI.le8
    have b9 := hI.le9
    have hs := s16 (f := fw (μ 95) (nI f)) (n := i) (fun g hg => fw_le hI (by omega)) (by omega)
    have b190 := hI.leb (b := 7) (bd_190 (i := i) (by omega) rfl) (by decide)
    refine ok_step (ps := []) (L' := [some (.ref 1), some (.int (nI f)), some (.int (nI m)), some (.int (rf_max (s_all (μ 95)) (nI 1))), some (.int (nI ((sumN (fw (μ 95) (nI f)) i)))), some (.int (nI i))]) (st' := [.int (α 10 0), .int (nI i)]) (σ' := (α, μ)) (pc' := 23) kX10_isTurned_14 rfl rfl rf_a0 ?_
    try rw [(show α 10 0 = μ 95 4 from hR 9 0 4 rfl)]
    refine ok_icmp_ge bX10_isTurned_23 (fun h23 => absurd h23 (nle_of hI.at4 (by omega) (by omega))) (fun _ => ?_)
    refine ok_step (ps := []) (L' := [some (.ref 1), some (.int (nI f)), some (.int (nI m)), some (.int (rf_max (s_all (μ 95)) (nI 1))), some (.int (nI ((sumN (fw (μ 95) (nI f)) i)))), some (.int (nI i))]) (st' := [.int (nI m), .int (nI ((sumN (fw (μ 95) (nI f)) i)))]) (σ' := (α, μ)) (pc' := 29) kX10_isTurned_26 rfl rfl rf_a0 ?_
    refine ok_icmp_gt bX10_isTurned_29 (fun h29 => ?_) (fun h29 => ?_)
    · refine ok_step (ps := []) (L' := [some (.ref 1), some (.int (nI f)), some (.int (nI m)), some (.int (rf_max (s_all (μ 95)) (nI 1))), some (.int (nI ((sumN (fw (μ 95) (nI f)) i)))), some (.int (nI i))]) (st' := [.int (nI m), .int (nI ((sumN (fw (μ 95) (nI f)) i)))]) (σ' := (α, μ)) (pc' := 101) kX10_isTurned_98 rfl rfl rf_a0 ?_
      refine ok_icmp_gt bX10_isTurned_101 (fun _ => ?_) (fun h101 => absurd (h29) h101)
      refine ok_step (ps := []) (L' := [some (.ref 1), some (.int (nI f)), some (.int (nI m)), some (.int (rf_max (s_all (μ 95)) (nI 1))), some (.int (nI ((sumN (fw (μ 95) (nI f)) i)))), some (.int (nI i))]) (st' := [.int (nI 0)]) (σ' := (α, μ)) (pc' := 109) kX10_isTurned_108 rfl rfl rf_a0 ?_
      refine ok_retz eX10_isTurned_109 rfl (Or.inl rfl) ?_
      exact ⟨rz (decide_eq_false (fw_n hI (by rw [nI_ltI (by omega) (by omega)] at h29; exact h29) hj)), _, rfl, hJ⟩
    · refine ok_step (ps := [rf_in (nI i) 16]) (L' := [some (.ref 1), some (.int (nI f)), some (.int (nI m)), some (.int (rf_max (s_all (μ 95)) (nI 1))), some (.int (nI ((sumN (fw (μ 95) (nI f)) i)))), some (.int (nI i))]) (st' := [.int (nI 2), .int (α 11 ((nI i).toNatClampNeg))]) (σ' := (α, μ)) (pc' := 43) kX10_isTurned_32 rfl rfl (rf_a1 (rf_in_n (a := i) rfl (by omega)) rf_a0) ?_
      try rw [(show (nI i).toNatClampNeg = i from rf_cl_n rfl (by omega))]
      try rw [(show α 11 i = μ 95 (190 + 8 * i) from rl_10 hR (i := i) (by omega) (by omega))]
      rw [show μ 95 (190 + 8 * i) = nI (cn (μ 95) (190 + 8 * i)) from (hI.atb (k := (190 + 8 * i)) (bd_190 (i := i) (by omega) (by omega)) (by decide))]
      refine ok_S (As := [.int (nI (cn (μ 95) (190 + 8 * i))), .int (nI 2)]) (st := []) mkX11_isUnder qX10_isTurned_43 rfl rfl rfl rfl rfl (Nat.le_of_ble_eq_true rfl) (c_isUnder (by omega) (by omega)) ?_
      refine ok_if_eq bX10_isTurned_46 (fun h46 => ?_) (fun h46 => ?_)
      · refine ok_step (ps := []) (L' := [some (.ref 1), some (.int (nI f)), some (.int (nI m)), some (.int (rf_max (s_all (μ 95)) (nI 1))), some (.int (nI ((sumN (fw (μ 95) (nI f)) i)))), some (.int ((nI i) + (nI 1)))]) (st' := []) (σ' := (α, μ)) (pc' := 95) kX10_isTurned_92 rfl rfl rf_a0 ?_
        try rw [(show ((nI i) + (nI 1)) = nI (i + 1) from nI_add _ _)]
        refine ok_goto bX10_isTurned_95 ?_
        rw [show (nI ((sumN (fw (μ 95) (nI f)) i)) : Int32) = nI (sumN (fw (μ 95) (nI f)) (i + 1)) from fw_0 (bI_0.mp h46)]
        exact ih (i + 1) α hJ (by omega)
      · refine ok_step (ps := [rf_in (nI i) 16]) (L' := [some (.ref 1), some (.int (nI f)), some (.int (nI m)), some (.int (rf_max (s_all (μ 95)) (nI 1))), some (.int (nI ((sumN (fw (μ 95) (nI f)) i)))), some (.int (nI i))]) (st' := [.int (α 12 ((nI i).toNatClampNeg)), .ref 19, .int (nI f), .int (nI i), .ref 1]) (σ' := (α, μ)) (pc' := 67) kX10_isTurned_49 rfl rfl (rf_a1 (rf_in_n (a := i) rfl (by omega)) rf_a0) ?_
        try rw [(show (nI i).toNatClampNeg = i from rf_cl_n rfl (by omega))]
        try rw [(show α 12 i = μ 95 (191 + 8 * i) from rl_11 hR (i := i) (by omega) (by omega))]
        refine ok_V (As := [.int (μ 95 (191 + 8 * i))]) (b := 19) (st := [.int (nI f), .int (nI i), .ref 1]) mkX7_lotsWith qX10_isTurned_67 rfl (rc_19) rfl rfl rfl rfl (Nat.le_of_ble_eq_true rfl) (c_with hR hI) ?_
        refine ok_step (ps := []) (L' := [some (.ref 1), some (.int (nI f)), some (.int (nI m)), some (.int (rf_max (s_all (μ 95)) (nI 1))), some (.int (nI ((sumN (fw (μ 95) (nI f)) i)))), some (.int (nI i))]) (st' := [.int (rf_max (s_all (μ 95)) (nI 1)), .int (s_with (μ 95) (μ 95 (191 + 8 * i))), .int (nI f), .int (nI i), .ref 1]) (σ' := (α, μ)) (pc' := 71) kX10_isTurned_70 rfl rfl rf_a0 ?_
        refine ok_Vx (As := [.int (nI i), .int (nI f), .int (s_with (μ 95) (μ 95 (191 + 8 * i))), .int (rf_max (s_all (μ 95)) (nI 1))]) (b := 1) (st := []) mkX10_pays qX10_isTurned_71 rfl (rc_1) rfl rfl rfl rfl (Nat.le_of_ble_eq_true rfl) (c_pays hJ (by omega)) (fun r1 σ1 hq => ?_)
        obtain ⟨rfl, α, rfl, hJ⟩ := qJ hJ hq
        have hR := hJ.1.1.1
        refine ok_if_ne bX10_isTurned_74 (fun h74 => ?_) (fun h74 => ?_)
        · refine ok_step (ps := []) (L' := [some (.ref 1), some (.int (nI f)), some (.int (nI m)), some (.int (rf_max (s_all (μ 95)) (nI 1))), some (.int (nI ((sumN (fw (μ 95) (nI f)) i)))), some (.int ((nI i) + (nI 1)))]) (st' := []) (σ' := (α, μ)) (pc' := 95) kX10_isTurned_92 rfl rfl rf_a0 ?_
          try rw [(show ((nI i) + (nI 1)) = nI (i + 1) from nI_add _ _)]
          refine ok_goto bX10_isTurned_95 ?_
          rw [show (nI ((sumN (fw (μ 95) (nI f)) i)) : Int32) = nI (sumN (fw (μ 95) (nI f)) (i + 1)) from fw_1 (bI_n0.mp h46) (bI_n0.mp h74)]
          exact ih (i + 1) α hJ (by omega)
        · refine ok_step (ps := [rf_in (nI i) 16]) (L' := [some (.ref 1), some (.int (nI f)), some (.int (nI m)), some (.int (rf_max (s_all (μ 95)) (nI 1))), some (.int ((nI ((sumN (fw (μ 95) (nI f)) i))) + (α 15 ((nI i).toNatClampNeg)))), some (.int (nI i))]) (st' := []) (σ' := (α, μ)) (pc' := 92) kX10_isTurned_77 rfl rfl (rf_a1 (rf_in_n (a := i) rfl (by omega)) rf_a0) ?_
          try rw [(show (nI i).toNatClampNeg = i from rf_cl_n rfl (by omega))]
          try rw [(show α 15 i = μ 95 (194 + 8 * i) from rl_14 hR (i := i) (by omega) (by omega))]
          try rw [(show ((nI ((sumN (fw (μ 95) (nI f)) i))) + (μ 95 (194 + 8 * i))) = nI ((sumN (fw (μ 95) (nI f)) i) + cn (μ 95) (194 + 8 * i)) from rf_eq (rf_nadd (x := nI ((sumN (fw (μ 95) (nI f)) i))) (y := μ 95 (194 + 8 * i)) rfl (hI.atb (k := (194 + 8 * i)) (bd_194 (i := i) (by omega) (by omega)) (by decide))) (by omega))]
          refine ok_step (ps := []) (L' := [some (.ref 1), some (.int (nI f)), some (.int (nI m)), some (.int (rf_max (s_all (μ 95)) (nI 1))), some (.int (nI ((sumN (fw (μ 95) (nI f)) i) + cn (μ 95) (194 + 8 * i)))), some (.int ((nI i) + (nI 1)))]) (st' := []) (σ' := (α, μ)) (pc' := 95) kX10_isTurned_92 rfl rfl rf_a0 ?_
          try rw [(show ((nI i) + (nI 1)) = nI (i + 1) from nI_add _ _)]
          refine ok_goto bX10_isTurned_95 ?_
          rw [show (nI ((sumN (fw (μ 95) (nI f)) i) + cn (μ 95) (194 + 8 * i)) : Int32) = nI (sumN (fw (μ 95) (nI f)) (i + 1)) from fw_2 (bI_n0.mp h46) (bI_0.mp h74)]
          exact ih (i + 1) α hJ (by omega)
theorem c_tu {f m : Nat} (hJ : J α μ) (hf : f ≤ 999) (hm : m ≤ 99999) : rf_Ok (rf_T Ln xs) MX10_isTurned 8 0 [some (.ref 1), some (.int (nI f)), some (.int (nI m)), none, none, none] [] (α, μ) (fun r s => r = some (.int (bI (decide (sumN (fw (μ 95) (nI f)) (cn (μ 95) 4) ≤ m)))) ∧ ∃ α' : Nat → Nat → Int32, s = (α', μ) ∧ J α' μ) := by
  have hR := hJ.1.1.1
  have hI := hJ.2
  have b0 := hI.le0
  have b2 := hI.le2
  have b3 := hI.le3
  have b4 := hI.le4
  have b5 := hI.le5
  have b8 := hI.le8
  have b9 := hI.le9
  refine ok_step (ps := []) (L' := [some (.ref 1), some (.int (nI f)), some (.int (nI m)), none, none, none]) (st' := [.ref 19]) (σ' := (α, μ)) (pc' := 4) kX10_isTurned_0 rfl rfl rf_a0 ?_
  refine ok_V (As := []) (b := 19) (st := []) mkX7_below qX10_isTurned_4 rfl (rc_19) rfl rfl rfl rfl (Nat.le_of_ble_eq_true rfl) (c_below hR hI) ?_
  refine ok_step (ps := []) (L' := [some (.ref 1), some (.int (nI f)), some (.int (nI m)), some (.int (rf_max (s_all (μ 95)) (nI 1))), some (.int (nI 0)), some (.int (nI 0))]) (st' := []) (σ' := (α, μ)) (pc' := 14) kX10_isTurned_7 rfl rfl rf_a0 ?_
  exact c_tu_l hf hm (cn (μ 95) 4) 0 α hJ (by omega)
theorem c_lf2 {x : Nat} (hx : x ≤ 99999) : ∀ (k f : Nat) (α : Nat → Nat → Int32), J α μ → f + k = 1000 → rf_Ok (rf_T Ln xs) MX10_leastFine 9 59 [some (.ref 1), some (.int (nI x)), some (.int (nI ((sumN (fk (μ 95)) (cn (μ 95) 4))))), some (.int (nI f))] [] (α, μ) (fun r s => r = some (.int (tI (tn (μ 95) x k f))) ∧ ∃ α' : Nat → Nat → Int32, s = (α', μ) ∧ J α' μ) := by
  intro k
  induction k with
  | zero =>
    intro f α hJ hj
    have hR := hJ.1.1.1
    have hI := hJ.2
    have b0 := hI.le0
    have b2 := hI.le2
    have b3 := hI.le3
    have b4 := hI.le4
    have b5 := hI.le5
    have b8 := hI.le8
    have b9 := hI.le9
    have hs := s16 (f := fk (μ 95)) (n := cn (μ 95) 4) (fun g hg => fk_le hI (by omega)) (by omega)
    obtain rfl : f = 1000 := by omega
    refine ok_step (ps := []) (L' := [some (.ref 1), some (.int (nI x)), some (.int (nI ((sumN (fk (μ 95)) (cn (μ 95) 4))))), some (.int (nI 1000))]) (st' := [.int (nI 999), .int (nI 1000)]) (σ' := (α, μ)) (pc' := 63) kX10_leastFine_59 rfl rfl rf_a0 ?_
    refine ok_icmp_gt bX10_leastFine_63 (fun _ => ?_) (fun h63 => absurd (nI_lt (by omega) (by omega)) h63)
    refine ok_step (ps := []) (L' := [some (.ref 1), some (.int (nI x)), some (.int (nI ((sumN (fk (μ 95)) (cn (μ 95) 4))))), some (.int (nI 1000))]) (st' := [.int (-1)]) (σ' := (α, μ)) (pc' := 91) kX10_leastFine_90 rfl rfl rf_a0 ?_
    refine ok_reti eX10_leastFine_91 rfl ?_
    exact ⟨rfl, _, rfl, hJ⟩
  | succ k ih =>
    intro f α hJ hj
    have hR := hJ.1.1.1
    have hI := hJ.2
    have b0 := hI.le0
    have b2 := hI.le2
    have b3 := hI.le3
    have b4 := hI.le4
    have b5 := hI.le5
    have b8 := hI.le8
    have b9 := hI.le9
    have hs := s16 (f := fk (μ 95)) (n := cn (μ 95) 4) (fun g hg => fk_le hI (by omega)) (by omega)
    have e := sumN_add (f := fu (μ 95) (nI f)) (g := fk (μ 95)) (h := fw (μ 95) (nI f)) (n := cn (μ 95) 4) (fun i hi => fu_eq hI (by omega))
    refine ok_step (ps := []) (L' := [some (.ref 1), some (.int (nI x)), some (.int (nI ((sumN (fk (μ 95)) (cn (μ 95) 4))))), some (.int (nI f))]) (st' := [.int (nI 999), .int (nI f)]) (σ' := (α, μ)) (pc' := 63) kX10_leastFine_59 rfl rfl rf_a0 ?_
    refine ok_icmp_gt bX10_leastFine_63 (fun h63 => absurd h63 (nI_nlt (by omega) (by omega))) (fun _ => ?_)
    refine ok_step (ps := []) (L' := [some (.ref 1), some (.int (nI x)), some (.int (nI ((sumN (fk (μ 95)) (cn (μ 95) 4))))), some (.int (nI f))]) (st' := [.int (nI x), .int (nI ((sumN (fk (μ 95)) (cn (μ 95) 4))))]) (σ' := (α, μ)) (pc' := 68) kX10_leastFine_66 rfl rfl rf_a0 ?_
    refine ok_icmp_gt bX10_leastFine_68 (fun h68 => ?_) (fun h68 => ?_)
    · have q := h68
      rw [nI_ltI (by omega) (by omega)] at q
      refine ok_step (ps := []) (L' := [some (.ref 1), some (.int (nI x)), some (.int (nI ((sumN (fk (μ 95)) (cn (μ 95) 4))))), some (.int (nI f))]) (st' := [.int (-1)]) (σ' := (α, μ)) (pc' := 91) kX10_leastFine_90 rfl rfl rf_a0 ?_
      refine ok_reti eX10_leastFine_91 rfl ?_
      exact ⟨by rw [tn_none hI q, tI, if_neg (by omega)], _, rfl, hJ⟩
    · have q := h68
      rw [nI_ltI (by omega) (by omega)] at q
      refine ok_step (ps := []) (L' := [some (.ref 1), some (.int (nI x)), some (.int (nI ((sumN (fk (μ 95)) (cn (μ 95) 4))))), some (.int (nI f))]) (st' := [.int ((nI x) - (nI ((sumN (fk (μ 95)) (cn (μ 95) 4))))), .int (nI f), .ref 1]) (σ' := (α, μ)) (pc' := 76) kX10_leastFine_71 rfl rfl rf_a0 ?_
      try rw [(show ((nI x) - (nI ((sumN (fk (μ 95)) (cn (μ 95) 4))))) = nI ((x - ((sumN (fk (μ 95)) (cn (μ 95) 4))))) from rf_eq (rf_nsub (x := nI x) (y := nI ((sumN (fk (μ 95)) (cn (μ 95) 4)))) rfl rfl (by omega)) (by omega))]
      refine ok_Vx (As := [.int (nI f), .int (nI ((x - ((sumN (fk (μ 95)) (cn (μ 95) 4))))))]) (b := 1) (st := []) mkX10_isTurned qX10_leastFine_76 rfl (rc_1) rfl rfl rfl rfl (Nat.le_of_ble_eq_true rfl) (c_tu hJ (by omega) (by omega)) (fun r1 σ1 hq => ?_)
      obtain ⟨rfl, α, rfl, hJ⟩ := hq
      have hR := hJ.1.1.1
      refine ok_if_eq bX10_leastFine_79 (fun h79 => ?_) (fun h79 => ?_)
      · refine ok_step (ps := []) (L' := [some (.ref 1), some (.int (nI x)), some (.int (nI ((sumN (fk (μ 95)) (cn (μ 95) 4))))), some (.int ((nI f) + (nI 1)))]) (st' := []) (σ' := (α, μ)) (pc' := 87) kX10_leastFine_84 rfl rfl rf_a0 ?_
        try rw [(show ((nI f) + (nI 1)) = nI (f + 1) from nI_add _ _)]
        refine ok_goto bX10_leastFine_87 ?_
        rw [show tn (μ 95) x (k + 1) f = tn (μ 95) x k (f + 1) from by rw [tn, if_neg (by have := of_decide_eq_false (bI_0.mp h79); omega)]]
        exact ih (f + 1) α hJ (by omega)
      · refine ok_step (ps := []) (L' := [some (.ref 1), some (.int (nI x)), some (.int (nI ((sumN (fk (μ 95)) (cn (μ 95) 4))))), some (.int (nI f))]) (st' := [.int (nI f)]) (σ' := (α, μ)) (pc' := 83) kX10_leastFine_82 rfl rfl rf_a0 ?_
        refine ok_reti eX10_leastFine_83 rfl ?_
        exact ⟨by rw [tn, if_pos (by have := of_decide_eq_true (bI_n0.mp h79); omega), tI, if_pos (by omega)], _, rfl, hJ⟩
theorem c_lf1 {x : Nat} (hx : x ≤ 99999) : ∀ (j i : Nat) (α : Nat → Nat → Int32), J α μ → i + j = cn (μ 95) 4 → rf_Ok (rf_T Ln xs) MX10_leastFine 9 4 [some (.ref 1), some (.int (nI x)), some (.int (nI ((sumN (fk (μ 95)) i)))), some (.int (nI i))] [] (α, μ) (fun r s => r = some (.int (tI (tn (μ 95) x 1000 0))) ∧ ∃ α' : Nat → Nat → Int32, s = (α', μ) ∧ J α' μ) := by
  intro j
  induction j with
  | zero =>
    intro i α hJ hj
    have hR := hJ.1.1.1
    have hI := hJ.2
    have b0 := hI.le0
    have b2 := hI.le2
    have b3 := hI.le3
    have b4 := hI.le4
    have b5 := hI.le5
    have b8 := hI.le8
    have b9 := hI.le9
    have hs := s16 (f := fk (μ 95)) (n := i) (fun g hg => fk_le hI (by omega)) (by omega)
    have hj : i = cn (μ 95) 4 := by omega
    refine ok_step (ps := []) (L' := [some (.ref 1), some (.int (nI x)), some (.int (nI ((sumN (fk (μ 95)) i)))), some (.int (nI i))]) (st' := [.int (α 10 0), .int (nI i)]) (σ' := (α, μ)) (pc' := 12) kX10_leastFine_4 rfl rfl rf_a0 ?_
    try rw [(show α 10 0 = μ 95 4 from hR 9 0 4 rfl)]
    refine ok_icmp_ge bX10_leastFine_12 (fun _ => ?_) (fun h12 => absurd (le_of hI.at4 (by omega) (by omega)) h12)
    refine ok_step (ps := []) (L' := [some (.ref 1), some (.int (nI x)), some (.int (nI ((sumN (fk (μ 95)) i)))), some (.int (nI 0))]) (st' := []) (σ' := (α, μ)) (pc' := 59) kX10_leastFine_57 rfl rfl rf_a0 ?_
    subst hj
    exact c_lf2 hx 1000 0 α hJ (by omega)
  | succ j ih =>
    intro i α hJ hj
    have hR := hJ.1.1.1
    have hI := hJ.2
    have b0 := hI.le0
    have b2 := hI.le2
    have b3 := hI.le3
    have b4 := hI.le4
    have b5 := hI.le5
    have b8 := hI.le8
    have b9 := hI.le9
    have hs := s16 (f := fk (μ 95)) (n := i) (fun g hg => fk_le hI (by omega)) (by omega)
    have b190 := hI.leb (b := 7) (bd_190 (i := i) (by omega) rfl) (by decide)
    refine ok_step (ps := []) (L' := [some (.ref 1), some (.int (nI x)), some (.int (nI ((sumN (fk (μ 95)) i)))), some (.int (nI i))]) (st' := [.int (α 10 0), .int (nI i)]) (σ' := (α, μ)) (pc' := 12) kX10_leastFine_4 rfl rfl rf_a0 ?_
    try rw [(show α 10 0 = μ 95 4 from hR 9 0 4 rfl)]
    refine ok_icmp_ge bX10_leastFine_12 (fun h12 => absurd h12 (nle_of hI.at4 (by omega) (by omega))) (fun _ => ?_)
    refine ok_step (ps := [rf_in (nI i) 16]) (L' := [some (.ref 1), some (.int (nI x)), some (.int (nI ((sumN (fk (μ 95)) i)))), some (.int (nI i))]) (st' := [.int (nI 2), .int (α 11 ((nI i).toNatClampNeg))]) (σ' := (α, μ)) (pc' := 25) kX10_leastFine_15 rfl rfl (rf_a1 (rf_in_n (a := i) rfl (by omega)) rf_a0) ?_
    try rw [(show (nI i).toNatClampNeg = i from rf_cl_n rfl (by omega))]
    try rw [(show α 11 i = μ 95 (190 + 8 * i) from rl_10 hR (i := i) (by omega) (by omega))]
    rw [show μ 95 (190 + 8 * i) = nI (cn (μ 95) (190 + 8 * i)) from (hI.atb (k := (190 + 8 * i)) (bd_190 (i := i) (by omega) (by omega)) (by decide))]
    refine ok_S (As := [.int (nI (cn (μ 95) (190 + 8 * i))), .int (nI 2)]) (st := []) mkX11_isUnder qX10_leastFine_25 rfl rfl rfl rfl rfl (Nat.le_of_ble_eq_true rfl) (c_isUnder (by omega) (by omega)) ?_
    refine ok_if_ne bX10_leastFine_28 (fun h28 => ?_) (fun h28 => ?_)
    · refine ok_step (ps := []) (L' := [some (.ref 1), some (.int (nI x)), some (.int (nI ((sumN (fk (μ 95)) i)))), some (.int ((nI i) + (nI 1)))]) (st' := []) (σ' := (α, μ)) (pc' := 54) kX10_leastFine_51 rfl rfl rf_a0 ?_
      try rw [(show ((nI i) + (nI 1)) = nI (i + 1) from nI_add _ _)]
      refine ok_goto bX10_leastFine_54 ?_
      rw [show (nI ((sumN (fk (μ 95)) i)) : Int32) = nI (sumN (fk (μ 95)) (i + 1)) from fk_0 (bI_n0.mp h28)]
      exact ih (i + 1) α hJ (by omega)
    · refine ok_step (ps := []) (L' := [some (.ref 1), some (.int (nI x)), some (.int (nI ((sumN (fk (μ 95)) i)))), some (.int (nI i))]) (st' := [.int (nI i), .ref 1]) (σ' := (α, μ)) (pc' := 33) kX10_leastFine_31 rfl rfl rf_a0 ?_
      refine ok_Vx (As := [.int (nI i)]) (b := 1) (st := []) mkX10_paysNow qX10_leastFine_33 rfl (rc_1) rfl rfl rfl rfl (Nat.le_of_ble_eq_true rfl) (c_now hJ (by omega)) (fun r1 σ1 hq => ?_)
      obtain ⟨rfl, α, rfl, hJ⟩ := qJ hJ hq
      have hR := hJ.1.1.1
      refine ok_if_ne bX10_leastFine_36 (fun h36 => ?_) (fun h36 => ?_)
      · refine ok_step (ps := []) (L' := [some (.ref 1), some (.int (nI x)), some (.int (nI ((sumN (fk (μ 95)) i)))), some (.int ((nI i) + (nI 1)))]) (st' := []) (σ' := (α, μ)) (pc' := 54) kX10_leastFine_51 rfl rfl rf_a0 ?_
        try rw [(show ((nI i) + (nI 1)) = nI (i + 1) from nI_add _ _)]
        refine ok_goto bX10_leastFine_54 ?_
        rw [show (nI ((sumN (fk (μ 95)) i)) : Int32) = nI (sumN (fk (μ 95)) (i + 1)) from fk_1 (bI_0.mp h28) (bI_n0.mp h36)]
        exact ih (i + 1) α hJ (by omega)
      · refine ok_step (ps := [rf_in (nI i) 16]) (L' := [some (.ref 1), some (.int (nI x)), some (.int ((nI ((sumN (fk (μ 95)) i))) + (α 15 ((nI i).toNatClampNeg)))), some (.int (nI i))]) (st' := []) (σ' := (α, μ)) (pc' := 51) kX10_leastFine_39 rfl rfl (rf_a1 (rf_in_n (a := i) rfl (by omega)) rf_a0) ?_
        try rw [(show (nI i).toNatClampNeg = i from rf_cl_n rfl (by omega))]
        try rw [(show α 15 i = μ 95 (194 + 8 * i) from rl_14 hR (i := i) (by omega) (by omega))]
        try rw [(show ((nI ((sumN (fk (μ 95)) i))) + (μ 95 (194 + 8 * i))) = nI ((sumN (fk (μ 95)) i) + cn (μ 95) (194 + 8 * i)) from rf_eq (rf_nadd (x := nI ((sumN (fk (μ 95)) i))) (y := μ 95 (194 + 8 * i)) rfl (hI.atb (k := (194 + 8 * i)) (bd_194 (i := i) (by omega) (by omega)) (by decide))) (by omega))]
        refine ok_step (ps := []) (L' := [some (.ref 1), some (.int (nI x)), some (.int (nI ((sumN (fk (μ 95)) i) + cn (μ 95) (194 + 8 * i)))), some (.int ((nI i) + (nI 1)))]) (st' := []) (σ' := (α, μ)) (pc' := 54) kX10_leastFine_51 rfl rfl rf_a0 ?_
        try rw [(show ((nI i) + (nI 1)) = nI (i + 1) from nI_add _ _)]
        refine ok_goto bX10_leastFine_54 ?_
        rw [show (nI ((sumN (fk (μ 95)) i) + cn (μ 95) (194 + 8 * i)) : Int32) = nI (sumN (fk (μ 95)) (i + 1)) from fk_2 hI (by omega) (bI_0.mp h28) (bI_0.mp h36)]
        exact ih (i + 1) α hJ (by omega)
theorem c_lf {x : Nat} (hJ : J α μ) (hx : x ≤ 99999) : rf_Ok (rf_T Ln xs) MX10_leastFine 9 0 [some (.ref 1), some (.int (nI x)), none, none] [] (α, μ) (fun r s => r = some (.int (tI (tn (μ 95) x 1000 0))) ∧ ∃ α' : Nat → Nat → Int32, s = (α', μ) ∧ J α' μ) := by
  refine ok_step (ps := []) (L' := [some (.ref 1), some (.int (nI x)), some (.int (nI 0)), some (.int (nI 0))]) (st' := []) (σ' := (α, μ)) (pc' := 4) kX10_leastFine_0 rfl rfl rf_a0 ?_
  exact c_lf1 hx (cn (μ 95) 4) 0 α hJ (by omega)
theorem m_tu {x : Nat} {Q : Option Value → rf_Mem → Prop} (hx : x ≤ 99999) : ∀ (k f : Nat) (ν : Nat → Nat → Int32), J α ν → ν 95 = d → f + k = 1000 → (∀ ν : Nat → Nat → Int32, J α ν → tn d x k f < 1000 → Q (some (.int (nI (tn d x k f)))) (γ, ν)) → (∀ ν : Nat → Nat → Int32, J α ν → tn d x k f = 1000 → Q (some (.int ((-1000000000) - nI 2))) (γ, rf_w ν 97 2 (ν 97 2 + nI 1))) → rf_Ok (rf_T Ln xs) MX12_turn 60 20 [some (.ref 94), some (.int (nI x)), some (.int (nI f))] [] (γ, ν) Q := by
  intro k
  induction k with
  | zero =>
    intro f ν hJ hd hj q1 q2
    have hI : Iv d := by rw [← hd]; exact hJ.2
    have b0 := hI.le0
    have b2 := hI.le2
    have b3 := hI.le3
    have b4 := hI.le4
    have b5 := hI.le5
    have b8 := hI.le8
    have b9 := hI.le9
    obtain rfl : f = 1000 := by omega
    refine ok_step (ps := []) (L' := [some (.ref 94), some (.int (nI x)), some (.int (nI 1000))]) (st' := [.int (nI 1000), .int (nI 1000)]) (σ' := (γ, ν)) (pc' := 24) kX12_turn_20 rfl rfl rf_a0 ?_
    refine ok_icmp_ge bX12_turn_24 (fun _ => ?_) (fun h24 => absurd (nI_le (by omega) (by omega)) h24)
    refine ok_step (ps := []) (L' := [some (.ref 94), some (.int (nI x)), some (.int (nI 1000))]) (st' := [.int (nI 2), .ref 94]) (σ' := (γ, ν)) (pc' := 46) kX12_turn_44 rfl rfl rf_a0 ?_
    refine ok_V (As := [.int (nI 2)]) (b := 94) (st := []) mkX12_finds qX12_turn_46 rfl (rc_94) rfl rfl rfl rfl (Nat.le_of_ble_eq_true rfl) (m_finds (k := 2) (by decide)) ?_
    refine ok_reti eX12_turn_49 rfl ?_
    exact q2 ν hJ rfl
  | succ k ih =>
    intro f ν hJ hd hj q1 q2
    have hI : Iv d := by rw [← hd]; exact hJ.2
    have b0 := hI.le0
    have b2 := hI.le2
    have b3 := hI.le3
    have b4 := hI.le4
    have b5 := hI.le5
    have b8 := hI.le8
    have b9 := hI.le9
    have hs := s16 (f := fu d (nI f)) (n := cn d 4) (fun g hg => fu_le hI (by omega)) (by omega)
    refine ok_step (ps := []) (L' := [some (.ref 94), some (.int (nI x)), some (.int (nI f))]) (st' := [.int (nI 1000), .int (nI f)]) (σ' := (γ, ν)) (pc' := 24) kX12_turn_20 rfl rfl rf_a0 ?_
    refine ok_icmp_ge bX12_turn_24 (fun h24 => absurd h24 (nI_ge (by omega) (by omega))) (fun _ => ?_)
    refine ok_step (ps := []) (L' := [some (.ref 94), some (.int (nI x)), some (.int (nI f))]) (st' := [.int (nI f), .ref 94]) (σ' := (γ, ν)) (pc' := 29) kX12_turn_27 rfl rfl rf_a0 ?_
    refine ok_Vx (As := [.int (nI f)]) (b := 94) (st := []) mkX12_unpaidBy qX12_turn_29 rfl (rc_94) rfl rfl rfl rfl (Nat.le_of_ble_eq_true rfl) (m_ub hJ hd) (fun r1 σ1 hq => ?_)
    obtain ⟨rfl, ν, rfl, hJ, hd⟩ := hq
    rw [unp_n hI]
    refine ok_step (ps := []) (L' := [some (.ref 94), some (.int (nI x)), some (.int (nI f))]) (st' := [.int (nI x), .int (nI (sumN (fu d (nI f)) (cn d 4)))]) (σ' := (γ, ν)) (pc' := 33) kX12_turn_32 rfl rfl rf_a0 ?_
    refine ok_icmp_gt bX12_turn_33 (fun h33 => ?_) (fun h33 => ?_)
    · refine ok_step (ps := []) (L' := [some (.ref 94), some (.int (nI x)), some (.int ((nI f) + (nI 1)))]) (st' := []) (σ' := (γ, ν)) (pc' := 41) kX12_turn_38 rfl rfl rf_a0 ?_
      try rw [(show ((nI f) + (nI 1)) = nI (f + 1) from nI_add _ _)]
      refine ok_goto bX12_turn_41 ?_
      rw [nI_ltI (by omega) (by omega)] at h33
      have e : tn d x (k + 1) f = tn d x k (f + 1) := by rw [tn, if_neg (by omega)]
      rw [e] at q1 q2
      exact ih (f + 1) ν hJ hd (by omega) q1 q2
    · refine ok_step (ps := []) (L' := [some (.ref 94), some (.int (nI x)), some (.int (nI f))]) (st' := [.int (nI f)]) (σ' := (γ, ν)) (pc' := 37) kX12_turn_36 rfl rfl rf_a0 ?_
      refine ok_reti eX12_turn_37 rfl ?_
      rw [nI_ltI (by omega) (by omega)] at h33
      have e : tn d x (k + 1) f = f := by rw [tn, if_pos (by omega)]
      rw [e] at q1
      exact q1 ν hJ (by omega)
theorem op_turn {x0 : Int32} (hJ : J α μ)  : Op (rf_T Ln xs) MX11_turn MX12_turn [some (.ref 0), some (.int x0), none] [some (.ref 94), some (.int x0), none] α μ := by
  have hR := hJ.1.1.1
  have hI := hJ.2
  have b0 := hI.le0
  have b1 := hI.le1
  have b2 := hI.le2
  have b3 := hI.le3
  have b4 := hI.le4
  have b5 := hI.le5
  have b6 := hI.le6
  have b8 := hI.le8
  have b9 := hI.le9
  have b11 := hI.le11
  have b12 := hI.le12
  refine ok_step (ps := []) (L' := [some (.ref 0), some (.int x0), none]) (st' := [.int (nI 99999), .int (nI 0), .int x0]) (σ' := (α, μ)) (pc' := 5) kX11_turn_0 rfl rfl rf_a0 ?_
  refine ok_S (As := [.int x0, .int (nI 0), .int (nI 99999)]) (st := []) mkX11_within qX11_turn_5 rfl rfl rfl rfl rfl (Nat.le_of_ble_eq_true rfl) (c_within) ?_
  refine ok_if_ne bX11_turn_8 (fun h8 => ?_) (fun h8 => ?_)
  · obtain ⟨x, hx1, hx2, rfl⟩ := wi_of (bI_n0.mp h8) (by decide) (by decide)
    have ht := tn_le (d := μ 95) (x := x) 1000 0
    refine ok_step (ps := []) (L' := [some (.ref 0), some (.int (nI x)), none]) (st' := [.int (nI x), .ref 1]) (σ' := (α, μ)) (pc' := 23) kX11_turn_18 rfl rfl rf_a0 ?_
    refine ok_Vx (As := [.int (nI x)]) (b := 1) (st := []) mkX10_leastFine qX11_turn_23 rfl (rc_1) rfl rfl rfl rfl (Nat.le_of_ble_eq_true rfl) (c_lf hJ (by omega)) (fun r1 σ1 hq => ?_)
    obtain ⟨rfl, α, rfl, hJ⟩ := hq
    refine ok_step (ps := []) (L' := [some (.ref 0), some (.int (nI x)), some (.int (tI (tn (μ 95) x 1000 0)))]) (st' := [.int (tI (tn (μ 95) x 1000 0))]) (σ' := (α, μ)) (pc' := 28) kX11_turn_26 rfl rfl rf_a0 ?_
    refine ok_if_ge bX11_turn_28 (fun h28 => ?_) (fun h28 => ?_)
    · refine ok_step (ps := []) (L' := [some (.ref 0), some (.int (nI x)), some (.int (tI (tn (μ 95) x 1000 0)))]) (st' := [.int (tI (tn (μ 95) x 1000 0))]) (σ' := (α, μ)) (pc' := 41) kX11_turn_40 rfl rfl rf_a0 ?_
      refine ok_reti eX11_turn_41 rfl ?_
      refine ⟨rfl, _, rfl, ?_⟩
      refine ok_step (ps := []) (L' := [some (.ref 94), some (.int (nI x)), none]) (st' := [.long (lN 99999), .long (lN 0), .long ((nI x).toInt64)]) (σ' := (α, μ)) (pc' := 6) kX12_turn_0 rfl rfl rf_a0 ?_
      refine ok_S (As := [.long ((nI x).toInt64), .long (lN 0), .long (lN 99999)]) (st := []) mkX12_in qX12_turn_6 rfl rfl rfl rfl rfl (Nat.le_of_ble_eq_true rfl) (m_in) ?_
      rw [show wl ((nI x).toInt64) (lN 0) (lN 99999) = wi (nI x) (nI 0) (nI 99999) from wl_of rfl (nI_l (by decide)).symm (nI_l (by decide)).symm]
      refine ok_if_ne bX12_turn_9 (fun _ => ?_) (fun g9 => absurd g9 (h8))
      refine ok_step (ps := []) (L' := [some (.ref 94), some (.int (nI x)), some (.int (nI 0))]) (st' := []) (σ' := (α, μ)) (pc' := 20) kX12_turn_18 rfl rfl rf_a0 ?_
      rw [tI_ge (by omega)] at h28
      refine m_tu (d := μ 95) hx2 1000 0 μ hJ rfl (by omega) (fun ν hJ2 e => ?_) (fun ν hJ2 e => ?_)
      · exact ⟨by rw [tI, if_pos e], _, rfl, hJ2⟩
      · exact absurd h28 (by omega)
    · refine ok_step (ps := []) (L' := [some (.ref 0), some (.int (nI x)), some (.int (tI (tn (μ 95) x 1000 0)))]) (st' := [.int (-1000000002), .ref 0]) (σ' := (α, μ)) (pc' := 34) kX11_turn_31 rfl rfl rf_a0 ?_
      refine ok_V (As := [.int (-1000000002)]) (b := 0) (st := []) mkX11_error qX11_turn_34 rfl (rc_0) rfl rfl rfl rfl (Nat.le_of_ble_eq_true rfl) (c_error (k := 2) (by decide) (by decide) (by decide)) ?_
      refine ok_goto bX11_turn_37 ?_
      refine ok_reti eX11_turn_41 rfl ?_
      refine ⟨rfl, _, rfl, ?_⟩
      refine ok_step (ps := []) (L' := [some (.ref 94), some (.int (nI x)), none]) (st' := [.long (lN 99999), .long (lN 0), .long ((nI x).toInt64)]) (σ' := (rf_w α 93 2 (α 93 2 + nI 1), μ)) (pc' := 6) kX12_turn_0 rfl rfl rf_a0 ?_
      refine ok_S (As := [.long ((nI x).toInt64), .long (lN 0), .long (lN 99999)]) (st := []) mkX12_in qX12_turn_6 rfl rfl rfl rfl rfl (Nat.le_of_ble_eq_true rfl) (m_in) ?_
      rw [show wl ((nI x).toInt64) (lN 0) (lN 99999) = wi (nI x) (nI 0) (nI 99999) from wl_of rfl (nI_l (by decide)).symm (nI_l (by decide)).symm]
      refine ok_if_ne bX12_turn_9 (fun _ => ?_) (fun g9 => absurd g9 (h8))
      refine ok_step (ps := []) (L' := [some (.ref 94), some (.int (nI x)), some (.int (nI 0))]) (st' := []) (σ' := (rf_w α 93 2 (α 93 2 + nI 1), μ)) (pc' := 20) kX12_turn_18 rfl rfl rf_a0 ?_
      rw [tI_ge (by omega)] at h28
      refine m_tu (d := μ 95) hx2 1000 0 μ hJ rfl (by omega) (fun ν hJ2 e => ?_) (fun ν hJ2 e => ?_)
      · exact absurd e h28
      · exact ⟨rfl, _, rfl, hJ2.err (k := 2) (by decide)⟩
  · refine ok_step (ps := []) (L' := [some (.ref 0), some (.int x0), none]) (st' := [.int (-1000000001), .ref 0]) (σ' := (α, μ)) (pc' := 14) kX11_turn_11 rfl rfl rf_a0 ?_
    refine ok_V (As := [.int (-1000000001)]) (b := 0) (st := []) mkX11_error qX11_turn_14 rfl (rc_0) rfl rfl rfl rfl (Nat.le_of_ble_eq_true rfl) (c_error (k := 1) (by decide) (by decide) (by decide)) ?_
    refine ok_reti eX11_turn_17 rfl ?_
    refine ⟨rfl, _, rfl, ?_⟩
    refine ok_step (ps := []) (L' := [some (.ref 94), some (.int x0), none]) (st' := [.long (lN 99999), .long (lN 0), .long x0.toInt64]) (σ' := (rf_w α 93 1 (α 93 1 + nI 1), μ)) (pc' := 6) kX12_turn_0 rfl rfl rf_a0 ?_
    refine ok_S (As := [.long x0.toInt64, .long (lN 0), .long (lN 99999)]) (st := []) mkX12_in qX12_turn_6 rfl rfl rfl rfl rfl (Nat.le_of_ble_eq_true rfl) (m_in) ?_
    rw [show wl x0.toInt64 (lN 0) (lN 99999) = wi x0 (nI 0) (nI 99999) from wl_of rfl (nI_l (by decide)).symm (nI_l (by decide)).symm]
    refine ok_if_ne bX12_turn_9 (fun g9 => absurd (h8) g9) (fun _ => ?_)
    refine ok_step (ps := []) (L' := [some (.ref 94), some (.int x0), none]) (st' := [.int (nI 1), .ref 94]) (σ' := (rf_w α 93 1 (α 93 1 + nI 1), μ)) (pc' := 14) kX12_turn_12 rfl rfl rf_a0 ?_
    refine ok_V (As := [.int (nI 1)]) (b := 94) (st := []) mkX12_finds qX12_turn_14 rfl (rc_94) rfl rfl rfl rfl (Nat.le_of_ble_eq_true rfl) (m_finds (k := 1) (by decide)) ?_
    refine ok_reti eX12_turn_17 rfl ?_
    exact ⟨rfl, _, rfl, hJ.err (k := 1) (by decide)⟩
end H49
