theorem stAt_n {d : Nat → Int32} {t i : Nat} (hI : Iv d) (ht : t < 12) (hi : i < cn d (90 + 13 * cn d (150 + 3 * t))) : ∃ m, m ≤ 7 ∧ s_stAt d t i = nI m := by
  have b1 := hI.leb (b := 3) (bd_150 (i := t) ht rfl) (by decide)
  have b2 := hI.leb (b := 6) (bd_90 (i := cn d (150 + 3 * t)) (by omega) rfl) (by decide)
  have key : ∀ k, k < 6 → ∃ m, m ≤ 7 ∧ d (91 + 13 * cn d (150 + 3 * t) + k) = nI m := fun k hk => by
    have hb := bd_row (l := cn d (150 + 3 * t)) (i := k) (k := 91 + 13 * cn d (150 + 3 * t) + k) (by omega) hk (by omega)
    exact ⟨_, hI.leb hb (by decide), hI.atb hb (by decide)⟩
  unfold s_stAt
  split
  · exact key i (by omega)
  · rw [show 90 + 13 * cn d (150 + 3 * t) + cn d (90 + 13 * cn d (150 + 3 * t)) - i = 91 + 13 * cn d (150 + 3 * t) + (cn d (90 + 13 * cn d (150 + 3 * t)) - 1 - i) by omega]
    exact key _ (by omega)
/-- a set of TRAINS has one -/
theorem hb_nat {n t : Nat} (hn : n < 4096) (ht : t < 12) : hb (nI n) (nI t) = decide (n / 2 ^ t % 2 = 1) := by
  have hs : ∀ t, t < 12 → ((nI t &&& 31 : Int32).toBitVec.smod 32).toNat = t := by decide
  unfold hb
  rw [pk_shrN (by omega) _ t (hs t ht), pk_andN (Nat.lt_of_le_of_lt (Nat.div_le_self _ _) (by omega)) 1 (by decide), Nat.pow_one]
  have h2 := Nat.mod_lt (n / 2 ^ t) (show 0 < 2 by decide)
  rw [decide_eq_decide]
  exact ⟨fun e => nI_inj e (by omega) (by decide), fun e => by rw [e]⟩
theorem sro_pos {d : Nat → Int32} {n : Nat} (hn : n < 4096) : ∀ i, i ≤ 12 → (sro d (nI n) i).1 = 0 → n % 2 ^ i = 0
  | 0, _, _ => Nat.mod_one n
  | i + 1, hi, h => by
    unfold sro at h
    by_cases hb1 : hb (nI n) (nI i) = true
    · rw [if_pos hb1] at h
      cases h
    · rw [if_neg hb1] at h
      have ih := sro_pos hn i (by omega) h
      rw [hb_nat hn (by omega)] at hb1
      have h2 : n / 2 ^ i % 2 = 0 := by
        have := Nat.mod_lt (n / 2 ^ i) (show 0 < 2 by decide)
        have h3 : ¬ n / 2 ^ i % 2 = 1 := fun e => hb1 (decide_eq_true e)
        omega
      rw [Nat.pow_succ, Nat.mod_mul, ih, h2, Nat.mul_zero]
theorem set_n {x y : Int32} {T : Nat} (hT : T ≤ 12) (hy : y = nI T) (h : wi x (nI 1) ((nI 1 <<< (y &&& 31)) - nI 1) = true) : ∃ n, 1 ≤ n ∧ n < 2 ^ T ∧ x = nI n := by
  subst hy
  have e : ∀ T, T ≤ 12 → (nI 1 <<< (nI T &&& 31)) - nI 1 = nI (2 ^ T - 1) := by decide
  rw [e T hT] at h
  have h2 : 2 ^ T ≤ 2 ^ 12 := Nat.pow_le_pow_right (by decide) hT
  have h3 : 1 ≤ 2 ^ T := Nat.one_le_two_pow
  obtain ⟨k, k1, k2, rfl⟩ := wi_of h (by decide) (by omega)
  exact ⟨k, k1, by omega, rfl⟩
theorem sro_1 {d : Nat → Int32} {n : Nat} (hI : Iv d) (h1 : 1 ≤ n) (h2 : n < 2 ^ cn d 3) : 1 ≤ (sro d (nI n) (cn d 3)).1 := by
  have b3 := hI.le3
  have h3 : 2 ^ cn d 3 ≤ 2 ^ 12 := Nat.pow_le_pow_right (by decide) b3
  rcases Nat.eq_zero_or_pos (sro d (nI n) (cn d 3)).1 with h | h
  · have := sro_pos (d := d) (n := n) (by omega) (cn d 3) b3 h
    rw [Nat.mod_eq_of_lt h2] at this
    omega
  · exact h
section H53
variable {Ln : Nat} {xs : Nat → Int32} {α μ ν δ γ : Nat → Nat → Int32}
theorem wy {set : Int32} {f : Nat → Nat} {n : Nat} (hI : Iv (μ 95)) (hn : n ≤ 12) (hf : ∀ k, k < n → f k < cn (μ 95) 3) : ∀ (j q : Nat) (lng : Int32), 1 + q + j = n → ∃ r : Int32, (∀ β, J β μ → (∀ k, k < n → β 36 k = nI (f k)) → rf_Ok (rf_T Ln xs) MX10_whyNotWalked 10 18 [some (.ref 1), some (.int set), some (.int (nI n)), some (.int lng), some (.int (nI (1 + q))), none, none] [] (β, μ) (fun r1 s => r1 = some (.int r) ∧ ∃ β' : Nat → Nat → Int32, s = (β', μ) ∧ J β' μ)) ∧ (∀ α γ ρ, J α ρ → ρ 95 = μ 95 → ρ 94 12 = nI n → (∀ k, k < n → ρ 99 k = nI (f k)) → rf_Ok (rf_T Ln xs) MX12_whyNot 50 9 [some (.ref 94), some (.int set), some (.int lng), some (.int (nI (1 + q))), none, none, none] [] (γ, ρ) (fun r1 s => r1 = some (.int r) ∧ ∃ ρ' : Nat → Nat → Int32, s = (γ, ρ') ∧ J α ρ')) := by
  have b3 := hI.le3
  intro j
  induction j with
  | zero =>
    intro q lng hj
    obtain rfl : n = 1 + q := by omega
    have f_0 := hf 0 (by omega)
    have z_0 := hI.2.1 _ (hI.2.2.1 _ f_0)
    have f_q := hf q (by omega)
    have z_q := hI.2.1 _ (hI.2.2.1 _ f_q)
    refine ⟨if gv 1 (μ 95) (nm5 (nI (1 + q)) (s_end (μ 95) (f q) - μ 95 (151 + 3 * f 0)) lng (μ 95 (151 + 3 * f 0)) (nI 0)) = 0 then nI 2 else nI 0, fun β hJ hr => ?_, fun α γ ρ hJ hd h12 hr => ?_⟩
    · have hR := hJ.1.1.1
      refine ok_step (ps := []) (L' := [some (.ref 1), some (.int set), some (.int (nI (1 + q))), some (.int lng), some (.int (nI (1 + q))), none, none]) (st' := [.int (nI (1 + q)), .int (nI (1 + q))]) (σ' := (β, μ)) (pc' := 21) kX10_whyNotWalked_18 rfl rfl rf_a0 ?_
      refine ok_icmp_ge bX10_whyNotWalked_21 (fun _ => ?_) (fun h21 => absurd (nI_le (by omega) (by omega)) h21)
      refine ok_step (ps := []) (L' := [some (.ref 1), some (.int set), some (.int (nI (1 + q))), some (.int lng), some (.int (nI (1 + q))), none, none]) (st' := [.int (nI (1 + q))]) (σ' := (β, μ)) (pc' := 126) kX10_whyNotWalked_125 rfl rfl rf_a0 ?_
      refine ok_if_ne bX10_whyNotWalked_126 (fun _ => ?_) (fun h126 => absurd h126 (fun e => by have := nI_inj (b := 0) e (by omega) (by omega); omega))
      refine ok_step (ps := [rf_in (nI 0) 12, rf_in (β 36 ((nI 0).toNatClampNeg)) 12, rf_in ((nI (1 + q)) - (nI 1)) 12]) (L' := [some (.ref 1), some (.int set), some (.int (nI (1 + q))), some (.int lng), some (.int (β 8 ((β 36 ((nI 0).toNatClampNeg)).toNatClampNeg))), none, none]) (st' := [.int (β 36 (((nI (1 + q)) - (nI 1)).toNatClampNeg)), .ref 2]) (σ' := (β, μ)) (pc' := 159) kX10_whyNotWalked_131 rfl rfl (rf_a1 (rf_in_n (a := 0) rfl (by omega)) (rf_a1 (rf_in_n (a := (f 0)) (by (try rw [(show (nI 0).toNatClampNeg = 0 from rf_cl_n rfl (by omega))]); (try rw [(show β 36 0 = nI (f 0) from hr _ (by omega))]); all_goals exact rfl) (by omega)) (rf_a1 (rf_in_n (a := q) (by (try rw [(show (nI 0).toNatClampNeg = 0 from rf_cl_n rfl (by omega))]); (try rw [(show β 36 0 = nI (f 0) from hr _ (by omega))]); (try rw [(show (nI (f 0)).toNatClampNeg = (f 0) from rf_cl_n rfl (by omega))]); (try rw [(show β 8 (f 0) = μ 95 (151 + 3 * f 0) from rl_7 hR (i := (f 0)) (by omega) (by omega))]); (try rw [(show ((nI (1 + q)) - (nI 1)) = nI q from rf_eq (rf_nsub (x := nI (1 + q)) (y := nI 1) rfl rfl (by omega)) (by omega))]); all_goals exact rfl) (by omega)) rf_a0))) ?_
      try rw [(show (nI 0).toNatClampNeg = 0 from rf_cl_n rfl (by omega))]
      try rw [(show β 36 0 = nI (f 0) from hr _ (by omega))]
      try rw [(show (nI (f 0)).toNatClampNeg = (f 0) from rf_cl_n rfl (by omega))]
      try rw [(show β 8 (f 0) = μ 95 (151 + 3 * f 0) from rl_7 hR (i := (f 0)) (by omega) (by omega))]
      try rw [(show ((nI (1 + q)) - (nI 1)) = nI q from rf_eq (rf_nsub (x := nI (1 + q)) (y := nI 1) rfl rfl (by omega)) (by omega))]
      try rw [(show (nI q).toNatClampNeg = q from rf_cl_n rfl (by omega))]
      try rw [(show β 36 q = nI (f q) from hr _ (by omega))]
      refine ok_V (As := [.int (nI (f q))]) (b := 2) (st := []) mkX4_endOf qX10_whyNotWalked_159 rfl (rc_2) rfl rfl rfl rfl (Nat.le_of_ble_eq_true rfl) (c_end hR hI (by omega) (by omega)) ?_
      refine ok_step (ps := []) (L' := [some (.ref 1), some (.int set), some (.int (nI (1 + q))), some (.int lng), some (.int (μ 95 (151 + 3 * f 0))), some (.int ((s_end (μ 95) (f q)) - (μ 95 (151 + 3 * f 0)))), none]) (st' := [.int (μ 95 (151 + 3 * f 0)), .int lng, .int ((s_end (μ 95) (f q)) - (μ 95 (151 + 3 * f 0))), .int (nI (1 + q)), .ref 1]) (σ' := (β, μ)) (pc' := 174) kX10_whyNotWalked_162 rfl rfl rf_a0 ?_
      refine ok_Vx (As := [.int (nI (1 + q)), .int ((s_end (μ 95) (f q)) - (μ 95 (151 + 3 * f 0))), .int lng, .int (μ 95 (151 + 3 * f 0))]) (b := 1) (st := []) mkX10_rule qX10_whyNotWalked_174 rfl (rc_1) rfl rfl rfl rfl (Nat.le_of_ble_eq_true rfl) (c_rule hJ) (fun r1 σ1 hq => ?_)
      obtain ⟨rfl, β1, rfl, hJ1⟩ := qJ hJ hq
      refine ok_if_ne bX10_whyNotWalked_177 (fun h177 => ?_) (fun h177 => ?_)
      · refine ok_step (ps := []) (L' := [some (.ref 1), some (.int set), some (.int (nI (1 + q))), some (.int lng), some (.int (μ 95 (151 + 3 * f 0))), some (.int ((s_end (μ 95) (f q)) - (μ 95 (151 + 3 * f 0)))), none]) (st' := [.int (nI 0)]) (σ' := (β1, μ)) (pc' := 185) kX10_whyNotWalked_184 rfl rfl rf_a0 ?_
        refine ok_reti eX10_whyNotWalked_185 rfl ?_
        exact ⟨by rw [if_neg h177], _, rfl, hJ1⟩
      · refine ok_step (ps := []) (L' := [some (.ref 1), some (.int set), some (.int (nI (1 + q))), some (.int lng), some (.int (μ 95 (151 + 3 * f 0))), some (.int ((s_end (μ 95) (f q)) - (μ 95 (151 + 3 * f 0)))), none]) (st' := [.int (nI 2)]) (σ' := (β1, μ)) (pc' := 181) kX10_whyNotWalked_180 rfl rfl rf_a0 ?_
        refine ok_goto bX10_whyNotWalked_181 ?_
        refine ok_reti eX10_whyNotWalked_185 rfl ?_
        exact ⟨by rw [if_pos h177], _, rfl, hJ1⟩
    · have hI2 : Iv (ρ 95) := hJ.2
      refine ok_step (ps := []) (L' := [some (.ref 94), some (.int set), some (.int lng), some (.int (nI (1 + q))), none, none, none]) (st' := [.int (ρ 94 12), .int (nI (1 + q))]) (σ' := (γ, ρ)) (pc' := 14) kX12_whyNot_9 rfl rfl rf_a0 ?_
      try rw [(show ρ 94 12 = nI (1 + q) from h12)]
      refine ok_icmp_ge bX12_whyNot_14 (fun _ => ?_) (fun h14 => absurd (nI_le (by omega) (by omega)) h14)
      refine ok_step (ps := [rf_in (nI 0) 5, rf_in (((rf_w ρ 98 ((nI 0).toNatClampNeg) (ρ 94 12)) 94 12) - (nI 1)) 12]) (L' := [some (.ref 94), some (.int set), some (.int lng), some (.int (nI (1 + q))), none, none, none]) (st' := [.int ((rf_w ρ 98 ((nI 0).toNatClampNeg) (ρ 94 12)) 99 ((((rf_w ρ 98 ((nI 0).toNatClampNeg) (ρ 94 12)) 94 12) - (nI 1)).toNatClampNeg)), .ref 94, .int (nI 1), .ref 98]) (σ' := (γ, rf_w ρ 98 ((nI 0).toNatClampNeg) (ρ 94 12))) (pc' := 145) kX12_whyNot_118 rfl rfl (rf_a1 (rf_in_n (a := 0) rfl (by omega)) (rf_a1 (rf_in_n (a := q) (by (try rw [(show ρ 94 12 = nI (1 + q) from h12)]); (try rw [(show (nI 0).toNatClampNeg = 0 from rf_cl_n rfl (by omega))]); (try rw [(show (rf_w ρ 98 0 (nI (1 + q))) 94 12 = ρ 94 12 from by rw [rf_w_at, if_neg (fun h => absurd h.1 (by decide))])]); (try rw [(show ρ 94 12 = nI (1 + q) from h12)]); (try rw [(show ((nI (1 + q)) - (nI 1)) = nI q from rf_eq (rf_nsub (x := nI (1 + q)) (y := nI 1) rfl rfl (by omega)) (by omega))]); all_goals exact rfl) (by omega)) rf_a0)) ?_
      try rw [(show ρ 94 12 = nI (1 + q) from h12)]
      try rw [(show (nI 0).toNatClampNeg = 0 from rf_cl_n rfl (by omega))]
      try rw [(show (rf_w ρ 98 0 (nI (1 + q))) 94 12 = ρ 94 12 from by rw [rf_w_at, if_neg (fun h => absurd h.1 (by decide))])]
      try rw [(show ρ 94 12 = nI (1 + q) from h12)]
      try rw [(show ((nI (1 + q)) - (nI 1)) = nI q from rf_eq (rf_nsub (x := nI (1 + q)) (y := nI 1) rfl rfl (by omega)) (by omega))]
      try rw [(show (nI q).toNatClampNeg = q from rf_cl_n rfl (by omega))]
      try rw [(show (rf_w ρ 98 0 (nI (1 + q))) 99 q = ρ 99 q from by rw [rf_w_at, if_neg (fun h => absurd h.1 (by decide))])]
      try rw [(show ρ 99 q = nI (f q) from hr _ (by omega))]
      refine ok_V (As := [.int (nI (f q))]) (b := 94) (st := [.int (nI 1), .ref 98]) mkX12_endOf qX12_whyNot_145 rfl (rc_94) rfl rfl rfl rfl (Nat.le_of_ble_eq_true rfl) (m_end_d (d := μ 95) hI (show (rf_w ρ 98 0 (nI (1 + q))) 95 = μ 95 from by (repeat rw [rf_w_row (by decide)]); exact hd) (by omega) (by omega)) ?_
      refine ok_step (ps := [rf_in (nI 0) 12]) (L' := [some (.ref 94), some (.int set), some (.int lng), some (.int (nI (1 + q))), none, none, none]) (st' := [.int ((rf_w ρ 98 0 (nI (1 + q))) 99 ((nI 0).toNatClampNeg)), .ref 94, .int (s_end (μ 95) (f q)), .int (nI 1), .ref 98]) (σ' := (γ, rf_w ρ 98 0 (nI (1 + q)))) (pc' := 155) kX12_whyNot_148 rfl rfl (rf_a1 (rf_in_n (a := 0) rfl (by omega)) rf_a0) ?_
      try rw [(show (nI 0).toNatClampNeg = 0 from rf_cl_n rfl (by omega))]
      try rw [(show (rf_w ρ 98 0 (nI (1 + q))) 99 0 = ρ 99 0 from by rw [rf_w_at, if_neg (fun h => absurd h.1 (by decide))])]
      try rw [(show ρ 99 0 = nI (f 0) from hr _ (by omega))]
      refine ok_V (As := [.int (nI (f 0))]) (b := 94) (st := [.int (s_end (μ 95) (f q)), .int (nI 1), .ref 98]) mkX12_startOf qX12_whyNot_155 rfl (rc_94) rfl rfl rfl rfl (Nat.le_of_ble_eq_true rfl) (m_startOf_d (d := μ 95) hI (show (rf_w ρ 98 0 (nI (1 + q))) 95 = μ 95 from by (repeat rw [rf_w_row (by decide)]); exact hd) (by omega)) ?_
      refine ok_step (ps := [rf_in (nI 1) 5, rf_in (nI 2) 5, rf_in (nI 0) 12]) (L' := [some (.ref 94), some (.int set), some (.int lng), some (.int (nI (1 + q))), none, none, none]) (st' := [.int ((rf_w (rf_w (rf_w ρ 98 0 (nI (1 + q))) 98 ((nI 1).toNatClampNeg) ((s_end (μ 95) (f q)) - (μ 95 (151 + 3 * f 0)))) 98 ((nI 2).toNatClampNeg) lng) 99 ((nI 0).toNatClampNeg)), .ref 94, .int (nI 3), .ref 98]) (σ' := (γ, rf_w (rf_w (rf_w ρ 98 0 (nI (1 + q))) 98 ((nI 1).toNatClampNeg) ((s_end (μ 95) (f q)) - (μ 95 (151 + 3 * f 0)))) 98 ((nI 2).toNatClampNeg) lng)) (pc' := 179) kX12_whyNot_158 rfl rfl (rf_a1 (rf_in_n (a := 1) rfl (by omega)) (rf_a1 (rf_in_n (a := 2) rfl (by omega)) (rf_a1 (rf_in_n (a := 0) rfl (by omega)) rf_a0))) ?_
      try rw [(show (nI 1).toNatClampNeg = 1 from rf_cl_n rfl (by omega))]
      try rw [(show (nI 2).toNatClampNeg = 2 from rf_cl_n rfl (by omega))]
      try rw [(show (nI 0).toNatClampNeg = 0 from rf_cl_n rfl (by omega))]
      try rw [(show (rf_w (rf_w (rf_w ρ 98 0 (nI (1 + q))) 98 1 ((s_end (μ 95) (f q)) - (μ 95 (151 + 3 * f 0)))) 98 2 lng) 99 0 = (rf_w (rf_w ρ 98 0 (nI (1 + q))) 98 1 ((s_end (μ 95) (f q)) - (μ 95 (151 + 3 * f 0)))) 99 0 from by rw [rf_w_at, if_neg (fun h => absurd h.1 (by decide))])]
      try rw [(show (rf_w (rf_w ρ 98 0 (nI (1 + q))) 98 1 ((s_end (μ 95) (f q)) - (μ 95 (151 + 3 * f 0)))) 99 0 = (rf_w ρ 98 0 (nI (1 + q))) 99 0 from by rw [rf_w_at, if_neg (fun h => absurd h.1 (by decide))])]
      try rw [(show (rf_w ρ 98 0 (nI (1 + q))) 99 0 = ρ 99 0 from by rw [rf_w_at, if_neg (fun h => absurd h.1 (by decide))])]
      try rw [(show ρ 99 0 = nI (f 0) from hr _ (by omega))]
      refine ok_V (As := [.int (nI (f 0))]) (b := 94) (st := [.int (nI 3), .ref 98]) mkX12_startOf qX12_whyNot_179 rfl (rc_94) rfl rfl rfl rfl (Nat.le_of_ble_eq_true rfl) (m_startOf_d (d := μ 95) hI (show (rf_w (rf_w (rf_w ρ 98 0 (nI (1 + q))) 98 1 ((s_end (μ 95) (f q)) - (μ 95 (151 + 3 * f 0)))) 98 2 lng) 95 = μ 95 from by (repeat rw [rf_w_row (by decide)]); exact hd) (by omega)) ?_
      refine ok_step (ps := [rf_in (nI 3) 5]) (L' := [some (.ref 94), some (.int set), some (.int lng), some (.int (nI (1 + q))), none, none, none]) (st' := [.int (nI 1), .ref 94]) (σ' := (γ, rf_w (rf_w (rf_w (rf_w ρ 98 0 (nI (1 + q))) 98 1 ((s_end (μ 95) (f q)) - (μ 95 (151 + 3 * f 0)))) 98 2 lng) 98 ((nI 3).toNatClampNeg) (μ 95 (151 + 3 * f 0)))) (pc' := 185) kX12_whyNot_182 rfl rfl (rf_a1 (rf_in_n (a := 3) rfl (by omega)) rf_a0) ?_
      try rw [(show (nI 3).toNatClampNeg = 3 from rf_cl_n rfl (by omega))]
      have hB0 : sB ρ (rf_w (rf_w (rf_w (rf_w ρ 98 0 (nI (1 + q))) 98 1 (s_end (μ 95) (f q) - μ 95 (151 + 3 * f 0))) 98 2 lng) 98 3 (μ 95 (151 + 3 * f 0))) := ⟨fun k k1 k2 => by rw [rf_w_row k2, rf_w_row k2, rf_w_row k2, rf_w_row k2], fun i hi => by rw [rf_w_row (by decide), rf_w_row (by decide), rf_w_row (by decide), rf_w_row (by decide)]⟩
      have hJ1 := hJ.sB hB0
      refine ok_Vx (As := [.int (nI 1)]) (b := 94) (st := []) mkX12_gives qX12_whyNot_185 rfl (rc_94) rfl rfl rfl rfl (Nat.le_of_ble_eq_true rfl) (m_gives_1 hJ1) (fun r1 σ1 hq => ?_)
      obtain ⟨rfl, ρ1, rfl, hB⟩ := hq
      have eg := gv_congr (u := 1) (by decide) hJ1.1.1.2.2 (nm' := (rf_w (rf_w (rf_w (rf_w ρ 98 0 (nI (1 + q))) 98 1 (s_end (μ 95) (f q) - μ 95 (151 + 3 * f 0))) 98 2 lng) 98 3 (μ 95 (151 + 3 * f 0))) 98) (nm := (nm5 (nI (1 + q)) (s_end (μ 95) (f q) - μ 95 (151 + 3 * f 0)) lng (μ 95 (151 + 3 * f 0)) (nI 0))) (fun i hi => by
        have hc : i = 0 ∨ i = 1 ∨ i = 2 ∨ i = 3 := by omega
        rcases hc with rfl | rfl | rfl | rfl <;> simp [rf_w_at, nm5])
      have h95 : (rf_w (rf_w (rf_w (rf_w ρ 98 0 (nI (1 + q))) 98 1 (s_end (μ 95) (f q) - μ 95 (151 + 3 * f 0))) 98 2 lng) 98 3 (μ 95 (151 + 3 * f 0))) 95 = μ 95 := by rw [rf_w_row (by decide), rf_w_row (by decide), rf_w_row (by decide), rf_w_row (by decide)]; exact hd
      rw [eg, h95]
      refine ok_if_ne bX12_whyNot_188 (fun h188 => ?_) (fun h188 => ?_)
      · refine ok_step (ps := []) (L' := [some (.ref 94), some (.int set), some (.int lng), some (.int (nI (1 + q))), none, none, none]) (st' := [.int (nI 0)]) (σ' := (γ, ρ1)) (pc' := 196) kX12_whyNot_195 rfl rfl rf_a0 ?_
        refine ok_reti eX12_whyNot_196 rfl ?_
        exact ⟨by rw [if_neg h188], _, rfl, hJ1.sB hB⟩
      · refine ok_step (ps := []) (L' := [some (.ref 94), some (.int set), some (.int lng), some (.int (nI (1 + q))), none, none, none]) (st' := [.int (nI 2)]) (σ' := (γ, ρ1)) (pc' := 192) kX12_whyNot_191 rfl rfl rf_a0 ?_
        refine ok_goto bX12_whyNot_192 ?_
        refine ok_reti eX12_whyNot_196 rfl ?_
        exact ⟨by rw [if_pos h188], _, rfl, hJ1.sB hB⟩
  | succ j ih =>
    intro q lng hj
    have f_q := hf q (by omega)
    have z_q := hI.2.1 _ (hI.2.2.1 _ f_q)
    have f_1q := hf (1 + q) (by omega)
    have z_1q := hI.2.1 _ (hI.2.2.1 _ f_1q)
    obtain ⟨a, ha, ea⟩ := stAt_n (t := f q) (i := cn (μ 95) (90 + 13 * cn (μ 95) (150 + 3 * f q)) - 1) hI (by omega) (by omega)
    obtain ⟨b, hb, eb⟩ := stAt_n (t := f (1 + q)) (i := 0) hI (by omega) (by omega)
    change s_last (μ 95) (f q) = nI a at ea
    by_cases h1 : μ 95 (20 + 8 * a + b) < 0
    · refine ⟨nI 1, fun β hJ hr => ?_, fun α γ ρ hJ hd h12 hr => ?_⟩
      · have hR := hJ.1.1.1
        refine ok_step (ps := []) (L' := [some (.ref 1), some (.int set), some (.int (nI n)), some (.int lng), some (.int (nI (1 + q))), none, none]) (st' := [.int (nI n), .int (nI (1 + q))]) (σ' := (β, μ)) (pc' := 21) kX10_whyNotWalked_18 rfl rfl rf_a0 ?_
        refine ok_icmp_ge bX10_whyNotWalked_21 (fun h21 => absurd h21 (nI_ge (by omega) (by omega))) (fun _ => ?_)
        refine ok_step (ps := [rf_in ((nI (1 + q)) - (nI 1)) 12]) (L' := [some (.ref 1), some (.int set), some (.int (nI n)), some (.int lng), some (.int (nI (1 + q))), none, none]) (st' := [.int (β 36 (((nI (1 + q)) - (nI 1)).toNatClampNeg)), .ref 2, .ref 2]) (σ' := (β, μ)) (pc' := 41) kX10_whyNotWalked_24 rfl rfl (rf_a1 (rf_in_n (a := q) (by (try rw [(show ((nI (1 + q)) - (nI 1)) = nI q from rf_eq (rf_nsub (x := nI (1 + q)) (y := nI 1) rfl rfl (by omega)) (by omega))]); all_goals exact rfl) (by omega)) rf_a0) ?_
        try rw [(show ((nI (1 + q)) - (nI 1)) = nI q from rf_eq (rf_nsub (x := nI (1 + q)) (y := nI 1) rfl rfl (by omega)) (by omega))]
        try rw [(show (nI q).toNatClampNeg = q from rf_cl_n rfl (by omega))]
        try rw [(show β 36 q = nI (f q) from hr _ (by omega))]
        refine ok_V (As := [.int (nI (f q))]) (b := 2) (st := [.ref 2]) mkX4_lastStation qX10_whyNotWalked_41 rfl (rc_2) rfl rfl rfl rfl (Nat.le_of_ble_eq_true rfl) (c_last hR hI (by omega) (by omega)) ?_
        rw [ea]
        refine ok_step (ps := [rf_in (nI (1 + q)) 12]) (L' := [some (.ref 1), some (.int set), some (.int (nI n)), some (.int lng), some (.int (nI (1 + q))), none, none]) (st' := [.int (nI 0), .int (β 36 ((nI (1 + q)).toNatClampNeg)), .ref 2, .int (nI a), .ref 2]) (σ' := (β, μ)) (pc' := 56) kX10_whyNotWalked_44 rfl rfl (rf_a1 (rf_in_n (a := (1 + q)) rfl (by omega)) rf_a0) ?_
        try rw [(show (nI (1 + q)).toNatClampNeg = (1 + q) from rf_cl_n rfl (by omega))]
        try rw [(show β 36 (1 + q) = nI (f (1 + q)) from hr _ (by omega))]
        refine ok_V (As := [.int (nI (f (1 + q))), .int (nI 0)]) (b := 2) (st := [.int (nI a), .ref 2]) mkX4_stationAt qX10_whyNotWalked_56 rfl (rc_2) rfl rfl rfl rfl (Nat.le_of_ble_eq_true rfl) (c_stAt hR hI (by omega) (by omega)) ?_
        rw [eb]
        have hc59 : rf_At (rf_T Ln xs) MX4_walkFrom 2 0 ([some (.ref 2), some (.int (nI a)), some (.int (nI b))], [], 108, (β, μ)) (some (.int (μ 95 (20 + 8 * a + b)))) 108 (β, μ) := by
          refine rf_pa ?_
          refine ok_step (ps := [rf_in (((nI a) * (nI 8)) + (nI b)) 64]) (L' := [some (.ref 2), some (.int (nI a)), some (.int (nI b))]) (st' := [.int (β 3 ((((nI a) * (nI 8)) + (nI b)).toNatClampNeg))]) (σ' := (β, μ)) (pc' := 11) kX4_walkFrom_0 rfl rfl (rf_a1 (rf_in_n (a := (8 * a + b)) (by (try rw [(show ((nI a) * (nI 8)) = nI (8 * a) from rf_eq (rf_nmul (x := nI a) (y := nI 8) rfl rfl) (by omega))]); (try rw [(show ((nI (8 * a)) + (nI b)) = nI (8 * a + b) from rf_eq (rf_nadd (x := nI (8 * a)) (y := nI b) rfl rfl) (by omega))]); all_goals exact rfl) (by omega)) rf_a0) ?_
          try rw [(show ((nI a) * (nI 8)) = nI (8 * a) from rf_eq (rf_nmul (x := nI a) (y := nI 8) rfl rfl) (by omega))]
          try rw [(show ((nI (8 * a)) + (nI b)) = nI (8 * a + b) from rf_eq (rf_nadd (x := nI (8 * a)) (y := nI b) rfl rfl) (by omega))]
          try rw [(show (nI (8 * a + b)).toNatClampNeg = (8 * a + b) from rf_cl_n rfl (by omega))]
          try rw [(show β 3 (8 * a + b) = μ 95 (20 + 8 * a + b) from rl_2 hR (i := (8 * a + b)) (by omega) (by omega))]
          refine ok_reti eX4_walkFrom_11 rfl ?_
          exact ⟨rfl, rfl⟩
        refine ok_V (As := [.int (nI a), .int (nI b)]) (b := 2) (st := []) mkX4_walkFrom qX10_whyNotWalked_59 rfl (rc_2) rfl rfl rfl rfl (Nat.le_of_ble_eq_true rfl) (hc59) ?_
        refine ok_step (ps := [rf_in (nI (1 + q)) 12, rf_in (β 36 ((nI (1 + q)).toNatClampNeg)) 12, rf_in ((nI (1 + q)) - (nI 1)) 12]) (L' := [some (.ref 1), some (.int set), some (.int (nI n)), some (.int lng), some (.int (nI (1 + q))), some (.int (μ 95 (20 + 8 * a + b))), none]) (st' := [.int (β 36 (((nI (1 + q)) - (nI 1)).toNatClampNeg)), .ref 2, .int (β 8 ((β 36 ((nI (1 + q)).toNatClampNeg)).toNatClampNeg))]) (σ' := (β, μ)) (pc' := 92) kX10_whyNotWalked_62 rfl rfl (rf_a1 (rf_in_n (a := (1 + q)) rfl (by omega)) (rf_a1 (rf_in_n (a := (f (1 + q))) (by (try rw [(show (nI (1 + q)).toNatClampNeg = (1 + q) from rf_cl_n rfl (by omega))]); (try rw [(show β 36 (1 + q) = nI (f (1 + q)) from hr _ (by omega))]); all_goals exact rfl) (by omega)) (rf_a1 (rf_in_n (a := q) (by (try rw [(show (nI (1 + q)).toNatClampNeg = (1 + q) from rf_cl_n rfl (by omega))]); (try rw [(show β 36 (1 + q) = nI (f (1 + q)) from hr _ (by omega))]); (try rw [(show (nI (f (1 + q))).toNatClampNeg = (f (1 + q)) from rf_cl_n rfl (by omega))]); (try rw [(show β 8 (f (1 + q)) = μ 95 (151 + 3 * f (1 + q)) from rl_7 hR (i := (f (1 + q))) (by omega) (by omega))]); (try rw [(show ((nI (1 + q)) - (nI 1)) = nI q from rf_eq (rf_nsub (x := nI (1 + q)) (y := nI 1) rfl rfl (by omega)) (by omega))]); all_goals exact rfl) (by omega)) rf_a0))) ?_
        try rw [(show (nI (1 + q)).toNatClampNeg = (1 + q) from rf_cl_n rfl (by omega))]
        try rw [(show β 36 (1 + q) = nI (f (1 + q)) from hr _ (by omega))]
        try rw [(show (nI (f (1 + q))).toNatClampNeg = (f (1 + q)) from rf_cl_n rfl (by omega))]
        try rw [(show β 8 (f (1 + q)) = μ 95 (151 + 3 * f (1 + q)) from rl_7 hR (i := (f (1 + q))) (by omega) (by omega))]
        try rw [(show ((nI (1 + q)) - (nI 1)) = nI q from rf_eq (rf_nsub (x := nI (1 + q)) (y := nI 1) rfl rfl (by omega)) (by omega))]
        try rw [(show (nI q).toNatClampNeg = q from rf_cl_n rfl (by omega))]
        try rw [(show β 36 q = nI (f q) from hr _ (by omega))]
        refine ok_V (As := [.int (nI (f q))]) (b := 2) (st := [.int (μ 95 (151 + 3 * f (1 + q)))]) mkX4_endOf qX10_whyNotWalked_92 rfl (rc_2) rfl rfl rfl rfl (Nat.le_of_ble_eq_true rfl) (c_end hR hI (by omega) (by omega)) ?_
        refine ok_step (ps := []) (L' := [some (.ref 1), some (.int set), some (.int (nI n)), some (.int lng), some (.int (nI (1 + q))), some (.int (μ 95 (20 + 8 * a + b))), some (.int ((μ 95 (151 + 3 * f (1 + q))) - (s_end (μ 95) (f q))))]) (st' := [.int (μ 95 (20 + 8 * a + b))]) (σ' := (β, μ)) (pc' := 100) kX10_whyNotWalked_95 rfl rfl rf_a0 ?_
        refine ok_if_lt bX10_whyNotWalked_100 (fun _ => ?_) (fun h100 => absurd (h1) h100)
        refine ok_step (ps := []) (L' := [some (.ref 1), some (.int set), some (.int (nI n)), some (.int lng), some (.int (nI (1 + q))), some (.int (μ 95 (20 + 8 * a + b))), some (.int ((μ 95 (151 + 3 * f (1 + q))) - (s_end (μ 95) (f q))))]) (st' := [.int (nI 1)]) (σ' := (β, μ)) (pc' := 111) kX10_whyNotWalked_110 rfl rfl rf_a0 ?_
        refine ok_reti eX10_whyNotWalked_111 rfl ?_
        exact ⟨rfl, _, rfl, hJ⟩
      · have hI2 : Iv (ρ 95) := hJ.2
        refine ok_step (ps := []) (L' := [some (.ref 94), some (.int set), some (.int lng), some (.int (nI (1 + q))), none, none, none]) (st' := [.int (ρ 94 12), .int (nI (1 + q))]) (σ' := (γ, ρ)) (pc' := 14) kX12_whyNot_9 rfl rfl rf_a0 ?_
        try rw [(show ρ 94 12 = nI n from h12)]
        refine ok_icmp_ge bX12_whyNot_14 (fun h14 => absurd h14 (nI_ge (by omega) (by omega))) (fun _ => ?_)
        refine ok_step (ps := [rf_in ((nI (1 + q)) - (nI 1)) 12]) (L' := [some (.ref 94), some (.int set), some (.int lng), some (.int (nI (1 + q))), some (.int (ρ 99 (((nI (1 + q)) - (nI 1)).toNatClampNeg))), none, none]) (st' := [.int (ρ 99 (((nI (1 + q)) - (nI 1)).toNatClampNeg)), .ref 94, .int (ρ 99 (((nI (1 + q)) - (nI 1)).toNatClampNeg)), .ref 94, .int (nI 8), .int (nI 20), .ref 95]) (σ' := (γ, ρ)) (pc' := 41) kX12_whyNot_17 rfl rfl (rf_a1 (rf_in_n (a := q) (by (try rw [(show ((nI (1 + q)) - (nI 1)) = nI q from rf_eq (rf_nsub (x := nI (1 + q)) (y := nI 1) rfl rfl (by omega)) (by omega))]); all_goals exact rfl) (by omega)) rf_a0) ?_
        try rw [(show ((nI (1 + q)) - (nI 1)) = nI q from rf_eq (rf_nsub (x := nI (1 + q)) (y := nI 1) rfl rfl (by omega)) (by omega))]
        try rw [(show (nI q).toNatClampNeg = q from rf_cl_n rfl (by omega))]
        try rw [(show ρ 99 q = nI (f q) from hr _ (by omega))]
        refine ok_V (As := [.int (nI (f q))]) (b := 94) (st := [.int (nI (f q)), .ref 94, .int (nI 8), .int (nI 20), .ref 95]) mkX12_stopsOf qX12_whyNot_41 rfl (rc_94) rfl rfl rfl rfl (Nat.le_of_ble_eq_true rfl) (m_stopsOf_d (d := μ 95) hI hd (by omega)) ?_
        refine ok_step (ps := []) (L' := [some (.ref 94), some (.int set), some (.int lng), some (.int (nI (1 + q))), some (.int (nI (f q))), none, none]) (st' := [.int ((s_stops (μ 95) (f q)) - (nI 1)), .int (nI (f q)), .ref 94, .int (nI 8), .int (nI 20), .ref 95]) (σ' := (γ, ρ)) (pc' := 46) kX12_whyNot_44 rfl rfl rf_a0 ?_
        try rw [(show ((s_stops (μ 95) (f q)) - (nI 1)) = nI ((cn (μ 95) (90 + 13 * cn (μ 95) (150 + 3 * (f q))) - 1)) from rf_eq (rf_nsub (x := s_stops (μ 95) (f q)) (y := nI 1) (st_at hI (by omega)) rfl (by omega)) (by omega))]
        refine ok_V (As := [.int (nI (f q)), .int (nI ((cn (μ 95) (90 + 13 * cn (μ 95) (150 + 3 * (f q))) - 1)))]) (b := 94) (st := [.int (nI 8), .int (nI 20), .ref 95]) mkX12_stationAt qX12_whyNot_46 rfl (rc_94) rfl rfl rfl rfl (Nat.le_of_ble_eq_true rfl) (m_stAt_d (d := μ 95) hI hd (by omega) (by omega)) ?_
        rw [show s_stAt (μ 95) (f q) ((cn (μ 95) (90 + 13 * cn (μ 95) (150 + 3 * (f q))) - 1)) = nI a from ea]
        refine ok_step (ps := [rf_in (nI (1 + q)) 12]) (L' := [some (.ref 94), some (.int set), some (.int lng), some (.int (nI (1 + q))), some (.int (nI (f q))), none, none]) (st' := [.int (nI 0), .int (ρ 99 ((nI (1 + q)).toNatClampNeg)), .ref 94, .int ((nI 20) + ((nI 8) * (nI a))), .ref 95]) (σ' := (γ, ρ)) (pc' := 59) kX12_whyNot_49 rfl rfl (rf_a1 (rf_in_n (a := (1 + q)) rfl (by omega)) rf_a0) ?_
        try rw [(show ((nI 8) * (nI a)) = nI (8 * a) from rf_eq (rf_nmul (x := nI 8) (y := nI a) rfl rfl) (by omega))]
        try rw [(show ((nI 20) + (nI (8 * a))) = nI (20 + 8 * a) from rf_eq (rf_nadd (x := nI 20) (y := nI (8 * a)) rfl rfl) (by omega))]
        try rw [(show (nI (1 + q)).toNatClampNeg = (1 + q) from rf_cl_n rfl (by omega))]
        try rw [(show ρ 99 (1 + q) = nI (f (1 + q)) from hr _ (by omega))]
        refine ok_V (As := [.int (nI (f (1 + q))), .int (nI 0)]) (b := 94) (st := [.int (nI (20 + 8 * a)), .ref 95]) mkX12_stationAt qX12_whyNot_59 rfl (rc_94) rfl rfl rfl rfl (Nat.le_of_ble_eq_true rfl) (m_stAt_d (d := μ 95) hI hd (by omega) (by omega)) ?_
        rw [eb]
        refine ok_step (ps := [rf_in ((nI (20 + 8 * a)) + (nI b)) 700, rf_in (nI (1 + q)) 12]) (L' := [some (.ref 94), some (.int set), some (.int lng), some (.int (nI (1 + q))), some (.int (nI (f q))), some (.int (ρ 95 (((nI (20 + 8 * a)) + (nI b)).toNatClampNeg))), none]) (st' := [.int (ρ 99 ((nI (1 + q)).toNatClampNeg)), .ref 94]) (σ' := (γ, ρ)) (pc' := 73) kX12_whyNot_62 rfl rfl (rf_a1 (rf_in_n (a := (20 + 8 * a + b)) (by (try rw [(show ((nI (20 + 8 * a)) + (nI b)) = nI (20 + 8 * a + b) from rf_eq (rf_nadd (x := nI (20 + 8 * a)) (y := nI b) rfl rfl) (by omega))]); all_goals exact rfl) (by omega)) (rf_a1 (rf_in_n (a := (1 + q)) rfl (by omega)) rf_a0)) ?_
        try rw [(show ((nI (20 + 8 * a)) + (nI b)) = nI (20 + 8 * a + b) from rf_eq (rf_nadd (x := nI (20 + 8 * a)) (y := nI b) rfl rfl) (by omega))]
        try rw [(show (nI (20 + 8 * a + b)).toNatClampNeg = (20 + 8 * a + b) from rf_cl_n rfl (by omega))]
        try rw [(show ρ 95 (20 + 8 * a + b) = μ 95 (20 + 8 * a + b) from congrFun hd _)]
        try rw [(show (nI (1 + q)).toNatClampNeg = (1 + q) from rf_cl_n rfl (by omega))]
        try rw [(show ρ 99 (1 + q) = nI (f (1 + q)) from hr _ (by omega))]
        refine ok_V (As := [.int (nI (f (1 + q)))]) (b := 94) (st := []) mkX12_startOf qX12_whyNot_73 rfl (rc_94) rfl rfl rfl rfl (Nat.le_of_ble_eq_true rfl) (m_startOf_d (d := μ 95) hI hd (by omega)) ?_
        refine ok_step (ps := []) (L' := [some (.ref 94), some (.int set), some (.int lng), some (.int (nI (1 + q))), some (.int (nI (f q))), some (.int (μ 95 (20 + 8 * a + b))), none]) (st' := [.int (nI (f q)), .ref 94, .int (μ 95 (151 + 3 * f (1 + q)))]) (σ' := (γ, ρ)) (pc' := 79) kX12_whyNot_76 rfl rfl rf_a0 ?_
        refine ok_V (As := [.int (nI (f q))]) (b := 94) (st := [.int (μ 95 (151 + 3 * f (1 + q)))]) mkX12_endOf qX12_whyNot_79 rfl (rc_94) rfl rfl rfl rfl (Nat.le_of_ble_eq_true rfl) (m_end_d (d := μ 95) hI hd (by omega) (by omega)) ?_
        refine ok_step (ps := []) (L' := [some (.ref 94), some (.int set), some (.int lng), some (.int (nI (1 + q))), some (.int (nI (f q))), some (.int (μ 95 (20 + 8 * a + b))), some (.int ((μ 95 (151 + 3 * f (1 + q))) - (s_end (μ 95) (f q))))]) (st' := [.int (μ 95 (20 + 8 * a + b))]) (σ' := (γ, ρ)) (pc' := 87) kX12_whyNot_82 rfl rfl rf_a0 ?_
        refine ok_if_lt bX12_whyNot_87 (fun _ => ?_) (fun h87 => absurd (h1) h87)
        refine ok_step (ps := []) (L' := [some (.ref 94), some (.int set), some (.int lng), some (.int (nI (1 + q))), some (.int (nI (f q))), some (.int (μ 95 (20 + 8 * a + b))), some (.int ((μ 95 (151 + 3 * f (1 + q))) - (s_end (μ 95) (f q))))]) (st' := [.int (nI 1)]) (σ' := (γ, ρ)) (pc' := 98) kX12_whyNot_97 rfl rfl rf_a0 ?_
        refine ok_reti eX12_whyNot_98 rfl ?_
        exact ⟨rfl, _, rfl, hJ⟩
    · by_cases h2 : μ 95 (20 + 8 * a + b) ≤ (μ 95 (151 + 3 * f (1 + q)) - s_end (μ 95) (f q))
      · obtain ⟨r, hc, hm⟩ := ih (1 + q) (rf_max lng (μ 95 (151 + 3 * f (1 + q)) - s_end (μ 95) (f q))) (by omega)
        refine ⟨r, fun β hJ hr => ?_, fun α γ ρ hJ hd h12 hr => ?_⟩
        · have hR := hJ.1.1.1
          refine ok_step (ps := []) (L' := [some (.ref 1), some (.int set), some (.int (nI n)), some (.int lng), some (.int (nI (1 + q))), none, none]) (st' := [.int (nI n), .int (nI (1 + q))]) (σ' := (β, μ)) (pc' := 21) kX10_whyNotWalked_18 rfl rfl rf_a0 ?_
          refine ok_icmp_ge bX10_whyNotWalked_21 (fun h21 => absurd h21 (nI_ge (by omega) (by omega))) (fun _ => ?_)
          refine ok_step (ps := [rf_in ((nI (1 + q)) - (nI 1)) 12]) (L' := [some (.ref 1), some (.int set), some (.int (nI n)), some (.int lng), some (.int (nI (1 + q))), none, none]) (st' := [.int (β 36 (((nI (1 + q)) - (nI 1)).toNatClampNeg)), .ref 2, .ref 2]) (σ' := (β, μ)) (pc' := 41) kX10_whyNotWalked_24 rfl rfl (rf_a1 (rf_in_n (a := q) (by (try rw [(show ((nI (1 + q)) - (nI 1)) = nI q from rf_eq (rf_nsub (x := nI (1 + q)) (y := nI 1) rfl rfl (by omega)) (by omega))]); all_goals exact rfl) (by omega)) rf_a0) ?_
          try rw [(show ((nI (1 + q)) - (nI 1)) = nI q from rf_eq (rf_nsub (x := nI (1 + q)) (y := nI 1) rfl rfl (by omega)) (by omega))]
          try rw [(show (nI q).toNatClampNeg = q from rf_cl_n rfl (by omega))]
          try rw [(show β 36 q = nI (f q) from hr _ (by omega))]
          refine ok_V (As := [.int (nI (f q))]) (b := 2) (st := [.ref 2]) mkX4_lastStation qX10_whyNotWalked_41 rfl (rc_2) rfl rfl rfl rfl (Nat.le_of_ble_eq_true rfl) (c_last hR hI (by omega) (by omega)) ?_
          rw [ea]
          refine ok_step (ps := [rf_in (nI (1 + q)) 12]) (L' := [some (.ref 1), some (.int set), some (.int (nI n)), some (.int lng), some (.int (nI (1 + q))), none, none]) (st' := [.int (nI 0), .int (β 36 ((nI (1 + q)).toNatClampNeg)), .ref 2, .int (nI a), .ref 2]) (σ' := (β, μ)) (pc' := 56) kX10_whyNotWalked_44 rfl rfl (rf_a1 (rf_in_n (a := (1 + q)) rfl (by omega)) rf_a0) ?_
          try rw [(show (nI (1 + q)).toNatClampNeg = (1 + q) from rf_cl_n rfl (by omega))]
          try rw [(show β 36 (1 + q) = nI (f (1 + q)) from hr _ (by omega))]
          refine ok_V (As := [.int (nI (f (1 + q))), .int (nI 0)]) (b := 2) (st := [.int (nI a), .ref 2]) mkX4_stationAt qX10_whyNotWalked_56 rfl (rc_2) rfl rfl rfl rfl (Nat.le_of_ble_eq_true rfl) (c_stAt hR hI (by omega) (by omega)) ?_
          rw [eb]
          have hc59 : rf_At (rf_T Ln xs) MX4_walkFrom 2 0 ([some (.ref 2), some (.int (nI a)), some (.int (nI b))], [], 108, (β, μ)) (some (.int (μ 95 (20 + 8 * a + b)))) 108 (β, μ) := by
            refine rf_pa ?_
            refine ok_step (ps := [rf_in (((nI a) * (nI 8)) + (nI b)) 64]) (L' := [some (.ref 2), some (.int (nI a)), some (.int (nI b))]) (st' := [.int (β 3 ((((nI a) * (nI 8)) + (nI b)).toNatClampNeg))]) (σ' := (β, μ)) (pc' := 11) kX4_walkFrom_0 rfl rfl (rf_a1 (rf_in_n (a := (8 * a + b)) (by (try rw [(show ((nI a) * (nI 8)) = nI (8 * a) from rf_eq (rf_nmul (x := nI a) (y := nI 8) rfl rfl) (by omega))]); (try rw [(show ((nI (8 * a)) + (nI b)) = nI (8 * a + b) from rf_eq (rf_nadd (x := nI (8 * a)) (y := nI b) rfl rfl) (by omega))]); all_goals exact rfl) (by omega)) rf_a0) ?_
            try rw [(show ((nI a) * (nI 8)) = nI (8 * a) from rf_eq (rf_nmul (x := nI a) (y := nI 8) rfl rfl) (by omega))]
            try rw [(show ((nI (8 * a)) + (nI b)) = nI (8 * a + b) from rf_eq (rf_nadd (x := nI (8 * a)) (y := nI b) rfl rfl) (by omega))]
            try rw [(show (nI (8 * a + b)).toNatClampNeg = (8 * a + b) from rf_cl_n rfl (by omega))]
            try rw [(show β 3 (8 * a + b) = μ 95 (20 + 8 * a + b) from rl_2 hR (i := (8 * a + b)) (by omega) (by omega))]
            refine ok_reti eX4_walkFrom_11 rfl ?_
            exact ⟨rfl, rfl⟩
          refine ok_V (As := [.int (nI a), .int (nI b)]) (b := 2) (st := []) mkX4_walkFrom qX10_whyNotWalked_59 rfl (rc_2) rfl rfl rfl rfl (Nat.le_of_ble_eq_true rfl) (hc59) ?_
          refine ok_step (ps := [rf_in (nI (1 + q)) 12, rf_in (β 36 ((nI (1 + q)).toNatClampNeg)) 12, rf_in ((nI (1 + q)) - (nI 1)) 12]) (L' := [some (.ref 1), some (.int set), some (.int (nI n)), some (.int lng), some (.int (nI (1 + q))), some (.int (μ 95 (20 + 8 * a + b))), none]) (st' := [.int (β 36 (((nI (1 + q)) - (nI 1)).toNatClampNeg)), .ref 2, .int (β 8 ((β 36 ((nI (1 + q)).toNatClampNeg)).toNatClampNeg))]) (σ' := (β, μ)) (pc' := 92) kX10_whyNotWalked_62 rfl rfl (rf_a1 (rf_in_n (a := (1 + q)) rfl (by omega)) (rf_a1 (rf_in_n (a := (f (1 + q))) (by (try rw [(show (nI (1 + q)).toNatClampNeg = (1 + q) from rf_cl_n rfl (by omega))]); (try rw [(show β 36 (1 + q) = nI (f (1 + q)) from hr _ (by omega))]); all_goals exact rfl) (by omega)) (rf_a1 (rf_in_n (a := q) (by (try rw [(show (nI (1 + q)).toNatClampNeg = (1 + q) from rf_cl_n rfl (by omega))]); (try rw [(show β 36 (1 + q) = nI (f (1 + q)) from hr _ (by omega))]); (try rw [(show (nI (f (1 + q))).toNatClampNeg = (f (1 + q)) from rf_cl_n rfl (by omega))]); (try rw [(show β 8 (f (1 + q)) = μ 95 (151 + 3 * f (1 + q)) from rl_7 hR (i := (f (1 + q))) (by omega) (by omega))]); (try rw [(show ((nI (1 + q)) - (nI 1)) = nI q from rf_eq (rf_nsub (x := nI (1 + q)) (y := nI 1) rfl rfl (by omega)) (by omega))]); all_goals exact rfl) (by omega)) rf_a0))) ?_
          try rw [(show (nI (1 + q)).toNatClampNeg = (1 + q) from rf_cl_n rfl (by omega))]
          try rw [(show β 36 (1 + q) = nI (f (1 + q)) from hr _ (by omega))]
          try rw [(show (nI (f (1 + q))).toNatClampNeg = (f (1 + q)) from rf_cl_n rfl (by omega))]
          try rw [(show β 8 (f (1 + q)) = μ 95 (151 + 3 * f (1 + q)) from rl_7 hR (i := (f (1 + q))) (by omega) (by omega))]
          try rw [(show ((nI (1 + q)) - (nI 1)) = nI q from rf_eq (rf_nsub (x := nI (1 + q)) (y := nI 1) rfl rfl (by omega)) (by omega))]
          try rw [(show (nI q).toNatClampNeg = q from rf_cl_n rfl (by omega))]
          try rw [(show β 36 q = nI (f q) from hr _ (by omega))]
          refine ok_V (As := [.int (nI (f q))]) (b := 2) (st := [.int (μ 95 (151 + 3 * f (1 + q)))]) mkX4_endOf qX10_whyNotWalked_92 rfl (rc_2) rfl rfl rfl rfl (Nat.le_of_ble_eq_true rfl) (c_end hR hI (by omega) (by omega)) ?_
          refine ok_step (ps := []) (L' := [some (.ref 1), some (.int set), some (.int (nI n)), some (.int lng), some (.int (nI (1 + q))), some (.int (μ 95 (20 + 8 * a + b))), some (.int ((μ 95 (151 + 3 * f (1 + q))) - (s_end (μ 95) (f q))))]) (st' := [.int (μ 95 (20 + 8 * a + b))]) (σ' := (β, μ)) (pc' := 100) kX10_whyNotWalked_95 rfl rfl rf_a0 ?_
          refine ok_if_lt bX10_whyNotWalked_100 (fun h100 => absurd h100 (h1)) (fun _ => ?_)
          refine ok_step (ps := []) (L' := [some (.ref 1), some (.int set), some (.int (nI n)), some (.int lng), some (.int (nI (1 + q))), some (.int (μ 95 (20 + 8 * a + b))), some (.int ((μ 95 (151 + 3 * f (1 + q))) - (s_end (μ 95) (f q))))]) (st' := [.int ((μ 95 (151 + 3 * f (1 + q))) - (s_end (μ 95) (f q))), .int (μ 95 (20 + 8 * a + b))]) (σ' := (β, μ)) (pc' := 107) kX10_whyNotWalked_103 rfl rfl rf_a0 ?_
          refine ok_icmp_le bX10_whyNotWalked_107 (fun _ => ?_) (fun h107 => absurd (h2) h107)
          refine ok_step (ps := []) (L' := [some (.ref 1), some (.int set), some (.int (nI n)), some (.int (rf_max lng ((μ 95 (151 + 3 * f (1 + q))) - (s_end (μ 95) (f q))))), some (.int ((nI (1 + q)) + (nI 1))), some (.int (μ 95 (20 + 8 * a + b))), some (.int ((μ 95 (151 + 3 * f (1 + q))) - (s_end (μ 95) (f q))))]) (st' := []) (σ' := (β, μ)) (pc' := 122) kX10_whyNotWalked_112 rfl rfl rf_a0 ?_
          try rw [(show ((nI (1 + q)) + (nI 1)) = nI (2 + q) from rf_eq (rf_nadd (x := nI (1 + q)) (y := nI 1) rfl rfl) (by omega))]
          refine ok_goto bX10_whyNotWalked_122 ?_
          refine ok_kill (x := 5) (ok_kill (x := 6) ?_)
          rw [show 2 + q = 1 + (1 + q) by omega]
          exact hc β hJ hr
        · have hI2 : Iv (ρ 95) := hJ.2
          refine ok_step (ps := []) (L' := [some (.ref 94), some (.int set), some (.int lng), some (.int (nI (1 + q))), none, none, none]) (st' := [.int (ρ 94 12), .int (nI (1 + q))]) (σ' := (γ, ρ)) (pc' := 14) kX12_whyNot_9 rfl rfl rf_a0 ?_
          try rw [(show ρ 94 12 = nI n from h12)]
          refine ok_icmp_ge bX12_whyNot_14 (fun h14 => absurd h14 (nI_ge (by omega) (by omega))) (fun _ => ?_)
          refine ok_step (ps := [rf_in ((nI (1 + q)) - (nI 1)) 12]) (L' := [some (.ref 94), some (.int set), some (.int lng), some (.int (nI (1 + q))), some (.int (ρ 99 (((nI (1 + q)) - (nI 1)).toNatClampNeg))), none, none]) (st' := [.int (ρ 99 (((nI (1 + q)) - (nI 1)).toNatClampNeg)), .ref 94, .int (ρ 99 (((nI (1 + q)) - (nI 1)).toNatClampNeg)), .ref 94, .int (nI 8), .int (nI 20), .ref 95]) (σ' := (γ, ρ)) (pc' := 41) kX12_whyNot_17 rfl rfl (rf_a1 (rf_in_n (a := q) (by (try rw [(show ((nI (1 + q)) - (nI 1)) = nI q from rf_eq (rf_nsub (x := nI (1 + q)) (y := nI 1) rfl rfl (by omega)) (by omega))]); all_goals exact rfl) (by omega)) rf_a0) ?_
          try rw [(show ((nI (1 + q)) - (nI 1)) = nI q from rf_eq (rf_nsub (x := nI (1 + q)) (y := nI 1) rfl rfl (by omega)) (by omega))]
          try rw [(show (nI q).toNatClampNeg = q from rf_cl_n rfl (by omega))]
          try rw [(show ρ 99 q = nI (f q) from hr _ (by omega))]
          refine ok_V (As := [.int (nI (f q))]) (b := 94) (st := [.int (nI (f q)), .ref 94, .int (nI 8), .int (nI 20), .ref 95]) mkX12_stopsOf qX12_whyNot_41 rfl (rc_94) rfl rfl rfl rfl (Nat.le_of_ble_eq_true rfl) (m_stopsOf_d (d := μ 95) hI hd (by omega)) ?_
          refine ok_step (ps := []) (L' := [some (.ref 94), some (.int set), some (.int lng), some (.int (nI (1 + q))), some (.int (nI (f q))), none, none]) (st' := [.int ((s_stops (μ 95) (f q)) - (nI 1)), .int (nI (f q)), .ref 94, .int (nI 8), .int (nI 20), .ref 95]) (σ' := (γ, ρ)) (pc' := 46) kX12_whyNot_44 rfl rfl rf_a0 ?_
          try rw [(show ((s_stops (μ 95) (f q)) - (nI 1)) = nI ((cn (μ 95) (90 + 13 * cn (μ 95) (150 + 3 * (f q))) - 1)) from rf_eq (rf_nsub (x := s_stops (μ 95) (f q)) (y := nI 1) (st_at hI (by omega)) rfl (by omega)) (by omega))]
          refine ok_V (As := [.int (nI (f q)), .int (nI ((cn (μ 95) (90 + 13 * cn (μ 95) (150 + 3 * (f q))) - 1)))]) (b := 94) (st := [.int (nI 8), .int (nI 20), .ref 95]) mkX12_stationAt qX12_whyNot_46 rfl (rc_94) rfl rfl rfl rfl (Nat.le_of_ble_eq_true rfl) (m_stAt_d (d := μ 95) hI hd (by omega) (by omega)) ?_
          rw [show s_stAt (μ 95) (f q) ((cn (μ 95) (90 + 13 * cn (μ 95) (150 + 3 * (f q))) - 1)) = nI a from ea]
          refine ok_step (ps := [rf_in (nI (1 + q)) 12]) (L' := [some (.ref 94), some (.int set), some (.int lng), some (.int (nI (1 + q))), some (.int (nI (f q))), none, none]) (st' := [.int (nI 0), .int (ρ 99 ((nI (1 + q)).toNatClampNeg)), .ref 94, .int ((nI 20) + ((nI 8) * (nI a))), .ref 95]) (σ' := (γ, ρ)) (pc' := 59) kX12_whyNot_49 rfl rfl (rf_a1 (rf_in_n (a := (1 + q)) rfl (by omega)) rf_a0) ?_
          try rw [(show ((nI 8) * (nI a)) = nI (8 * a) from rf_eq (rf_nmul (x := nI 8) (y := nI a) rfl rfl) (by omega))]
          try rw [(show ((nI 20) + (nI (8 * a))) = nI (20 + 8 * a) from rf_eq (rf_nadd (x := nI 20) (y := nI (8 * a)) rfl rfl) (by omega))]
          try rw [(show (nI (1 + q)).toNatClampNeg = (1 + q) from rf_cl_n rfl (by omega))]
          try rw [(show ρ 99 (1 + q) = nI (f (1 + q)) from hr _ (by omega))]
          refine ok_V (As := [.int (nI (f (1 + q))), .int (nI 0)]) (b := 94) (st := [.int (nI (20 + 8 * a)), .ref 95]) mkX12_stationAt qX12_whyNot_59 rfl (rc_94) rfl rfl rfl rfl (Nat.le_of_ble_eq_true rfl) (m_stAt_d (d := μ 95) hI hd (by omega) (by omega)) ?_
          rw [eb]
          refine ok_step (ps := [rf_in ((nI (20 + 8 * a)) + (nI b)) 700, rf_in (nI (1 + q)) 12]) (L' := [some (.ref 94), some (.int set), some (.int lng), some (.int (nI (1 + q))), some (.int (nI (f q))), some (.int (ρ 95 (((nI (20 + 8 * a)) + (nI b)).toNatClampNeg))), none]) (st' := [.int (ρ 99 ((nI (1 + q)).toNatClampNeg)), .ref 94]) (σ' := (γ, ρ)) (pc' := 73) kX12_whyNot_62 rfl rfl (rf_a1 (rf_in_n (a := (20 + 8 * a + b)) (by (try rw [(show ((nI (20 + 8 * a)) + (nI b)) = nI (20 + 8 * a + b) from rf_eq (rf_nadd (x := nI (20 + 8 * a)) (y := nI b) rfl rfl) (by omega))]); all_goals exact rfl) (by omega)) (rf_a1 (rf_in_n (a := (1 + q)) rfl (by omega)) rf_a0)) ?_
          try rw [(show ((nI (20 + 8 * a)) + (nI b)) = nI (20 + 8 * a + b) from rf_eq (rf_nadd (x := nI (20 + 8 * a)) (y := nI b) rfl rfl) (by omega))]
          try rw [(show (nI (20 + 8 * a + b)).toNatClampNeg = (20 + 8 * a + b) from rf_cl_n rfl (by omega))]
          try rw [(show ρ 95 (20 + 8 * a + b) = μ 95 (20 + 8 * a + b) from congrFun hd _)]
          try rw [(show (nI (1 + q)).toNatClampNeg = (1 + q) from rf_cl_n rfl (by omega))]
          try rw [(show ρ 99 (1 + q) = nI (f (1 + q)) from hr _ (by omega))]
          refine ok_V (As := [.int (nI (f (1 + q)))]) (b := 94) (st := []) mkX12_startOf qX12_whyNot_73 rfl (rc_94) rfl rfl rfl rfl (Nat.le_of_ble_eq_true rfl) (m_startOf_d (d := μ 95) hI hd (by omega)) ?_
          refine ok_step (ps := []) (L' := [some (.ref 94), some (.int set), some (.int lng), some (.int (nI (1 + q))), some (.int (nI (f q))), some (.int (μ 95 (20 + 8 * a + b))), none]) (st' := [.int (nI (f q)), .ref 94, .int (μ 95 (151 + 3 * f (1 + q)))]) (σ' := (γ, ρ)) (pc' := 79) kX12_whyNot_76 rfl rfl rf_a0 ?_
          refine ok_V (As := [.int (nI (f q))]) (b := 94) (st := [.int (μ 95 (151 + 3 * f (1 + q)))]) mkX12_endOf qX12_whyNot_79 rfl (rc_94) rfl rfl rfl rfl (Nat.le_of_ble_eq_true rfl) (m_end_d (d := μ 95) hI hd (by omega) (by omega)) ?_
          refine ok_step (ps := []) (L' := [some (.ref 94), some (.int set), some (.int lng), some (.int (nI (1 + q))), some (.int (nI (f q))), some (.int (μ 95 (20 + 8 * a + b))), some (.int ((μ 95 (151 + 3 * f (1 + q))) - (s_end (μ 95) (f q))))]) (st' := [.int (μ 95 (20 + 8 * a + b))]) (σ' := (γ, ρ)) (pc' := 87) kX12_whyNot_82 rfl rfl rf_a0 ?_
          refine ok_if_lt bX12_whyNot_87 (fun h87 => absurd h87 (h1)) (fun _ => ?_)
          refine ok_step (ps := []) (L' := [some (.ref 94), some (.int set), some (.int lng), some (.int (nI (1 + q))), some (.int (nI (f q))), some (.int (μ 95 (20 + 8 * a + b))), some (.int ((μ 95 (151 + 3 * f (1 + q))) - (s_end (μ 95) (f q))))]) (st' := [.int (μ 95 (20 + 8 * a + b)), .int ((μ 95 (151 + 3 * f (1 + q))) - (s_end (μ 95) (f q)))]) (σ' := (γ, ρ)) (pc' := 94) kX12_whyNot_90 rfl rfl rf_a0 ?_
          refine ok_icmp_ge bX12_whyNot_94 (fun _ => ?_) (fun h94 => absurd (h2) h94)
          refine ok_step (ps := []) (L' := [some (.ref 94), some (.int set), some (.int lng), some (.int (nI (1 + q))), some (.int (nI (f q))), some (.int (μ 95 (20 + 8 * a + b))), some (.int ((μ 95 (151 + 3 * f (1 + q))) - (s_end (μ 95) (f q))))]) (st' := [.int lng, .int ((μ 95 (151 + 3 * f (1 + q))) - (s_end (μ 95) (f q)))]) (σ' := (γ, ρ)) (pc' := 102) kX12_whyNot_99 rfl rfl rf_a0 ?_
          refine ok_icmp_le bX12_whyNot_102 (fun h102 => ?_) (fun h102 => ?_)
          · refine ok_step (ps := []) (L' := [some (.ref 94), some (.int set), some (.int lng), some (.int (nI (1 + q))), some (.int (nI (f q))), some (.int (μ 95 (20 + 8 * a + b))), some (.int ((μ 95 (151 + 3 * f (1 + q))) - (s_end (μ 95) (f q))))]) (st' := [.int lng]) (σ' := (γ, ρ)) (pc' := 111) kX12_whyNot_110 rfl rfl rf_a0 ?_
            refine ok_step (ps := []) (L' := [some (.ref 94), some (.int set), some (.int lng), some (.int ((nI (1 + q)) + (nI 1))), some (.int (nI (f q))), some (.int (μ 95 (20 + 8 * a + b))), some (.int ((μ 95 (151 + 3 * f (1 + q))) - (s_end (μ 95) (f q))))]) (st' := []) (σ' := (γ, ρ)) (pc' := 115) kX12_whyNot_111 rfl rfl rf_a0 ?_
            try rw [(show ((nI (1 + q)) + (nI 1)) = nI (2 + q) from rf_eq (rf_nadd (x := nI (1 + q)) (y := nI 1) rfl rfl) (by omega))]
            refine ok_goto bX12_whyNot_115 ?_
            have em : lng = rf_max lng (μ 95 (151 + 3 * f (1 + q)) - s_end (μ 95) (f q)) := by unfold rf_max; rw [if_neg (Int32.not_lt.mpr h102)]
            rw [em]
            refine ok_kill (x := 4) (ok_kill (x := 5) (ok_kill (x := 6) ?_))
            rw [show 2 + q = 1 + (1 + q) by omega]
            exact hm α γ ρ hJ hd h12 hr
          · refine ok_step (ps := []) (L' := [some (.ref 94), some (.int set), some (.int lng), some (.int (nI (1 + q))), some (.int (nI (f q))), some (.int (μ 95 (20 + 8 * a + b))), some (.int ((μ 95 (151 + 3 * f (1 + q))) - (s_end (μ 95) (f q))))]) (st' := [.int ((μ 95 (151 + 3 * f (1 + q))) - (s_end (μ 95) (f q)))]) (σ' := (γ, ρ)) (pc' := 107) kX12_whyNot_105 rfl rfl rf_a0 ?_
            refine ok_goto bX12_whyNot_107 ?_
            refine ok_step (ps := []) (L' := [some (.ref 94), some (.int set), some (.int ((μ 95 (151 + 3 * f (1 + q))) - (s_end (μ 95) (f q)))), some (.int ((nI (1 + q)) + (nI 1))), some (.int (nI (f q))), some (.int (μ 95 (20 + 8 * a + b))), some (.int ((μ 95 (151 + 3 * f (1 + q))) - (s_end (μ 95) (f q))))]) (st' := []) (σ' := (γ, ρ)) (pc' := 115) kX12_whyNot_111 rfl rfl rf_a0 ?_
            try rw [(show ((nI (1 + q)) + (nI 1)) = nI (2 + q) from rf_eq (rf_nadd (x := nI (1 + q)) (y := nI 1) rfl rfl) (by omega))]
            refine ok_goto bX12_whyNot_115 ?_
            have em : (μ 95 (151 + 3 * f (1 + q))) - (s_end (μ 95) (f q)) = rf_max lng (μ 95 (151 + 3 * f (1 + q)) - s_end (μ 95) (f q)) := by unfold rf_max; rw [if_pos (Int32.not_le.mp h102)]
            rw [em]
            refine ok_kill (x := 4) (ok_kill (x := 5) (ok_kill (x := 6) ?_))
            rw [show 2 + q = 1 + (1 + q) by omega]
            exact hm α γ ρ hJ hd h12 hr
      · refine ⟨nI 1, fun β hJ hr => ?_, fun α γ ρ hJ hd h12 hr => ?_⟩
        · have hR := hJ.1.1.1
          refine ok_step (ps := []) (L' := [some (.ref 1), some (.int set), some (.int (nI n)), some (.int lng), some (.int (nI (1 + q))), none, none]) (st' := [.int (nI n), .int (nI (1 + q))]) (σ' := (β, μ)) (pc' := 21) kX10_whyNotWalked_18 rfl rfl rf_a0 ?_
          refine ok_icmp_ge bX10_whyNotWalked_21 (fun h21 => absurd h21 (nI_ge (by omega) (by omega))) (fun _ => ?_)
          refine ok_step (ps := [rf_in ((nI (1 + q)) - (nI 1)) 12]) (L' := [some (.ref 1), some (.int set), some (.int (nI n)), some (.int lng), some (.int (nI (1 + q))), none, none]) (st' := [.int (β 36 (((nI (1 + q)) - (nI 1)).toNatClampNeg)), .ref 2, .ref 2]) (σ' := (β, μ)) (pc' := 41) kX10_whyNotWalked_24 rfl rfl (rf_a1 (rf_in_n (a := q) (by (try rw [(show ((nI (1 + q)) - (nI 1)) = nI q from rf_eq (rf_nsub (x := nI (1 + q)) (y := nI 1) rfl rfl (by omega)) (by omega))]); all_goals exact rfl) (by omega)) rf_a0) ?_
          try rw [(show ((nI (1 + q)) - (nI 1)) = nI q from rf_eq (rf_nsub (x := nI (1 + q)) (y := nI 1) rfl rfl (by omega)) (by omega))]
          try rw [(show (nI q).toNatClampNeg = q from rf_cl_n rfl (by omega))]
          try rw [(show β 36 q = nI (f q) from hr _ (by omega))]
          refine ok_V (As := [.int (nI (f q))]) (b := 2) (st := [.ref 2]) mkX4_lastStation qX10_whyNotWalked_41 rfl (rc_2) rfl rfl rfl rfl (Nat.le_of_ble_eq_true rfl) (c_last hR hI (by omega) (by omega)) ?_
          rw [ea]
          refine ok_step (ps := [rf_in (nI (1 + q)) 12]) (L' := [some (.ref 1), some (.int set), some (.int (nI n)), some (.int lng), some (.int (nI (1 + q))), none, none]) (st' := [.int (nI 0), .int (β 36 ((nI (1 + q)).toNatClampNeg)), .ref 2, .int (nI a), .ref 2]) (σ' := (β, μ)) (pc' := 56) kX10_whyNotWalked_44 rfl rfl (rf_a1 (rf_in_n (a := (1 + q)) rfl (by omega)) rf_a0) ?_
          try rw [(show (nI (1 + q)).toNatClampNeg = (1 + q) from rf_cl_n rfl (by omega))]
          try rw [(show β 36 (1 + q) = nI (f (1 + q)) from hr _ (by omega))]
          refine ok_V (As := [.int (nI (f (1 + q))), .int (nI 0)]) (b := 2) (st := [.int (nI a), .ref 2]) mkX4_stationAt qX10_whyNotWalked_56 rfl (rc_2) rfl rfl rfl rfl (Nat.le_of_ble_eq_true rfl) (c_stAt hR hI (by omega) (by omega)) ?_
          rw [eb]
          have hc59 : rf_At (rf_T Ln xs) MX4_walkFrom 2 0 ([some (.ref 2), some (.int (nI a)), some (.int (nI b))], [], 108, (β, μ)) (some (.int (μ 95 (20 + 8 * a + b)))) 108 (β, μ) := by
            refine rf_pa ?_
            refine ok_step (ps := [rf_in (((nI a) * (nI 8)) + (nI b)) 64]) (L' := [some (.ref 2), some (.int (nI a)), some (.int (nI b))]) (st' := [.int (β 3 ((((nI a) * (nI 8)) + (nI b)).toNatClampNeg))]) (σ' := (β, μ)) (pc' := 11) kX4_walkFrom_0 rfl rfl (rf_a1 (rf_in_n (a := (8 * a + b)) (by (try rw [(show ((nI a) * (nI 8)) = nI (8 * a) from rf_eq (rf_nmul (x := nI a) (y := nI 8) rfl rfl) (by omega))]); (try rw [(show ((nI (8 * a)) + (nI b)) = nI (8 * a + b) from rf_eq (rf_nadd (x := nI (8 * a)) (y := nI b) rfl rfl) (by omega))]); all_goals exact rfl) (by omega)) rf_a0) ?_
            try rw [(show ((nI a) * (nI 8)) = nI (8 * a) from rf_eq (rf_nmul (x := nI a) (y := nI 8) rfl rfl) (by omega))]
            try rw [(show ((nI (8 * a)) + (nI b)) = nI (8 * a + b) from rf_eq (rf_nadd (x := nI (8 * a)) (y := nI b) rfl rfl) (by omega))]
            try rw [(show (nI (8 * a + b)).toNatClampNeg = (8 * a + b) from rf_cl_n rfl (by omega))]
            try rw [(show β 3 (8 * a + b) = μ 95 (20 + 8 * a + b) from rl_2 hR (i := (8 * a + b)) (by omega) (by omega))]
            refine ok_reti eX4_walkFrom_11 rfl ?_
            exact ⟨rfl, rfl⟩
          refine ok_V (As := [.int (nI a), .int (nI b)]) (b := 2) (st := []) mkX4_walkFrom qX10_whyNotWalked_59 rfl (rc_2) rfl rfl rfl rfl (Nat.le_of_ble_eq_true rfl) (hc59) ?_
          refine ok_step (ps := [rf_in (nI (1 + q)) 12, rf_in (β 36 ((nI (1 + q)).toNatClampNeg)) 12, rf_in ((nI (1 + q)) - (nI 1)) 12]) (L' := [some (.ref 1), some (.int set), some (.int (nI n)), some (.int lng), some (.int (nI (1 + q))), some (.int (μ 95 (20 + 8 * a + b))), none]) (st' := [.int (β 36 (((nI (1 + q)) - (nI 1)).toNatClampNeg)), .ref 2, .int (β 8 ((β 36 ((nI (1 + q)).toNatClampNeg)).toNatClampNeg))]) (σ' := (β, μ)) (pc' := 92) kX10_whyNotWalked_62 rfl rfl (rf_a1 (rf_in_n (a := (1 + q)) rfl (by omega)) (rf_a1 (rf_in_n (a := (f (1 + q))) (by (try rw [(show (nI (1 + q)).toNatClampNeg = (1 + q) from rf_cl_n rfl (by omega))]); (try rw [(show β 36 (1 + q) = nI (f (1 + q)) from hr _ (by omega))]); all_goals exact rfl) (by omega)) (rf_a1 (rf_in_n (a := q) (by (try rw [(show (nI (1 + q)).toNatClampNeg = (1 + q) from rf_cl_n rfl (by omega))]); (try rw [(show β 36 (1 + q) = nI (f (1 + q)) from hr _ (by omega))]); (try rw [(show (nI (f (1 + q))).toNatClampNeg = (f (1 + q)) from rf_cl_n rfl (by omega))]); (try rw [(show β 8 (f (1 + q)) = μ 95 (151 + 3 * f (1 + q)) from rl_7 hR (i := (f (1 + q))) (by omega) (by omega))]); (try rw [(show ((nI (1 + q)) - (nI 1)) = nI q from rf_eq (rf_nsub (x := nI (1 + q)) (y := nI 1) rfl rfl (by omega)) (by omega))]); all_goals exact rfl) (by omega)) rf_a0))) ?_
          try rw [(show (nI (1 + q)).toNatClampNeg = (1 + q) from rf_cl_n rfl (by omega))]
          try rw [(show β 36 (1 + q) = nI (f (1 + q)) from hr _ (by omega))]
          try rw [(show (nI (f (1 + q))).toNatClampNeg = (f (1 + q)) from rf_cl_n rfl (by omega))]
          try rw [(show β 8 (f (1 + q)) = μ 95 (151 + 3 * f (1 + q)) from rl_7 hR (i := (f (1 + q))) (by omega) (by omega))]
          try rw [(show ((nI (1 + q)) - (nI 1)) = nI q from rf_eq (rf_nsub (x := nI (1 + q)) (y := nI 1) rfl rfl (by omega)) (by omega))]
          try rw [(show (nI q).toNatClampNeg = q from rf_cl_n rfl (by omega))]
          try rw [(show β 36 q = nI (f q) from hr _ (by omega))]
          refine ok_V (As := [.int (nI (f q))]) (b := 2) (st := [.int (μ 95 (151 + 3 * f (1 + q)))]) mkX4_endOf qX10_whyNotWalked_92 rfl (rc_2) rfl rfl rfl rfl (Nat.le_of_ble_eq_true rfl) (c_end hR hI (by omega) (by omega)) ?_
          refine ok_step (ps := []) (L' := [some (.ref 1), some (.int set), some (.int (nI n)), some (.int lng), some (.int (nI (1 + q))), some (.int (μ 95 (20 + 8 * a + b))), some (.int ((μ 95 (151 + 3 * f (1 + q))) - (s_end (μ 95) (f q))))]) (st' := [.int (μ 95 (20 + 8 * a + b))]) (σ' := (β, μ)) (pc' := 100) kX10_whyNotWalked_95 rfl rfl rf_a0 ?_
          refine ok_if_lt bX10_whyNotWalked_100 (fun h100 => absurd h100 (h1)) (fun _ => ?_)
          refine ok_step (ps := []) (L' := [some (.ref 1), some (.int set), some (.int (nI n)), some (.int lng), some (.int (nI (1 + q))), some (.int (μ 95 (20 + 8 * a + b))), some (.int ((μ 95 (151 + 3 * f (1 + q))) - (s_end (μ 95) (f q))))]) (st' := [.int ((μ 95 (151 + 3 * f (1 + q))) - (s_end (μ 95) (f q))), .int (μ 95 (20 + 8 * a + b))]) (σ' := (β, μ)) (pc' := 107) kX10_whyNotWalked_103 rfl rfl rf_a0 ?_
          refine ok_icmp_le bX10_whyNotWalked_107 (fun h107 => absurd h107 (h2)) (fun _ => ?_)
          refine ok_step (ps := []) (L' := [some (.ref 1), some (.int set), some (.int (nI n)), some (.int lng), some (.int (nI (1 + q))), some (.int (μ 95 (20 + 8 * a + b))), some (.int ((μ 95 (151 + 3 * f (1 + q))) - (s_end (μ 95) (f q))))]) (st' := [.int (nI 1)]) (σ' := (β, μ)) (pc' := 111) kX10_whyNotWalked_110 rfl rfl rf_a0 ?_
          refine ok_reti eX10_whyNotWalked_111 rfl ?_
          exact ⟨rfl, _, rfl, hJ⟩
        · have hI2 : Iv (ρ 95) := hJ.2
          refine ok_step (ps := []) (L' := [some (.ref 94), some (.int set), some (.int lng), some (.int (nI (1 + q))), none, none, none]) (st' := [.int (ρ 94 12), .int (nI (1 + q))]) (σ' := (γ, ρ)) (pc' := 14) kX12_whyNot_9 rfl rfl rf_a0 ?_
          try rw [(show ρ 94 12 = nI n from h12)]
          refine ok_icmp_ge bX12_whyNot_14 (fun h14 => absurd h14 (nI_ge (by omega) (by omega))) (fun _ => ?_)
          refine ok_step (ps := [rf_in ((nI (1 + q)) - (nI 1)) 12]) (L' := [some (.ref 94), some (.int set), some (.int lng), some (.int (nI (1 + q))), some (.int (ρ 99 (((nI (1 + q)) - (nI 1)).toNatClampNeg))), none, none]) (st' := [.int (ρ 99 (((nI (1 + q)) - (nI 1)).toNatClampNeg)), .ref 94, .int (ρ 99 (((nI (1 + q)) - (nI 1)).toNatClampNeg)), .ref 94, .int (nI 8), .int (nI 20), .ref 95]) (σ' := (γ, ρ)) (pc' := 41) kX12_whyNot_17 rfl rfl (rf_a1 (rf_in_n (a := q) (by (try rw [(show ((nI (1 + q)) - (nI 1)) = nI q from rf_eq (rf_nsub (x := nI (1 + q)) (y := nI 1) rfl rfl (by omega)) (by omega))]); all_goals exact rfl) (by omega)) rf_a0) ?_
          try rw [(show ((nI (1 + q)) - (nI 1)) = nI q from rf_eq (rf_nsub (x := nI (1 + q)) (y := nI 1) rfl rfl (by omega)) (by omega))]
          try rw [(show (nI q).toNatClampNeg = q from rf_cl_n rfl (by omega))]
          try rw [(show ρ 99 q = nI (f q) from hr _ (by omega))]
          refine ok_V (As := [.int (nI (f q))]) (b := 94) (st := [.int (nI (f q)), .ref 94, .int (nI 8), .int (nI 20), .ref 95]) mkX12_stopsOf qX12_whyNot_41 rfl (rc_94) rfl rfl rfl rfl (Nat.le_of_ble_eq_true rfl) (m_stopsOf_d (d := μ 95) hI hd (by omega)) ?_
          refine ok_step (ps := []) (L' := [some (.ref 94), some (.int set), some (.int lng), some (.int (nI (1 + q))), some (.int (nI (f q))), none, none]) (st' := [.int ((s_stops (μ 95) (f q)) - (nI 1)), .int (nI (f q)), .ref 94, .int (nI 8), .int (nI 20), .ref 95]) (σ' := (γ, ρ)) (pc' := 46) kX12_whyNot_44 rfl rfl rf_a0 ?_
          try rw [(show ((s_stops (μ 95) (f q)) - (nI 1)) = nI ((cn (μ 95) (90 + 13 * cn (μ 95) (150 + 3 * (f q))) - 1)) from rf_eq (rf_nsub (x := s_stops (μ 95) (f q)) (y := nI 1) (st_at hI (by omega)) rfl (by omega)) (by omega))]
          refine ok_V (As := [.int (nI (f q)), .int (nI ((cn (μ 95) (90 + 13 * cn (μ 95) (150 + 3 * (f q))) - 1)))]) (b := 94) (st := [.int (nI 8), .int (nI 20), .ref 95]) mkX12_stationAt qX12_whyNot_46 rfl (rc_94) rfl rfl rfl rfl (Nat.le_of_ble_eq_true rfl) (m_stAt_d (d := μ 95) hI hd (by omega) (by omega)) ?_
          rw [show s_stAt (μ 95) (f q) ((cn (μ 95) (90 + 13 * cn (μ 95) (150 + 3 * (f q))) - 1)) = nI a from ea]
          refine ok_step (ps := [rf_in (nI (1 + q)) 12]) (L' := [some (.ref 94), some (.int set), some (.int lng), some (.int (nI (1 + q))), some (.int (nI (f q))), none, none]) (st' := [.int (nI 0), .int (ρ 99 ((nI (1 + q)).toNatClampNeg)), .ref 94, .int ((nI 20) + ((nI 8) * (nI a))), .ref 95]) (σ' := (γ, ρ)) (pc' := 59) kX12_whyNot_49 rfl rfl (rf_a1 (rf_in_n (a := (1 + q)) rfl (by omega)) rf_a0) ?_
          try rw [(show ((nI 8) * (nI a)) = nI (8 * a) from rf_eq (rf_nmul (x := nI 8) (y := nI a) rfl rfl) (by omega))]
          try rw [(show ((nI 20) + (nI (8 * a))) = nI (20 + 8 * a) from rf_eq (rf_nadd (x := nI 20) (y := nI (8 * a)) rfl rfl) (by omega))]
          try rw [(show (nI (1 + q)).toNatClampNeg = (1 + q) from rf_cl_n rfl (by omega))]
          try rw [(show ρ 99 (1 + q) = nI (f (1 + q)) from hr _ (by omega))]
          refine ok_V (As := [.int (nI (f (1 + q))), .int (nI 0)]) (b := 94) (st := [.int (nI (20 + 8 * a)), .ref 95]) mkX12_stationAt qX12_whyNot_59 rfl (rc_94) rfl rfl rfl rfl (Nat.le_of_ble_eq_true rfl) (m_stAt_d (d := μ 95) hI hd (by omega) (by omega)) ?_
          rw [eb]
          refine ok_step (ps := [rf_in ((nI (20 + 8 * a)) + (nI b)) 700, rf_in (nI (1 + q)) 12]) (L' := [some (.ref 94), some (.int set), some (.int lng), some (.int (nI (1 + q))), some (.int (nI (f q))), some (.int (ρ 95 (((nI (20 + 8 * a)) + (nI b)).toNatClampNeg))), none]) (st' := [.int (ρ 99 ((nI (1 + q)).toNatClampNeg)), .ref 94]) (σ' := (γ, ρ)) (pc' := 73) kX12_whyNot_62 rfl rfl (rf_a1 (rf_in_n (a := (20 + 8 * a + b)) (by (try rw [(show ((nI (20 + 8 * a)) + (nI b)) = nI (20 + 8 * a + b) from rf_eq (rf_nadd (x := nI (20 + 8 * a)) (y := nI b) rfl rfl) (by omega))]); all_goals exact rfl) (by omega)) (rf_a1 (rf_in_n (a := (1 + q)) rfl (by omega)) rf_a0)) ?_
          try rw [(show ((nI (20 + 8 * a)) + (nI b)) = nI (20 + 8 * a + b) from rf_eq (rf_nadd (x := nI (20 + 8 * a)) (y := nI b) rfl rfl) (by omega))]
          try rw [(show (nI (20 + 8 * a + b)).toNatClampNeg = (20 + 8 * a + b) from rf_cl_n rfl (by omega))]
          try rw [(show ρ 95 (20 + 8 * a + b) = μ 95 (20 + 8 * a + b) from congrFun hd _)]
          try rw [(show (nI (1 + q)).toNatClampNeg = (1 + q) from rf_cl_n rfl (by omega))]
          try rw [(show ρ 99 (1 + q) = nI (f (1 + q)) from hr _ (by omega))]
          refine ok_V (As := [.int (nI (f (1 + q)))]) (b := 94) (st := []) mkX12_startOf qX12_whyNot_73 rfl (rc_94) rfl rfl rfl rfl (Nat.le_of_ble_eq_true rfl) (m_startOf_d (d := μ 95) hI hd (by omega)) ?_
          refine ok_step (ps := []) (L' := [some (.ref 94), some (.int set), some (.int lng), some (.int (nI (1 + q))), some (.int (nI (f q))), some (.int (μ 95 (20 + 8 * a + b))), none]) (st' := [.int (nI (f q)), .ref 94, .int (μ 95 (151 + 3 * f (1 + q)))]) (σ' := (γ, ρ)) (pc' := 79) kX12_whyNot_76 rfl rfl rf_a0 ?_
          refine ok_V (As := [.int (nI (f q))]) (b := 94) (st := [.int (μ 95 (151 + 3 * f (1 + q)))]) mkX12_endOf qX12_whyNot_79 rfl (rc_94) rfl rfl rfl rfl (Nat.le_of_ble_eq_true rfl) (m_end_d (d := μ 95) hI hd (by omega) (by omega)) ?_
          refine ok_step (ps := []) (L' := [some (.ref 94), some (.int set), some (.int lng), some (.int (nI (1 + q))), some (.int (nI (f q))), some (.int (μ 95 (20 + 8 * a + b))), some (.int ((μ 95 (151 + 3 * f (1 + q))) - (s_end (μ 95) (f q))))]) (st' := [.int (μ 95 (20 + 8 * a + b))]) (σ' := (γ, ρ)) (pc' := 87) kX12_whyNot_82 rfl rfl rf_a0 ?_
          refine ok_if_lt bX12_whyNot_87 (fun h87 => absurd h87 (h1)) (fun _ => ?_)
          refine ok_step (ps := []) (L' := [some (.ref 94), some (.int set), some (.int lng), some (.int (nI (1 + q))), some (.int (nI (f q))), some (.int (μ 95 (20 + 8 * a + b))), some (.int ((μ 95 (151 + 3 * f (1 + q))) - (s_end (μ 95) (f q))))]) (st' := [.int (μ 95 (20 + 8 * a + b)), .int ((μ 95 (151 + 3 * f (1 + q))) - (s_end (μ 95) (f q)))]) (σ' := (γ, ρ)) (pc' := 94) kX12_whyNot_90 rfl rfl rf_a0 ?_
          refine ok_icmp_ge bX12_whyNot_94 (fun h94 => absurd h94 (h2)) (fun _ => ?_)
          refine ok_step (ps := []) (L' := [some (.ref 94), some (.int set), some (.int lng), some (.int (nI (1 + q))), some (.int (nI (f q))), some (.int (μ 95 (20 + 8 * a + b))), some (.int ((μ 95 (151 + 3 * f (1 + q))) - (s_end (μ 95) (f q))))]) (st' := [.int (nI 1)]) (σ' := (γ, ρ)) (pc' := 98) kX12_whyNot_97 rfl rfl rf_a0 ?_
          refine ok_reti eX12_whyNot_98 rfl ?_
          exact ⟨rfl, _, rfl, hJ⟩
theorem wy0 {n : Nat} (hJ : J α μ) (h1 : 1 ≤ n) (h2 : n < 2 ^ cn (μ 95) 3) : ∃ r : Int32, rf_Ok (rf_T Ln xs) MX10_whyNotWalked 11 0 [some (.ref 1), some (.int (nI n)), none, none, none, none, none] [] (α, μ) (fun r1 s => r1 = some (.int r) ∧ ∃ β' : Nat → Nat → Int32, s = (β', μ) ∧ J β' μ) ∧ (∀ α γ, J α μ → rf_Ok (rf_T Ln xs) MX12_whyNot 51 0 [some (.ref 94), some (.int (nI n)), none, none, none, none, none] [] (γ, μ) (fun r1 s => r1 = some (.int r) ∧ ∃ ρ' : Nat → Nat → Int32, s = (γ, ρ') ∧ J α ρ')) := by
  have hI := hJ.2
  have b3 := hI.le3
  have hs1 := sro_1 hI h1 h2
  have hsn := sro_n (d := μ 95) (set := nI n) (cn (μ 95) 3)
  have hsb := sro_b (d := μ 95) (set := nI n) (cn (μ 95) 3)
  obtain ⟨r, hc, hm⟩ := wy (Ln := Ln) (xs := xs) (μ := μ) (set := nI n) (f := (sro (μ 95) (nI n) (cn (μ 95) 3)).2) (n := (sro (μ 95) (nI n) (cn (μ 95) 3)).1) hI (by omega) (fun k hk => by have := hsb k; omega) ((sro (μ 95) (nI n) (cn (μ 95) 3)).1 - 1) 0 (nI 0) (by omega)
  refine ⟨r, ?_, fun α γ hJ => ?_⟩
  · refine ok_step (ps := []) (L' := [some (.ref 1), some (.int (nI n)), none, none, none, none, none]) (st' := [.ref 36, .int (nI n), .ref 2]) (σ' := (α, μ)) (pc' := 9) kX10_whyNotWalked_0 rfl rfl rf_a0 ?_
    refine ok_Vx (As := [.int (nI n), .ref 36]) (b := 2) (st := []) mkX4_sortByStart qX10_whyNotWalked_9 rfl (rc_2) rfl rfl rfl rfl (Nat.le_of_ble_eq_true rfl) (c_sro hJ) (fun r1 σ1 hq => ?_)
    obtain ⟨rfl, β, rfl, hb, hr⟩ := hq
    refine ok_step (ps := []) (L' := [some (.ref 1), some (.int (nI n)), some (.int (nI ((sro (μ 95) (nI n) (cn (μ 95) 3)).1))), some (.int (nI 0)), some (.int (nI 1)), none, none]) (st' := []) (σ' := (β, μ)) (pc' := 18) kX10_whyNotWalked_12 rfl rfl rf_a0 ?_
    exact (hc β (hJ.c36 hb) hr).more (by decide)
  · refine ok_step (ps := []) (L' := [some (.ref 94), some (.int (nI n)), none, none, none, none, none]) (st' := [.int (nI n), .ref 94]) (σ' := (γ, μ)) (pc' := 2) kX12_whyNot_0 rfl rfl rf_a0 ?_
    refine ok_Vx (As := [.int (nI n)]) (b := 94) (st := []) mkX12_findRow qX12_whyNot_2 rfl (rc_94) rfl rfl rfl rfl (Nat.le_of_ble_eq_true rfl) (m_sro hJ) (fun r1 σ1 hq => ?_)
    obtain ⟨rfl, ρ, rfl, ⟨hb, h12⟩, hr⟩ := hq
    refine ok_step (ps := []) (L' := [some (.ref 94), some (.int (nI n)), some (.int (nI 0)), some (.int (nI 1)), none, none, none]) (st' := []) (σ' := (γ, ρ)) (pc' := 9) kX12_whyNot_5 rfl rfl rf_a0 ?_
    exact (hm α γ ρ (hJ.sR hb) (hb.1 95 (by decide) (by decide)) h12 hr).more (by decide)
theorem op_walked {set : Int32} (hJ : J α μ)  : Op (rf_T Ln xs) MX11_walked MX12_walked [some (.ref 0), some (.int set)] [some (.ref 94), some (.int set)] α μ := by
  have hR := hJ.1.1.1
  have hI := hJ.2
  have b0 := hI.le0
  have b1 := hI.le1
  have b2 := hI.le2
  have b3 := hI.le3
  have b4 := hI.le4
  have b5 := hI.le5
  have b6 := hI.le6
  have b8 := hI.le8
  have b9 := hI.le9
  have b11 := hI.le11
  have b12 := hI.le12
  refine ok_step (ps := []) (L' := [some (.ref 0), some (.int set)]) (st' := [.int set, .ref 0]) (σ' := (α, μ)) (pc' := 2) kX11_walked_0 rfl rfl rf_a0 ?_
  refine ok_V (As := [.int set]) (b := 0) (st := []) mkX11_isSetOfTrains qX11_walked_2 rfl (rc_0) rfl rfl rfl rfl (Nat.le_of_ble_eq_true rfl) (c_isSet hR) ?_
  refine ok_if_ne bX11_walked_5 (fun h5 => ?_) (fun h5 => ?_)
  · obtain ⟨n, hn1, hn2, rfl⟩ := set_n (T := cn (μ 95) 3) (by omega) hI.at3 (bI_n0.mp h5)
    obtain ⟨rr, hwc, hwm⟩ := wy0 (Ln := Ln) (xs := xs) hJ hn1 hn2
    refine ok_step (ps := []) (L' := [some (.ref 0), some (.int (nI n))]) (st' := [.int (nI n), .ref 1]) (σ' := (α, μ)) (pc' := 20) kX11_walked_15 rfl rfl rf_a0 ?_
    refine ok_Vx (As := [.int (nI n)]) (b := 1) (st := []) mkX10_whyNotWalked qX11_walked_20 rfl (rc_1) rfl rfl rfl rfl (Nat.le_of_ble_eq_true rfl) (hwc) (fun r1 σ1 hq => ?_)
    obtain ⟨rfl, α, rfl, hJ⟩ := hq
    have hR := hJ.1.1.1
    refine ok_reti eX11_walked_23 rfl ?_
    refine ⟨rfl, _, rfl, ?_⟩
    refine ok_step (ps := []) (L' := [some (.ref 94), some (.int (nI n))]) (st' := [.int (nI n), .ref 94]) (σ' := (α, μ)) (pc' := 2) kX12_walked_0 rfl rfl rf_a0 ?_
    refine ok_V (As := [.int (nI n)]) (b := 94) (st := []) mkX12_isSet qX12_walked_2 rfl (rc_94) rfl rfl rfl rfl (Nat.le_of_ble_eq_true rfl) (m_isSet) ?_
    refine ok_if_eq bX12_walked_5 (fun g5 => absurd g5 (h5)) (fun _ => ?_)
    refine ok_step (ps := []) (L' := [some (.ref 94), some (.int (nI n))]) (st' := [.int (nI n), .ref 94]) (σ' := (α, μ)) (pc' := 10) kX12_walked_8 rfl rfl rf_a0 ?_
    refine ok_Vx (As := [.int (nI n)]) (b := 94) (st := []) mkX12_whyNot qX12_walked_10 rfl (rc_94) rfl rfl rfl rfl (Nat.le_of_ble_eq_true rfl) (hwm _ _ hJ) (fun r1 σ1 hq => ?_)
    obtain ⟨rfl, ν, rfl, hJ2⟩ := hq
    refine ok_goto bX12_walked_13 ?_
    refine ok_reti eX12_walked_21 rfl ?_
    exact ⟨rfl, _, rfl, hJ2⟩
  · refine ok_step (ps := []) (L' := [some (.ref 0), some (.int set)]) (st' := [.int (-1000000001), .ref 0]) (σ' := (α, μ)) (pc' := 11) kX11_walked_8 rfl rfl rf_a0 ?_
    refine ok_V (As := [.int (-1000000001)]) (b := 0) (st := []) mkX11_error qX11_walked_11 rfl (rc_0) rfl rfl rfl rfl (Nat.le_of_ble_eq_true rfl) (c_error (k := 1) (by decide) (by decide) (by decide)) ?_
    refine ok_reti eX11_walked_14 rfl ?_
    refine ⟨rfl, _, rfl, ?_⟩
    refine ok_step (ps := []) (L' := [some (.ref 94), some (.int set)]) (st' := [.int set, .ref 94]) (σ' := (rf_w α 93 1 (α 93 1 + nI 1), μ)) (pc' := 2) kX12_walked_0 rfl rfl rf_a0 ?_
    refine ok_V (As := [.int set]) (b := 94) (st := []) mkX12_isSet qX12_walked_2 rfl (rc_94) rfl rfl rfl rfl (Nat.le_of_ble_eq_true rfl) (m_isSet) ?_
    refine ok_if_eq bX12_walked_5 (fun _ => ?_) (fun g5 => absurd (h5) g5)
    refine ok_step (ps := []) (L' := [some (.ref 94), some (.int set)]) (st' := [.int (nI 1), .ref 94]) (σ' := (rf_w α 93 1 (α 93 1 + nI 1), μ)) (pc' := 18) kX12_walked_16 rfl rfl rf_a0 ?_
    refine ok_V (As := [.int (nI 1)]) (b := 94) (st := []) mkX12_finds qX12_walked_18 rfl (rc_94) rfl rfl rfl rfl (Nat.le_of_ble_eq_true rfl) (m_finds (k := 1) (by decide)) ?_
    refine ok_reti eX12_walked_21 rfl ?_
    exact ⟨rfl, _, rfl, hJ.err (k := 1) (by decide)⟩
end H53
