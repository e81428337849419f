theorem lt_nat2 {x : Int32} {a n : Nat} (hx : x = nI a) (h : x < nI n) (ha : a < 2147483648 ∧ n < 2147483648) : a < n := by
  subst hx
  exact (nI_ltI (by omega) (by omega)).mp h
section H54
variable {Ln : Nat} {xs : Nat → Int32} {α μ ν δ γ : Nat → Nat → Int32}
theorem op_shift {set : Int32} (hJ : J α μ) : Op (rf_T Ln xs) MX11_shift MX12_shift [some (.ref 0), some (.int set)] [some (.ref 94), some (.int set)] α μ := by
  have hR := hJ.1.1.1
  have hI := hJ.2
  have b3 := hI.le3
  have b5 := hI.le5
  refine ok_step (ps := []) (L' := [some (.ref 0), some (.int set)]) (st' := [.int set, .ref 0]) (σ' := (α, μ)) (pc' := 2) kX11_shift_0 rfl rfl rf_a0 ?_
  refine ok_V (As := [.int set]) (b := 0) (st := []) mkX11_isSetOfTrains qX11_shift_2 rfl (rc_0) rfl rfl rfl rfl (Nat.le_of_ble_eq_true rfl) (c_isSet hR) ?_
  refine ok_if_ne bX11_shift_5 (fun h5 => ?_) (fun h5 => ?_)
  · obtain ⟨n, hn1, hn2, rfl⟩ := set_n (T := cn (μ 95) 3) (by omega) hI.at3 (bI_n0.mp h5)
    obtain ⟨rr, hwc, hwm⟩ := wy0 (Ln := Ln) (xs := xs) hJ hn1 hn2
    have h2p : 2 ^ cn (μ 95) 3 ≤ 2 ^ 12 := Nat.pow_le_pow_right (by decide) (by omega)
    refine ok_step (ps := []) (L' := [some (.ref 0), some (.int (nI n))]) (st' := [.int (nI n), .ref 1]) (σ' := (α, μ)) (pc' := 20) kX11_shift_15 rfl rfl rf_a0 ?_
    refine ok_Vx (As := [.int (nI n)]) (b := 1) (st := []) mkX10_whyNotWalked qX11_shift_20 rfl (rc_1) rfl rfl rfl rfl (Nat.le_of_ble_eq_true rfl) (hwc) (fun r1 σ1 hq => ?_)
    obtain ⟨rfl, α, rfl, hJ⟩ := hq
    have hR := hJ.1.1.1
    refine ok_if_eq bX11_shift_23 (fun h23 => ?_) (fun h23 => ?_)
    · refine ok_step (ps := []) (L' := [some (.ref 0), some (.int (nI n))]) (st' := [.int (nI 8), .int (α 19 0)]) (σ' := (α, μ)) (pc' := 45) kX11_shift_33 rfl rfl rf_a0 ?_
      try rw [(show α 19 0 = μ 95 5 from hR 18 0 5 rfl)]
      refine ok_icmp_lt bX11_shift_45 (fun h45 => ?_) (fun h45 => ?_)
      · have l45 := lt_nat2 hI.at5 h45 (by omega)
        refine ok_step (ps := []) (L' := [some (.ref 0), some (.int (nI n))]) (st' := [.int (nI n), .ref 19]) (σ' := (α, μ)) (pc' := 63) kX11_shift_55 rfl rfl rf_a0 ?_
        have hc63 : rf_At (rf_T Ln xs) MX7_addShift 50 0 ([some (.ref 19), some (.int (nI n)), none], [], 108, (α, μ)) (some (.int (μ 95 5))) 108 (rf_w (rf_w (rf_w α 19 0 (nI (1 + cn (μ 95) 5))) 20 (cn (μ 95) 5) (nI n)) 21 (cn (μ 95) 5) (nI 0), μ) := by
          refine rf_pa ?_
          refine ok_step (ps := [rf_in (α 19 0) 8, rf_in (α 19 0) 8]) (L' := [some (.ref 19), some (.int (nI n)), some (.int (α 19 0))]) (st' := [.int (α 19 0)]) (σ' := (rf_w (rf_w (rf_w α 19 0 ((α 19 0) + (nI 1))) 20 ((α 19 0).toNatClampNeg) (nI n)) 21 ((α 19 0).toNatClampNeg) (nI 0), μ)) (pc' := 30) kX7_addShift_0 rfl rfl (rf_a1 (rf_in_n (a := (cn (μ 95) 5)) (by (try rw [(show α 19 0 = μ 95 5 from hR 18 0 5 rfl)]); (try rw [(show α 19 0 = μ 95 5 from hR 18 0 5 rfl)]); (try rw [(show ((μ 95 5) + (nI 1)) = nI (1 + cn (μ 95) 5) from rf_eq (rf_nadd (x := μ 95 5) (y := nI 1) (hI.at5) rfl) (by omega))]); all_goals exact (hI.at5)) (by omega)) (rf_a1 (rf_in_n (a := (cn (μ 95) 5)) (by (try rw [(show α 19 0 = μ 95 5 from hR 18 0 5 rfl)]); (try rw [(show α 19 0 = μ 95 5 from hR 18 0 5 rfl)]); (try rw [(show ((μ 95 5) + (nI 1)) = nI (1 + cn (μ 95) 5) from rf_eq (rf_nadd (x := μ 95 5) (y := nI 1) (hI.at5) rfl) (by omega))]); (try rw [(show (μ 95 5).toNatClampNeg = (cn (μ 95) 5) from rf_cl_n (hI.at5) (by omega))]); all_goals exact (hI.at5)) (by omega)) rf_a0)) ?_
          try rw [(show α 19 0 = μ 95 5 from hR 18 0 5 rfl)]
          try rw [(show ((μ 95 5) + (nI 1)) = nI (1 + cn (μ 95) 5) from rf_eq (rf_nadd (x := μ 95 5) (y := nI 1) (hI.at5) rfl) (by omega))]
          try rw [(show (μ 95 5).toNatClampNeg = (cn (μ 95) 5) from rf_cl_n (hI.at5) (by omega))]
          refine ok_reti eX7_addShift_30 rfl ?_
          exact ⟨rfl, rfl⟩
        refine ok_V (As := [.int (nI n)]) (b := 19) (st := []) mkX7_addShift qX11_shift_63 rfl (rc_19) rfl rfl rfl rfl (Nat.le_of_ble_eq_true rfl) (hc63) ?_
        refine ok_reti eX11_shift_66 rfl ?_
        refine ⟨rfl, _, rfl, ?_⟩
        refine ok_step (ps := []) (L' := [some (.ref 94), some (.int (nI n))]) (st' := [.int (nI n), .ref 94]) (σ' := (rf_w (rf_w (rf_w α 19 0 (nI (1 + cn (μ 95) 5))) 20 (cn (μ 95) 5) (nI n)) 21 (cn (μ 95) 5) (nI 0), μ)) (pc' := 2) kX12_shift_0 rfl rfl rf_a0 ?_
        refine ok_V (As := [.int (nI n)]) (b := 94) (st := []) mkX12_isSet qX12_shift_2 rfl (rc_94) rfl rfl rfl rfl (Nat.le_of_ble_eq_true rfl) (m_isSet) ?_
        refine ok_if_ne bX12_shift_5 (fun _ => ?_) (fun g5 => absurd g5 (h5))
        refine ok_step (ps := []) (L' := [some (.ref 94), some (.int (nI n))]) (st' := [.int (nI n), .ref 94]) (σ' := (rf_w (rf_w (rf_w α 19 0 (nI (1 + cn (μ 95) 5))) 20 (cn (μ 95) 5) (nI n)) 21 (cn (μ 95) 5) (nI 0), μ)) (pc' := 16) kX12_shift_14 rfl rfl rf_a0 ?_
        refine ok_Vx (As := [.int (nI n)]) (b := 94) (st := []) mkX12_whyNot qX12_shift_16 rfl (rc_94) rfl rfl rfl rfl (Nat.le_of_ble_eq_true rfl) (hwm _ _ hJ) (fun r1 σ1 hq => ?_)
        obtain ⟨rfl, ν, rfl, hJ2⟩ := hq
        have hI2 := hJ2.2
        have e5 : μ 95 5 = ν 95 5 := (hJ.1.1.1 18 0 5 rfl).symm.trans (hJ2.1.1.1 18 0 5 rfl)
        have e3 : μ 95 3 = ν 95 3 := (hJ.1.1.1 1 2 3 rfl).symm.trans (hJ2.1.1.1 1 2 3 rfl)
        have c5 : cn (μ 95) 5 = cn (ν 95) 5 := congrArg Int32.toNatClampNeg e5
        have c3 : cn (μ 95) 3 = cn (ν 95) 3 := congrArg Int32.toNatClampNeg e3
        try simp only [c5, e5]
        refine ok_if_eq bX12_shift_19 (fun _ => ?_) (fun g19 => absurd (h23) g19)
        refine ok_step (ps := [rf_in (nI 5) 700]) (L' := [some (.ref 94), some (.int (nI n))]) (st' := [.int (nI 8), .int (ν 95 ((nI 5).toNatClampNeg))]) (σ' := (rf_w (rf_w (rf_w α 19 0 (nI (1 + cn (ν 95) 5))) 20 (cn (ν 95) 5) (nI n)) 21 (cn (ν 95) 5) (nI 0), ν)) (pc' := 36) kX12_shift_28 rfl rfl (rf_a1 (rf_in_n (a := 5) rfl (by omega)) rf_a0) ?_
        try rw [(show (nI 5).toNatClampNeg = 5 from rf_cl_n rfl (by omega))]
        refine ok_icmp_ne bX12_shift_36 (fun _ => ?_) (fun g36 => absurd g36 (lt_ne (by rw [← e5]; exact h45)))
        refine ok_step (ps := [rf_in (nI 5) 700, rf_in ((nI 320) + (ν 95 ((nI 5).toNatClampNeg))) 700, rf_in (nI 5) 700, rf_in ((nI 330) + ((rf_w ν 95 (((nI 320) + (ν 95 ((nI 5).toNatClampNeg))).toNatClampNeg) (nI n)) 95 ((nI 5).toNatClampNeg))) 700, rf_in (nI 5) 700, rf_in (nI 5) 700, rf_in (nI 5) 700]) (L' := [some (.ref 94), some (.int (nI n))]) (st' := [.int (((rf_w (rf_w (rf_w ν 95 (((nI 320) + (ν 95 ((nI 5).toNatClampNeg))).toNatClampNeg) (nI n)) 95 (((nI 330) + ((rf_w ν 95 (((nI 320) + (ν 95 ((nI 5).toNatClampNeg))).toNatClampNeg) (nI n)) 95 ((nI 5).toNatClampNeg))).toNatClampNeg) (nI 0)) 95 ((nI 5).toNatClampNeg) (((rf_w (rf_w ν 95 (((nI 320) + (ν 95 ((nI 5).toNatClampNeg))).toNatClampNeg) (nI n)) 95 (((nI 330) + ((rf_w ν 95 (((nI 320) + (ν 95 ((nI 5).toNatClampNeg))).toNatClampNeg) (nI n)) 95 ((nI 5).toNatClampNeg))).toNatClampNeg) (nI 0)) 95 ((nI 5).toNatClampNeg)) + (nI 1))) 95 ((nI 5).toNatClampNeg)) - (nI 1))]) (σ' := (rf_w (rf_w (rf_w α 19 0 (nI (1 + cn (ν 95) 5))) 20 (cn (ν 95) 5) (nI n)) 21 (cn (ν 95) 5) (nI 0), rf_w (rf_w (rf_w ν 95 (((nI 320) + (ν 95 ((nI 5).toNatClampNeg))).toNatClampNeg) (nI n)) 95 (((nI 330) + ((rf_w ν 95 (((nI 320) + (ν 95 ((nI 5).toNatClampNeg))).toNatClampNeg) (nI n)) 95 ((nI 5).toNatClampNeg))).toNatClampNeg) (nI 0)) 95 ((nI 5).toNatClampNeg) (((rf_w (rf_w ν 95 (((nI 320) + (ν 95 ((nI 5).toNatClampNeg))).toNatClampNeg) (nI n)) 95 (((nI 330) + ((rf_w ν 95 (((nI 320) + (ν 95 ((nI 5).toNatClampNeg))).toNatClampNeg) (nI n)) 95 ((nI 5).toNatClampNeg))).toNatClampNeg) (nI 0)) 95 ((nI 5).toNatClampNeg)) + (nI 1)))) (pc' := 95) kX12_shift_45 rfl rfl (rf_a1 (rf_in_n (a := 5) rfl (by omega)) (rf_a1 (rf_in_n (a := (320 + cn (ν 95) 5)) (by (try rw [(show (nI 5).toNatClampNeg = 5 from rf_cl_n rfl (by omega))]); (try rw [(show ((nI 320) + (ν 95 5)) = nI (320 + cn (ν 95) 5) from rf_eq (rf_nadd (x := nI 320) (y := ν 95 5) rfl (hI2.at5)) (by omega))]); all_goals exact rfl) (by omega)) (rf_a1 (rf_in_n (a := 5) rfl (by omega)) (rf_a1 (rf_in_n (a := (330 + cn (ν 95) 5)) (by (try rw [(show (nI 5).toNatClampNeg = 5 from rf_cl_n rfl (by omega))]); (try rw [(show ((nI 320) + (ν 95 5)) = nI (320 + cn (ν 95) 5) from rf_eq (rf_nadd (x := nI 320) (y := ν 95 5) rfl (hI2.at5)) (by omega))]); (try rw [(show (nI (320 + cn (ν 95) 5)).toNatClampNeg = (320 + cn (ν 95) 5) from rf_cl_n rfl (by omega))]); (try rw [(show (nI 5).toNatClampNeg = 5 from rf_cl_n rfl (by omega))]); (try rw [(show (rf_w ν 95 (320 + cn (ν 95) 5) (nI n)) 95 5 = ν 95 5 from by rw [rf_w_at, if_neg (fun h => absurd h.2 (by omega))])]); (try rw [(show ((nI 330) + (ν 95 5)) = nI (330 + cn (ν 95) 5) from rf_eq (rf_nadd (x := nI 330) (y := ν 95 5) rfl (hI2.at5)) (by omega))]); all_goals exact rfl) (by omega)) (rf_a1 (rf_in_n (a := 5) rfl (by omega)) (rf_a1 (rf_in_n (a := 5) rfl (by omega)) (rf_a1 (rf_in_n (a := 5) rfl (by omega)) rf_a0))))))) ?_
        try rw [(show (nI 5).toNatClampNeg = 5 from rf_cl_n rfl (by omega))]
        try rw [(show ((nI 320) + (ν 95 5)) = nI (320 + cn (ν 95) 5) from rf_eq (rf_nadd (x := nI 320) (y := ν 95 5) rfl (hI2.at5)) (by omega))]
        try rw [(show (nI (320 + cn (ν 95) 5)).toNatClampNeg = (320 + cn (ν 95) 5) from rf_cl_n rfl (by omega))]
        try rw [(show (nI 5).toNatClampNeg = 5 from rf_cl_n rfl (by omega))]
        try rw [(show (rf_w ν 95 (320 + cn (ν 95) 5) (nI n)) 95 5 = ν 95 5 from by rw [rf_w_at, if_neg (fun h => absurd h.2 (by omega))])]
        try rw [(show ((nI 330) + (ν 95 5)) = nI (330 + cn (ν 95) 5) from rf_eq (rf_nadd (x := nI 330) (y := ν 95 5) rfl (hI2.at5)) (by omega))]
        try rw [(show (nI (330 + cn (ν 95) 5)).toNatClampNeg = (330 + cn (ν 95) 5) from rf_cl_n rfl (by omega))]
        try rw [(show (nI 5).toNatClampNeg = 5 from rf_cl_n rfl (by omega))]
        try rw [(show (rf_w (rf_w ν 95 (320 + cn (ν 95) 5) (nI n)) 95 (330 + cn (ν 95) 5) (nI 0)) 95 5 = (rf_w ν 95 (320 + cn (ν 95) 5) (nI n)) 95 5 from by rw [rf_w_at, if_neg (fun h => absurd h.2 (by omega))])]
        try rw [(show (rf_w ν 95 (320 + cn (ν 95) 5) (nI n)) 95 5 = ν 95 5 from by rw [rf_w_at, if_neg (fun h => absurd h.2 (by omega))])]
        try rw [(show ((ν 95 5) + (nI 1)) = nI (1 + cn (ν 95) 5) from rf_eq (rf_nadd (x := ν 95 5) (y := nI 1) (hI2.at5) rfl) (by omega))]
        try rw [(show (nI 5).toNatClampNeg = 5 from rf_cl_n rfl (by omega))]
        try rw [(show (rf_w (rf_w (rf_w ν 95 (320 + cn (ν 95) 5) (nI n)) 95 (330 + cn (ν 95) 5) (nI 0)) 95 5 (nI (1 + cn (ν 95) 5))) 95 5 = (nI (1 + cn (ν 95) 5)) from by rw [rf_w_at, if_pos ⟨rfl, rfl⟩])]
        refine ok_reti eX12_shift_95 rfl ?_
        refine ⟨inc_back (by first | exact hI2.at5 | rfl), _, rfl, J0.mc (((hJ2.1.put (c := 18) (i := 0) (j := 5) rfl _).put (c := 19) (i := (cn (ν 95) 5)) (j := (320 + cn (ν 95) 5)) (off_19 (by omega) (by omega)) _).put (c := 20) (i := (cn (ν 95) 5)) (j := (330 + cn (ν 95) 5)) (off_20 (by omega) (by omega)) _) (fun i => ?_) (fun k hk => ?_), ?_⟩
        · simp only [rf_w_at, true_and, reduceIte]
          try (repeat' split)
          all_goals first | rfl | omega | (exfalso; omega)
        · simp only [rf_w_row hk]
        · try simp only [rf_w_self]
          refine ((hI2.put320 (s := (cn (ν 95) 5)) (m := n) (by omega) (by omega) ?_).put330 (s := (cn (ν 95) 5)) (m := 0) (by omega) (by omega) (by omega)).inc5 (n := cn (ν 95) 5) (by (repeat rw [cn_upd (by omega)])) (by omega) ?_
          · (repeat rw [cn_upd (by omega)])
            exact Nat.le_refl _
          · rw [show cn _ 3 = cn (ν 95) 3 from by (repeat rw [cn_upd (by omega)])]
            (repeat rw [cn_upd (by omega)])
            rw [cn_self, nI_clamp (by omega)]
            exact ⟨hn1, by rw [← c3]; exact hn2⟩
      · refine ok_step (ps := []) (L' := [some (.ref 0), some (.int (nI n))]) (st' := [.int (-1000000004), .ref 0]) (σ' := (α, μ)) (pc' := 51) kX11_shift_48 rfl rfl rf_a0 ?_
        refine ok_V (As := [.int (-1000000004)]) (b := 0) (st := []) mkX11_error qX11_shift_51 rfl (rc_0) rfl rfl rfl rfl (Nat.le_of_ble_eq_true rfl) (c_error (k := 4) (by decide) (by decide) (by decide)) ?_
        refine ok_reti eX11_shift_54 rfl ?_
        refine ⟨rfl, _, rfl, ?_⟩
        refine ok_step (ps := []) (L' := [some (.ref 94), some (.int (nI n))]) (st' := [.int (nI n), .ref 94]) (σ' := (rf_w α 93 4 (α 93 4 + nI 1), μ)) (pc' := 2) kX12_shift_0 rfl rfl rf_a0 ?_
        refine ok_V (As := [.int (nI n)]) (b := 94) (st := []) mkX12_isSet qX12_shift_2 rfl (rc_94) rfl rfl rfl rfl (Nat.le_of_ble_eq_true rfl) (m_isSet) ?_
        refine ok_if_ne bX12_shift_5 (fun _ => ?_) (fun g5 => absurd g5 (h5))
        refine ok_step (ps := []) (L' := [some (.ref 94), some (.int (nI n))]) (st' := [.int (nI n), .ref 94]) (σ' := (rf_w α 93 4 (α 93 4 + nI 1), μ)) (pc' := 16) kX12_shift_14 rfl rfl rf_a0 ?_
        refine ok_Vx (As := [.int (nI n)]) (b := 94) (st := []) mkX12_whyNot qX12_shift_16 rfl (rc_94) rfl rfl rfl rfl (Nat.le_of_ble_eq_true rfl) (hwm _ _ hJ) (fun r1 σ1 hq => ?_)
        obtain ⟨rfl, ν, rfl, hJ2⟩ := hq
        have hI2 := hJ2.2
        have e5 : μ 95 5 = ν 95 5 := (hJ.1.1.1 18 0 5 rfl).symm.trans (hJ2.1.1.1 18 0 5 rfl)
        have e3 : μ 95 3 = ν 95 3 := (hJ.1.1.1 1 2 3 rfl).symm.trans (hJ2.1.1.1 1 2 3 rfl)
        have c5 : cn (μ 95) 5 = cn (ν 95) 5 := congrArg Int32.toNatClampNeg e5
        have c3 : cn (μ 95) 3 = cn (ν 95) 3 := congrArg Int32.toNatClampNeg e3
        try simp only [c5, e5]
        refine ok_if_eq bX12_shift_19 (fun _ => ?_) (fun g19 => absurd (h23) g19)
        refine ok_step (ps := [rf_in (nI 5) 700]) (L' := [some (.ref 94), some (.int (nI n))]) (st' := [.int (nI 8), .int (ν 95 ((nI 5).toNatClampNeg))]) (σ' := (rf_w α 93 4 (α 93 4 + nI 1), ν)) (pc' := 36) kX12_shift_28 rfl rfl (rf_a1 (rf_in_n (a := 5) rfl (by omega)) rf_a0) ?_
        try rw [(show (nI 5).toNatClampNeg = 5 from rf_cl_n rfl (by omega))]
        refine ok_icmp_ne bX12_shift_36 (fun g36 => absurd (full_eq hI2.at5 (by omega) (by rw [← e5]; exact h45)) g36) (fun _ => ?_)
        refine ok_step (ps := []) (L' := [some (.ref 94), some (.int (nI n))]) (st' := [.int (nI 4), .ref 94]) (σ' := (rf_w α 93 4 (α 93 4 + nI 1), ν)) (pc' := 41) kX12_shift_39 rfl rfl rf_a0 ?_
        refine ok_V (As := [.int (nI 4)]) (b := 94) (st := []) mkX12_finds qX12_shift_41 rfl (rc_94) rfl rfl rfl rfl (Nat.le_of_ble_eq_true rfl) (m_finds (k := 4) (by decide)) ?_
        refine ok_reti eX12_shift_44 rfl ?_
        exact ⟨rfl, _, rfl, hJ2.err (k := 4) (by decide)⟩
    · refine ok_step (ps := []) (L' := [some (.ref 0), some (.int (nI n))]) (st' := [.int (-1000000003), .ref 0]) (σ' := (α, μ)) (pc' := 29) kX11_shift_26 rfl rfl rf_a0 ?_
      refine ok_V (As := [.int (-1000000003)]) (b := 0) (st := []) mkX11_error qX11_shift_29 rfl (rc_0) rfl rfl rfl rfl (Nat.le_of_ble_eq_true rfl) (c_error (k := 3) (by decide) (by decide) (by decide)) ?_
      refine ok_reti eX11_shift_32 rfl ?_
      refine ⟨rfl, _, rfl, ?_⟩
      refine ok_step (ps := []) (L' := [some (.ref 94), some (.int (nI n))]) (st' := [.int (nI n), .ref 94]) (σ' := (rf_w α 93 3 (α 93 3 + nI 1), μ)) (pc' := 2) kX12_shift_0 rfl rfl rf_a0 ?_
      refine ok_V (As := [.int (nI n)]) (b := 94) (st := []) mkX12_isSet qX12_shift_2 rfl (rc_94) rfl rfl rfl rfl (Nat.le_of_ble_eq_true rfl) (m_isSet) ?_
      refine ok_if_ne bX12_shift_5 (fun _ => ?_) (fun g5 => absurd g5 (h5))
      refine ok_step (ps := []) (L' := [some (.ref 94), some (.int (nI n))]) (st' := [.int (nI n), .ref 94]) (σ' := (rf_w α 93 3 (α 93 3 + nI 1), μ)) (pc' := 16) kX12_shift_14 rfl rfl rf_a0 ?_
      refine ok_Vx (As := [.int (nI n)]) (b := 94) (st := []) mkX12_whyNot qX12_shift_16 rfl (rc_94) rfl rfl rfl rfl (Nat.le_of_ble_eq_true rfl) (hwm _ _ hJ) (fun r1 σ1 hq => ?_)
      obtain ⟨rfl, ν, rfl, hJ2⟩ := hq
      have hI2 := hJ2.2
      have e5 : μ 95 5 = ν 95 5 := (hJ.1.1.1 18 0 5 rfl).symm.trans (hJ2.1.1.1 18 0 5 rfl)
      have e3 : μ 95 3 = ν 95 3 := (hJ.1.1.1 1 2 3 rfl).symm.trans (hJ2.1.1.1 1 2 3 rfl)
      have c5 : cn (μ 95) 5 = cn (ν 95) 5 := congrArg Int32.toNatClampNeg e5
      have c3 : cn (μ 95) 3 = cn (ν 95) 3 := congrArg Int32.toNatClampNeg e3
      try simp only [c5, e5]
      refine ok_if_eq bX12_shift_19 (fun g19 => absurd g19 (h23)) (fun _ => ?_)
      refine ok_step (ps := []) (L' := [some (.ref 94), some (.int (nI n))]) (st' := [.int (nI 3), .ref 94]) (σ' := (rf_w α 93 3 (α 93 3 + nI 1), ν)) (pc' := 24) kX12_shift_22 rfl rfl rf_a0 ?_
      refine ok_V (As := [.int (nI 3)]) (b := 94) (st := []) mkX12_finds qX12_shift_24 rfl (rc_94) rfl rfl rfl rfl (Nat.le_of_ble_eq_true rfl) (m_finds (k := 3) (by decide)) ?_
      refine ok_reti eX12_shift_27 rfl ?_
      exact ⟨rfl, _, rfl, hJ2.err (k := 3) (by decide)⟩
  · refine ok_step (ps := []) (L' := [some (.ref 0), some (.int set)]) (st' := [.int (-1000000001), .ref 0]) (σ' := (α, μ)) (pc' := 11) kX11_shift_8 rfl rfl rf_a0 ?_
    refine ok_V (As := [.int (-1000000001)]) (b := 0) (st := []) mkX11_error qX11_shift_11 rfl (rc_0) rfl rfl rfl rfl (Nat.le_of_ble_eq_true rfl) (c_error (k := 1) (by decide) (by decide) (by decide)) ?_
    refine ok_reti eX11_shift_14 rfl ?_
    refine ⟨rfl, _, rfl, ?_⟩
    refine ok_step (ps := []) (L' := [some (.ref 94), some (.int set)]) (st' := [.int set, .ref 94]) (σ' := (rf_w α 93 1 (α 93 1 + nI 1), μ)) (pc' := 2) kX12_shift_0 rfl rfl rf_a0 ?_
    refine ok_V (As := [.int set]) (b := 94) (st := []) mkX12_isSet qX12_shift_2 rfl (rc_94) rfl rfl rfl rfl (Nat.le_of_ble_eq_true rfl) (m_isSet) ?_
    refine ok_if_ne bX12_shift_5 (fun g5 => absurd (h5) g5) (fun _ => ?_)
    refine ok_step (ps := []) (L' := [some (.ref 94), some (.int set)]) (st' := [.int (nI 1), .ref 94]) (σ' := (rf_w α 93 1 (α 93 1 + nI 1), μ)) (pc' := 10) kX12_shift_8 rfl rfl rf_a0 ?_
    refine ok_V (As := [.int (nI 1)]) (b := 94) (st := []) mkX12_finds qX12_shift_10 rfl (rc_94) rfl rfl rfl rfl (Nat.le_of_ble_eq_true rfl) (m_finds (k := 1) (by decide)) ?_
    refine ok_reti eX12_shift_13 rfl ?_
    exact ⟨rfl, _, rfl, hJ.err (k := 1) (by decide)⟩
theorem chl {f : Nat → Nat} {n w s : Nat} {d : Nat → Int32} (hn : n ≤ 12) (hw : w ≤ 20) : ∀ (j k : Nat), k + j = w → k ≤ n → ∃ r : Int32, (∀ β δ, Rl 1 β d → (∀ k, k < n → β 36 k = nI (f k)) → rf_At (rf_T Ln xs) MX10_checkOrder 5 24 ([some (.ref 1), some (.int (nI s)), some (.int (nI w)), some (.int (nI n)), some (.int (nI k))], [], 108, (β, δ)) (some (.int r)) 108 (β, δ)) ∧ (∀ γ ρ, ρ 95 = d → ρ 94 12 = nI n → (∀ k, k < n → ρ 99 k = nI (f k)) → rf_At (rf_T Ln xs) MX12_check 60 46 ([some (.ref 94), some (.int (nI s)), some (.int (nI w)), some (.int (nI k))], [], 108, (γ, ρ)) (some (.int r)) 108 (γ, ρ)) := by
  intro j
  induction j with
  | zero =>
    intro k hk hkn
    rcases Nat.lt_or_ge k n with h1 | h1
    · skip
      refine ⟨nI (1 + k), fun β δ hR hr => rf_pa ?_, fun γ ρ hd h12 hr => rf_pa ?_⟩
      · refine ok_step (ps := []) (L' := [some (.ref 1), some (.int (nI s)), some (.int (nI w)), some (.int (nI n)), some (.int (nI k))]) (st' := [.int (nI n), .int (nI k)]) (σ' := (β, δ)) (pc' := 27) kX10_checkOrder_24 rfl rfl rf_a0 ?_
        refine ok_icmp_ge bX10_checkOrder_27 (fun h27 => absurd h27 (nI_ge (by omega) (by omega))) (fun _ => ?_)
        refine ok_step (ps := []) (L' := [some (.ref 1), some (.int (nI s)), some (.int (nI w)), some (.int (nI n)), some (.int (nI k))]) (st' := [.int (nI w), .int (nI k)]) (σ' := (β, δ)) (pc' := 33) kX10_checkOrder_30 rfl rfl rf_a0 ?_
        refine ok_icmp_ge bX10_checkOrder_33 (fun _ => ?_) (fun h33 => absurd (nI_le (by omega) (by omega)) h33)
        refine ok_step (ps := []) (L' := [some (.ref 1), some (.int (nI s)), some (.int (nI w)), some (.int (nI n)), some (.int (nI k))]) (st' := [.int (nI n), .int (nI k)]) (σ' := (β, δ)) (pc' := 65) kX10_checkOrder_62 rfl rfl rf_a0 ?_
        refine ok_icmp_ne bX10_checkOrder_65 (fun _ => ?_) (fun h65 => absurd h65 (fun e => by have := nI_inj e (by omega) (by omega); omega))
        refine ok_step (ps := []) (L' := [some (.ref 1), some (.int (nI s)), some (.int (nI w)), some (.int (nI n)), some (.int (nI k))]) (st' := [.int ((nI 1) + (nI k))]) (σ' := (β, δ)) (pc' := 82) kX10_checkOrder_78 rfl rfl rf_a0 ?_
        try rw [(show ((nI 1) + (nI k)) = nI (1 + k) from rf_eq (rf_nadd (x := nI 1) (y := nI k) rfl rfl) (by omega))]
        refine ok_reti eX10_checkOrder_82 rfl ?_
        exact ⟨rfl, rfl⟩
      · refine ok_step (ps := []) (L' := [some (.ref 94), some (.int (nI s)), some (.int (nI w)), some (.int (nI k))]) (st' := [.int (nI w), .int (nI k)]) (σ' := (γ, ρ)) (pc' := 48) kX12_check_46 rfl rfl rf_a0 ?_
        refine ok_icmp_ge bX12_check_48 (fun _ => ?_) (fun h48 => absurd (nI_le (by omega) (by omega)) h48)
        refine ok_step (ps := []) (L' := [some (.ref 94), some (.int (nI s)), some (.int (nI w)), some (.int (nI k))]) (st' := [.int (nI w), .int (nI k)]) (σ' := (γ, ρ)) (pc' := 86) kX12_check_84 rfl rfl rf_a0 ?_
        refine ok_icmp_ne bX12_check_86 (fun h86 => absurd (congrArg nI (by omega)) h86) (fun _ => ?_)
        refine ok_step (ps := []) (L' := [some (.ref 94), some (.int (nI s)), some (.int (nI w)), some (.int (nI k))]) (st' := [.int (ρ 94 12), .int (nI k)]) (σ' := (γ, ρ)) (pc' := 94) kX12_check_89 rfl rfl rf_a0 ?_
        try rw [(show ρ 94 12 = nI n from h12)]
        refine ok_icmp_ne bX12_check_94 (fun _ => ?_) (fun h94 => absurd h94 (fun e => by have := nI_inj e (by omega) (by omega); omega))
        refine ok_step (ps := []) (L' := [some (.ref 94), some (.int (nI s)), some (.int (nI w)), some (.int (nI k))]) (st' := [.int ((nI 1) + (nI k))]) (σ' := (γ, ρ)) (pc' := 104) kX12_check_101 rfl rfl rf_a0 ?_
        try rw [(show ((nI 1) + (nI k)) = nI (1 + k) from rf_eq (rf_nadd (x := nI 1) (y := nI k) rfl rfl) (by omega))]
        refine ok_reti eX12_check_104 rfl ?_
        exact ⟨rfl, rfl⟩
    · skip
      refine ⟨nI 0, fun β δ hR hr => rf_pa ?_, fun γ ρ hd h12 hr => rf_pa ?_⟩
      · refine ok_step (ps := []) (L' := [some (.ref 1), some (.int (nI s)), some (.int (nI w)), some (.int (nI n)), some (.int (nI k))]) (st' := [.int (nI n), .int (nI k)]) (σ' := (β, δ)) (pc' := 27) kX10_checkOrder_24 rfl rfl rf_a0 ?_
        refine ok_icmp_ge bX10_checkOrder_27 (fun _ => ?_) (fun h27 => absurd (nI_le (by omega) (by omega)) h27)
        refine ok_step (ps := []) (L' := [some (.ref 1), some (.int (nI s)), some (.int (nI w)), some (.int (nI n)), some (.int (nI k))]) (st' := [.int (nI n), .int (nI k)]) (σ' := (β, δ)) (pc' := 65) kX10_checkOrder_62 rfl rfl rf_a0 ?_
        refine ok_icmp_ne bX10_checkOrder_65 (fun h65 => absurd (congrArg nI (by omega)) h65) (fun _ => ?_)
        refine ok_step (ps := []) (L' := [some (.ref 1), some (.int (nI s)), some (.int (nI w)), some (.int (nI n)), some (.int (nI k))]) (st' := [.int (nI w), .int (nI k)]) (σ' := (β, δ)) (pc' := 71) kX10_checkOrder_68 rfl rfl rf_a0 ?_
        refine ok_icmp_ne bX10_checkOrder_71 (fun h71 => absurd (congrArg nI (by omega)) h71) (fun _ => ?_)
        refine ok_step (ps := []) (L' := [some (.ref 1), some (.int (nI s)), some (.int (nI w)), some (.int (nI n)), some (.int (nI k))]) (st' := [.int (nI 0)]) (σ' := (β, δ)) (pc' := 75) kX10_checkOrder_74 rfl rfl rf_a0 ?_
        refine ok_goto bX10_checkOrder_75 ?_
        refine ok_reti eX10_checkOrder_82 rfl ?_
        exact ⟨rfl, rfl⟩
      · refine ok_step (ps := []) (L' := [some (.ref 94), some (.int (nI s)), some (.int (nI w)), some (.int (nI k))]) (st' := [.int (nI w), .int (nI k)]) (σ' := (γ, ρ)) (pc' := 48) kX12_check_46 rfl rfl rf_a0 ?_
        refine ok_icmp_ge bX12_check_48 (fun _ => ?_) (fun h48 => absurd (nI_le (by omega) (by omega)) h48)
        refine ok_step (ps := []) (L' := [some (.ref 94), some (.int (nI s)), some (.int (nI w)), some (.int (nI k))]) (st' := [.int (nI w), .int (nI k)]) (σ' := (γ, ρ)) (pc' := 86) kX12_check_84 rfl rfl rf_a0 ?_
        refine ok_icmp_ne bX12_check_86 (fun h86 => absurd (congrArg nI (by omega)) h86) (fun _ => ?_)
        refine ok_step (ps := []) (L' := [some (.ref 94), some (.int (nI s)), some (.int (nI w)), some (.int (nI k))]) (st' := [.int (ρ 94 12), .int (nI k)]) (σ' := (γ, ρ)) (pc' := 94) kX12_check_89 rfl rfl rf_a0 ?_
        try rw [(show ρ 94 12 = nI n from h12)]
        refine ok_icmp_ne bX12_check_94 (fun h94 => absurd (congrArg nI (by omega)) h94) (fun _ => ?_)
        refine ok_step (ps := []) (L' := [some (.ref 94), some (.int (nI s)), some (.int (nI w)), some (.int (nI k))]) (st' := [.int (nI 0)]) (σ' := (γ, ρ)) (pc' := 98) kX12_check_97 rfl rfl rf_a0 ?_
        refine ok_goto bX12_check_98 ?_
        refine ok_reti eX12_check_104 rfl ?_
        exact ⟨rfl, rfl⟩
  | succ j ih =>
    intro k hk hkn
    rcases Nat.lt_or_ge k n with h1 | h1
    · by_cases h2 : d (680 + k) = nI (f k)
      · obtain ⟨r, hc, hm⟩ := ih (k + 1) (by omega) (by omega)
        refine ⟨r, fun β δ hR hr => rf_pa ?_, fun γ ρ hd h12 hr => rf_pa ?_⟩
        · refine ok_step (ps := []) (L' := [some (.ref 1), some (.int (nI s)), some (.int (nI w)), some (.int (nI n)), some (.int (nI k))]) (st' := [.int (nI n), .int (nI k)]) (σ' := (β, δ)) (pc' := 27) kX10_checkOrder_24 rfl rfl rf_a0 ?_
          refine ok_icmp_ge bX10_checkOrder_27 (fun h27 => absurd h27 (nI_ge (by omega) (by omega))) (fun _ => ?_)
          refine ok_step (ps := []) (L' := [some (.ref 1), some (.int (nI s)), some (.int (nI w)), some (.int (nI n)), some (.int (nI k))]) (st' := [.int (nI w), .int (nI k)]) (σ' := (β, δ)) (pc' := 33) kX10_checkOrder_30 rfl rfl rf_a0 ?_
          refine ok_icmp_ge bX10_checkOrder_33 (fun h33 => absurd h33 (nI_ge (by omega) (by omega))) (fun _ => ?_)
          refine ok_step (ps := [rf_in (nI k) 20, rf_in (nI k) 12]) (L' := [some (.ref 1), some (.int (nI s)), some (.int (nI w)), some (.int (nI n)), some (.int (nI k))]) (st' := [.int (β 36 ((nI k).toNatClampNeg)), .int (β 28 ((nI k).toNatClampNeg))]) (σ' := (β, δ)) (pc' := 53) kX10_checkOrder_36 rfl rfl (rf_a1 (rf_in_n (a := k) rfl (by omega)) (rf_a1 (rf_in_n (a := k) rfl (by omega)) rf_a0)) ?_
          try rw [(show (nI k).toNatClampNeg = k from rf_cl_n rfl (by omega))]
          try rw [(show β 28 k = d (680 + k) from rl_27 hR (i := k) (by omega) (by omega))]
          try rw [(show (nI k).toNatClampNeg = k from rf_cl_n rfl (by omega))]
          try rw [(show β 36 k = nI (f k) from hr _ (by omega))]
          refine ok_icmp_ne bX10_checkOrder_53 (fun h53 => absurd (h2) h53) (fun _ => ?_)
          refine ok_step (ps := []) (L' := [some (.ref 1), some (.int (nI s)), some (.int (nI w)), some (.int (nI n)), some (.int ((nI k) + (nI 1)))]) (st' := []) (σ' := (β, δ)) (pc' := 59) kX10_checkOrder_56 rfl rfl rf_a0 ?_
          try rw [(show ((nI k) + (nI 1)) = nI (k + 1) from nI_add _ _)]
          refine ok_goto bX10_checkOrder_59 ?_
          exact rf_ap (hc β δ hR hr) ⟨rfl, rfl⟩
        · refine ok_step (ps := []) (L' := [some (.ref 94), some (.int (nI s)), some (.int (nI w)), some (.int (nI k))]) (st' := [.int (nI w), .int (nI k)]) (σ' := (γ, ρ)) (pc' := 48) kX12_check_46 rfl rfl rf_a0 ?_
          refine ok_icmp_ge bX12_check_48 (fun h48 => absurd h48 (nI_ge (by omega) (by omega))) (fun _ => ?_)
          refine ok_step (ps := []) (L' := [some (.ref 94), some (.int (nI s)), some (.int (nI w)), some (.int (nI k))]) (st' := [.int (ρ 94 12), .int (nI k)]) (σ' := (γ, ρ)) (pc' := 56) kX12_check_51 rfl rfl rf_a0 ?_
          try rw [(show ρ 94 12 = nI n from h12)]
          refine ok_icmp_ge bX12_check_56 (fun h56 => absurd h56 (nI_ge (by omega) (by omega))) (fun _ => ?_)
          refine ok_step (ps := [rf_in ((nI 680) + (nI k)) 700, rf_in (nI k) 12]) (L' := [some (.ref 94), some (.int (nI s)), some (.int (nI w)), some (.int (nI k))]) (st' := [.int (ρ 99 ((nI k).toNatClampNeg)), .int (ρ 95 (((nI 680) + (nI k)).toNatClampNeg))]) (σ' := (γ, ρ)) (pc' := 75) kX12_check_59 rfl rfl (rf_a1 (rf_in_n (a := (680 + k)) (by (try rw [(show ((nI 680) + (nI k)) = nI (680 + k) from rf_eq (rf_nadd (x := nI 680) (y := nI k) rfl rfl) (by omega))]); all_goals exact rfl) (by omega)) (rf_a1 (rf_in_n (a := k) rfl (by omega)) rf_a0)) ?_
          try rw [(show ((nI 680) + (nI k)) = nI (680 + k) from rf_eq (rf_nadd (x := nI 680) (y := nI k) rfl rfl) (by omega))]
          try rw [(show (nI (680 + k)).toNatClampNeg = (680 + k) from rf_cl_n rfl (by omega))]
          try rw [(show ρ 95 (680 + k) = d (680 + k) from congrFun hd _)]
          try rw [(show (nI k).toNatClampNeg = k from rf_cl_n rfl (by omega))]
          try rw [(show ρ 99 k = nI (f k) from hr _ (by omega))]
          refine ok_icmp_ne bX12_check_75 (fun h75 => absurd (h2) h75) (fun _ => ?_)
          refine ok_step (ps := []) (L' := [some (.ref 94), some (.int (nI s)), some (.int (nI w)), some (.int ((nI k) + (nI 1)))]) (st' := []) (σ' := (γ, ρ)) (pc' := 81) kX12_check_78 rfl rfl rf_a0 ?_
          try rw [(show ((nI k) + (nI 1)) = nI (k + 1) from nI_add _ _)]
          refine ok_goto bX12_check_81 ?_
          exact rf_ap (hm γ ρ hd h12 hr) ⟨rfl, rfl⟩
      · skip
        refine ⟨nI (1 + k), fun β δ hR hr => rf_pa ?_, fun γ ρ hd h12 hr => rf_pa ?_⟩
        · refine ok_step (ps := []) (L' := [some (.ref 1), some (.int (nI s)), some (.int (nI w)), some (.int (nI n)), some (.int (nI k))]) (st' := [.int (nI n), .int (nI k)]) (σ' := (β, δ)) (pc' := 27) kX10_checkOrder_24 rfl rfl rf_a0 ?_
          refine ok_icmp_ge bX10_checkOrder_27 (fun h27 => absurd h27 (nI_ge (by omega) (by omega))) (fun _ => ?_)
          refine ok_step (ps := []) (L' := [some (.ref 1), some (.int (nI s)), some (.int (nI w)), some (.int (nI n)), some (.int (nI k))]) (st' := [.int (nI w), .int (nI k)]) (σ' := (β, δ)) (pc' := 33) kX10_checkOrder_30 rfl rfl rf_a0 ?_
          refine ok_icmp_ge bX10_checkOrder_33 (fun h33 => absurd h33 (nI_ge (by omega) (by omega))) (fun _ => ?_)
          refine ok_step (ps := [rf_in (nI k) 20, rf_in (nI k) 12]) (L' := [some (.ref 1), some (.int (nI s)), some (.int (nI w)), some (.int (nI n)), some (.int (nI k))]) (st' := [.int (β 36 ((nI k).toNatClampNeg)), .int (β 28 ((nI k).toNatClampNeg))]) (σ' := (β, δ)) (pc' := 53) kX10_checkOrder_36 rfl rfl (rf_a1 (rf_in_n (a := k) rfl (by omega)) (rf_a1 (rf_in_n (a := k) rfl (by omega)) rf_a0)) ?_
          try rw [(show (nI k).toNatClampNeg = k from rf_cl_n rfl (by omega))]
          try rw [(show β 28 k = d (680 + k) from rl_27 hR (i := k) (by omega) (by omega))]
          try rw [(show (nI k).toNatClampNeg = k from rf_cl_n rfl (by omega))]
          try rw [(show β 36 k = nI (f k) from hr _ (by omega))]
          refine ok_icmp_ne bX10_checkOrder_53 (fun _ => ?_) (fun h53 => absurd h53 (h2))
          refine ok_step (ps := []) (L' := [some (.ref 1), some (.int (nI s)), some (.int (nI w)), some (.int (nI n)), some (.int (nI k))]) (st' := [.int (nI n), .int (nI k)]) (σ' := (β, δ)) (pc' := 65) kX10_checkOrder_62 rfl rfl rf_a0 ?_
          refine ok_icmp_ne bX10_checkOrder_65 (fun _ => ?_) (fun h65 => absurd h65 (fun e => by have := nI_inj e (by omega) (by omega); omega))
          refine ok_step (ps := []) (L' := [some (.ref 1), some (.int (nI s)), some (.int (nI w)), some (.int (nI n)), some (.int (nI k))]) (st' := [.int ((nI 1) + (nI k))]) (σ' := (β, δ)) (pc' := 82) kX10_checkOrder_78 rfl rfl rf_a0 ?_
          try rw [(show ((nI 1) + (nI k)) = nI (1 + k) from rf_eq (rf_nadd (x := nI 1) (y := nI k) rfl rfl) (by omega))]
          refine ok_reti eX10_checkOrder_82 rfl ?_
          exact ⟨rfl, rfl⟩
        · refine ok_step (ps := []) (L' := [some (.ref 94), some (.int (nI s)), some (.int (nI w)), some (.int (nI k))]) (st' := [.int (nI w), .int (nI k)]) (σ' := (γ, ρ)) (pc' := 48) kX12_check_46 rfl rfl rf_a0 ?_
          refine ok_icmp_ge bX12_check_48 (fun h48 => absurd h48 (nI_ge (by omega) (by omega))) (fun _ => ?_)
          refine ok_step (ps := []) (L' := [some (.ref 94), some (.int (nI s)), some (.int (nI w)), some (.int (nI k))]) (st' := [.int (ρ 94 12), .int (nI k)]) (σ' := (γ, ρ)) (pc' := 56) kX12_check_51 rfl rfl rf_a0 ?_
          try rw [(show ρ 94 12 = nI n from h12)]
          refine ok_icmp_ge bX12_check_56 (fun h56 => absurd h56 (nI_ge (by omega) (by omega))) (fun _ => ?_)
          refine ok_step (ps := [rf_in ((nI 680) + (nI k)) 700, rf_in (nI k) 12]) (L' := [some (.ref 94), some (.int (nI s)), some (.int (nI w)), some (.int (nI k))]) (st' := [.int (ρ 99 ((nI k).toNatClampNeg)), .int (ρ 95 (((nI 680) + (nI k)).toNatClampNeg))]) (σ' := (γ, ρ)) (pc' := 75) kX12_check_59 rfl rfl (rf_a1 (rf_in_n (a := (680 + k)) (by (try rw [(show ((nI 680) + (nI k)) = nI (680 + k) from rf_eq (rf_nadd (x := nI 680) (y := nI k) rfl rfl) (by omega))]); all_goals exact rfl) (by omega)) (rf_a1 (rf_in_n (a := k) rfl (by omega)) rf_a0)) ?_
          try rw [(show ((nI 680) + (nI k)) = nI (680 + k) from rf_eq (rf_nadd (x := nI 680) (y := nI k) rfl rfl) (by omega))]
          try rw [(show (nI (680 + k)).toNatClampNeg = (680 + k) from rf_cl_n rfl (by omega))]
          try rw [(show ρ 95 (680 + k) = d (680 + k) from congrFun hd _)]
          try rw [(show (nI k).toNatClampNeg = k from rf_cl_n rfl (by omega))]
          try rw [(show ρ 99 k = nI (f k) from hr _ (by omega))]
          refine ok_icmp_ne bX12_check_75 (fun _ => ?_) (fun h75 => absurd h75 (h2))
          refine ok_step (ps := []) (L' := [some (.ref 94), some (.int (nI s)), some (.int (nI w)), some (.int (nI k))]) (st' := [.int (nI w), .int (nI k)]) (σ' := (γ, ρ)) (pc' := 86) kX12_check_84 rfl rfl rf_a0 ?_
          refine ok_icmp_ne bX12_check_86 (fun _ => ?_) (fun h86 => absurd h86 (fun e => by have := nI_inj e (by omega) (by omega); omega))
          refine ok_step (ps := []) (L' := [some (.ref 94), some (.int (nI s)), some (.int (nI w)), some (.int (nI k))]) (st' := [.int ((nI 1) + (nI k))]) (σ' := (γ, ρ)) (pc' := 104) kX12_check_101 rfl rfl rf_a0 ?_
          try rw [(show ((nI 1) + (nI k)) = nI (1 + k) from rf_eq (rf_nadd (x := nI 1) (y := nI k) rfl rfl) (by omega))]
          refine ok_reti eX12_check_104 rfl ?_
          exact ⟨rfl, rfl⟩
    · skip
      refine ⟨nI (1 + k), fun β δ hR hr => rf_pa ?_, fun γ ρ hd h12 hr => rf_pa ?_⟩
      · refine ok_step (ps := []) (L' := [some (.ref 1), some (.int (nI s)), some (.int (nI w)), some (.int (nI n)), some (.int (nI k))]) (st' := [.int (nI n), .int (nI k)]) (σ' := (β, δ)) (pc' := 27) kX10_checkOrder_24 rfl rfl rf_a0 ?_
        refine ok_icmp_ge bX10_checkOrder_27 (fun _ => ?_) (fun h27 => absurd (nI_le (by omega) (by omega)) h27)
        refine ok_step (ps := []) (L' := [some (.ref 1), some (.int (nI s)), some (.int (nI w)), some (.int (nI n)), some (.int (nI k))]) (st' := [.int (nI n), .int (nI k)]) (σ' := (β, δ)) (pc' := 65) kX10_checkOrder_62 rfl rfl rf_a0 ?_
        refine ok_icmp_ne bX10_checkOrder_65 (fun h65 => absurd (congrArg nI (by omega)) h65) (fun _ => ?_)
        refine ok_step (ps := []) (L' := [some (.ref 1), some (.int (nI s)), some (.int (nI w)), some (.int (nI n)), some (.int (nI k))]) (st' := [.int (nI w), .int (nI k)]) (σ' := (β, δ)) (pc' := 71) kX10_checkOrder_68 rfl rfl rf_a0 ?_
        refine ok_icmp_ne bX10_checkOrder_71 (fun _ => ?_) (fun h71 => absurd h71 (fun e => by have := nI_inj e (by omega) (by omega); omega))
        refine ok_step (ps := []) (L' := [some (.ref 1), some (.int (nI s)), some (.int (nI w)), some (.int (nI n)), some (.int (nI k))]) (st' := [.int ((nI 1) + (nI k))]) (σ' := (β, δ)) (pc' := 82) kX10_checkOrder_78 rfl rfl rf_a0 ?_
        try rw [(show ((nI 1) + (nI k)) = nI (1 + k) from rf_eq (rf_nadd (x := nI 1) (y := nI k) rfl rfl) (by omega))]
        refine ok_reti eX10_checkOrder_82 rfl ?_
        exact ⟨rfl, rfl⟩
      · refine ok_step (ps := []) (L' := [some (.ref 94), some (.int (nI s)), some (.int (nI w)), some (.int (nI k))]) (st' := [.int (nI w), .int (nI k)]) (σ' := (γ, ρ)) (pc' := 48) kX12_check_46 rfl rfl rf_a0 ?_
        refine ok_icmp_ge bX12_check_48 (fun h48 => absurd h48 (nI_ge (by omega) (by omega))) (fun _ => ?_)
        refine ok_step (ps := []) (L' := [some (.ref 94), some (.int (nI s)), some (.int (nI w)), some (.int (nI k))]) (st' := [.int (ρ 94 12), .int (nI k)]) (σ' := (γ, ρ)) (pc' := 56) kX12_check_51 rfl rfl rf_a0 ?_
        try rw [(show ρ 94 12 = nI n from h12)]
        refine ok_icmp_ge bX12_check_56 (fun _ => ?_) (fun h56 => absurd (nI_le (by omega) (by omega)) h56)
        refine ok_step (ps := []) (L' := [some (.ref 94), some (.int (nI s)), some (.int (nI w)), some (.int (nI k))]) (st' := [.int (nI w), .int (nI k)]) (σ' := (γ, ρ)) (pc' := 86) kX12_check_84 rfl rfl rf_a0 ?_
        refine ok_icmp_ne bX12_check_86 (fun _ => ?_) (fun h86 => absurd h86 (fun e => by have := nI_inj e (by omega) (by omega); omega))
        refine ok_step (ps := []) (L' := [some (.ref 94), some (.int (nI s)), some (.int (nI w)), some (.int (nI k))]) (st' := [.int ((nI 1) + (nI k))]) (σ' := (γ, ρ)) (pc' := 104) kX12_check_101 rfl rfl rf_a0 ?_
        try rw [(show ((nI 1) + (nI k)) = nI (1 + k) from rf_eq (rf_nadd (x := nI 1) (y := nI k) rfl rfl) (by omega))]
        refine ok_reti eX12_check_104 rfl ?_
        exact ⟨rfl, rfl⟩
theorem J.w12 (hJ : J α μ) : J (rf_w α 26 1 (nI 0)) (rf_w μ 95 12 (nI 0)) := by
  refine ⟨hJ.1.put (c := 25) (i := 1) (j := 12) rfl _, ?_⟩
  rw [rf_w_self]
  exact hJ.2.put (fun bb hb => ⟨0, by cases hb; omega, rfl⟩) (by unfold nst; omega)
theorem chk {s w : Nat} (hJ : J α μ) (hs : s < cn (μ 95) 5) (hw : w ≤ 20) : ∃ r : Int32, (∀ δ, rf_Ok (rf_T Ln xs) MX10_checkOrder 6 0 [some (.ref 1), some (.int (nI s)), some (.int (nI w)), none, none] [] (α, δ) (fun r1 t => r1 = some (.int r) ∧ ∃ β : Nat → Nat → Int32, t = (β, δ) ∧ J β μ)) ∧ (∀ β γ, J β μ → rf_Ok (rf_T Ln xs) MX12_check 60 30 [some (.ref 94), some (.int (nI s)), some (.int (nI w)), none] [] (γ, μ) (fun r1 t => r1 = some (.int r) ∧ ∃ ρ : Nat → Nat → Int32, t = (γ, ρ) ∧ J β ρ)) := by
  have hI := hJ.2
  have hR := hJ.1.1.1
  have b3 := hI.le3
  have b5 := hI.le5
  have hsn := sro_n (d := μ 95) (set := μ 95 (320 + s)) (cn (μ 95) 3)
  obtain ⟨r, hc, hm⟩ := chl (Ln := Ln) (xs := xs) (f := (sro (μ 95) (μ 95 (320 + s)) (cn (μ 95) 3)).2) (n := (sro (μ 95) (μ 95 (320 + s)) (cn (μ 95) 3)).1) (w := w) (s := s) (d := μ 95) (by omega) hw w 0 (by omega) (by omega)
  refine ⟨r, fun δ => ?_, fun β γ hJ => ?_⟩
  · refine ok_step (ps := [rf_in (nI s) 8]) (L' := [some (.ref 1), some (.int (nI s)), some (.int (nI w)), none, none]) (st' := [.ref 36, .int (α 20 ((nI s).toNatClampNeg)), .ref 2]) (σ' := (α, δ)) (pc' := 17) kX10_checkOrder_0 rfl rfl (rf_a1 (rf_in_n (a := s) rfl (by omega)) rf_a0) ?_
    try rw [(show (nI s).toNatClampNeg = s from rf_cl_n rfl (by omega))]
    try rw [(show α 20 s = μ 95 (320 + s) from rl_19 hR (i := s) (by omega) (by omega))]
    refine ok_Vx (As := [.int (μ 95 (320 + s)), .ref 36]) (b := 2) (st := []) mkX4_sortByStart qX10_checkOrder_17 rfl (rc_2) rfl rfl rfl rfl (Nat.le_of_ble_eq_true rfl) (c_sro hJ) (fun r1 σ1 hq => ?_)
    obtain ⟨rfl, β, rfl, hb, hr⟩ := hq
    refine ok_step (ps := []) (L' := [some (.ref 1), some (.int (nI s)), some (.int (nI w)), some (.int (nI ((sro (μ 95) (μ 95 (320 + s)) (cn (μ 95) 3)).1))), some (.int (nI 0))]) (st' := []) (σ' := (β, δ)) (pc' := 24) kX10_checkOrder_20 rfl rfl rf_a0 ?_
    exact rf_ap (rf_more (by decide) (hc β δ (hJ.c36 hb).1.1.1 hr)) ⟨rfl, _, rfl, hJ.c36 hb⟩
  · refine ok_step (ps := [rf_in ((nI 320) + (nI s)) 700]) (L' := [some (.ref 94), some (.int (nI s)), some (.int (nI w)), none]) (st' := [.int (μ 95 (((nI 320) + (nI s)).toNatClampNeg)), .ref 94]) (σ' := (γ, μ)) (pc' := 41) kX12_check_30 rfl rfl (rf_a1 (rf_in_n (a := (320 + s)) (by (try rw [(show ((nI 320) + (nI s)) = nI (320 + s) from rf_eq (rf_nadd (x := nI 320) (y := nI s) rfl rfl) (by omega))]); all_goals exact rfl) (by omega)) rf_a0) ?_
    try rw [(show ((nI 320) + (nI s)) = nI (320 + s) from rf_eq (rf_nadd (x := nI 320) (y := nI s) rfl rfl) (by omega))]
    try rw [(show (nI (320 + s)).toNatClampNeg = (320 + s) from rf_cl_n rfl (by omega))]
    refine ok_Vx (As := [.int (μ 95 (320 + s))]) (b := 94) (st := []) mkX12_findRow qX12_check_41 rfl (rc_94) rfl rfl rfl rfl (Nat.le_of_ble_eq_true rfl) (m_sro hJ) (fun r1 σ1 hq => ?_)
    obtain ⟨rfl, ρ, rfl, ⟨hb, h12⟩, hr⟩ := hq
    refine ok_step (ps := []) (L' := [some (.ref 94), some (.int (nI s)), some (.int (nI w)), some (.int (nI 0))]) (st' := []) (σ' := (γ, ρ)) (pc' := 46) kX12_check_44 rfl rfl rf_a0 ?_
    exact rf_ap (hm γ ρ (hb.1 95 (by decide) (by decide)) h12 hr) ⟨rfl, _, rfl, hJ.sR hb⟩
theorem op_check {shift : Int32} (hJ : J α μ) : Op (rf_T Ln xs) MX11_check MX12_check [some (.ref 0), some (.int shift), none] [some (.ref 94), some (.int shift), none, none] α μ := by
  have hR := hJ.1.1.1
  have hI := hJ.2
  have b12 := hI.le12
  have e12 := hI.at12
  have hJ1 := hJ.w12
  obtain ⟨β, hβ⟩ : ∃ β, β = rf_w α 26 1 (nI 0) := ⟨_, rfl⟩
  obtain ⟨ν, hν⟩ : ∃ ν, ν = rf_w μ 95 12 (nI 0) := ⟨_, rfl⟩
  rw [← hβ, ← hν] at hJ1
  have hI1 := hJ1.2
  have b5 := hI1.le5
  have hR1 := hJ1.1.1.1
  refine ok_step (ps := []) (L' := [some (.ref 0), some (.int shift), some (.int (α 26 1))]) (st' := [.int shift, .ref 0]) (σ' := (rf_w α 26 1 (nI 0), μ)) (pc' := 24) kX11_check_0 rfl rfl rf_a0 ?_
  try rw [(show α 26 1 = μ 95 12 from hR 25 1 12 rfl)]
  rw [← hβ]
  refine ok_V (As := [.int shift]) (b := 0) (st := []) mkX11_isShift qX11_check_24 rfl (rc_0) rfl rfl rfl rfl (Nat.le_of_ble_eq_true rfl) (c_isShift_x (μ := ν) hR1) ?_
  refine ok_if_ne bX11_check_27 (fun h27 => ?_) (fun h27 => ?_)
  · obtain ⟨s, hs, rfl⟩ := wi_lt (bI_n0.mp h27) hI1.at5 (by omega)
    refine ok_step (ps := []) (L' := [some (.ref 0), some (.int (nI s)), some (.int (μ 95 12))]) (st' := [.int (μ 95 12), .int (nI s), .ref 1]) (σ' := (β, μ)) (pc' := 43) kX11_check_37 rfl rfl rf_a0 ?_
    rw [e12]
    obtain ⟨rr, hwc, hwm⟩ := chk (Ln := Ln) (xs := xs) hJ1 hs b12
    refine ok_Vx (As := [.int (nI s), .int (nI (cn (μ 95) 12))]) (b := 1) (st := []) mkX10_checkOrder qX11_check_43 rfl (rc_1) rfl rfl rfl rfl (Nat.le_of_ble_eq_true rfl) (hwc μ) (fun r1 σ1 hq => ?_)
    obtain ⟨rfl, β2, rfl, hJ2⟩ := hq
    refine ok_reti eX11_check_46 rfl ?_
    refine ⟨rfl, _, rfl, ?_⟩
    refine ok_step (ps := [rf_in (nI 12) 700, rf_in (nI 12) 700]) (L' := [some (.ref 94), some (.int (nI s)), some (.int (μ 95 ((nI 12).toNatClampNeg))), none]) (st' := [.int (nI s), .ref 94]) (σ' := (β2, rf_w μ 95 ((nI 12).toNatClampNeg) (nI 0))) (pc' := 18) kX12_check_0 rfl rfl (rf_a1 (rf_in_n (a := 12) rfl (by omega)) (rf_a1 (rf_in_n (a := 12) rfl (by omega)) rf_a0)) ?_
    try rw [(show (nI 12).toNatClampNeg = 12 from rf_cl_n rfl (by omega))]
    rw [← hν]
    refine ok_V (As := [.int (nI s)]) (b := 94) (st := []) mkX12_isShift qX12_check_18 rfl (rc_94) rfl rfl rfl rfl (Nat.le_of_ble_eq_true rfl) (m_isShift) ?_
    refine ok_if_ne bX12_check_21 (fun _ => ?_) (fun g21 => absurd g21 (h27))
    rw [e12]
    refine (hwm _ _ hJ2).mono (fun r1 t hq => ?_)
    obtain ⟨rfl, ρ, rfl, hJ3⟩ := hq
    exact ⟨rfl, _, rfl, hJ3⟩
  · refine ok_step (ps := []) (L' := [some (.ref 0), some (.int shift), some (.int (μ 95 12))]) (st' := [.int (-1000000001), .ref 0]) (σ' := (β, μ)) (pc' := 33) kX11_check_30 rfl rfl rf_a0 ?_
    refine ok_V (As := [.int (-1000000001)]) (b := 0) (st := []) mkX11_error qX11_check_33 rfl (rc_0) rfl rfl rfl rfl (Nat.le_of_ble_eq_true rfl) (c_error (k := 1) (by decide) (by decide) (by decide)) ?_
    refine ok_reti eX11_check_36 rfl ?_
    refine ⟨rfl, _, rfl, ?_⟩
    refine ok_step (ps := [rf_in (nI 12) 700, rf_in (nI 12) 700]) (L' := [some (.ref 94), some (.int shift), some (.int (μ 95 ((nI 12).toNatClampNeg))), none]) (st' := [.int shift, .ref 94]) (σ' := (rf_w β 93 1 (β 93 1 + nI 1), rf_w μ 95 ((nI 12).toNatClampNeg) (nI 0))) (pc' := 18) kX12_check_0 rfl rfl (rf_a1 (rf_in_n (a := 12) rfl (by omega)) (rf_a1 (rf_in_n (a := 12) rfl (by omega)) rf_a0)) ?_
    try rw [(show (nI 12).toNatClampNeg = 12 from rf_cl_n rfl (by omega))]
    rw [← hν]
    refine ok_V (As := [.int shift]) (b := 94) (st := []) mkX12_isShift qX12_check_18 rfl (rc_94) rfl rfl rfl rfl (Nat.le_of_ble_eq_true rfl) (m_isShift) ?_
    refine ok_if_ne bX12_check_21 (fun g21 => absurd (h27) g21) (fun _ => ?_)
    refine ok_step (ps := []) (L' := [some (.ref 94), some (.int shift), some (.int (μ 95 12)), none]) (st' := [.int (nI 1), .ref 94]) (σ' := (rf_w β 93 1 (β 93 1 + nI 1), ν)) (pc' := 26) kX12_check_24 rfl rfl rf_a0 ?_
    refine ok_V (As := [.int (nI 1)]) (b := 94) (st := []) mkX12_finds qX12_check_26 rfl (rc_94) rfl rfl rfl rfl (Nat.le_of_ble_eq_true rfl) (m_finds (k := 1) (by decide)) ?_
    refine ok_reti eX12_check_29 rfl ?_
    exact ⟨rfl, _, rfl, hJ1.err (k := 1) (by decide)⟩
end H54
