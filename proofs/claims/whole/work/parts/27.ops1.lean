section H27
variable {Ln : Nat} {xs : Nat → Int32} {α μ : Nat → Nat → Int32}
theorem op_walk {one : Int32} {other : Int32} {minutes : Int32} (hJ : J α μ)  : Op (rf_T Ln xs) MX11_walk MX12_walk [some (.ref 0), some (.int one), some (.int other), some (.int minutes)] [some (.ref 94), some (.int one), some (.int other), some (.int minutes), none] α μ := by
  have hR := hJ.1.1.1
  have hI := hJ.2
  have b0 := hI.le0
  have b1 := hI.le1
  have b2 := hI.le2
  have b3 := hI.le3
  have b4 := hI.le4
  have b5 := hI.le5
  have b6 := hI.le6
  have b8 := hI.le8
  have b9 := hI.le9
  have b11 := hI.le11
  have b12 := hI.le12
  refine ok_step (ps := []) (L' := [some (.ref 0), some (.int one), some (.int other), some (.int minutes)]) (st' := [.int one, .ref 0]) (σ' := (α, μ)) (pc' := 2) kX11_walk_0 rfl rfl rf_a0 ?_
  refine ok_V (As := [.int one]) (b := 0) (st := []) mkX11_isStation qX11_walk_2 rfl (rc_0) rfl rfl rfl rfl (Nat.le_of_ble_eq_true rfl) (c_isStation hR) ?_
  refine ok_if_eq bX11_walk_5 (fun h5 => ?_) (fun h5 => ?_)
  · refine ok_step (ps := []) (L' := [some (.ref 0), some (.int one), some (.int other), some (.int minutes)]) (st' := [.int (-1000000001), .ref 0]) (σ' := (α, μ)) (pc' := 34) kX11_walk_31 rfl rfl rf_a0 ?_
    refine ok_V (As := [.int (-1000000001)]) (b := 0) (st := []) mkX11_error qX11_walk_34 rfl (rc_0) rfl rfl rfl rfl (Nat.le_of_ble_eq_true rfl) (c_error (k := 1) (by decide) (by decide) (by decide)) ?_
    refine ok_reti eX11_walk_37 rfl ?_
    refine ⟨rfl, _, rfl, ?_⟩
    refine ok_step (ps := []) (L' := [some (.ref 94), some (.int one), some (.int other), some (.int minutes), none]) (st' := [.int other, .int one, .ref 94]) (σ' := (rf_w α 93 1 (α 93 1 + nI 1), μ)) (pc' := 3) kX12_walk_0 rfl rfl rf_a0 ?_
    have hc3 : rf_At (rf_T Ln xs) MX12_areTwo 50 0 ([some (.ref 94), some (.int one), some (.int other)], [], 108, (rf_w α 93 1 (α 93 1 + nI 1), μ)) (some (.int (nI 0))) 108 (rf_w α 93 1 (α 93 1 + nI 1), μ) := by
      refine rf_pa ?_
      refine ok_step (ps := []) (L' := [some (.ref 94), some (.int one), some (.int other)]) (st' := [.int one, .ref 94]) (σ' := (rf_w α 93 1 (α 93 1 + nI 1), μ)) (pc' := 2) kX12_areTwo_0 rfl rfl rf_a0 ?_
      refine ok_V (As := [.int one]) (b := 94) (st := []) mkX12_isStation qX12_areTwo_2 rfl (rc_94) rfl rfl rfl rfl (Nat.le_of_ble_eq_true rfl) (m_isStation) ?_
      refine ok_if_eq bX12_areTwo_5 (fun _ => ?_) (fun gi5 => absurd (h5) gi5)
      refine ok_step (ps := []) (L' := [some (.ref 94), some (.int one), some (.int other)]) (st' := [.int (nI 0)]) (σ' := (rf_w α 93 1 (α 93 1 + nI 1), μ)) (pc' := 26) kX12_areTwo_25 rfl rfl rf_a0 ?_
      refine ok_retz eX12_areTwo_26 rfl (Or.inl rfl) ?_
      exact ⟨rfl, rfl⟩
    refine ok_V (As := [.int one, .int other]) (b := 94) (st := []) mkX12_areTwo qX12_walk_3 rfl (rc_94) rfl rfl rfl rfl (Nat.le_of_ble_eq_true rfl) (hc3) ?_
    refine ok_if_eq bX12_walk_6 (fun _ => ?_) (fun g6 => absurd ((by decide)) g6)
    refine ok_step (ps := []) (L' := [some (.ref 94), some (.int one), some (.int other), some (.int minutes), none]) (st' := [.int (nI 1), .ref 94]) (σ' := (rf_w α 93 1 (α 93 1 + nI 1), μ)) (pc' := 25) kX12_walk_23 rfl rfl rf_a0 ?_
    refine ok_V (As := [.int (nI 1)]) (b := 94) (st := []) mkX12_finds qX12_walk_25 rfl (rc_94) rfl rfl rfl rfl (Nat.le_of_ble_eq_true rfl) (m_finds (k := 1) (by decide)) ?_
    refine ok_reti eX12_walk_28 rfl ?_
    exact ⟨rfl, _, rfl, hJ.err (k := 1) (by decide)⟩
  · obtain ⟨a, ha, rfl⟩ := wi_lt (bI_n0.mp h5) hI.at1 (by omega)
    refine ok_step (ps := []) (L' := [some (.ref 0), some (.int (nI a)), some (.int other), some (.int minutes)]) (st' := [.int other, .ref 0]) (σ' := (α, μ)) (pc' := 10) kX11_walk_8 rfl rfl rf_a0 ?_
    refine ok_V (As := [.int other]) (b := 0) (st := []) mkX11_isStation qX11_walk_10 rfl (rc_0) rfl rfl rfl rfl (Nat.le_of_ble_eq_true rfl) (c_isStation hR) ?_
    refine ok_if_eq bX11_walk_13 (fun h13 => ?_) (fun h13 => ?_)
    · refine ok_step (ps := []) (L' := [some (.ref 0), some (.int (nI a)), some (.int other), some (.int minutes)]) (st' := [.int (-1000000001), .ref 0]) (σ' := (α, μ)) (pc' := 34) kX11_walk_31 rfl rfl rf_a0 ?_
      refine ok_V (As := [.int (-1000000001)]) (b := 0) (st := []) mkX11_error qX11_walk_34 rfl (rc_0) rfl rfl rfl rfl (Nat.le_of_ble_eq_true rfl) (c_error (k := 1) (by decide) (by decide) (by decide)) ?_
      refine ok_reti eX11_walk_37 rfl ?_
      refine ⟨rfl, _, rfl, ?_⟩
      refine ok_step (ps := []) (L' := [some (.ref 94), some (.int (nI a)), some (.int other), some (.int minutes), none]) (st' := [.int other, .int (nI a), .ref 94]) (σ' := (rf_w α 93 1 (α 93 1 + nI 1), μ)) (pc' := 3) kX12_walk_0 rfl rfl rf_a0 ?_
      have hc3 : rf_At (rf_T Ln xs) MX12_areTwo 50 0 ([some (.ref 94), some (.int (nI a)), some (.int other)], [], 108, (rf_w α 93 1 (α 93 1 + nI 1), μ)) (some (.int (nI 0))) 108 (rf_w α 93 1 (α 93 1 + nI 1), μ) := by
        refine rf_pa ?_
        refine ok_step (ps := []) (L' := [some (.ref 94), some (.int (nI a)), some (.int other)]) (st' := [.int (nI a), .ref 94]) (σ' := (rf_w α 93 1 (α 93 1 + nI 1), μ)) (pc' := 2) kX12_areTwo_0 rfl rfl rf_a0 ?_
        refine ok_V (As := [.int (nI a)]) (b := 94) (st := []) mkX12_isStation qX12_areTwo_2 rfl (rc_94) rfl rfl rfl rfl (Nat.le_of_ble_eq_true rfl) (m_isStation) ?_
        refine ok_if_eq bX12_areTwo_5 (fun gi5 => absurd gi5 (h5)) (fun _ => ?_)
        refine ok_step (ps := []) (L' := [some (.ref 94), some (.int (nI a)), some (.int other)]) (st' := [.int other, .ref 94]) (σ' := (rf_w α 93 1 (α 93 1 + nI 1), μ)) (pc' := 10) kX12_areTwo_8 rfl rfl rf_a0 ?_
        refine ok_V (As := [.int other]) (b := 94) (st := []) mkX12_isStation qX12_areTwo_10 rfl (rc_94) rfl rfl rfl rfl (Nat.le_of_ble_eq_true rfl) (m_isStation) ?_
        refine ok_if_eq bX12_areTwo_13 (fun _ => ?_) (fun gi13 => absurd (h13) gi13)
        refine ok_step (ps := []) (L' := [some (.ref 94), some (.int (nI a)), some (.int other)]) (st' := [.int (nI 0)]) (σ' := (rf_w α 93 1 (α 93 1 + nI 1), μ)) (pc' := 26) kX12_areTwo_25 rfl rfl rf_a0 ?_
        refine ok_retz eX12_areTwo_26 rfl (Or.inl rfl) ?_
        exact ⟨rfl, rfl⟩
      refine ok_V (As := [.int (nI a), .int other]) (b := 94) (st := []) mkX12_areTwo qX12_walk_3 rfl (rc_94) rfl rfl rfl rfl (Nat.le_of_ble_eq_true rfl) (hc3) ?_
      refine ok_if_eq bX12_walk_6 (fun _ => ?_) (fun g6 => absurd ((by decide)) g6)
      refine ok_step (ps := []) (L' := [some (.ref 94), some (.int (nI a)), some (.int other), some (.int minutes), none]) (st' := [.int (nI 1), .ref 94]) (σ' := (rf_w α 93 1 (α 93 1 + nI 1), μ)) (pc' := 25) kX12_walk_23 rfl rfl rf_a0 ?_
      refine ok_V (As := [.int (nI 1)]) (b := 94) (st := []) mkX12_finds qX12_walk_25 rfl (rc_94) rfl rfl rfl rfl (Nat.le_of_ble_eq_true rfl) (m_finds (k := 1) (by decide)) ?_
      refine ok_reti eX12_walk_28 rfl ?_
      exact ⟨rfl, _, rfl, hJ.err (k := 1) (by decide)⟩
    · obtain ⟨b, hb, rfl⟩ := wi_lt (bI_n0.mp h13) hI.at1 (by omega)
      refine ok_step (ps := []) (L' := [some (.ref 0), some (.int (nI a)), some (.int (nI b)), some (.int minutes)]) (st' := [.int (nI b), .int (nI a)]) (σ' := (α, μ)) (pc' := 18) kX11_walk_16 rfl rfl rf_a0 ?_
      refine ok_icmp_eq bX11_walk_18 (fun h18 => ?_) (fun h18 => ?_)
      · refine ok_step (ps := []) (L' := [some (.ref 0), some (.int (nI a)), some (.int (nI b)), some (.int minutes)]) (st' := [.int (-1000000001), .ref 0]) (σ' := (α, μ)) (pc' := 34) kX11_walk_31 rfl rfl rf_a0 ?_
        refine ok_V (As := [.int (-1000000001)]) (b := 0) (st := []) mkX11_error qX11_walk_34 rfl (rc_0) rfl rfl rfl rfl (Nat.le_of_ble_eq_true rfl) (c_error (k := 1) (by decide) (by decide) (by decide)) ?_
        refine ok_reti eX11_walk_37 rfl ?_
        refine ⟨rfl, _, rfl, ?_⟩
        refine ok_step (ps := []) (L' := [some (.ref 94), some (.int (nI a)), some (.int (nI b)), some (.int minutes), none]) (st' := [.int (nI b), .int (nI a), .ref 94]) (σ' := (rf_w α 93 1 (α 93 1 + nI 1), μ)) (pc' := 3) kX12_walk_0 rfl rfl rf_a0 ?_
        have hc3 : rf_At (rf_T Ln xs) MX12_areTwo 50 0 ([some (.ref 94), some (.int (nI a)), some (.int (nI b))], [], 108, (rf_w α 93 1 (α 93 1 + nI 1), μ)) (some (.int (nI 0))) 108 (rf_w α 93 1 (α 93 1 + nI 1), μ) := by
          refine rf_pa ?_
          refine ok_step (ps := []) (L' := [some (.ref 94), some (.int (nI a)), some (.int (nI b))]) (st' := [.int (nI a), .ref 94]) (σ' := (rf_w α 93 1 (α 93 1 + nI 1), μ)) (pc' := 2) kX12_areTwo_0 rfl rfl rf_a0 ?_
          refine ok_V (As := [.int (nI a)]) (b := 94) (st := []) mkX12_isStation qX12_areTwo_2 rfl (rc_94) rfl rfl rfl rfl (Nat.le_of_ble_eq_true rfl) (m_isStation) ?_
          refine ok_if_eq bX12_areTwo_5 (fun gi5 => absurd gi5 (h5)) (fun _ => ?_)
          refine ok_step (ps := []) (L' := [some (.ref 94), some (.int (nI a)), some (.int (nI b))]) (st' := [.int (nI b), .ref 94]) (σ' := (rf_w α 93 1 (α 93 1 + nI 1), μ)) (pc' := 10) kX12_areTwo_8 rfl rfl rf_a0 ?_
          refine ok_V (As := [.int (nI b)]) (b := 94) (st := []) mkX12_isStation qX12_areTwo_10 rfl (rc_94) rfl rfl rfl rfl (Nat.le_of_ble_eq_true rfl) (m_isStation) ?_
          refine ok_if_eq bX12_areTwo_13 (fun gi13 => absurd gi13 (h13)) (fun _ => ?_)
          refine ok_step (ps := []) (L' := [some (.ref 94), some (.int (nI a)), some (.int (nI b))]) (st' := [.int (nI b), .int (nI a)]) (σ' := (rf_w α 93 1 (α 93 1 + nI 1), μ)) (pc' := 18) kX12_areTwo_16 rfl rfl rf_a0 ?_
          refine ok_icmp_eq bX12_areTwo_18 (fun _ => ?_) (fun gi18 => absurd (h18) gi18)
          refine ok_step (ps := []) (L' := [some (.ref 94), some (.int (nI a)), some (.int (nI b))]) (st' := [.int (nI 0)]) (σ' := (rf_w α 93 1 (α 93 1 + nI 1), μ)) (pc' := 26) kX12_areTwo_25 rfl rfl rf_a0 ?_
          refine ok_retz eX12_areTwo_26 rfl (Or.inl rfl) ?_
          exact ⟨rfl, rfl⟩
        refine ok_V (As := [.int (nI a), .int (nI b)]) (b := 94) (st := []) mkX12_areTwo qX12_walk_3 rfl (rc_94) rfl rfl rfl rfl (Nat.le_of_ble_eq_true rfl) (hc3) ?_
        refine ok_if_eq bX12_walk_6 (fun _ => ?_) (fun g6 => absurd ((by decide)) g6)
        refine ok_step (ps := []) (L' := [some (.ref 94), some (.int (nI a)), some (.int (nI b)), some (.int minutes), none]) (st' := [.int (nI 1), .ref 94]) (σ' := (rf_w α 93 1 (α 93 1 + nI 1), μ)) (pc' := 25) kX12_walk_23 rfl rfl rf_a0 ?_
        refine ok_V (As := [.int (nI 1)]) (b := 94) (st := []) mkX12_finds qX12_walk_25 rfl (rc_94) rfl rfl rfl rfl (Nat.le_of_ble_eq_true rfl) (m_finds (k := 1) (by decide)) ?_
        refine ok_reti eX12_walk_28 rfl ?_
        exact ⟨rfl, _, rfl, hJ.err (k := 1) (by decide)⟩
      · refine ok_step (ps := []) (L' := [some (.ref 0), some (.int (nI a)), some (.int (nI b)), some (.int minutes)]) (st' := [.int (nI 60), .int (-1), .int minutes]) (σ' := (α, μ)) (pc' := 25) kX11_walk_21 rfl rfl rf_a0 ?_
        refine ok_S (As := [.int minutes, .int (-1), .int (nI 60)]) (st := []) mkX11_within qX11_walk_25 rfl rfl rfl rfl rfl (Nat.le_of_ble_eq_true rfl) (c_within) ?_
        refine ok_if_ne bX11_walk_28 (fun h28 => ?_) (fun h28 => ?_)
        · refine ok_step (ps := []) (L' := [some (.ref 0), some (.int (nI a)), some (.int (nI b)), some (.int minutes)]) (st' := [.int minutes, .int (nI b), .int (nI a), .ref 2]) (σ' := (α, μ)) (pc' := 48) kX11_walk_38 rfl rfl rf_a0 ?_
          have hc48 : rf_At (rf_T Ln xs) MX4_setWalk 50 0 ([some (.ref 2), some (.int (nI a)), some (.int (nI b)), some (.int minutes), none], [], 108, (α, μ)) (some (.int (μ 95 (20 + 8 * a + b)))) 108 (rf_w (rf_w α 3 (8 * a + b) minutes) 3 (8 * b + a) minutes, μ) := by
            refine rf_pa ?_
            refine ok_step (ps := []) (L' := [some (.ref 2), some (.int (nI a)), some (.int (nI b)), some (.int minutes), none]) (st' := [.int (nI b), .int (nI a), .ref 2]) (σ' := (α, μ)) (pc' := 3) kX4_setWalk_0 rfl rfl rf_a0 ?_
            have hc3 : rf_At (rf_T Ln xs) MX4_walkFrom 40 0 ([some (.ref 2), some (.int (nI a)), some (.int (nI b))], [], 108, (α, μ)) (some (.int (μ 95 (20 + 8 * a + b)))) 108 (α, μ) := by
              refine rf_pa ?_
              refine ok_step (ps := [rf_in (((nI a) * (nI 8)) + (nI b)) 64]) (L' := [some (.ref 2), some (.int (nI a)), some (.int (nI b))]) (st' := [.int (α 3 ((((nI a) * (nI 8)) + (nI b)).toNatClampNeg))]) (σ' := (α, μ)) (pc' := 11) kX4_walkFrom_0 rfl rfl (rf_a1 (rf_in_n (a := (8 * a + b)) (by (try rw [(show ((nI a) * (nI 8)) = nI (8 * a) from rf_eq (rf_nmul (x := nI a) (y := nI 8) rfl rfl) (by omega))]); (try rw [(show ((nI (8 * a)) + (nI b)) = nI (8 * a + b) from rf_eq (rf_nadd (x := nI (8 * a)) (y := nI b) rfl rfl) (by omega))]); all_goals exact rfl) (by omega)) rf_a0) ?_
              try rw [(show ((nI a) * (nI 8)) = nI (8 * a) from rf_eq (rf_nmul (x := nI a) (y := nI 8) rfl rfl) (by omega))]
              try rw [(show ((nI (8 * a)) + (nI b)) = nI (8 * a + b) from rf_eq (rf_nadd (x := nI (8 * a)) (y := nI b) rfl rfl) (by omega))]
              try rw [(show (nI (8 * a + b)).toNatClampNeg = (8 * a + b) from rf_cl_n rfl (by omega))]
              try rw [(show α 3 (8 * a + b) = μ 95 (20 + 8 * a + b) from rl_2 hR (i := (8 * a + b)) (by omega) (by omega))]
              refine ok_reti eX4_walkFrom_11 rfl ?_
              exact ⟨rfl, rfl⟩
            refine ok_V (As := [.int (nI a), .int (nI b)]) (b := 2) (st := []) mkX4_walkFrom qX4_setWalk_3 rfl (rc_2) rfl rfl rfl rfl (Nat.le_of_ble_eq_true rfl) (hc3) ?_
            refine ok_step (ps := [rf_in (((nI a) * (nI 8)) + (nI b)) 64, rf_in (((nI b) * (nI 8)) + (nI a)) 64]) (L' := [some (.ref 2), some (.int (nI a)), some (.int (nI b)), some (.int minutes), some (.int (μ 95 (20 + 8 * a + b)))]) (st' := [.int (μ 95 (20 + 8 * a + b))]) (σ' := (rf_w (rf_w α 3 ((((nI a) * (nI 8)) + (nI b)).toNatClampNeg) minutes) 3 ((((nI b) * (nI 8)) + (nI a)).toNatClampNeg) minutes, μ)) (pc' := 34) kX4_setWalk_6 rfl rfl (rf_a1 (rf_in_n (a := (8 * a + b)) (by (try rw [(show ((nI a) * (nI 8)) = nI (8 * a) from rf_eq (rf_nmul (x := nI a) (y := nI 8) rfl rfl) (by omega))]); (try rw [(show ((nI (8 * a)) + (nI b)) = nI (8 * a + b) from rf_eq (rf_nadd (x := nI (8 * a)) (y := nI b) rfl rfl) (by omega))]); all_goals exact rfl) (by omega)) (rf_a1 (rf_in_n (a := (8 * b + a)) (by (try rw [(show ((nI a) * (nI 8)) = nI (8 * a) from rf_eq (rf_nmul (x := nI a) (y := nI 8) rfl rfl) (by omega))]); (try rw [(show ((nI (8 * a)) + (nI b)) = nI (8 * a + b) from rf_eq (rf_nadd (x := nI (8 * a)) (y := nI b) rfl rfl) (by omega))]); (try rw [(show (nI (8 * a + b)).toNatClampNeg = (8 * a + b) from rf_cl_n rfl (by omega))]); (try rw [(show ((nI b) * (nI 8)) = nI (8 * b) from rf_eq (rf_nmul (x := nI b) (y := nI 8) rfl rfl) (by omega))]); (try rw [(show ((nI (8 * b)) + (nI a)) = nI (8 * b + a) from rf_eq (rf_nadd (x := nI (8 * b)) (y := nI a) rfl rfl) (by omega))]); all_goals exact rfl) (by omega)) rf_a0)) ?_
            try rw [(show ((nI a) * (nI 8)) = nI (8 * a) from rf_eq (rf_nmul (x := nI a) (y := nI 8) rfl rfl) (by omega))]
            try rw [(show ((nI (8 * a)) + (nI b)) = nI (8 * a + b) from rf_eq (rf_nadd (x := nI (8 * a)) (y := nI b) rfl rfl) (by omega))]
            try rw [(show (nI (8 * a + b)).toNatClampNeg = (8 * a + b) from rf_cl_n rfl (by omega))]
            try rw [(show ((nI b) * (nI 8)) = nI (8 * b) from rf_eq (rf_nmul (x := nI b) (y := nI 8) rfl rfl) (by omega))]
            try rw [(show ((nI (8 * b)) + (nI a)) = nI (8 * b + a) from rf_eq (rf_nadd (x := nI (8 * b)) (y := nI a) rfl rfl) (by omega))]
            try rw [(show (nI (8 * b + a)).toNatClampNeg = (8 * b + a) from rf_cl_n rfl (by omega))]
            refine ok_reti eX4_setWalk_34 rfl ?_
            exact ⟨rfl, rfl⟩
          refine ok_V (As := [.int (nI a), .int (nI b), .int minutes]) (b := 2) (st := []) mkX4_setWalk qX11_walk_48 rfl (rc_2) rfl rfl rfl rfl (Nat.le_of_ble_eq_true rfl) (hc48) ?_
          refine ok_reti eX11_walk_51 rfl ?_
          refine ⟨rfl, _, rfl, ?_⟩
          refine ok_step (ps := []) (L' := [some (.ref 94), some (.int (nI a)), some (.int (nI b)), some (.int minutes), none]) (st' := [.int (nI b), .int (nI a), .ref 94]) (σ' := (rf_w (rf_w α 3 (8 * a + b) minutes) 3 (8 * b + a) minutes, μ)) (pc' := 3) kX12_walk_0 rfl rfl rf_a0 ?_
          have hc3 : rf_At (rf_T Ln xs) MX12_areTwo 50 0 ([some (.ref 94), some (.int (nI a)), some (.int (nI b))], [], 108, (rf_w (rf_w α 3 (8 * a + b) minutes) 3 (8 * b + a) minutes, μ)) (some (.int (nI 1))) 108 (rf_w (rf_w α 3 (8 * a + b) minutes) 3 (8 * b + a) minutes, μ) := by
            refine rf_pa ?_
            refine ok_step (ps := []) (L' := [some (.ref 94), some (.int (nI a)), some (.int (nI b))]) (st' := [.int (nI a), .ref 94]) (σ' := (rf_w (rf_w α 3 (8 * a + b) minutes) 3 (8 * b + a) minutes, μ)) (pc' := 2) kX12_areTwo_0 rfl rfl rf_a0 ?_
            refine ok_V (As := [.int (nI a)]) (b := 94) (st := []) mkX12_isStation qX12_areTwo_2 rfl (rc_94) rfl rfl rfl rfl (Nat.le_of_ble_eq_true rfl) (m_isStation) ?_
            refine ok_if_eq bX12_areTwo_5 (fun gi5 => absurd gi5 (h5)) (fun _ => ?_)
            refine ok_step (ps := []) (L' := [some (.ref 94), some (.int (nI a)), some (.int (nI b))]) (st' := [.int (nI b), .ref 94]) (σ' := (rf_w (rf_w α 3 (8 * a + b) minutes) 3 (8 * b + a) minutes, μ)) (pc' := 10) kX12_areTwo_8 rfl rfl rf_a0 ?_
            refine ok_V (As := [.int (nI b)]) (b := 94) (st := []) mkX12_isStation qX12_areTwo_10 rfl (rc_94) rfl rfl rfl rfl (Nat.le_of_ble_eq_true rfl) (m_isStation) ?_
            refine ok_if_eq bX12_areTwo_13 (fun gi13 => absurd gi13 (h13)) (fun _ => ?_)
            refine ok_step (ps := []) (L' := [some (.ref 94), some (.int (nI a)), some (.int (nI b))]) (st' := [.int (nI b), .int (nI a)]) (σ' := (rf_w (rf_w α 3 (8 * a + b) minutes) 3 (8 * b + a) minutes, μ)) (pc' := 18) kX12_areTwo_16 rfl rfl rf_a0 ?_
            refine ok_icmp_eq bX12_areTwo_18 (fun gi18 => absurd gi18 (h18)) (fun _ => ?_)
            refine ok_step (ps := []) (L' := [some (.ref 94), some (.int (nI a)), some (.int (nI b))]) (st' := [.int (nI 1)]) (σ' := (rf_w (rf_w α 3 (8 * a + b) minutes) 3 (8 * b + a) minutes, μ)) (pc' := 22) kX12_areTwo_21 rfl rfl rf_a0 ?_
            refine ok_goto bX12_areTwo_22 ?_
            refine ok_retz eX12_areTwo_26 rfl (Or.inr rfl) ?_
            exact ⟨rfl, rfl⟩
          refine ok_V (As := [.int (nI a), .int (nI b)]) (b := 94) (st := []) mkX12_areTwo qX12_walk_3 rfl (rc_94) rfl rfl rfl rfl (Nat.le_of_ble_eq_true rfl) (hc3) ?_
          refine ok_if_eq bX12_walk_6 (fun g6 => absurd g6 ((by decide))) (fun _ => ?_)
          refine ok_step (ps := []) (L' := [some (.ref 94), some (.int (nI a)), some (.int (nI b)), some (.int minutes), none]) (st' := [.long (lN 60), .long (-1), .long minutes.toInt64]) (σ' := (rf_w (rf_w α 3 (8 * a + b) minutes) 3 (8 * b + a) minutes, μ)) (pc' := 17) kX12_walk_9 rfl rfl rf_a0 ?_
          refine ok_S (As := [.long minutes.toInt64, .long (-1), .long (lN 60)]) (st := []) mkX12_in qX12_walk_17 rfl rfl rfl rfl rfl (Nat.le_of_ble_eq_true rfl) (m_in) ?_
          rw [show wl minutes.toInt64 (-1) (lN 60) = wi minutes (-1) (nI 60) from wl_of rfl (by decide) (nI_l (by decide)).symm]
          refine ok_if_ne bX12_walk_20 (fun _ => ?_) (fun g20 => absurd g20 (h28))
          refine ok_step (ps := [rf_in (((nI 20) + ((nI 8) * (nI a))) + (nI b)) 700, rf_in (((nI 20) + ((nI 8) * (nI a))) + (nI b)) 700, rf_in (((nI 20) + ((nI 8) * (nI b))) + (nI a)) 700]) (L' := [some (.ref 94), some (.int (nI a)), some (.int (nI b)), some (.int minutes), some (.int (μ 95 ((((nI 20) + ((nI 8) * (nI a))) + (nI b)).toNatClampNeg)))]) (st' := [.int (μ 95 ((((nI 20) + ((nI 8) * (nI a))) + (nI b)).toNatClampNeg))]) (σ' := (rf_w (rf_w α 3 (8 * a + b) minutes) 3 (8 * b + a) minutes, rf_w (rf_w μ 95 ((((nI 20) + ((nI 8) * (nI a))) + (nI b)).toNatClampNeg) minutes) 95 ((((nI 20) + ((nI 8) * (nI b))) + (nI a)).toNatClampNeg) minutes)) (pc' := 77) kX12_walk_29 rfl rfl (rf_a1 (rf_in_n (a := (20 + 8 * a + b)) (by (try rw [(show ((nI 8) * (nI a)) = nI (8 * a) from rf_eq (rf_nmul (x := nI 8) (y := nI a) rfl rfl) (by omega))]); (try rw [(show ((nI 20) + (nI (8 * a))) = nI (20 + 8 * a) from rf_eq (rf_nadd (x := nI 20) (y := nI (8 * a)) rfl rfl) (by omega))]); (try rw [(show ((nI (20 + 8 * a)) + (nI b)) = nI (20 + 8 * a + b) from rf_eq (rf_nadd (x := nI (20 + 8 * a)) (y := nI b) rfl rfl) (by omega))]); all_goals exact rfl) (by omega)) (rf_a1 (rf_in_n (a := (20 + 8 * a + b)) (by (try rw [(show ((nI 8) * (nI a)) = nI (8 * a) from rf_eq (rf_nmul (x := nI 8) (y := nI a) rfl rfl) (by omega))]); (try rw [(show ((nI 20) + (nI (8 * a))) = nI (20 + 8 * a) from rf_eq (rf_nadd (x := nI 20) (y := nI (8 * a)) rfl rfl) (by omega))]); (try rw [(show ((nI (20 + 8 * a)) + (nI b)) = nI (20 + 8 * a + b) from rf_eq (rf_nadd (x := nI (20 + 8 * a)) (y := nI b) rfl rfl) (by omega))]); (try rw [(show (nI (20 + 8 * a + b)).toNatClampNeg = (20 + 8 * a + b) from rf_cl_n rfl (by omega))]); (try rw [(show ((nI 8) * (nI a)) = nI (8 * a) from rf_eq (rf_nmul (x := nI 8) (y := nI a) rfl rfl) (by omega))]); (try rw [(show ((nI 20) + (nI (8 * a))) = nI (20 + 8 * a) from rf_eq (rf_nadd (x := nI 20) (y := nI (8 * a)) rfl rfl) (by omega))]); (try rw [(show ((nI (20 + 8 * a)) + (nI b)) = nI (20 + 8 * a + b) from rf_eq (rf_nadd (x := nI (20 + 8 * a)) (y := nI b) rfl rfl) (by omega))]); all_goals exact rfl) (by omega)) (rf_a1 (rf_in_n (a := (20 + 8 * b + a)) (by (try rw [(show ((nI 8) * (nI a)) = nI (8 * a) from rf_eq (rf_nmul (x := nI 8) (y := nI a) rfl rfl) (by omega))]); (try rw [(show ((nI 20) + (nI (8 * a))) = nI (20 + 8 * a) from rf_eq (rf_nadd (x := nI 20) (y := nI (8 * a)) rfl rfl) (by omega))]); (try rw [(show ((nI (20 + 8 * a)) + (nI b)) = nI (20 + 8 * a + b) from rf_eq (rf_nadd (x := nI (20 + 8 * a)) (y := nI b) rfl rfl) (by omega))]); (try rw [(show (nI (20 + 8 * a + b)).toNatClampNeg = (20 + 8 * a + b) from rf_cl_n rfl (by omega))]); (try rw [(show ((nI 8) * (nI a)) = nI (8 * a) from rf_eq (rf_nmul (x := nI 8) (y := nI a) rfl rfl) (by omega))]); (try rw [(show ((nI 20) + (nI (8 * a))) = nI (20 + 8 * a) from rf_eq (rf_nadd (x := nI 20) (y := nI (8 * a)) rfl rfl) (by omega))]); (try rw [(show ((nI (20 + 8 * a)) + (nI b)) = nI (20 + 8 * a + b) from rf_eq (rf_nadd (x := nI (20 + 8 * a)) (y := nI b) rfl rfl) (by omega))]); (try rw [(show (nI (20 + 8 * a + b)).toNatClampNeg = (20 + 8 * a + b) from rf_cl_n rfl (by omega))]); (try rw [(show ((nI 8) * (nI b)) = nI (8 * b) from rf_eq (rf_nmul (x := nI 8) (y := nI b) rfl rfl) (by omega))]); (try rw [(show ((nI 20) + (nI (8 * b))) = nI (20 + 8 * b) from rf_eq (rf_nadd (x := nI 20) (y := nI (8 * b)) rfl rfl) (by omega))]); (try rw [(show ((nI (20 + 8 * b)) + (nI a)) = nI (20 + 8 * b + a) from rf_eq (rf_nadd (x := nI (20 + 8 * b)) (y := nI a) rfl rfl) (by omega))]); all_goals exact rfl) (by omega)) rf_a0))) ?_
          try rw [(show ((nI 8) * (nI a)) = nI (8 * a) from rf_eq (rf_nmul (x := nI 8) (y := nI a) rfl rfl) (by omega))]
          try rw [(show ((nI 20) + (nI (8 * a))) = nI (20 + 8 * a) from rf_eq (rf_nadd (x := nI 20) (y := nI (8 * a)) rfl rfl) (by omega))]
          try rw [(show ((nI (20 + 8 * a)) + (nI b)) = nI (20 + 8 * a + b) from rf_eq (rf_nadd (x := nI (20 + 8 * a)) (y := nI b) rfl rfl) (by omega))]
          try rw [(show (nI (20 + 8 * a + b)).toNatClampNeg = (20 + 8 * a + b) from rf_cl_n rfl (by omega))]
          try rw [(show ((nI 8) * (nI a)) = nI (8 * a) from rf_eq (rf_nmul (x := nI 8) (y := nI a) rfl rfl) (by omega))]
          try rw [(show ((nI 20) + (nI (8 * a))) = nI (20 + 8 * a) from rf_eq (rf_nadd (x := nI 20) (y := nI (8 * a)) rfl rfl) (by omega))]
          try rw [(show ((nI (20 + 8 * a)) + (nI b)) = nI (20 + 8 * a + b) from rf_eq (rf_nadd (x := nI (20 + 8 * a)) (y := nI b) rfl rfl) (by omega))]
          try rw [(show (nI (20 + 8 * a + b)).toNatClampNeg = (20 + 8 * a + b) from rf_cl_n rfl (by omega))]
          try rw [(show ((nI 8) * (nI b)) = nI (8 * b) from rf_eq (rf_nmul (x := nI 8) (y := nI b) rfl rfl) (by omega))]
          try rw [(show ((nI 20) + (nI (8 * b))) = nI (20 + 8 * b) from rf_eq (rf_nadd (x := nI 20) (y := nI (8 * b)) rfl rfl) (by omega))]
          try rw [(show ((nI (20 + 8 * b)) + (nI a)) = nI (20 + 8 * b + a) from rf_eq (rf_nadd (x := nI (20 + 8 * b)) (y := nI a) rfl rfl) (by omega))]
          try rw [(show (nI (20 + 8 * b + a)).toNatClampNeg = (20 + 8 * b + a) from rf_cl_n rfl (by omega))]
          refine ok_reti eX12_walk_77 rfl ?_
          refine ⟨rfl, _, rfl, J0.mc ((hJ.1.put (c := 2) (i := (8 * a + b)) (j := (20 + 8 * a + b)) (off_2 (by omega) (by omega)) _).put (c := 2) (i := (8 * b + a)) (j := (20 + 8 * b + a)) (off_2 (by omega) (by omega)) _) (fun i => ?_) (fun k hk => ?_), ?_⟩
          · simp only [rf_w_at, true_and, reduceIte]
            try (repeat' split)
            all_goals first | rfl | omega | (exfalso; omega)
          · simp only [rf_w_row hk]
          · try simp only [rf_w_self]
            exact (hI.put (fun bb hb => by rw [bdN (by omega)] at hb; cases hb) (by unfold nst; omega)).put (fun bb hb => by rw [bdN (by omega)] at hb; cases hb) (by unfold nst; omega)
        · refine ok_step (ps := []) (L' := [some (.ref 0), some (.int (nI a)), some (.int (nI b)), some (.int minutes)]) (st' := [.int (-1000000001), .ref 0]) (σ' := (α, μ)) (pc' := 34) kX11_walk_31 rfl rfl rf_a0 ?_
          refine ok_V (As := [.int (-1000000001)]) (b := 0) (st := []) mkX11_error qX11_walk_34 rfl (rc_0) rfl rfl rfl rfl (Nat.le_of_ble_eq_true rfl) (c_error (k := 1) (by decide) (by decide) (by decide)) ?_
          refine ok_reti eX11_walk_37 rfl ?_
          refine ⟨rfl, _, rfl, ?_⟩
          refine ok_step (ps := []) (L' := [some (.ref 94), some (.int (nI a)), some (.int (nI b)), some (.int minutes), none]) (st' := [.int (nI b), .int (nI a), .ref 94]) (σ' := (rf_w α 93 1 (α 93 1 + nI 1), μ)) (pc' := 3) kX12_walk_0 rfl rfl rf_a0 ?_
          have hc3 : rf_At (rf_T Ln xs) MX12_areTwo 50 0 ([some (.ref 94), some (.int (nI a)), some (.int (nI b))], [], 108, (rf_w α 93 1 (α 93 1 + nI 1), μ)) (some (.int (nI 1))) 108 (rf_w α 93 1 (α 93 1 + nI 1), μ) := by
            refine rf_pa ?_
            refine ok_step (ps := []) (L' := [some (.ref 94), some (.int (nI a)), some (.int (nI b))]) (st' := [.int (nI a), .ref 94]) (σ' := (rf_w α 93 1 (α 93 1 + nI 1), μ)) (pc' := 2) kX12_areTwo_0 rfl rfl rf_a0 ?_
            refine ok_V (As := [.int (nI a)]) (b := 94) (st := []) mkX12_isStation qX12_areTwo_2 rfl (rc_94) rfl rfl rfl rfl (Nat.le_of_ble_eq_true rfl) (m_isStation) ?_
            refine ok_if_eq bX12_areTwo_5 (fun gi5 => absurd gi5 (h5)) (fun _ => ?_)
            refine ok_step (ps := []) (L' := [some (.ref 94), some (.int (nI a)), some (.int (nI b))]) (st' := [.int (nI b), .ref 94]) (σ' := (rf_w α 93 1 (α 93 1 + nI 1), μ)) (pc' := 10) kX12_areTwo_8 rfl rfl rf_a0 ?_
            refine ok_V (As := [.int (nI b)]) (b := 94) (st := []) mkX12_isStation qX12_areTwo_10 rfl (rc_94) rfl rfl rfl rfl (Nat.le_of_ble_eq_true rfl) (m_isStation) ?_
            refine ok_if_eq bX12_areTwo_13 (fun gi13 => absurd gi13 (h13)) (fun _ => ?_)
            refine ok_step (ps := []) (L' := [some (.ref 94), some (.int (nI a)), some (.int (nI b))]) (st' := [.int (nI b), .int (nI a)]) (σ' := (rf_w α 93 1 (α 93 1 + nI 1), μ)) (pc' := 18) kX12_areTwo_16 rfl rfl rf_a0 ?_
            refine ok_icmp_eq bX12_areTwo_18 (fun gi18 => absurd gi18 (h18)) (fun _ => ?_)
            refine ok_step (ps := []) (L' := [some (.ref 94), some (.int (nI a)), some (.int (nI b))]) (st' := [.int (nI 1)]) (σ' := (rf_w α 93 1 (α 93 1 + nI 1), μ)) (pc' := 22) kX12_areTwo_21 rfl rfl rf_a0 ?_
            refine ok_goto bX12_areTwo_22 ?_
            refine ok_retz eX12_areTwo_26 rfl (Or.inr rfl) ?_
            exact ⟨rfl, rfl⟩
          refine ok_V (As := [.int (nI a), .int (nI b)]) (b := 94) (st := []) mkX12_areTwo qX12_walk_3 rfl (rc_94) rfl rfl rfl rfl (Nat.le_of_ble_eq_true rfl) (hc3) ?_
          refine ok_if_eq bX12_walk_6 (fun g6 => absurd g6 ((by decide))) (fun _ => ?_)
          refine ok_step (ps := []) (L' := [some (.ref 94), some (.int (nI a)), some (.int (nI b)), some (.int minutes), none]) (st' := [.long (lN 60), .long (-1), .long minutes.toInt64]) (σ' := (rf_w α 93 1 (α 93 1 + nI 1), μ)) (pc' := 17) kX12_walk_9 rfl rfl rf_a0 ?_
          refine ok_S (As := [.long minutes.toInt64, .long (-1), .long (lN 60)]) (st := []) mkX12_in qX12_walk_17 rfl rfl rfl rfl rfl (Nat.le_of_ble_eq_true rfl) (m_in) ?_
          rw [show wl minutes.toInt64 (-1) (lN 60) = wi minutes (-1) (nI 60) from wl_of rfl (by decide) (nI_l (by decide)).symm]
          refine ok_if_ne bX12_walk_20 (fun g20 => absurd (h28) g20) (fun _ => ?_)
          refine ok_step (ps := []) (L' := [some (.ref 94), some (.int (nI a)), some (.int (nI b)), some (.int minutes), none]) (st' := [.int (nI 1), .ref 94]) (σ' := (rf_w α 93 1 (α 93 1 + nI 1), μ)) (pc' := 25) kX12_walk_23 rfl rfl rf_a0 ?_
          refine ok_V (As := [.int (nI 1)]) (b := 94) (st := []) mkX12_finds qX12_walk_25 rfl (rc_94) rfl rfl rfl rfl (Nat.le_of_ble_eq_true rfl) (m_finds (k := 1) (by decide)) ?_
          refine ok_reti eX12_walk_28 rfl ?_
          exact ⟨rfl, _, rfl, hJ.err (k := 1) (by decide)⟩
theorem op_line {one : Int32} {other : Int32} {leg : Int32} (hJ : J α μ)  : Op (rf_T Ln xs) MX11_line MX12_line [some (.ref 0), some (.int one), some (.int other), some (.int leg)] [some (.ref 94), some (.int one), some (.int other), some (.int leg), none] α μ := by
  have hR := hJ.1.1.1
  have hI := hJ.2
  have b0 := hI.le0
  have b1 := hI.le1
  have b2 := hI.le2
  have b3 := hI.le3
  have b4 := hI.le4
  have b5 := hI.le5
  have b6 := hI.le6
  have b8 := hI.le8
  have b9 := hI.le9
  have b11 := hI.le11
  have b12 := hI.le12
  refine ok_step (ps := []) (L' := [some (.ref 0), some (.int one), some (.int other), some (.int leg)]) (st' := [.int one, .ref 0]) (σ' := (α, μ)) (pc' := 2) kX11_line_0 rfl rfl rf_a0 ?_
  refine ok_V (As := [.int one]) (b := 0) (st := []) mkX11_isStation qX11_line_2 rfl (rc_0) rfl rfl rfl rfl (Nat.le_of_ble_eq_true rfl) (c_isStation hR) ?_
  refine ok_if_eq bX11_line_5 (fun h5 => ?_) (fun h5 => ?_)
  · refine ok_step (ps := []) (L' := [some (.ref 0), some (.int one), some (.int other), some (.int leg)]) (st' := [.int (-1000000001), .ref 0]) (σ' := (α, μ)) (pc' := 34) kX11_line_31 rfl rfl rf_a0 ?_
    refine ok_V (As := [.int (-1000000001)]) (b := 0) (st := []) mkX11_error qX11_line_34 rfl (rc_0) rfl rfl rfl rfl (Nat.le_of_ble_eq_true rfl) (c_error (k := 1) (by decide) (by decide) (by decide)) ?_
    refine ok_reti eX11_line_37 rfl ?_
    refine ⟨rfl, _, rfl, ?_⟩
    refine ok_step (ps := []) (L' := [some (.ref 94), some (.int one), some (.int other), some (.int leg), none]) (st' := [.int other, .int one, .ref 94]) (σ' := (rf_w α 93 1 (α 93 1 + nI 1), μ)) (pc' := 3) kX12_line_0 rfl rfl rf_a0 ?_
    have hc3 : rf_At (rf_T Ln xs) MX12_areTwo 50 0 ([some (.ref 94), some (.int one), some (.int other)], [], 108, (rf_w α 93 1 (α 93 1 + nI 1), μ)) (some (.int (nI 0))) 108 (rf_w α 93 1 (α 93 1 + nI 1), μ) := by
      refine rf_pa ?_
      refine ok_step (ps := []) (L' := [some (.ref 94), some (.int one), some (.int other)]) (st' := [.int one, .ref 94]) (σ' := (rf_w α 93 1 (α 93 1 + nI 1), μ)) (pc' := 2) kX12_areTwo_0 rfl rfl rf_a0 ?_
      refine ok_V (As := [.int one]) (b := 94) (st := []) mkX12_isStation qX12_areTwo_2 rfl (rc_94) rfl rfl rfl rfl (Nat.le_of_ble_eq_true rfl) (m_isStation) ?_
      refine ok_if_eq bX12_areTwo_5 (fun _ => ?_) (fun gi5 => absurd (h5) gi5)
      refine ok_step (ps := []) (L' := [some (.ref 94), some (.int one), some (.int other)]) (st' := [.int (nI 0)]) (σ' := (rf_w α 93 1 (α 93 1 + nI 1), μ)) (pc' := 26) kX12_areTwo_25 rfl rfl rf_a0 ?_
      refine ok_retz eX12_areTwo_26 rfl (Or.inl rfl) ?_
      exact ⟨rfl, rfl⟩
    refine ok_V (As := [.int one, .int other]) (b := 94) (st := []) mkX12_areTwo qX12_line_3 rfl (rc_94) rfl rfl rfl rfl (Nat.le_of_ble_eq_true rfl) (hc3) ?_
    refine ok_if_eq bX12_line_6 (fun _ => ?_) (fun g6 => absurd ((by decide)) g6)
    refine ok_step (ps := []) (L' := [some (.ref 94), some (.int one), some (.int other), some (.int leg), none]) (st' := [.int (nI 1), .ref 94]) (σ' := (rf_w α 93 1 (α 93 1 + nI 1), μ)) (pc' := 23) kX12_line_21 rfl rfl rf_a0 ?_
    refine ok_V (As := [.int (nI 1)]) (b := 94) (st := []) mkX12_finds qX12_line_23 rfl (rc_94) rfl rfl rfl rfl (Nat.le_of_ble_eq_true rfl) (m_finds (k := 1) (by decide)) ?_
    refine ok_reti eX12_line_26 rfl ?_
    exact ⟨rfl, _, rfl, hJ.err (k := 1) (by decide)⟩
  · obtain ⟨a, ha, rfl⟩ := wi_lt (bI_n0.mp h5) hI.at1 (by omega)
    refine ok_step (ps := []) (L' := [some (.ref 0), some (.int (nI a)), some (.int other), some (.int leg)]) (st' := [.int other, .ref 0]) (σ' := (α, μ)) (pc' := 10) kX11_line_8 rfl rfl rf_a0 ?_
    refine ok_V (As := [.int other]) (b := 0) (st := []) mkX11_isStation qX11_line_10 rfl (rc_0) rfl rfl rfl rfl (Nat.le_of_ble_eq_true rfl) (c_isStation hR) ?_
    refine ok_if_eq bX11_line_13 (fun h13 => ?_) (fun h13 => ?_)
    · refine ok_step (ps := []) (L' := [some (.ref 0), some (.int (nI a)), some (.int other), some (.int leg)]) (st' := [.int (-1000000001), .ref 0]) (σ' := (α, μ)) (pc' := 34) kX11_line_31 rfl rfl rf_a0 ?_
      refine ok_V (As := [.int (-1000000001)]) (b := 0) (st := []) mkX11_error qX11_line_34 rfl (rc_0) rfl rfl rfl rfl (Nat.le_of_ble_eq_true rfl) (c_error (k := 1) (by decide) (by decide) (by decide)) ?_
      refine ok_reti eX11_line_37 rfl ?_
      refine ⟨rfl, _, rfl, ?_⟩
      refine ok_step (ps := []) (L' := [some (.ref 94), some (.int (nI a)), some (.int other), some (.int leg), none]) (st' := [.int other, .int (nI a), .ref 94]) (σ' := (rf_w α 93 1 (α 93 1 + nI 1), μ)) (pc' := 3) kX12_line_0 rfl rfl rf_a0 ?_
      have hc3 : rf_At (rf_T Ln xs) MX12_areTwo 50 0 ([some (.ref 94), some (.int (nI a)), some (.int other)], [], 108, (rf_w α 93 1 (α 93 1 + nI 1), μ)) (some (.int (nI 0))) 108 (rf_w α 93 1 (α 93 1 + nI 1), μ) := by
        refine rf_pa ?_
        refine ok_step (ps := []) (L' := [some (.ref 94), some (.int (nI a)), some (.int other)]) (st' := [.int (nI a), .ref 94]) (σ' := (rf_w α 93 1 (α 93 1 + nI 1), μ)) (pc' := 2) kX12_areTwo_0 rfl rfl rf_a0 ?_
        refine ok_V (As := [.int (nI a)]) (b := 94) (st := []) mkX12_isStation qX12_areTwo_2 rfl (rc_94) rfl rfl rfl rfl (Nat.le_of_ble_eq_true rfl) (m_isStation) ?_
        refine ok_if_eq bX12_areTwo_5 (fun gi5 => absurd gi5 (h5)) (fun _ => ?_)
        refine ok_step (ps := []) (L' := [some (.ref 94), some (.int (nI a)), some (.int other)]) (st' := [.int other, .ref 94]) (σ' := (rf_w α 93 1 (α 93 1 + nI 1), μ)) (pc' := 10) kX12_areTwo_8 rfl rfl rf_a0 ?_
        refine ok_V (As := [.int other]) (b := 94) (st := []) mkX12_isStation qX12_areTwo_10 rfl (rc_94) rfl rfl rfl rfl (Nat.le_of_ble_eq_true rfl) (m_isStation) ?_
        refine ok_if_eq bX12_areTwo_13 (fun _ => ?_) (fun gi13 => absurd (h13) gi13)
        refine ok_step (ps := []) (L' := [some (.ref 94), some (.int (nI a)), some (.int other)]) (st' := [.int (nI 0)]) (σ' := (rf_w α 93 1 (α 93 1 + nI 1), μ)) (pc' := 26) kX12_areTwo_25 rfl rfl rf_a0 ?_
        refine ok_retz eX12_areTwo_26 rfl (Or.inl rfl) ?_
        exact ⟨rfl, rfl⟩
      refine ok_V (As := [.int (nI a), .int other]) (b := 94) (st := []) mkX12_areTwo qX12_line_3 rfl (rc_94) rfl rfl rfl rfl (Nat.le_of_ble_eq_true rfl) (hc3) ?_
      refine ok_if_eq bX12_line_6 (fun _ => ?_) (fun g6 => absurd ((by decide)) g6)
      refine ok_step (ps := []) (L' := [some (.ref 94), some (.int (nI a)), some (.int other), some (.int leg), none]) (st' := [.int (nI 1), .ref 94]) (σ' := (rf_w α 93 1 (α 93 1 + nI 1), μ)) (pc' := 23) kX12_line_21 rfl rfl rf_a0 ?_
      refine ok_V (As := [.int (nI 1)]) (b := 94) (st := []) mkX12_finds qX12_line_23 rfl (rc_94) rfl rfl rfl rfl (Nat.le_of_ble_eq_true rfl) (m_finds (k := 1) (by decide)) ?_
      refine ok_reti eX12_line_26 rfl ?_
      exact ⟨rfl, _, rfl, hJ.err (k := 1) (by decide)⟩
    · obtain ⟨b, hb, rfl⟩ := wi_lt (bI_n0.mp h13) hI.at1 (by omega)
      refine ok_step (ps := []) (L' := [some (.ref 0), some (.int (nI a)), some (.int (nI b)), some (.int leg)]) (st' := [.int (nI b), .int (nI a)]) (σ' := (α, μ)) (pc' := 18) kX11_line_16 rfl rfl rf_a0 ?_
      refine ok_icmp_eq bX11_line_18 (fun h18 => ?_) (fun h18 => ?_)
      · refine ok_step (ps := []) (L' := [some (.ref 0), some (.int (nI a)), some (.int (nI b)), some (.int leg)]) (st' := [.int (-1000000001), .ref 0]) (σ' := (α, μ)) (pc' := 34) kX11_line_31 rfl rfl rf_a0 ?_
        refine ok_V (As := [.int (-1000000001)]) (b := 0) (st := []) mkX11_error qX11_line_34 rfl (rc_0) rfl rfl rfl rfl (Nat.le_of_ble_eq_true rfl) (c_error (k := 1) (by decide) (by decide) (by decide)) ?_
        refine ok_reti eX11_line_37 rfl ?_
        refine ⟨rfl, _, rfl, ?_⟩
        refine ok_step (ps := []) (L' := [some (.ref 94), some (.int (nI a)), some (.int (nI b)), some (.int leg), none]) (st' := [.int (nI b), .int (nI a), .ref 94]) (σ' := (rf_w α 93 1 (α 93 1 + nI 1), μ)) (pc' := 3) kX12_line_0 rfl rfl rf_a0 ?_
        have hc3 : rf_At (rf_T Ln xs) MX12_areTwo 50 0 ([some (.ref 94), some (.int (nI a)), some (.int (nI b))], [], 108, (rf_w α 93 1 (α 93 1 + nI 1), μ)) (some (.int (nI 0))) 108 (rf_w α 93 1 (α 93 1 + nI 1), μ) := by
          refine rf_pa ?_
          refine ok_step (ps := []) (L' := [some (.ref 94), some (.int (nI a)), some (.int (nI b))]) (st' := [.int (nI a), .ref 94]) (σ' := (rf_w α 93 1 (α 93 1 + nI 1), μ)) (pc' := 2) kX12_areTwo_0 rfl rfl rf_a0 ?_
          refine ok_V (As := [.int (nI a)]) (b := 94) (st := []) mkX12_isStation qX12_areTwo_2 rfl (rc_94) rfl rfl rfl rfl (Nat.le_of_ble_eq_true rfl) (m_isStation) ?_
          refine ok_if_eq bX12_areTwo_5 (fun gi5 => absurd gi5 (h5)) (fun _ => ?_)
          refine ok_step (ps := []) (L' := [some (.ref 94), some (.int (nI a)), some (.int (nI b))]) (st' := [.int (nI b), .ref 94]) (σ' := (rf_w α 93 1 (α 93 1 + nI 1), μ)) (pc' := 10) kX12_areTwo_8 rfl rfl rf_a0 ?_
          refine ok_V (As := [.int (nI b)]) (b := 94) (st := []) mkX12_isStation qX12_areTwo_10 rfl (rc_94) rfl rfl rfl rfl (Nat.le_of_ble_eq_true rfl) (m_isStation) ?_
          refine ok_if_eq bX12_areTwo_13 (fun gi13 => absurd gi13 (h13)) (fun _ => ?_)
          refine ok_step (ps := []) (L' := [some (.ref 94), some (.int (nI a)), some (.int (nI b))]) (st' := [.int (nI b), .int (nI a)]) (σ' := (rf_w α 93 1 (α 93 1 + nI 1), μ)) (pc' := 18) kX12_areTwo_16 rfl rfl rf_a0 ?_
          refine ok_icmp_eq bX12_areTwo_18 (fun _ => ?_) (fun gi18 => absurd (h18) gi18)
          refine ok_step (ps := []) (L' := [some (.ref 94), some (.int (nI a)), some (.int (nI b))]) (st' := [.int (nI 0)]) (σ' := (rf_w α 93 1 (α 93 1 + nI 1), μ)) (pc' := 26) kX12_areTwo_25 rfl rfl rf_a0 ?_
          refine ok_retz eX12_areTwo_26 rfl (Or.inl rfl) ?_
          exact ⟨rfl, rfl⟩
        refine ok_V (As := [.int (nI a), .int (nI b)]) (b := 94) (st := []) mkX12_areTwo qX12_line_3 rfl (rc_94) rfl rfl rfl rfl (Nat.le_of_ble_eq_true rfl) (hc3) ?_
        refine ok_if_eq bX12_line_6 (fun _ => ?_) (fun g6 => absurd ((by decide)) g6)
        refine ok_step (ps := []) (L' := [some (.ref 94), some (.int (nI a)), some (.int (nI b)), some (.int leg), none]) (st' := [.int (nI 1), .ref 94]) (σ' := (rf_w α 93 1 (α 93 1 + nI 1), μ)) (pc' := 23) kX12_line_21 rfl rfl rf_a0 ?_
        refine ok_V (As := [.int (nI 1)]) (b := 94) (st := []) mkX12_finds qX12_line_23 rfl (rc_94) rfl rfl rfl rfl (Nat.le_of_ble_eq_true rfl) (m_finds (k := 1) (by decide)) ?_
        refine ok_reti eX12_line_26 rfl ?_
        exact ⟨rfl, _, rfl, hJ.err (k := 1) (by decide)⟩
      · refine ok_step (ps := []) (L' := [some (.ref 0), some (.int (nI a)), some (.int (nI b)), some (.int leg)]) (st' := [.int (nI 30), .int (nI 1), .int leg]) (σ' := (α, μ)) (pc' := 25) kX11_line_21 rfl rfl rf_a0 ?_
        refine ok_S (As := [.int leg, .int (nI 1), .int (nI 30)]) (st := []) mkX11_within qX11_line_25 rfl rfl rfl rfl rfl (Nat.le_of_ble_eq_true rfl) (c_within) ?_
        refine ok_if_ne bX11_line_28 (fun h28 => ?_) (fun h28 => ?_)
        · obtain ⟨g, hg1, hg2, rfl⟩ := wi_of (bI_n0.mp h28) (by decide) (by decide)
          refine ok_step (ps := []) (L' := [some (.ref 0), some (.int (nI a)), some (.int (nI b)), some (.int (nI g))]) (st' := [.int (nI 4), .int (α 2 1)]) (σ' := (α, μ)) (pc' := 49) kX11_line_38 rfl rfl rf_a0 ?_
          try rw [(show α 2 1 = μ 95 2 from hR 1 1 2 rfl)]
          refine ok_icmp_lt bX11_line_49 (fun h49 => ?_) (fun h49 => ?_)
          · have l49 := nlt_lt hI.at2 h49 (by omega)
            refine ok_step (ps := []) (L' := [some (.ref 0), some (.int (nI a)), some (.int (nI b)), some (.int (nI g))]) (st' := [.int (nI g), .int (nI b), .int (nI a), .ref 2]) (σ' := (α, μ)) (pc' := 69) kX11_line_59 rfl rfl rf_a0 ?_
            have hc69 : rf_At (rf_T Ln xs) MX4_addLine 50 0 ([some (.ref 2), some (.int (nI a)), some (.int (nI b)), some (.int (nI g)), none], [], 108, (α, μ)) (some (.int (μ 95 2))) 108 (rf_w (rf_w (rf_w (rf_w (rf_w (rf_w α 2 1 (nI (1 + cn (μ 95) 2))) 5 (6 * cn (μ 95) 2) (nI a)) 4 (cn (μ 95) 2) (nI 1)) 5 (1 + 6 * cn (μ 95) 2) (nI b)) 6 (1 + 6 * cn (μ 95) 2) (nI g)) 4 (cn (μ 95) 2) (nI 2), μ) := by
              refine rf_pa ?_
              refine ok_step (ps := [rf_in ((α 2 1) * (nI 6)) 24, rf_in (α 2 1) 4]) (L' := [some (.ref 2), some (.int (nI a)), some (.int (nI b)), some (.int (nI g)), some (.int (α 2 1))]) (st' := [.int (nI g), .int (nI b), .int (α 2 1), .ref 2]) (σ' := (rf_w (rf_w (rf_w α 2 1 ((α 2 1) + (nI 1))) 5 (((α 2 1) * (nI 6)).toNatClampNeg) (nI a)) 4 ((α 2 1).toNatClampNeg) (nI 1), μ)) (pc' := 40) kX4_addLine_0 rfl rfl (rf_a1 (rf_in_n (a := (6 * cn (μ 95) 2)) (by (try rw [(show α 2 1 = μ 95 2 from hR 1 1 2 rfl)]); (try rw [(show α 2 1 = μ 95 2 from hR 1 1 2 rfl)]); (try rw [(show ((μ 95 2) + (nI 1)) = nI (1 + cn (μ 95) 2) from rf_eq (rf_nadd (x := μ 95 2) (y := nI 1) (hI.at2) rfl) (by omega))]); (try rw [(show ((μ 95 2) * (nI 6)) = nI (6 * cn (μ 95) 2) from rf_eq (rf_nmul (x := μ 95 2) (y := nI 6) (hI.at2) rfl) (by omega))]); all_goals exact rfl) (by omega)) (rf_a1 (rf_in_n (a := (cn (μ 95) 2)) (by (try rw [(show α 2 1 = μ 95 2 from hR 1 1 2 rfl)]); (try rw [(show α 2 1 = μ 95 2 from hR 1 1 2 rfl)]); (try rw [(show ((μ 95 2) + (nI 1)) = nI (1 + cn (μ 95) 2) from rf_eq (rf_nadd (x := μ 95 2) (y := nI 1) (hI.at2) rfl) (by omega))]); (try rw [(show ((μ 95 2) * (nI 6)) = nI (6 * cn (μ 95) 2) from rf_eq (rf_nmul (x := μ 95 2) (y := nI 6) (hI.at2) rfl) (by omega))]); (try rw [(show (nI (6 * cn (μ 95) 2)).toNatClampNeg = (6 * cn (μ 95) 2) from rf_cl_n rfl (by omega))]); all_goals exact (hI.at2)) (by omega)) rf_a0)) ?_
              try rw [(show α 2 1 = μ 95 2 from hR 1 1 2 rfl)]
              try rw [(show ((μ 95 2) + (nI 1)) = nI (1 + cn (μ 95) 2) from rf_eq (rf_nadd (x := μ 95 2) (y := nI 1) (hI.at2) rfl) (by omega))]
              try rw [(show ((μ 95 2) * (nI 6)) = nI (6 * cn (μ 95) 2) from rf_eq (rf_nmul (x := μ 95 2) (y := nI 6) (hI.at2) rfl) (by omega))]
              try rw [(show (nI (6 * cn (μ 95) 2)).toNatClampNeg = (6 * cn (μ 95) 2) from rf_cl_n rfl (by omega))]
              try rw [(show (μ 95 2).toNatClampNeg = (cn (μ 95) 2) from rf_cl_n (hI.at2) (by omega))]
              have hc40 : rf_At (rf_T Ln xs) MX4_lengthen 40 0 ([some (.ref 2), some (.int (μ 95 2)), some (.int (nI b)), some (.int (nI g)), none], [], 108, (rf_w (rf_w (rf_w α 2 1 (nI (1 + cn (μ 95) 2))) 5 (6 * cn (μ 95) 2) (nI a)) 4 (cn (μ 95) 2) (nI 1), μ)) (some (.int (nI 2))) 108 (rf_w (rf_w (rf_w (rf_w (rf_w (rf_w α 2 1 (nI (1 + cn (μ 95) 2))) 5 (6 * cn (μ 95) 2) (nI a)) 4 (cn (μ 95) 2) (nI 1)) 5 (1 + 6 * cn (μ 95) 2) (nI b)) 6 (1 + 6 * cn (μ 95) 2) (nI g)) 4 (cn (μ 95) 2) (nI 2), μ) := by
                refine rf_pa ?_
                refine ok_step (ps := [rf_in (μ 95 2) 4, rf_in (((μ 95 2) * (nI 6)) + ((rf_w (rf_w (rf_w α 2 1 (nI (1 + cn (μ 95) 2))) 5 (6 * cn (μ 95) 2) (nI a)) 4 (cn (μ 95) 2) (nI 1)) 4 ((μ 95 2).toNatClampNeg))) 24, rf_in (((μ 95 2) * (nI 6)) + ((rf_w (rf_w (rf_w α 2 1 (nI (1 + cn (μ 95) 2))) 5 (6 * cn (μ 95) 2) (nI a)) 4 (cn (μ 95) 2) (nI 1)) 4 ((μ 95 2).toNatClampNeg))) 24, rf_in (μ 95 2) 4, rf_in (μ 95 2) 4, rf_in (μ 95 2) 4]) (L' := [some (.ref 2), some (.int (μ 95 2)), some (.int (nI b)), some (.int (nI g)), some (.int (((μ 95 2) * (nI 6)) + ((rf_w (rf_w (rf_w α 2 1 (nI (1 + cn (μ 95) 2))) 5 (6 * cn (μ 95) 2) (nI a)) 4 (cn (μ 95) 2) (nI 1)) 4 ((μ 95 2).toNatClampNeg))))]) (st' := [.int ((rf_w (rf_w (rf_w (rf_w (rf_w (rf_w α 2 1 (nI (1 + cn (μ 95) 2))) 5 (6 * cn (μ 95) 2) (nI a)) 4 (cn (μ 95) 2) (nI 1)) 5 ((((μ 95 2) * (nI 6)) + ((rf_w (rf_w (rf_w α 2 1 (nI (1 + cn (μ 95) 2))) 5 (6 * cn (μ 95) 2) (nI a)) 4 (cn (μ 95) 2) (nI 1)) 4 ((μ 95 2).toNatClampNeg))).toNatClampNeg) (nI b)) 6 ((((μ 95 2) * (nI 6)) + ((rf_w (rf_w (rf_w α 2 1 (nI (1 + cn (μ 95) 2))) 5 (6 * cn (μ 95) 2) (nI a)) 4 (cn (μ 95) 2) (nI 1)) 4 ((μ 95 2).toNatClampNeg))).toNatClampNeg) (nI g)) 4 ((μ 95 2).toNatClampNeg) (((rf_w (rf_w (rf_w (rf_w (rf_w α 2 1 (nI (1 + cn (μ 95) 2))) 5 (6 * cn (μ 95) 2) (nI a)) 4 (cn (μ 95) 2) (nI 1)) 5 ((((μ 95 2) * (nI 6)) + ((rf_w (rf_w (rf_w α 2 1 (nI (1 + cn (μ 95) 2))) 5 (6 * cn (μ 95) 2) (nI a)) 4 (cn (μ 95) 2) (nI 1)) 4 ((μ 95 2).toNatClampNeg))).toNatClampNeg) (nI b)) 6 ((((μ 95 2) * (nI 6)) + ((rf_w (rf_w (rf_w α 2 1 (nI (1 + cn (μ 95) 2))) 5 (6 * cn (μ 95) 2) (nI a)) 4 (cn (μ 95) 2) (nI 1)) 4 ((μ 95 2).toNatClampNeg))).toNatClampNeg) (nI g)) 4 ((μ 95 2).toNatClampNeg)) + (nI 1))) 4 ((μ 95 2).toNatClampNeg))]) (σ' := (rf_w (rf_w (rf_w (rf_w (rf_w (rf_w α 2 1 (nI (1 + cn (μ 95) 2))) 5 (6 * cn (μ 95) 2) (nI a)) 4 (cn (μ 95) 2) (nI 1)) 5 ((((μ 95 2) * (nI 6)) + ((rf_w (rf_w (rf_w α 2 1 (nI (1 + cn (μ 95) 2))) 5 (6 * cn (μ 95) 2) (nI a)) 4 (cn (μ 95) 2) (nI 1)) 4 ((μ 95 2).toNatClampNeg))).toNatClampNeg) (nI b)) 6 ((((μ 95 2) * (nI 6)) + ((rf_w (rf_w (rf_w α 2 1 (nI (1 + cn (μ 95) 2))) 5 (6 * cn (μ 95) 2) (nI a)) 4 (cn (μ 95) 2) (nI 1)) 4 ((μ 95 2).toNatClampNeg))).toNatClampNeg) (nI g)) 4 ((μ 95 2).toNatClampNeg) (((rf_w (rf_w (rf_w (rf_w (rf_w α 2 1 (nI (1 + cn (μ 95) 2))) 5 (6 * cn (μ 95) 2) (nI a)) 4 (cn (μ 95) 2) (nI 1)) 5 ((((μ 95 2) * (nI 6)) + ((rf_w (rf_w (rf_w α 2 1 (nI (1 + cn (μ 95) 2))) 5 (6 * cn (μ 95) 2) (nI a)) 4 (cn (μ 95) 2) (nI 1)) 4 ((μ 95 2).toNatClampNeg))).toNatClampNeg) (nI b)) 6 ((((μ 95 2) * (nI 6)) + ((rf_w (rf_w (rf_w α 2 1 (nI (1 + cn (μ 95) 2))) 5 (6 * cn (μ 95) 2) (nI a)) 4 (cn (μ 95) 2) (nI 1)) 4 ((μ 95 2).toNatClampNeg))).toNatClampNeg) (nI g)) 4 ((μ 95 2).toNatClampNeg)) + (nI 1)), μ)) (pc' := 45) kX4_lengthen_0 rfl rfl (rf_a1 (rf_in_n (a := (cn (μ 95) 2)) (hI.at2) (by omega)) (rf_a1 (rf_in_n (a := (1 + 6 * cn (μ 95) 2)) (by (try rw [(show ((μ 95 2) * (nI 6)) = nI (6 * cn (μ 95) 2) from rf_eq (rf_nmul (x := μ 95 2) (y := nI 6) (hI.at2) rfl) (by omega))]); (try rw [(show (μ 95 2).toNatClampNeg = (cn (μ 95) 2) from rf_cl_n (hI.at2) (by omega))]); (try rw [(show (rf_w (rf_w (rf_w α 2 1 (nI (1 + cn (μ 95) 2))) 5 (6 * cn (μ 95) 2) (nI a)) 4 (cn (μ 95) 2) (nI 1)) 4 (cn (μ 95) 2) = (nI 1) from by rw [rf_w_at, if_pos ⟨rfl, rfl⟩])]); (try rw [(show ((nI (6 * cn (μ 95) 2)) + (nI 1)) = nI (1 + 6 * cn (μ 95) 2) from rf_eq (rf_nadd (x := nI (6 * cn (μ 95) 2)) (y := nI 1) rfl rfl) (by omega))]); all_goals exact rfl) (by omega)) (rf_a1 (rf_in_n (a := (1 + 6 * cn (μ 95) 2)) (by (try rw [(show ((μ 95 2) * (nI 6)) = nI (6 * cn (μ 95) 2) from rf_eq (rf_nmul (x := μ 95 2) (y := nI 6) (hI.at2) rfl) (by omega))]); (try rw [(show (μ 95 2).toNatClampNeg = (cn (μ 95) 2) from rf_cl_n (hI.at2) (by omega))]); (try rw [(show (rf_w (rf_w (rf_w α 2 1 (nI (1 + cn (μ 95) 2))) 5 (6 * cn (μ 95) 2) (nI a)) 4 (cn (μ 95) 2) (nI 1)) 4 (cn (μ 95) 2) = (nI 1) from by rw [rf_w_at, if_pos ⟨rfl, rfl⟩])]); (try rw [(show ((nI (6 * cn (μ 95) 2)) + (nI 1)) = nI (1 + 6 * cn (μ 95) 2) from rf_eq (rf_nadd (x := nI (6 * cn (μ 95) 2)) (y := nI 1) rfl rfl) (by omega))]); (try rw [(show (nI (1 + 6 * cn (μ 95) 2)).toNatClampNeg = (1 + 6 * cn (μ 95) 2) from rf_cl_n rfl (by omega))]); all_goals exact rfl) (by omega)) (rf_a1 (rf_in_n (a := (cn (μ 95) 2)) (hI.at2) (by omega)) (rf_a1 (rf_in_n (a := (cn (μ 95) 2)) (hI.at2) (by omega)) (rf_a1 (rf_in_n (a := (cn (μ 95) 2)) (hI.at2) (by omega)) rf_a0)))))) ?_
                try rw [(show ((μ 95 2) * (nI 6)) = nI (6 * cn (μ 95) 2) from rf_eq (rf_nmul (x := μ 95 2) (y := nI 6) (hI.at2) rfl) (by omega))]
                try rw [(show (μ 95 2).toNatClampNeg = (cn (μ 95) 2) from rf_cl_n (hI.at2) (by omega))]
                try rw [(show (rf_w (rf_w (rf_w α 2 1 (nI (1 + cn (μ 95) 2))) 5 (6 * cn (μ 95) 2) (nI a)) 4 (cn (μ 95) 2) (nI 1)) 4 (cn (μ 95) 2) = (nI 1) from by rw [rf_w_at, if_pos ⟨rfl, rfl⟩])]
                try rw [(show ((nI (6 * cn (μ 95) 2)) + (nI 1)) = nI (1 + 6 * cn (μ 95) 2) from rf_eq (rf_nadd (x := nI (6 * cn (μ 95) 2)) (y := nI 1) rfl rfl) (by omega))]
                try rw [(show (nI (1 + 6 * cn (μ 95) 2)).toNatClampNeg = (1 + 6 * cn (μ 95) 2) from rf_cl_n rfl (by omega))]
                try rw [(show (μ 95 2).toNatClampNeg = (cn (μ 95) 2) from rf_cl_n (hI.at2) (by omega))]
                try rw [(show (rf_w (rf_w (rf_w (rf_w (rf_w α 2 1 (nI (1 + cn (μ 95) 2))) 5 (6 * cn (μ 95) 2) (nI a)) 4 (cn (μ 95) 2) (nI 1)) 5 (1 + 6 * cn (μ 95) 2) (nI b)) 6 (1 + 6 * cn (μ 95) 2) (nI g)) 4 (cn (μ 95) 2) = (rf_w (rf_w (rf_w (rf_w α 2 1 (nI (1 + cn (μ 95) 2))) 5 (6 * cn (μ 95) 2) (nI a)) 4 (cn (μ 95) 2) (nI 1)) 5 (1 + 6 * cn (μ 95) 2) (nI b)) 4 (cn (μ 95) 2) from by rw [rf_w_at, if_neg (fun h => absurd h.1 (by decide))])]
                try rw [(show (rf_w (rf_w (rf_w (rf_w α 2 1 (nI (1 + cn (μ 95) 2))) 5 (6 * cn (μ 95) 2) (nI a)) 4 (cn (μ 95) 2) (nI 1)) 5 (1 + 6 * cn (μ 95) 2) (nI b)) 4 (cn (μ 95) 2) = (rf_w (rf_w (rf_w α 2 1 (nI (1 + cn (μ 95) 2))) 5 (6 * cn (μ 95) 2) (nI a)) 4 (cn (μ 95) 2) (nI 1)) 4 (cn (μ 95) 2) from by rw [rf_w_at, if_neg (fun h => absurd h.1 (by decide))])]
                try rw [(show (rf_w (rf_w (rf_w α 2 1 (nI (1 + cn (μ 95) 2))) 5 (6 * cn (μ 95) 2) (nI a)) 4 (cn (μ 95) 2) (nI 1)) 4 (cn (μ 95) 2) = (nI 1) from by rw [rf_w_at, if_pos ⟨rfl, rfl⟩])]
                try rw [(show ((nI 1) + (nI 1)) = nI 2 from rf_eq (rf_nadd (x := nI 1) (y := nI 1) rfl rfl) (by omega))]
                try rw [(show (μ 95 2).toNatClampNeg = (cn (μ 95) 2) from rf_cl_n (hI.at2) (by omega))]
                try rw [(show (rf_w (rf_w (rf_w (rf_w (rf_w (rf_w α 2 1 (nI (1 + cn (μ 95) 2))) 5 (6 * cn (μ 95) 2) (nI a)) 4 (cn (μ 95) 2) (nI 1)) 5 (1 + 6 * cn (μ 95) 2) (nI b)) 6 (1 + 6 * cn (μ 95) 2) (nI g)) 4 (cn (μ 95) 2) (nI 2)) 4 (cn (μ 95) 2) = (nI 2) from by rw [rf_w_at, if_pos ⟨rfl, rfl⟩])]
                refine ok_reti eX4_lengthen_45 rfl ?_
                exact ⟨rfl, rfl⟩
              refine ok_V (As := [.int (μ 95 2), .int (nI b), .int (nI g)]) (b := 2) (st := []) mkX4_lengthen qX4_addLine_40 rfl (rc_2) rfl rfl rfl rfl (Nat.le_of_ble_eq_true rfl) (hc40) ?_
              refine ok_step (ps := []) (L' := [some (.ref 2), some (.int (nI a)), some (.int (nI b)), some (.int (nI g)), some (.int (μ 95 2))]) (st' := [.int (μ 95 2)]) (σ' := (rf_w (rf_w (rf_w (rf_w (rf_w (rf_w α 2 1 (nI (1 + cn (μ 95) 2))) 5 (6 * cn (μ 95) 2) (nI a)) 4 (cn (μ 95) 2) (nI 1)) 5 (1 + 6 * cn (μ 95) 2) (nI b)) 6 (1 + 6 * cn (μ 95) 2) (nI g)) 4 (cn (μ 95) 2) (nI 2), μ)) (pc' := 46) kX4_addLine_43 rfl rfl rf_a0 ?_
              refine ok_reti eX4_addLine_46 rfl ?_
              exact ⟨rfl, rfl⟩
            refine ok_V (As := [.int (nI a), .int (nI b), .int (nI g)]) (b := 2) (st := []) mkX4_addLine qX11_line_69 rfl (rc_2) rfl rfl rfl rfl (Nat.le_of_ble_eq_true rfl) (hc69) ?_
            refine ok_reti eX11_line_72 rfl ?_
            refine ⟨rfl, _, rfl, ?_⟩
            refine ok_step (ps := []) (L' := [some (.ref 94), some (.int (nI a)), some (.int (nI b)), some (.int (nI g)), none]) (st' := [.int (nI b), .int (nI a), .ref 94]) (σ' := (rf_w (rf_w (rf_w (rf_w (rf_w (rf_w α 2 1 (nI (1 + cn (μ 95) 2))) 5 (6 * cn (μ 95) 2) (nI a)) 4 (cn (μ 95) 2) (nI 1)) 5 (1 + 6 * cn (μ 95) 2) (nI b)) 6 (1 + 6 * cn (μ 95) 2) (nI g)) 4 (cn (μ 95) 2) (nI 2), μ)) (pc' := 3) kX12_line_0 rfl rfl rf_a0 ?_
            have hc3 : rf_At (rf_T Ln xs) MX12_areTwo 50 0 ([some (.ref 94), some (.int (nI a)), some (.int (nI b))], [], 108, (rf_w (rf_w (rf_w (rf_w (rf_w (rf_w α 2 1 (nI (1 + cn (μ 95) 2))) 5 (6 * cn (μ 95) 2) (nI a)) 4 (cn (μ 95) 2) (nI 1)) 5 (1 + 6 * cn (μ 95) 2) (nI b)) 6 (1 + 6 * cn (μ 95) 2) (nI g)) 4 (cn (μ 95) 2) (nI 2), μ)) (some (.int (nI 1))) 108 (rf_w (rf_w (rf_w (rf_w (rf_w (rf_w α 2 1 (nI (1 + cn (μ 95) 2))) 5 (6 * cn (μ 95) 2) (nI a)) 4 (cn (μ 95) 2) (nI 1)) 5 (1 + 6 * cn (μ 95) 2) (nI b)) 6 (1 + 6 * cn (μ 95) 2) (nI g)) 4 (cn (μ 95) 2) (nI 2), μ) := by
              refine rf_pa ?_
              refine ok_step (ps := []) (L' := [some (.ref 94), some (.int (nI a)), some (.int (nI b))]) (st' := [.int (nI a), .ref 94]) (σ' := (rf_w (rf_w (rf_w (rf_w (rf_w (rf_w α 2 1 (nI (1 + cn (μ 95) 2))) 5 (6 * cn (μ 95) 2) (nI a)) 4 (cn (μ 95) 2) (nI 1)) 5 (1 + 6 * cn (μ 95) 2) (nI b)) 6 (1 + 6 * cn (μ 95) 2) (nI g)) 4 (cn (μ 95) 2) (nI 2), μ)) (pc' := 2) kX12_areTwo_0 rfl rfl rf_a0 ?_
              refine ok_V (As := [.int (nI a)]) (b := 94) (st := []) mkX12_isStation qX12_areTwo_2 rfl (rc_94) rfl rfl rfl rfl (Nat.le_of_ble_eq_true rfl) (m_isStation) ?_
              refine ok_if_eq bX12_areTwo_5 (fun gi5 => absurd gi5 (h5)) (fun _ => ?_)
              refine ok_step (ps := []) (L' := [some (.ref 94), some (.int (nI a)), some (.int (nI b))]) (st' := [.int (nI b), .ref 94]) (σ' := (rf_w (rf_w (rf_w (rf_w (rf_w (rf_w α 2 1 (nI (1 + cn (μ 95) 2))) 5 (6 * cn (μ 95) 2) (nI a)) 4 (cn (μ 95) 2) (nI 1)) 5 (1 + 6 * cn (μ 95) 2) (nI b)) 6 (1 + 6 * cn (μ 95) 2) (nI g)) 4 (cn (μ 95) 2) (nI 2), μ)) (pc' := 10) kX12_areTwo_8 rfl rfl rf_a0 ?_
              refine ok_V (As := [.int (nI b)]) (b := 94) (st := []) mkX12_isStation qX12_areTwo_10 rfl (rc_94) rfl rfl rfl rfl (Nat.le_of_ble_eq_true rfl) (m_isStation) ?_
              refine ok_if_eq bX12_areTwo_13 (fun gi13 => absurd gi13 (h13)) (fun _ => ?_)
              refine ok_step (ps := []) (L' := [some (.ref 94), some (.int (nI a)), some (.int (nI b))]) (st' := [.int (nI b), .int (nI a)]) (σ' := (rf_w (rf_w (rf_w (rf_w (rf_w (rf_w α 2 1 (nI (1 + cn (μ 95) 2))) 5 (6 * cn (μ 95) 2) (nI a)) 4 (cn (μ 95) 2) (nI 1)) 5 (1 + 6 * cn (μ 95) 2) (nI b)) 6 (1 + 6 * cn (μ 95) 2) (nI g)) 4 (cn (μ 95) 2) (nI 2), μ)) (pc' := 18) kX12_areTwo_16 rfl rfl rf_a0 ?_
              refine ok_icmp_eq bX12_areTwo_18 (fun gi18 => absurd gi18 (h18)) (fun _ => ?_)
              refine ok_step (ps := []) (L' := [some (.ref 94), some (.int (nI a)), some (.int (nI b))]) (st' := [.int (nI 1)]) (σ' := (rf_w (rf_w (rf_w (rf_w (rf_w (rf_w α 2 1 (nI (1 + cn (μ 95) 2))) 5 (6 * cn (μ 95) 2) (nI a)) 4 (cn (μ 95) 2) (nI 1)) 5 (1 + 6 * cn (μ 95) 2) (nI b)) 6 (1 + 6 * cn (μ 95) 2) (nI g)) 4 (cn (μ 95) 2) (nI 2), μ)) (pc' := 22) kX12_areTwo_21 rfl rfl rf_a0 ?_
              refine ok_goto bX12_areTwo_22 ?_
              refine ok_retz eX12_areTwo_26 rfl (Or.inr rfl) ?_
              exact ⟨rfl, rfl⟩
            refine ok_V (As := [.int (nI a), .int (nI b)]) (b := 94) (st := []) mkX12_areTwo qX12_line_3 rfl (rc_94) rfl rfl rfl rfl (Nat.le_of_ble_eq_true rfl) (hc3) ?_
            refine ok_if_eq bX12_line_6 (fun g6 => absurd g6 ((by decide))) (fun _ => ?_)
            refine ok_step (ps := []) (L' := [some (.ref 94), some (.int (nI a)), some (.int (nI b)), some (.int (nI g)), none]) (st' := [.long (lN 30), .long (lN 1), .long ((nI g).toInt64)]) (σ' := (rf_w (rf_w (rf_w (rf_w (rf_w (rf_w α 2 1 (nI (1 + cn (μ 95) 2))) 5 (6 * cn (μ 95) 2) (nI a)) 4 (cn (μ 95) 2) (nI 1)) 5 (1 + 6 * cn (μ 95) 2) (nI b)) 6 (1 + 6 * cn (μ 95) 2) (nI g)) 4 (cn (μ 95) 2) (nI 2), μ)) (pc' := 15) kX12_line_9 rfl rfl rf_a0 ?_
            refine ok_S (As := [.long ((nI g).toInt64), .long (lN 1), .long (lN 30)]) (st := []) mkX12_in qX12_line_15 rfl rfl rfl rfl rfl (Nat.le_of_ble_eq_true rfl) (m_in) ?_
            rw [show wl ((nI g).toInt64) (lN 1) (lN 30) = wi (nI g) (nI 1) (nI 30) from wl_of rfl (nI_l (by decide)).symm (nI_l (by decide)).symm]
            refine ok_if_ne bX12_line_18 (fun _ => ?_) (fun g18 => absurd g18 (h28))
            refine ok_step (ps := [rf_in (nI 2) 700]) (L' := [some (.ref 94), some (.int (nI a)), some (.int (nI b)), some (.int (nI g)), none]) (st' := [.int (nI 4), .int (μ 95 ((nI 2).toNatClampNeg))]) (σ' := (rf_w (rf_w (rf_w (rf_w (rf_w (rf_w α 2 1 (nI (1 + cn (μ 95) 2))) 5 (6 * cn (μ 95) 2) (nI a)) 4 (cn (μ 95) 2) (nI 1)) 5 (1 + 6 * cn (μ 95) 2) (nI b)) 6 (1 + 6 * cn (μ 95) 2) (nI g)) 4 (cn (μ 95) 2) (nI 2), μ)) (pc' := 34) kX12_line_27 rfl rfl (rf_a1 (rf_in_n (a := 2) rfl (by omega)) rf_a0) ?_
            try rw [(show (nI 2).toNatClampNeg = 2 from rf_cl_n rfl (by omega))]
            refine ok_icmp_ne bX12_line_34 (fun _ => ?_) (fun g34 => absurd g34 ((lt_ne h49)))
            refine ok_step (ps := [rf_in (nI 2) 700, rf_in ((nI 90) + ((nI 13) * (μ 95 ((nI 2).toNatClampNeg)))) 700, rf_in (((nI 90) + ((nI 13) * (μ 95 ((nI 2).toNatClampNeg)))) + (nI 1)) 700, rf_in (((nI 90) + ((nI 13) * (μ 95 ((nI 2).toNatClampNeg)))) + (nI 2)) 700, rf_in (((nI 90) + ((nI 13) * (μ 95 ((nI 2).toNatClampNeg)))) + (nI 7)) 700, rf_in (nI 2) 700, rf_in (nI 2) 700, rf_in (nI 2) 700]) (L' := [some (.ref 94), some (.int (nI a)), some (.int (nI b)), some (.int (nI g)), some (.int ((nI 90) + ((nI 13) * (μ 95 ((nI 2).toNatClampNeg)))))]) (st' := [.int (((rf_w (rf_w (rf_w (rf_w (rf_w μ 95 (((nI 90) + ((nI 13) * (μ 95 ((nI 2).toNatClampNeg)))).toNatClampNeg) (nI 2)) 95 ((((nI 90) + ((nI 13) * (μ 95 ((nI 2).toNatClampNeg)))) + (nI 1)).toNatClampNeg) (nI a)) 95 ((((nI 90) + ((nI 13) * (μ 95 ((nI 2).toNatClampNeg)))) + (nI 2)).toNatClampNeg) (nI b)) 95 ((((nI 90) + ((nI 13) * (μ 95 ((nI 2).toNatClampNeg)))) + (nI 7)).toNatClampNeg) (nI g)) 95 ((nI 2).toNatClampNeg) (((rf_w (rf_w (rf_w (rf_w μ 95 (((nI 90) + ((nI 13) * (μ 95 ((nI 2).toNatClampNeg)))).toNatClampNeg) (nI 2)) 95 ((((nI 90) + ((nI 13) * (μ 95 ((nI 2).toNatClampNeg)))) + (nI 1)).toNatClampNeg) (nI a)) 95 ((((nI 90) + ((nI 13) * (μ 95 ((nI 2).toNatClampNeg)))) + (nI 2)).toNatClampNeg) (nI b)) 95 ((((nI 90) + ((nI 13) * (μ 95 ((nI 2).toNatClampNeg)))) + (nI 7)).toNatClampNeg) (nI g)) 95 ((nI 2).toNatClampNeg)) + (nI 1))) 95 ((nI 2).toNatClampNeg)) - (nI 1))]) (σ' := (rf_w (rf_w (rf_w (rf_w (rf_w (rf_w α 2 1 (nI (1 + cn (μ 95) 2))) 5 (6 * cn (μ 95) 2) (nI a)) 4 (cn (μ 95) 2) (nI 1)) 5 (1 + 6 * cn (μ 95) 2) (nI b)) 6 (1 + 6 * cn (μ 95) 2) (nI g)) 4 (cn (μ 95) 2) (nI 2), rf_w (rf_w (rf_w (rf_w (rf_w μ 95 (((nI 90) + ((nI 13) * (μ 95 ((nI 2).toNatClampNeg)))).toNatClampNeg) (nI 2)) 95 ((((nI 90) + ((nI 13) * (μ 95 ((nI 2).toNatClampNeg)))) + (nI 1)).toNatClampNeg) (nI a)) 95 ((((nI 90) + ((nI 13) * (μ 95 ((nI 2).toNatClampNeg)))) + (nI 2)).toNatClampNeg) (nI b)) 95 ((((nI 90) + ((nI 13) * (μ 95 ((nI 2).toNatClampNeg)))) + (nI 7)).toNatClampNeg) (nI g)) 95 ((nI 2).toNatClampNeg) (((rf_w (rf_w (rf_w (rf_w μ 95 (((nI 90) + ((nI 13) * (μ 95 ((nI 2).toNatClampNeg)))).toNatClampNeg) (nI 2)) 95 ((((nI 90) + ((nI 13) * (μ 95 ((nI 2).toNatClampNeg)))) + (nI 1)).toNatClampNeg) (nI a)) 95 ((((nI 90) + ((nI 13) * (μ 95 ((nI 2).toNatClampNeg)))) + (nI 2)).toNatClampNeg) (nI b)) 95 ((((nI 90) + ((nI 13) * (μ 95 ((nI 2).toNatClampNeg)))) + (nI 7)).toNatClampNeg) (nI g)) 95 ((nI 2).toNatClampNeg)) + (nI 1)))) (pc' := 114) kX12_line_43 rfl rfl (rf_a1 (rf_in_n (a := 2) rfl (by omega)) (rf_a1 (rf_in_n (a := (90 + 13 * cn (μ 95) 2)) (by (try rw [(show (nI 2).toNatClampNeg = 2 from rf_cl_n rfl (by omega))]); (try rw [(show ((nI 13) * (μ 95 2)) = nI (13 * cn (μ 95) 2) from rf_eq (rf_nmul (x := nI 13) (y := μ 95 2) rfl (hI.at2)) (by omega))]); (try rw [(show ((nI 90) + (nI (13 * cn (μ 95) 2))) = nI (90 + 13 * cn (μ 95) 2) from rf_eq (rf_nadd (x := nI 90) (y := nI (13 * cn (μ 95) 2)) rfl rfl) (by omega))]); all_goals exact rfl) (by omega)) (rf_a1 (rf_in_n (a := (91 + 13 * cn (μ 95) 2)) (by (try rw [(show (nI 2).toNatClampNeg = 2 from rf_cl_n rfl (by omega))]); (try rw [(show ((nI 13) * (μ 95 2)) = nI (13 * cn (μ 95) 2) from rf_eq (rf_nmul (x := nI 13) (y := μ 95 2) rfl (hI.at2)) (by omega))]); (try rw [(show ((nI 90) + (nI (13 * cn (μ 95) 2))) = nI (90 + 13 * cn (μ 95) 2) from rf_eq (rf_nadd (x := nI 90) (y := nI (13 * cn (μ 95) 2)) rfl rfl) (by omega))]); (try rw [(show (nI (90 + 13 * cn (μ 95) 2)).toNatClampNeg = (90 + 13 * cn (μ 95) 2) from rf_cl_n rfl (by omega))]); (try rw [(show ((nI (90 + 13 * cn (μ 95) 2)) + (nI 1)) = nI (91 + 13 * cn (μ 95) 2) from rf_eq (rf_nadd (x := nI (90 + 13 * cn (μ 95) 2)) (y := nI 1) rfl rfl) (by omega))]); all_goals exact rfl) (by omega)) (rf_a1 (rf_in_n (a := (92 + 13 * cn (μ 95) 2)) (by (try rw [(show (nI 2).toNatClampNeg = 2 from rf_cl_n rfl (by omega))]); (try rw [(show ((nI 13) * (μ 95 2)) = nI (13 * cn (μ 95) 2) from rf_eq (rf_nmul (x := nI 13) (y := μ 95 2) rfl (hI.at2)) (by omega))]); (try rw [(show ((nI 90) + (nI (13 * cn (μ 95) 2))) = nI (90 + 13 * cn (μ 95) 2) from rf_eq (rf_nadd (x := nI 90) (y := nI (13 * cn (μ 95) 2)) rfl rfl) (by omega))]); (try rw [(show (nI (90 + 13 * cn (μ 95) 2)).toNatClampNeg = (90 + 13 * cn (μ 95) 2) from rf_cl_n rfl (by omega))]); (try rw [(show ((nI (90 + 13 * cn (μ 95) 2)) + (nI 1)) = nI (91 + 13 * cn (μ 95) 2) from rf_eq (rf_nadd (x := nI (90 + 13 * cn (μ 95) 2)) (y := nI 1) rfl rfl) (by omega))]); (try rw [(show (nI (91 + 13 * cn (μ 95) 2)).toNatClampNeg = (91 + 13 * cn (μ 95) 2) from rf_cl_n rfl (by omega))]); (try rw [(show ((nI (90 + 13 * cn (μ 95) 2)) + (nI 2)) = nI (92 + 13 * cn (μ 95) 2) from rf_eq (rf_nadd (x := nI (90 + 13 * cn (μ 95) 2)) (y := nI 2) rfl rfl) (by omega))]); all_goals exact rfl) (by omega)) (rf_a1 (rf_in_n (a := (97 + 13 * cn (μ 95) 2)) (by (try rw [(show (nI 2).toNatClampNeg = 2 from rf_cl_n rfl (by omega))]); (try rw [(show ((nI 13) * (μ 95 2)) = nI (13 * cn (μ 95) 2) from rf_eq (rf_nmul (x := nI 13) (y := μ 95 2) rfl (hI.at2)) (by omega))]); (try rw [(show ((nI 90) + (nI (13 * cn (μ 95) 2))) = nI (90 + 13 * cn (μ 95) 2) from rf_eq (rf_nadd (x := nI 90) (y := nI (13 * cn (μ 95) 2)) rfl rfl) (by omega))]); (try rw [(show (nI (90 + 13 * cn (μ 95) 2)).toNatClampNeg = (90 + 13 * cn (μ 95) 2) from rf_cl_n rfl (by omega))]); (try rw [(show ((nI (90 + 13 * cn (μ 95) 2)) + (nI 1)) = nI (91 + 13 * cn (μ 95) 2) from rf_eq (rf_nadd (x := nI (90 + 13 * cn (μ 95) 2)) (y := nI 1) rfl rfl) (by omega))]); (try rw [(show (nI (91 + 13 * cn (μ 95) 2)).toNatClampNeg = (91 + 13 * cn (μ 95) 2) from rf_cl_n rfl (by omega))]); (try rw [(show ((nI (90 + 13 * cn (μ 95) 2)) + (nI 2)) = nI (92 + 13 * cn (μ 95) 2) from rf_eq (rf_nadd (x := nI (90 + 13 * cn (μ 95) 2)) (y := nI 2) rfl rfl) (by omega))]); (try rw [(show (nI (92 + 13 * cn (μ 95) 2)).toNatClampNeg = (92 + 13 * cn (μ 95) 2) from rf_cl_n rfl (by omega))]); (try rw [(show ((nI (90 + 13 * cn (μ 95) 2)) + (nI 7)) = nI (97 + 13 * cn (μ 95) 2) from rf_eq (rf_nadd (x := nI (90 + 13 * cn (μ 95) 2)) (y := nI 7) rfl rfl) (by omega))]); all_goals exact rfl) (by omega)) (rf_a1 (rf_in_n (a := 2) rfl (by omega)) (rf_a1 (rf_in_n (a := 2) rfl (by omega)) (rf_a1 (rf_in_n (a := 2) rfl (by omega)) rf_a0)))))))) ?_
            try rw [(show (nI 2).toNatClampNeg = 2 from rf_cl_n rfl (by omega))]
            try rw [(show ((nI 13) * (μ 95 2)) = nI (13 * cn (μ 95) 2) from rf_eq (rf_nmul (x := nI 13) (y := μ 95 2) rfl (hI.at2)) (by omega))]
            try rw [(show ((nI 90) + (nI (13 * cn (μ 95) 2))) = nI (90 + 13 * cn (μ 95) 2) from rf_eq (rf_nadd (x := nI 90) (y := nI (13 * cn (μ 95) 2)) rfl rfl) (by omega))]
            try rw [(show (nI (90 + 13 * cn (μ 95) 2)).toNatClampNeg = (90 + 13 * cn (μ 95) 2) from rf_cl_n rfl (by omega))]
            try rw [(show ((nI (90 + 13 * cn (μ 95) 2)) + (nI 1)) = nI (91 + 13 * cn (μ 95) 2) from rf_eq (rf_nadd (x := nI (90 + 13 * cn (μ 95) 2)) (y := nI 1) rfl rfl) (by omega))]
            try rw [(show (nI (91 + 13 * cn (μ 95) 2)).toNatClampNeg = (91 + 13 * cn (μ 95) 2) from rf_cl_n rfl (by omega))]
            try rw [(show ((nI (90 + 13 * cn (μ 95) 2)) + (nI 2)) = nI (92 + 13 * cn (μ 95) 2) from rf_eq (rf_nadd (x := nI (90 + 13 * cn (μ 95) 2)) (y := nI 2) rfl rfl) (by omega))]
            try rw [(show (nI (92 + 13 * cn (μ 95) 2)).toNatClampNeg = (92 + 13 * cn (μ 95) 2) from rf_cl_n rfl (by omega))]
            try rw [(show ((nI (90 + 13 * cn (μ 95) 2)) + (nI 7)) = nI (97 + 13 * cn (μ 95) 2) from rf_eq (rf_nadd (x := nI (90 + 13 * cn (μ 95) 2)) (y := nI 7) rfl rfl) (by omega))]
            try rw [(show (nI (97 + 13 * cn (μ 95) 2)).toNatClampNeg = (97 + 13 * cn (μ 95) 2) from rf_cl_n rfl (by omega))]
            try rw [(show (nI 2).toNatClampNeg = 2 from rf_cl_n rfl (by omega))]
            try rw [(show (rf_w (rf_w (rf_w (rf_w μ 95 (90 + 13 * cn (μ 95) 2) (nI 2)) 95 (91 + 13 * cn (μ 95) 2) (nI a)) 95 (92 + 13 * cn (μ 95) 2) (nI b)) 95 (97 + 13 * cn (μ 95) 2) (nI g)) 95 2 = (rf_w (rf_w (rf_w μ 95 (90 + 13 * cn (μ 95) 2) (nI 2)) 95 (91 + 13 * cn (μ 95) 2) (nI a)) 95 (92 + 13 * cn (μ 95) 2) (nI b)) 95 2 from by rw [rf_w_at, if_neg (fun h => absurd h.2 (by omega))])]
            try rw [(show (rf_w (rf_w (rf_w μ 95 (90 + 13 * cn (μ 95) 2) (nI 2)) 95 (91 + 13 * cn (μ 95) 2) (nI a)) 95 (92 + 13 * cn (μ 95) 2) (nI b)) 95 2 = (rf_w (rf_w μ 95 (90 + 13 * cn (μ 95) 2) (nI 2)) 95 (91 + 13 * cn (μ 95) 2) (nI a)) 95 2 from by rw [rf_w_at, if_neg (fun h => absurd h.2 (by omega))])]
            try rw [(show (rf_w (rf_w μ 95 (90 + 13 * cn (μ 95) 2) (nI 2)) 95 (91 + 13 * cn (μ 95) 2) (nI a)) 95 2 = (rf_w μ 95 (90 + 13 * cn (μ 95) 2) (nI 2)) 95 2 from by rw [rf_w_at, if_neg (fun h => absurd h.2 (by omega))])]
            try rw [(show (rf_w μ 95 (90 + 13 * cn (μ 95) 2) (nI 2)) 95 2 = μ 95 2 from by rw [rf_w_at, if_neg (fun h => absurd h.2 (by omega))])]
            try rw [(show ((μ 95 2) + (nI 1)) = nI (1 + cn (μ 95) 2) from rf_eq (rf_nadd (x := μ 95 2) (y := nI 1) (hI.at2) rfl) (by omega))]
            try rw [(show (nI 2).toNatClampNeg = 2 from rf_cl_n rfl (by omega))]
            try rw [(show (rf_w (rf_w (rf_w (rf_w (rf_w μ 95 (90 + 13 * cn (μ 95) 2) (nI 2)) 95 (91 + 13 * cn (μ 95) 2) (nI a)) 95 (92 + 13 * cn (μ 95) 2) (nI b)) 95 (97 + 13 * cn (μ 95) 2) (nI g)) 95 2 (nI (1 + cn (μ 95) 2))) 95 2 = (nI (1 + cn (μ 95) 2)) from by rw [rf_w_at, if_pos ⟨rfl, rfl⟩])]
            refine ok_reti eX12_line_114 rfl ?_
            refine ⟨inc_back hI.at2, _, rfl, J0.mc ((((((hJ.1.put (c := 1) (i := 1) (j := 2) rfl _).put (c := 4) (i := (6 * cn (μ 95) 2)) (j := (91 + 13 * cn (μ 95) 2)) (off_4 (l := (cn (μ 95) 2)) (k := 0) (by omega) (by omega) (by omega) (by omega)) _).put (c := 3) (i := (cn (μ 95) 2)) (j := (90 + 13 * cn (μ 95) 2)) (off_3 (by omega) (by omega)) _).put (c := 4) (i := (1 + 6 * cn (μ 95) 2)) (j := (92 + 13 * cn (μ 95) 2)) (off_4 (l := (cn (μ 95) 2)) (k := 1) (by omega) (by omega) (by omega) (by omega)) _).put (c := 5) (i := (1 + 6 * cn (μ 95) 2)) (j := (97 + 13 * cn (μ 95) 2)) (off_5 (l := (cn (μ 95) 2)) (k := 1) (by omega) (by omega) (by omega) (by omega)) _).put (c := 3) (i := (cn (μ 95) 2)) (j := (90 + 13 * cn (μ 95) 2)) (off_3 (by omega) (by omega)) _) (fun i => ?_) (fun k hk => ?_), ?_⟩
            · simp only [rf_w_at, true_and, reduceIte]
              try (repeat' split)
              all_goals first | rfl | omega | (exfalso; omega)
            · simp only [rf_w_row hk]
            · try simp only [rf_w_self]
              refine ((((hI.put90 (l := (cn (μ 95) 2)) (m := 2) (by omega) (by omega) (by omega)).put (fun bb hb => ⟨a, by rw [bd_row (l := (cn (μ 95) 2)) (i := 91 - 91) (by omega) (by omega) (by omega)] at hb; cases hb; omega, rfl⟩) (by unfold nst; omega)).put (fun bb hb => ⟨b, by rw [bd_row (l := (cn (μ 95) 2)) (i := 92 - 91) (by omega) (by omega) (by omega)] at hb; cases hb; omega, rfl⟩) (by unfold nst; omega)).put (fun bb hb => ⟨g, by rw [bd_leg (l := (cn (μ 95) 2)) (i := 97 - 97) (by omega) (by omega) (by omega)] at hb; cases hb; omega, rfl⟩) (by unfold nst; omega)).inc2 (n := cn (μ 95) 2) (by (repeat rw [cn_upd (by omega)])) (by omega) ?_
              (repeat rw [cn_upd (by omega)])
              rw [cn_self, nI_clamp (by omega)]
              omega
          · refine ok_step (ps := []) (L' := [some (.ref 0), some (.int (nI a)), some (.int (nI b)), some (.int (nI g))]) (st' := [.int (-1000000004), .ref 0]) (σ' := (α, μ)) (pc' := 55) kX11_line_52 rfl rfl rf_a0 ?_
            refine ok_V (As := [.int (-1000000004)]) (b := 0) (st := []) mkX11_error qX11_line_55 rfl (rc_0) rfl rfl rfl rfl (Nat.le_of_ble_eq_true rfl) (c_error (k := 4) (by decide) (by decide) (by decide)) ?_
            refine ok_reti eX11_line_58 rfl ?_
            refine ⟨rfl, _, rfl, ?_⟩
            refine ok_step (ps := []) (L' := [some (.ref 94), some (.int (nI a)), some (.int (nI b)), some (.int (nI g)), none]) (st' := [.int (nI b), .int (nI a), .ref 94]) (σ' := (rf_w α 93 4 (α 93 4 + nI 1), μ)) (pc' := 3) kX12_line_0 rfl rfl rf_a0 ?_
            have hc3 : rf_At (rf_T Ln xs) MX12_areTwo 50 0 ([some (.ref 94), some (.int (nI a)), some (.int (nI b))], [], 108, (rf_w α 93 4 (α 93 4 + nI 1), μ)) (some (.int (nI 1))) 108 (rf_w α 93 4 (α 93 4 + nI 1), μ) := by
              refine rf_pa ?_
              refine ok_step (ps := []) (L' := [some (.ref 94), some (.int (nI a)), some (.int (nI b))]) (st' := [.int (nI a), .ref 94]) (σ' := (rf_w α 93 4 (α 93 4 + nI 1), μ)) (pc' := 2) kX12_areTwo_0 rfl rfl rf_a0 ?_
              refine ok_V (As := [.int (nI a)]) (b := 94) (st := []) mkX12_isStation qX12_areTwo_2 rfl (rc_94) rfl rfl rfl rfl (Nat.le_of_ble_eq_true rfl) (m_isStation) ?_
              refine ok_if_eq bX12_areTwo_5 (fun gi5 => absurd gi5 (h5)) (fun _ => ?_)
              refine ok_step (ps := []) (L' := [some (.ref 94), some (.int (nI a)), some (.int (nI b))]) (st' := [.int (nI b), .ref 94]) (σ' := (rf_w α 93 4 (α 93 4 + nI 1), μ)) (pc' := 10) kX12_areTwo_8 rfl rfl rf_a0 ?_
              refine ok_V (As := [.int (nI b)]) (b := 94) (st := []) mkX12_isStation qX12_areTwo_10 rfl (rc_94) rfl rfl rfl rfl (Nat.le_of_ble_eq_true rfl) (m_isStation) ?_
              refine ok_if_eq bX12_areTwo_13 (fun gi13 => absurd gi13 (h13)) (fun _ => ?_)
              refine ok_step (ps := []) (L' := [some (.ref 94), some (.int (nI a)), some (.int (nI b))]) (st' := [.int (nI b), .int (nI a)]) (σ' := (rf_w α 93 4 (α 93 4 + nI 1), μ)) (pc' := 18) kX12_areTwo_16 rfl rfl rf_a0 ?_
              refine ok_icmp_eq bX12_areTwo_18 (fun gi18 => absurd gi18 (h18)) (fun _ => ?_)
              refine ok_step (ps := []) (L' := [some (.ref 94), some (.int (nI a)), some (.int (nI b))]) (st' := [.int (nI 1)]) (σ' := (rf_w α 93 4 (α 93 4 + nI 1), μ)) (pc' := 22) kX12_areTwo_21 rfl rfl rf_a0 ?_
              refine ok_goto bX12_areTwo_22 ?_
              refine ok_retz eX12_areTwo_26 rfl (Or.inr rfl) ?_
              exact ⟨rfl, rfl⟩
            refine ok_V (As := [.int (nI a), .int (nI b)]) (b := 94) (st := []) mkX12_areTwo qX12_line_3 rfl (rc_94) rfl rfl rfl rfl (Nat.le_of_ble_eq_true rfl) (hc3) ?_
            refine ok_if_eq bX12_line_6 (fun g6 => absurd g6 ((by decide))) (fun _ => ?_)
            refine ok_step (ps := []) (L' := [some (.ref 94), some (.int (nI a)), some (.int (nI b)), some (.int (nI g)), none]) (st' := [.long (lN 30), .long (lN 1), .long ((nI g).toInt64)]) (σ' := (rf_w α 93 4 (α 93 4 + nI 1), μ)) (pc' := 15) kX12_line_9 rfl rfl rf_a0 ?_
            refine ok_S (As := [.long ((nI g).toInt64), .long (lN 1), .long (lN 30)]) (st := []) mkX12_in qX12_line_15 rfl rfl rfl rfl rfl (Nat.le_of_ble_eq_true rfl) (m_in) ?_
            rw [show wl ((nI g).toInt64) (lN 1) (lN 30) = wi (nI g) (nI 1) (nI 30) from wl_of rfl (nI_l (by decide)).symm (nI_l (by decide)).symm]
            refine ok_if_ne bX12_line_18 (fun _ => ?_) (fun g18 => absurd g18 (h28))
            refine ok_step (ps := [rf_in (nI 2) 700]) (L' := [some (.ref 94), some (.int (nI a)), some (.int (nI b)), some (.int (nI g)), none]) (st' := [.int (nI 4), .int (μ 95 ((nI 2).toNatClampNeg))]) (σ' := (rf_w α 93 4 (α 93 4 + nI 1), μ)) (pc' := 34) kX12_line_27 rfl rfl (rf_a1 (rf_in_n (a := 2) rfl (by omega)) rf_a0) ?_
            try rw [(show (nI 2).toNatClampNeg = 2 from rf_cl_n rfl (by omega))]
            refine ok_icmp_ne bX12_line_34 (fun g34 => absurd ((full_eq (hI.at2) (by omega) h49)) g34) (fun _ => ?_)
            refine ok_step (ps := []) (L' := [some (.ref 94), some (.int (nI a)), some (.int (nI b)), some (.int (nI g)), none]) (st' := [.int (nI 4), .ref 94]) (σ' := (rf_w α 93 4 (α 93 4 + nI 1), μ)) (pc' := 39) kX12_line_37 rfl rfl rf_a0 ?_
            refine ok_V (As := [.int (nI 4)]) (b := 94) (st := []) mkX12_finds qX12_line_39 rfl (rc_94) rfl rfl rfl rfl (Nat.le_of_ble_eq_true rfl) (m_finds (k := 4) (by decide)) ?_
            refine ok_reti eX12_line_42 rfl ?_
            exact ⟨rfl, _, rfl, hJ.err (k := 4) (by decide)⟩
        · refine ok_step (ps := []) (L' := [some (.ref 0), some (.int (nI a)), some (.int (nI b)), some (.int leg)]) (st' := [.int (-1000000001), .ref 0]) (σ' := (α, μ)) (pc' := 34) kX11_line_31 rfl rfl rf_a0 ?_
          refine ok_V (As := [.int (-1000000001)]) (b := 0) (st := []) mkX11_error qX11_line_34 rfl (rc_0) rfl rfl rfl rfl (Nat.le_of_ble_eq_true rfl) (c_error (k := 1) (by decide) (by decide) (by decide)) ?_
          refine ok_reti eX11_line_37 rfl ?_
          refine ⟨rfl, _, rfl, ?_⟩
          refine ok_step (ps := []) (L' := [some (.ref 94), some (.int (nI a)), some (.int (nI b)), some (.int leg), none]) (st' := [.int (nI b), .int (nI a), .ref 94]) (σ' := (rf_w α 93 1 (α 93 1 + nI 1), μ)) (pc' := 3) kX12_line_0 rfl rfl rf_a0 ?_
          have hc3 : rf_At (rf_T Ln xs) MX12_areTwo 50 0 ([some (.ref 94), some (.int (nI a)), some (.int (nI b))], [], 108, (rf_w α 93 1 (α 93 1 + nI 1), μ)) (some (.int (nI 1))) 108 (rf_w α 93 1 (α 93 1 + nI 1), μ) := by
            refine rf_pa ?_
            refine ok_step (ps := []) (L' := [some (.ref 94), some (.int (nI a)), some (.int (nI b))]) (st' := [.int (nI a), .ref 94]) (σ' := (rf_w α 93 1 (α 93 1 + nI 1), μ)) (pc' := 2) kX12_areTwo_0 rfl rfl rf_a0 ?_
            refine ok_V (As := [.int (nI a)]) (b := 94) (st := []) mkX12_isStation qX12_areTwo_2 rfl (rc_94) rfl rfl rfl rfl (Nat.le_of_ble_eq_true rfl) (m_isStation) ?_
            refine ok_if_eq bX12_areTwo_5 (fun gi5 => absurd gi5 (h5)) (fun _ => ?_)
            refine ok_step (ps := []) (L' := [some (.ref 94), some (.int (nI a)), some (.int (nI b))]) (st' := [.int (nI b), .ref 94]) (σ' := (rf_w α 93 1 (α 93 1 + nI 1), μ)) (pc' := 10) kX12_areTwo_8 rfl rfl rf_a0 ?_
            refine ok_V (As := [.int (nI b)]) (b := 94) (st := []) mkX12_isStation qX12_areTwo_10 rfl (rc_94) rfl rfl rfl rfl (Nat.le_of_ble_eq_true rfl) (m_isStation) ?_
            refine ok_if_eq bX12_areTwo_13 (fun gi13 => absurd gi13 (h13)) (fun _ => ?_)
            refine ok_step (ps := []) (L' := [some (.ref 94), some (.int (nI a)), some (.int (nI b))]) (st' := [.int (nI b), .int (nI a)]) (σ' := (rf_w α 93 1 (α 93 1 + nI 1), μ)) (pc' := 18) kX12_areTwo_16 rfl rfl rf_a0 ?_
            refine ok_icmp_eq bX12_areTwo_18 (fun gi18 => absurd gi18 (h18)) (fun _ => ?_)
            refine ok_step (ps := []) (L' := [some (.ref 94), some (.int (nI a)), some (.int (nI b))]) (st' := [.int (nI 1)]) (σ' := (rf_w α 93 1 (α 93 1 + nI 1), μ)) (pc' := 22) kX12_areTwo_21 rfl rfl rf_a0 ?_
            refine ok_goto bX12_areTwo_22 ?_
            refine ok_retz eX12_areTwo_26 rfl (Or.inr rfl) ?_
            exact ⟨rfl, rfl⟩
          refine ok_V (As := [.int (nI a), .int (nI b)]) (b := 94) (st := []) mkX12_areTwo qX12_line_3 rfl (rc_94) rfl rfl rfl rfl (Nat.le_of_ble_eq_true rfl) (hc3) ?_
          refine ok_if_eq bX12_line_6 (fun g6 => absurd g6 ((by decide))) (fun _ => ?_)
          refine ok_step (ps := []) (L' := [some (.ref 94), some (.int (nI a)), some (.int (nI b)), some (.int leg), none]) (st' := [.long (lN 30), .long (lN 1), .long leg.toInt64]) (σ' := (rf_w α 93 1 (α 93 1 + nI 1), μ)) (pc' := 15) kX12_line_9 rfl rfl rf_a0 ?_
          refine ok_S (As := [.long leg.toInt64, .long (lN 1), .long (lN 30)]) (st := []) mkX12_in qX12_line_15 rfl rfl rfl rfl rfl (Nat.le_of_ble_eq_true rfl) (m_in) ?_
          rw [show wl leg.toInt64 (lN 1) (lN 30) = wi leg (nI 1) (nI 30) from wl_of rfl (nI_l (by decide)).symm (nI_l (by decide)).symm]
          refine ok_if_ne bX12_line_18 (fun g18 => absurd (h28) g18) (fun _ => ?_)
          refine ok_step (ps := []) (L' := [some (.ref 94), some (.int (nI a)), some (.int (nI b)), some (.int leg), none]) (st' := [.int (nI 1), .ref 94]) (σ' := (rf_w α 93 1 (α 93 1 + nI 1), μ)) (pc' := 23) kX12_line_21 rfl rfl rf_a0 ?_
          refine ok_V (As := [.int (nI 1)]) (b := 94) (st := []) mkX12_finds qX12_line_23 rfl (rc_94) rfl rfl rfl rfl (Nat.le_of_ble_eq_true rfl) (m_finds (k := 1) (by decide)) ?_
          refine ok_reti eX12_line_26 rfl ?_
          exact ⟨rfl, _, rfl, hJ.err (k := 1) (by decide)⟩
theorem op_train {line : Int32} {start : Int32} {back : Int32} (hJ : J α μ)  : Op (rf_T Ln xs) MX11_train MX12_train [some (.ref 0), some (.int line), some (.int start), some (.int back)] [some (.ref 94), some (.int line), some (.int start), some (.int back), none] α μ := by
  have hR := hJ.1.1.1
  have hI := hJ.2
  have b0 := hI.le0
  have b1 := hI.le1
  have b2 := hI.le2
  have b3 := hI.le3
  have b4 := hI.le4
  have b5 := hI.le5
  have b6 := hI.le6
  have b8 := hI.le8
  have b9 := hI.le9
  have b11 := hI.le11
  have b12 := hI.le12
  refine ok_step (ps := []) (L' := [some (.ref 0), some (.int line), some (.int start), some (.int back)]) (st' := [.int line, .ref 0]) (σ' := (α, μ)) (pc' := 2) kX11_train_0 rfl rfl rf_a0 ?_
  refine ok_V (As := [.int line]) (b := 0) (st := []) mkX11_isLine qX11_train_2 rfl (rc_0) rfl rfl rfl rfl (Nat.le_of_ble_eq_true rfl) (c_isLine hR) ?_
  refine ok_if_eq bX11_train_5 (fun h5 => ?_) (fun h5 => ?_)
  · refine ok_step (ps := []) (L' := [some (.ref 0), some (.int line), some (.int start), some (.int back)]) (st' := [.int (-1000000001), .ref 0]) (σ' := (α, μ)) (pc' := 31) kX11_train_28 rfl rfl rf_a0 ?_
    refine ok_V (As := [.int (-1000000001)]) (b := 0) (st := []) mkX11_error qX11_train_31 rfl (rc_0) rfl rfl rfl rfl (Nat.le_of_ble_eq_true rfl) (c_error (k := 1) (by decide) (by decide) (by decide)) ?_
    refine ok_reti eX11_train_34 rfl ?_
    refine ⟨rfl, _, rfl, ?_⟩
    refine ok_step (ps := []) (L' := [some (.ref 94), some (.int line), some (.int start), some (.int back), none]) (st' := [.int line, .ref 94]) (σ' := (rf_w α 93 1 (α 93 1 + nI 1), μ)) (pc' := 2) kX12_train_0 rfl rfl rf_a0 ?_
    refine ok_V (As := [.int line]) (b := 94) (st := []) mkX12_isLine qX12_train_2 rfl (rc_94) rfl rfl rfl rfl (Nat.le_of_ble_eq_true rfl) (m_isLine) ?_
    refine ok_if_eq bX12_train_5 (fun _ => ?_) (fun g5 => absurd (h5) g5)
    refine ok_step (ps := []) (L' := [some (.ref 94), some (.int line), some (.int start), some (.int back), none]) (st' := [.int (nI 1), .ref 94]) (σ' := (rf_w α 93 1 (α 93 1 + nI 1), μ)) (pc' := 32) kX12_train_30 rfl rfl rf_a0 ?_
    refine ok_V (As := [.int (nI 1)]) (b := 94) (st := []) mkX12_finds qX12_train_32 rfl (rc_94) rfl rfl rfl rfl (Nat.le_of_ble_eq_true rfl) (m_finds (k := 1) (by decide)) ?_
    refine ok_reti eX12_train_35 rfl ?_
    exact ⟨rfl, _, rfl, hJ.err (k := 1) (by decide)⟩
  · obtain ⟨l, hl, rfl⟩ := wi_lt (bI_n0.mp h5) hI.at2 (by omega)
    refine ok_step (ps := []) (L' := [some (.ref 0), some (.int (nI l)), some (.int start), some (.int back)]) (st' := [.int (nI 1199), .int (nI 0), .int start]) (σ' := (α, μ)) (pc' := 13) kX11_train_8 rfl rfl rf_a0 ?_
    refine ok_S (As := [.int start, .int (nI 0), .int (nI 1199)]) (st := []) mkX11_within qX11_train_13 rfl rfl rfl rfl rfl (Nat.le_of_ble_eq_true rfl) (c_within) ?_
    refine ok_if_eq bX11_train_16 (fun h16 => ?_) (fun h16 => ?_)
    · refine ok_step (ps := []) (L' := [some (.ref 0), some (.int (nI l)), some (.int start), some (.int back)]) (st' := [.int (-1000000001), .ref 0]) (σ' := (α, μ)) (pc' := 31) kX11_train_28 rfl rfl rf_a0 ?_
      refine ok_V (As := [.int (-1000000001)]) (b := 0) (st := []) mkX11_error qX11_train_31 rfl (rc_0) rfl rfl rfl rfl (Nat.le_of_ble_eq_true rfl) (c_error (k := 1) (by decide) (by decide) (by decide)) ?_
      refine ok_reti eX11_train_34 rfl ?_
      refine ⟨rfl, _, rfl, ?_⟩
      refine ok_step (ps := []) (L' := [some (.ref 94), some (.int (nI l)), some (.int start), some (.int back), none]) (st' := [.int (nI l), .ref 94]) (σ' := (rf_w α 93 1 (α 93 1 + nI 1), μ)) (pc' := 2) kX12_train_0 rfl rfl rf_a0 ?_
      refine ok_V (As := [.int (nI l)]) (b := 94) (st := []) mkX12_isLine qX12_train_2 rfl (rc_94) rfl rfl rfl rfl (Nat.le_of_ble_eq_true rfl) (m_isLine) ?_
      refine ok_if_eq bX12_train_5 (fun g5 => absurd g5 (h5)) (fun _ => ?_)
      refine ok_step (ps := []) (L' := [some (.ref 94), some (.int (nI l)), some (.int start), some (.int back), none]) (st' := [.long (lN 1199), .long (lN 0), .long start.toInt64]) (σ' := (rf_w α 93 1 (α 93 1 + nI 1), μ)) (pc' := 14) kX12_train_8 rfl rfl rf_a0 ?_
      refine ok_S (As := [.long start.toInt64, .long (lN 0), .long (lN 1199)]) (st := []) mkX12_in qX12_train_14 rfl rfl rfl rfl rfl (Nat.le_of_ble_eq_true rfl) (m_in) ?_
      rw [show wl start.toInt64 (lN 0) (lN 1199) = wi start (nI 0) (nI 1199) from wl_of rfl (nI_l (by decide)).symm (nI_l (by decide)).symm]
      refine ok_if_eq bX12_train_17 (fun _ => ?_) (fun g17 => absurd (h16) g17)
      refine ok_step (ps := []) (L' := [some (.ref 94), some (.int (nI l)), some (.int start), some (.int back), none]) (st' := [.int (nI 1), .ref 94]) (σ' := (rf_w α 93 1 (α 93 1 + nI 1), μ)) (pc' := 32) kX12_train_30 rfl rfl rf_a0 ?_
      refine ok_V (As := [.int (nI 1)]) (b := 94) (st := []) mkX12_finds qX12_train_32 rfl (rc_94) rfl rfl rfl rfl (Nat.le_of_ble_eq_true rfl) (m_finds (k := 1) (by decide)) ?_
      refine ok_reti eX12_train_35 rfl ?_
      exact ⟨rfl, _, rfl, hJ.err (k := 1) (by decide)⟩
    · obtain ⟨q, hq1, hq2, rfl⟩ := wi_of (bI_n0.mp h16) (by decide) (by decide)
      refine ok_step (ps := []) (L' := [some (.ref 0), some (.int (nI l)), some (.int (nI q)), some (.int back)]) (st' := [.int (nI 1), .int (nI 0), .int back]) (σ' := (α, μ)) (pc' := 22) kX11_train_19 rfl rfl rf_a0 ?_
      refine ok_S (As := [.int back, .int (nI 0), .int (nI 1)]) (st := []) mkX11_within qX11_train_22 rfl rfl rfl rfl rfl (Nat.le_of_ble_eq_true rfl) (c_within) ?_
      refine ok_if_ne bX11_train_25 (fun h25 => ?_) (fun h25 => ?_)
      · obtain ⟨k, hk1, hk2, rfl⟩ := wi_of (bI_n0.mp h25) (by decide) (by decide)
        refine ok_step (ps := []) (L' := [some (.ref 0), some (.int (nI l)), some (.int (nI q)), some (.int (nI k))]) (st' := [.int (nI 12), .int (α 2 2)]) (σ' := (α, μ)) (pc' := 47) kX11_train_35 rfl rfl rf_a0 ?_
        try rw [(show α 2 2 = μ 95 3 from hR 1 2 3 rfl)]
        refine ok_icmp_lt bX11_train_47 (fun h47 => ?_) (fun h47 => ?_)
        · have l47 := nlt_lt hI.at3 h47 (by omega)
          refine ok_step (ps := []) (L' := [some (.ref 0), some (.int (nI l)), some (.int (nI q)), some (.int (nI k))]) (st' := [.int (nI k), .int (nI q), .int (nI l), .ref 2]) (σ' := (α, μ)) (pc' := 67) kX11_train_57 rfl rfl rf_a0 ?_
          have hc67 : rf_At (rf_T Ln xs) MX4_addTrain 50 0 ([some (.ref 2), some (.int (nI l)), some (.int (nI q)), some (.int (nI k)), none], [], 108, (α, μ)) (some (.int (μ 95 3))) 108 (rf_w (rf_w (rf_w (rf_w α 2 2 (nI (1 + cn (μ 95) 3))) 7 (cn (μ 95) 3) (nI l)) 8 (cn (μ 95) 3) (nI q)) 9 (cn (μ 95) 3) (nI k), μ) := by
            refine rf_pa ?_
            refine ok_step (ps := [rf_in (α 2 2) 12, rf_in (α 2 2) 12, rf_in (α 2 2) 12]) (L' := [some (.ref 2), some (.int (nI l)), some (.int (nI q)), some (.int (nI k)), some (.int (α 2 2))]) (st' := [.int (α 2 2)]) (σ' := (rf_w (rf_w (rf_w (rf_w α 2 2 ((α 2 2) + (nI 1))) 7 ((α 2 2).toNatClampNeg) (nI l)) 8 ((α 2 2).toNatClampNeg) (nI q)) 9 ((α 2 2).toNatClampNeg) (nI k), μ)) (pc' := 42) kX4_addTrain_0 rfl rfl (rf_a1 (rf_in_n (a := (cn (μ 95) 3)) (by (try rw [(show α 2 2 = μ 95 3 from hR 1 2 3 rfl)]); (try rw [(show α 2 2 = μ 95 3 from hR 1 2 3 rfl)]); (try rw [(show ((μ 95 3) + (nI 1)) = nI (1 + cn (μ 95) 3) from rf_eq (rf_nadd (x := μ 95 3) (y := nI 1) (hI.at3) rfl) (by omega))]); all_goals exact (hI.at3)) (by omega)) (rf_a1 (rf_in_n (a := (cn (μ 95) 3)) (by (try rw [(show α 2 2 = μ 95 3 from hR 1 2 3 rfl)]); (try rw [(show α 2 2 = μ 95 3 from hR 1 2 3 rfl)]); (try rw [(show ((μ 95 3) + (nI 1)) = nI (1 + cn (μ 95) 3) from rf_eq (rf_nadd (x := μ 95 3) (y := nI 1) (hI.at3) rfl) (by omega))]); (try rw [(show (μ 95 3).toNatClampNeg = (cn (μ 95) 3) from rf_cl_n (hI.at3) (by omega))]); all_goals exact (hI.at3)) (by omega)) (rf_a1 (rf_in_n (a := (cn (μ 95) 3)) (by (try rw [(show α 2 2 = μ 95 3 from hR 1 2 3 rfl)]); (try rw [(show α 2 2 = μ 95 3 from hR 1 2 3 rfl)]); (try rw [(show ((μ 95 3) + (nI 1)) = nI (1 + cn (μ 95) 3) from rf_eq (rf_nadd (x := μ 95 3) (y := nI 1) (hI.at3) rfl) (by omega))]); (try rw [(show (μ 95 3).toNatClampNeg = (cn (μ 95) 3) from rf_cl_n (hI.at3) (by omega))]); (try rw [(show (μ 95 3).toNatClampNeg = (cn (μ 95) 3) from rf_cl_n (hI.at3) (by omega))]); all_goals exact (hI.at3)) (by omega)) rf_a0))) ?_
            try rw [(show α 2 2 = μ 95 3 from hR 1 2 3 rfl)]
            try rw [(show ((μ 95 3) + (nI 1)) = nI (1 + cn (μ 95) 3) from rf_eq (rf_nadd (x := μ 95 3) (y := nI 1) (hI.at3) rfl) (by omega))]
            try rw [(show (μ 95 3).toNatClampNeg = (cn (μ 95) 3) from rf_cl_n (hI.at3) (by omega))]
            refine ok_reti eX4_addTrain_42 rfl ?_
            exact ⟨rfl, rfl⟩
          refine ok_V (As := [.int (nI l), .int (nI q), .int (nI k)]) (b := 2) (st := []) mkX4_addTrain qX11_train_67 rfl (rc_2) rfl rfl rfl rfl (Nat.le_of_ble_eq_true rfl) (hc67) ?_
          refine ok_reti eX11_train_70 rfl ?_
          refine ⟨rfl, _, rfl, ?_⟩
          refine ok_step (ps := []) (L' := [some (.ref 94), some (.int (nI l)), some (.int (nI q)), some (.int (nI k)), none]) (st' := [.int (nI l), .ref 94]) (σ' := (rf_w (rf_w (rf_w (rf_w α 2 2 (nI (1 + cn (μ 95) 3))) 7 (cn (μ 95) 3) (nI l)) 8 (cn (μ 95) 3) (nI q)) 9 (cn (μ 95) 3) (nI k), μ)) (pc' := 2) kX12_train_0 rfl rfl rf_a0 ?_
          refine ok_V (As := [.int (nI l)]) (b := 94) (st := []) mkX12_isLine qX12_train_2 rfl (rc_94) rfl rfl rfl rfl (Nat.le_of_ble_eq_true rfl) (m_isLine) ?_
          refine ok_if_eq bX12_train_5 (fun g5 => absurd g5 (h5)) (fun _ => ?_)
          refine ok_step (ps := []) (L' := [some (.ref 94), some (.int (nI l)), some (.int (nI q)), some (.int (nI k)), none]) (st' := [.long (lN 1199), .long (lN 0), .long ((nI q).toInt64)]) (σ' := (rf_w (rf_w (rf_w (rf_w α 2 2 (nI (1 + cn (μ 95) 3))) 7 (cn (μ 95) 3) (nI l)) 8 (cn (μ 95) 3) (nI q)) 9 (cn (μ 95) 3) (nI k), μ)) (pc' := 14) kX12_train_8 rfl rfl rf_a0 ?_
          refine ok_S (As := [.long ((nI q).toInt64), .long (lN 0), .long (lN 1199)]) (st := []) mkX12_in qX12_train_14 rfl rfl rfl rfl rfl (Nat.le_of_ble_eq_true rfl) (m_in) ?_
          rw [show wl ((nI q).toInt64) (lN 0) (lN 1199) = wi (nI q) (nI 0) (nI 1199) from wl_of rfl (nI_l (by decide)).symm (nI_l (by decide)).symm]
          refine ok_if_eq bX12_train_17 (fun g17 => absurd g17 (h16)) (fun _ => ?_)
          refine ok_step (ps := []) (L' := [some (.ref 94), some (.int (nI l)), some (.int (nI q)), some (.int (nI k)), none]) (st' := [.long (lN 1), .long (lN 0), .long ((nI k).toInt64)]) (σ' := (rf_w (rf_w (rf_w (rf_w α 2 2 (nI (1 + cn (μ 95) 3))) 7 (cn (μ 95) 3) (nI l)) 8 (cn (μ 95) 3) (nI q)) 9 (cn (μ 95) 3) (nI k), μ)) (pc' := 24) kX12_train_20 rfl rfl rf_a0 ?_
          refine ok_S (As := [.long ((nI k).toInt64), .long (lN 0), .long (lN 1)]) (st := []) mkX12_in qX12_train_24 rfl rfl rfl rfl rfl (Nat.le_of_ble_eq_true rfl) (m_in) ?_
          rw [show wl ((nI k).toInt64) (lN 0) (lN 1) = wi (nI k) (nI 0) (nI 1) from wl_of rfl (nI_l (by decide)).symm (nI_l (by decide)).symm]
          refine ok_if_ne bX12_train_27 (fun _ => ?_) (fun g27 => absurd g27 (h25))
          refine ok_step (ps := [rf_in (nI 3) 700]) (L' := [some (.ref 94), some (.int (nI l)), some (.int (nI q)), some (.int (nI k)), none]) (st' := [.int (nI 12), .int (μ 95 ((nI 3).toNatClampNeg))]) (σ' := (rf_w (rf_w (rf_w (rf_w α 2 2 (nI (1 + cn (μ 95) 3))) 7 (cn (μ 95) 3) (nI l)) 8 (cn (μ 95) 3) (nI q)) 9 (cn (μ 95) 3) (nI k), μ)) (pc' := 44) kX12_train_36 rfl rfl (rf_a1 (rf_in_n (a := 3) rfl (by omega)) rf_a0) ?_
          try rw [(show (nI 3).toNatClampNeg = 3 from rf_cl_n rfl (by omega))]
          refine ok_icmp_ne bX12_train_44 (fun _ => ?_) (fun g44 => absurd g44 ((lt_ne h47)))
          refine ok_step (ps := [rf_in (nI 3) 700, rf_in ((nI 150) + ((nI 3) * (μ 95 ((nI 3).toNatClampNeg)))) 700, rf_in (((nI 150) + ((nI 3) * (μ 95 ((nI 3).toNatClampNeg)))) + (nI 1)) 700, rf_in (((nI 150) + ((nI 3) * (μ 95 ((nI 3).toNatClampNeg)))) + (nI 2)) 700, rf_in (nI 3) 700, rf_in (nI 3) 700, rf_in (nI 3) 700]) (L' := [some (.ref 94), some (.int (nI l)), some (.int (nI q)), some (.int (nI k)), some (.int ((nI 150) + ((nI 3) * (μ 95 ((nI 3).toNatClampNeg)))))]) (st' := [.int (((rf_w (rf_w (rf_w (rf_w μ 95 (((nI 150) + ((nI 3) * (μ 95 ((nI 3).toNatClampNeg)))).toNatClampNeg) (nI l)) 95 ((((nI 150) + ((nI 3) * (μ 95 ((nI 3).toNatClampNeg)))) + (nI 1)).toNatClampNeg) (nI q)) 95 ((((nI 150) + ((nI 3) * (μ 95 ((nI 3).toNatClampNeg)))) + (nI 2)).toNatClampNeg) (nI k)) 95 ((nI 3).toNatClampNeg) (((rf_w (rf_w (rf_w μ 95 (((nI 150) + ((nI 3) * (μ 95 ((nI 3).toNatClampNeg)))).toNatClampNeg) (nI l)) 95 ((((nI 150) + ((nI 3) * (μ 95 ((nI 3).toNatClampNeg)))) + (nI 1)).toNatClampNeg) (nI q)) 95 ((((nI 150) + ((nI 3) * (μ 95 ((nI 3).toNatClampNeg)))) + (nI 2)).toNatClampNeg) (nI k)) 95 ((nI 3).toNatClampNeg)) + (nI 1))) 95 ((nI 3).toNatClampNeg)) - (nI 1))]) (σ' := (rf_w (rf_w (rf_w (rf_w α 2 2 (nI (1 + cn (μ 95) 3))) 7 (cn (μ 95) 3) (nI l)) 8 (cn (μ 95) 3) (nI q)) 9 (cn (μ 95) 3) (nI k), rf_w (rf_w (rf_w (rf_w μ 95 (((nI 150) + ((nI 3) * (μ 95 ((nI 3).toNatClampNeg)))).toNatClampNeg) (nI l)) 95 ((((nI 150) + ((nI 3) * (μ 95 ((nI 3).toNatClampNeg)))) + (nI 1)).toNatClampNeg) (nI q)) 95 ((((nI 150) + ((nI 3) * (μ 95 ((nI 3).toNatClampNeg)))) + (nI 2)).toNatClampNeg) (nI k)) 95 ((nI 3).toNatClampNeg) (((rf_w (rf_w (rf_w μ 95 (((nI 150) + ((nI 3) * (μ 95 ((nI 3).toNatClampNeg)))).toNatClampNeg) (nI l)) 95 ((((nI 150) + ((nI 3) * (μ 95 ((nI 3).toNatClampNeg)))) + (nI 1)).toNatClampNeg) (nI q)) 95 ((((nI 150) + ((nI 3) * (μ 95 ((nI 3).toNatClampNeg)))) + (nI 2)).toNatClampNeg) (nI k)) 95 ((nI 3).toNatClampNeg)) + (nI 1)))) (pc' := 113) kX12_train_53 rfl rfl (rf_a1 (rf_in_n (a := 3) rfl (by omega)) (rf_a1 (rf_in_n (a := (150 + 3 * cn (μ 95) 3)) (by (try rw [(show (nI 3).toNatClampNeg = 3 from rf_cl_n rfl (by omega))]); (try rw [(show ((nI 3) * (μ 95 3)) = nI (3 * cn (μ 95) 3) from rf_eq (rf_nmul (x := nI 3) (y := μ 95 3) rfl (hI.at3)) (by omega))]); (try rw [(show ((nI 150) + (nI (3 * cn (μ 95) 3))) = nI (150 + 3 * cn (μ 95) 3) from rf_eq (rf_nadd (x := nI 150) (y := nI (3 * cn (μ 95) 3)) rfl rfl) (by omega))]); all_goals exact rfl) (by omega)) (rf_a1 (rf_in_n (a := (151 + 3 * cn (μ 95) 3)) (by (try rw [(show (nI 3).toNatClampNeg = 3 from rf_cl_n rfl (by omega))]); (try rw [(show ((nI 3) * (μ 95 3)) = nI (3 * cn (μ 95) 3) from rf_eq (rf_nmul (x := nI 3) (y := μ 95 3) rfl (hI.at3)) (by omega))]); (try rw [(show ((nI 150) + (nI (3 * cn (μ 95) 3))) = nI (150 + 3 * cn (μ 95) 3) from rf_eq (rf_nadd (x := nI 150) (y := nI (3 * cn (μ 95) 3)) rfl rfl) (by omega))]); (try rw [(show (nI (150 + 3 * cn (μ 95) 3)).toNatClampNeg = (150 + 3 * cn (μ 95) 3) from rf_cl_n rfl (by omega))]); (try rw [(show ((nI (150 + 3 * cn (μ 95) 3)) + (nI 1)) = nI (151 + 3 * cn (μ 95) 3) from rf_eq (rf_nadd (x := nI (150 + 3 * cn (μ 95) 3)) (y := nI 1) rfl rfl) (by omega))]); all_goals exact rfl) (by omega)) (rf_a1 (rf_in_n (a := (152 + 3 * cn (μ 95) 3)) (by (try rw [(show (nI 3).toNatClampNeg = 3 from rf_cl_n rfl (by omega))]); (try rw [(show ((nI 3) * (μ 95 3)) = nI (3 * cn (μ 95) 3) from rf_eq (rf_nmul (x := nI 3) (y := μ 95 3) rfl (hI.at3)) (by omega))]); (try rw [(show ((nI 150) + (nI (3 * cn (μ 95) 3))) = nI (150 + 3 * cn (μ 95) 3) from rf_eq (rf_nadd (x := nI 150) (y := nI (3 * cn (μ 95) 3)) rfl rfl) (by omega))]); (try rw [(show (nI (150 + 3 * cn (μ 95) 3)).toNatClampNeg = (150 + 3 * cn (μ 95) 3) from rf_cl_n rfl (by omega))]); (try rw [(show ((nI (150 + 3 * cn (μ 95) 3)) + (nI 1)) = nI (151 + 3 * cn (μ 95) 3) from rf_eq (rf_nadd (x := nI (150 + 3 * cn (μ 95) 3)) (y := nI 1) rfl rfl) (by omega))]); (try rw [(show (nI (151 + 3 * cn (μ 95) 3)).toNatClampNeg = (151 + 3 * cn (μ 95) 3) from rf_cl_n rfl (by omega))]); (try rw [(show ((nI (150 + 3 * cn (μ 95) 3)) + (nI 2)) = nI (152 + 3 * cn (μ 95) 3) from rf_eq (rf_nadd (x := nI (150 + 3 * cn (μ 95) 3)) (y := nI 2) rfl rfl) (by omega))]); all_goals exact rfl) (by omega)) (rf_a1 (rf_in_n (a := 3) rfl (by omega)) (rf_a1 (rf_in_n (a := 3) rfl (by omega)) (rf_a1 (rf_in_n (a := 3) rfl (by omega)) rf_a0))))))) ?_
          try rw [(show (nI 3).toNatClampNeg = 3 from rf_cl_n rfl (by omega))]
          try rw [(show ((nI 3) * (μ 95 3)) = nI (3 * cn (μ 95) 3) from rf_eq (rf_nmul (x := nI 3) (y := μ 95 3) rfl (hI.at3)) (by omega))]
          try rw [(show ((nI 150) + (nI (3 * cn (μ 95) 3))) = nI (150 + 3 * cn (μ 95) 3) from rf_eq (rf_nadd (x := nI 150) (y := nI (3 * cn (μ 95) 3)) rfl rfl) (by omega))]
          try rw [(show (nI (150 + 3 * cn (μ 95) 3)).toNatClampNeg = (150 + 3 * cn (μ 95) 3) from rf_cl_n rfl (by omega))]
          try rw [(show ((nI (150 + 3 * cn (μ 95) 3)) + (nI 1)) = nI (151 + 3 * cn (μ 95) 3) from rf_eq (rf_nadd (x := nI (150 + 3 * cn (μ 95) 3)) (y := nI 1) rfl rfl) (by omega))]
          try rw [(show (nI (151 + 3 * cn (μ 95) 3)).toNatClampNeg = (151 + 3 * cn (μ 95) 3) from rf_cl_n rfl (by omega))]
          try rw [(show ((nI (150 + 3 * cn (μ 95) 3)) + (nI 2)) = nI (152 + 3 * cn (μ 95) 3) from rf_eq (rf_nadd (x := nI (150 + 3 * cn (μ 95) 3)) (y := nI 2) rfl rfl) (by omega))]
          try rw [(show (nI (152 + 3 * cn (μ 95) 3)).toNatClampNeg = (152 + 3 * cn (μ 95) 3) from rf_cl_n rfl (by omega))]
          try rw [(show (nI 3).toNatClampNeg = 3 from rf_cl_n rfl (by omega))]
          try rw [(show (rf_w (rf_w (rf_w μ 95 (150 + 3 * cn (μ 95) 3) (nI l)) 95 (151 + 3 * cn (μ 95) 3) (nI q)) 95 (152 + 3 * cn (μ 95) 3) (nI k)) 95 3 = (rf_w (rf_w μ 95 (150 + 3 * cn (μ 95) 3) (nI l)) 95 (151 + 3 * cn (μ 95) 3) (nI q)) 95 3 from by rw [rf_w_at, if_neg (fun h => absurd h.2 (by omega))])]
          try rw [(show (rf_w (rf_w μ 95 (150 + 3 * cn (μ 95) 3) (nI l)) 95 (151 + 3 * cn (μ 95) 3) (nI q)) 95 3 = (rf_w μ 95 (150 + 3 * cn (μ 95) 3) (nI l)) 95 3 from by rw [rf_w_at, if_neg (fun h => absurd h.2 (by omega))])]
          try rw [(show (rf_w μ 95 (150 + 3 * cn (μ 95) 3) (nI l)) 95 3 = μ 95 3 from by rw [rf_w_at, if_neg (fun h => absurd h.2 (by omega))])]
          try rw [(show ((μ 95 3) + (nI 1)) = nI (1 + cn (μ 95) 3) from rf_eq (rf_nadd (x := μ 95 3) (y := nI 1) (hI.at3) rfl) (by omega))]
          try rw [(show (nI 3).toNatClampNeg = 3 from rf_cl_n rfl (by omega))]
          try rw [(show (rf_w (rf_w (rf_w (rf_w μ 95 (150 + 3 * cn (μ 95) 3) (nI l)) 95 (151 + 3 * cn (μ 95) 3) (nI q)) 95 (152 + 3 * cn (μ 95) 3) (nI k)) 95 3 (nI (1 + cn (μ 95) 3))) 95 3 = (nI (1 + cn (μ 95) 3)) from by rw [rf_w_at, if_pos ⟨rfl, rfl⟩])]
          refine ok_reti eX12_train_113 rfl ?_
          refine ⟨inc_back hI.at3, _, rfl, J0.mc ((((hJ.1.put (c := 1) (i := 2) (j := 3) rfl _).put (c := 6) (i := (cn (μ 95) 3)) (j := (150 + 3 * cn (μ 95) 3)) (off_6 (by omega) (by omega)) _).put (c := 7) (i := (cn (μ 95) 3)) (j := (151 + 3 * cn (μ 95) 3)) (off_7 (by omega) (by omega)) _).put (c := 8) (i := (cn (μ 95) 3)) (j := (152 + 3 * cn (μ 95) 3)) (off_8 (by omega) (by omega)) _) (fun i => ?_) (fun k hk => ?_), ?_⟩
          · simp only [rf_w_at, true_and, reduceIte]
            try (repeat' split)
            all_goals first | rfl | omega | (exfalso; omega)
          · simp only [rf_w_row hk]
          · try simp only [rf_w_self]
            refine (((hI.put150 (t := (cn (μ 95) 3)) (m := l) (by omega) (by omega) ?_).put (fun bb hb => ⟨q, by rw [bd_151 (i := (cn (μ 95) 3)) (by omega) (by omega)] at hb; cases hb; omega, rfl⟩) (by unfold nst; omega)).put (fun bb hb => ⟨k, by rw [bd_152 (i := (cn (μ 95) 3)) (by omega) (by omega)] at hb; cases hb; omega, rfl⟩) (by unfold nst; omega)).inc3 (n := cn (μ 95) 3) (by (repeat rw [cn_upd (by omega)])) (by omega) ?_
            · omega
            · rw [cn_upd (k := 2) (by omega), cn_upd (k := 2) (by omega), cn_upd (k := 2) (by omega)]
              (repeat rw [cn_upd (by omega)])
              rw [cn_self, nI_clamp (by omega)]
              omega
        · refine ok_step (ps := []) (L' := [some (.ref 0), some (.int (nI l)), some (.int (nI q)), some (.int (nI k))]) (st' := [.int (-1000000004), .ref 0]) (σ' := (α, μ)) (pc' := 53) kX11_train_50 rfl rfl rf_a0 ?_
          refine ok_V (As := [.int (-1000000004)]) (b := 0) (st := []) mkX11_error qX11_train_53 rfl (rc_0) rfl rfl rfl rfl (Nat.le_of_ble_eq_true rfl) (c_error (k := 4) (by decide) (by decide) (by decide)) ?_
          refine ok_reti eX11_train_56 rfl ?_
          refine ⟨rfl, _, rfl, ?_⟩
          refine ok_step (ps := []) (L' := [some (.ref 94), some (.int (nI l)), some (.int (nI q)), some (.int (nI k)), none]) (st' := [.int (nI l), .ref 94]) (σ' := (rf_w α 93 4 (α 93 4 + nI 1), μ)) (pc' := 2) kX12_train_0 rfl rfl rf_a0 ?_
          refine ok_V (As := [.int (nI l)]) (b := 94) (st := []) mkX12_isLine qX12_train_2 rfl (rc_94) rfl rfl rfl rfl (Nat.le_of_ble_eq_true rfl) (m_isLine) ?_
          refine ok_if_eq bX12_train_5 (fun g5 => absurd g5 (h5)) (fun _ => ?_)
          refine ok_step (ps := []) (L' := [some (.ref 94), some (.int (nI l)), some (.int (nI q)), some (.int (nI k)), none]) (st' := [.long (lN 1199), .long (lN 0), .long ((nI q).toInt64)]) (σ' := (rf_w α 93 4 (α 93 4 + nI 1), μ)) (pc' := 14) kX12_train_8 rfl rfl rf_a0 ?_
          refine ok_S (As := [.long ((nI q).toInt64), .long (lN 0), .long (lN 1199)]) (st := []) mkX12_in qX12_train_14 rfl rfl rfl rfl rfl (Nat.le_of_ble_eq_true rfl) (m_in) ?_
          rw [show wl ((nI q).toInt64) (lN 0) (lN 1199) = wi (nI q) (nI 0) (nI 1199) from wl_of rfl (nI_l (by decide)).symm (nI_l (by decide)).symm]
          refine ok_if_eq bX12_train_17 (fun g17 => absurd g17 (h16)) (fun _ => ?_)
          refine ok_step (ps := []) (L' := [some (.ref 94), some (.int (nI l)), some (.int (nI q)), some (.int (nI k)), none]) (st' := [.long (lN 1), .long (lN 0), .long ((nI k).toInt64)]) (σ' := (rf_w α 93 4 (α 93 4 + nI 1), μ)) (pc' := 24) kX12_train_20 rfl rfl rf_a0 ?_
          refine ok_S (As := [.long ((nI k).toInt64), .long (lN 0), .long (lN 1)]) (st := []) mkX12_in qX12_train_24 rfl rfl rfl rfl rfl (Nat.le_of_ble_eq_true rfl) (m_in) ?_
          rw [show wl ((nI k).toInt64) (lN 0) (lN 1) = wi (nI k) (nI 0) (nI 1) from wl_of rfl (nI_l (by decide)).symm (nI_l (by decide)).symm]
          refine ok_if_ne bX12_train_27 (fun _ => ?_) (fun g27 => absurd g27 (h25))
          refine ok_step (ps := [rf_in (nI 3) 700]) (L' := [some (.ref 94), some (.int (nI l)), some (.int (nI q)), some (.int (nI k)), none]) (st' := [.int (nI 12), .int (μ 95 ((nI 3).toNatClampNeg))]) (σ' := (rf_w α 93 4 (α 93 4 + nI 1), μ)) (pc' := 44) kX12_train_36 rfl rfl (rf_a1 (rf_in_n (a := 3) rfl (by omega)) rf_a0) ?_
          try rw [(show (nI 3).toNatClampNeg = 3 from rf_cl_n rfl (by omega))]
          refine ok_icmp_ne bX12_train_44 (fun g44 => absurd ((full_eq (hI.at3) (by omega) h47)) g44) (fun _ => ?_)
          refine ok_step (ps := []) (L' := [some (.ref 94), some (.int (nI l)), some (.int (nI q)), some (.int (nI k)), none]) (st' := [.int (nI 4), .ref 94]) (σ' := (rf_w α 93 4 (α 93 4 + nI 1), μ)) (pc' := 49) kX12_train_47 rfl rfl rf_a0 ?_
          refine ok_V (As := [.int (nI 4)]) (b := 94) (st := []) mkX12_finds qX12_train_49 rfl (rc_94) rfl rfl rfl rfl (Nat.le_of_ble_eq_true rfl) (m_finds (k := 4) (by decide)) ?_
          refine ok_reti eX12_train_52 rfl ?_
          exact ⟨rfl, _, rfl, hJ.err (k := 4) (by decide)⟩
      · refine ok_step (ps := []) (L' := [some (.ref 0), some (.int (nI l)), some (.int (nI q)), some (.int back)]) (st' := [.int (-1000000001), .ref 0]) (σ' := (α, μ)) (pc' := 31) kX11_train_28 rfl rfl rf_a0 ?_
        refine ok_V (As := [.int (-1000000001)]) (b := 0) (st := []) mkX11_error qX11_train_31 rfl (rc_0) rfl rfl rfl rfl (Nat.le_of_ble_eq_true rfl) (c_error (k := 1) (by decide) (by decide) (by decide)) ?_
        refine ok_reti eX11_train_34 rfl ?_
        refine ⟨rfl, _, rfl, ?_⟩
        refine ok_step (ps := []) (L' := [some (.ref 94), some (.int (nI l)), some (.int (nI q)), some (.int back), none]) (st' := [.int (nI l), .ref 94]) (σ' := (rf_w α 93 1 (α 93 1 + nI 1), μ)) (pc' := 2) kX12_train_0 rfl rfl rf_a0 ?_
        refine ok_V (As := [.int (nI l)]) (b := 94) (st := []) mkX12_isLine qX12_train_2 rfl (rc_94) rfl rfl rfl rfl (Nat.le_of_ble_eq_true rfl) (m_isLine) ?_
        refine ok_if_eq bX12_train_5 (fun g5 => absurd g5 (h5)) (fun _ => ?_)
        refine ok_step (ps := []) (L' := [some (.ref 94), some (.int (nI l)), some (.int (nI q)), some (.int back), none]) (st' := [.long (lN 1199), .long (lN 0), .long ((nI q).toInt64)]) (σ' := (rf_w α 93 1 (α 93 1 + nI 1), μ)) (pc' := 14) kX12_train_8 rfl rfl rf_a0 ?_
        refine ok_S (As := [.long ((nI q).toInt64), .long (lN 0), .long (lN 1199)]) (st := []) mkX12_in qX12_train_14 rfl rfl rfl rfl rfl (Nat.le_of_ble_eq_true rfl) (m_in) ?_
        rw [show wl ((nI q).toInt64) (lN 0) (lN 1199) = wi (nI q) (nI 0) (nI 1199) from wl_of rfl (nI_l (by decide)).symm (nI_l (by decide)).symm]
        refine ok_if_eq bX12_train_17 (fun g17 => absurd g17 (h16)) (fun _ => ?_)
        refine ok_step (ps := []) (L' := [some (.ref 94), some (.int (nI l)), some (.int (nI q)), some (.int back), none]) (st' := [.long (lN 1), .long (lN 0), .long back.toInt64]) (σ' := (rf_w α 93 1 (α 93 1 + nI 1), μ)) (pc' := 24) kX12_train_20 rfl rfl rf_a0 ?_
        refine ok_S (As := [.long back.toInt64, .long (lN 0), .long (lN 1)]) (st := []) mkX12_in qX12_train_24 rfl rfl rfl rfl rfl (Nat.le_of_ble_eq_true rfl) (m_in) ?_
        rw [show wl back.toInt64 (lN 0) (lN 1) = wi back (nI 0) (nI 1) from wl_of rfl (nI_l (by decide)).symm (nI_l (by decide)).symm]
        refine ok_if_ne bX12_train_27 (fun g27 => absurd (h25) g27) (fun _ => ?_)
        refine ok_step (ps := []) (L' := [some (.ref 94), some (.int (nI l)), some (.int (nI q)), some (.int back), none]) (st' := [.int (nI 1), .ref 94]) (σ' := (rf_w α 93 1 (α 93 1 + nI 1), μ)) (pc' := 32) kX12_train_30 rfl rfl rf_a0 ?_
        refine ok_V (As := [.int (nI 1)]) (b := 94) (st := []) mkX12_finds qX12_train_32 rfl (rc_94) rfl rfl rfl rfl (Nat.le_of_ble_eq_true rfl) (m_finds (k := 1) (by decide)) ?_
        refine ok_reti eX12_train_35 rfl ?_
        exact ⟨rfl, _, rfl, hJ.err (k := 1) (by decide)⟩
theorem op_extend {line : Int32} {station : Int32} {leg : Int32} (hJ : J α μ)  : Op (rf_T Ln xs) MX11_extend MX12_extend [some (.ref 0), some (.int line), some (.int station), some (.int leg), none] [some (.ref 94), some (.int line), some (.int station), some (.int leg), none] α μ := by
  have hR := hJ.1.1.1
  have hI := hJ.2
  have b0 := hI.le0
  have b1 := hI.le1
  have b2 := hI.le2
  have b3 := hI.le3
  have b4 := hI.le4
  have b5 := hI.le5
  have b6 := hI.le6
  have b8 := hI.le8
  have b9 := hI.le9
  have b11 := hI.le11
  have b12 := hI.le12
  refine ok_step (ps := []) (L' := [some (.ref 0), some (.int line), some (.int station), some (.int leg), none]) (st' := [.int line, .ref 0]) (σ' := (α, μ)) (pc' := 2) kX11_extend_0 rfl rfl rf_a0 ?_
  refine ok_V (As := [.int line]) (b := 0) (st := []) mkX11_isLine qX11_extend_2 rfl (rc_0) rfl rfl rfl rfl (Nat.le_of_ble_eq_true rfl) (c_isLine hR) ?_
  refine ok_if_eq bX11_extend_5 (fun h5 => ?_) (fun h5 => ?_)
  · refine ok_step (ps := []) (L' := [some (.ref 0), some (.int line), some (.int station), some (.int leg), none]) (st' := [.int (-1000000001), .ref 0]) (σ' := (α, μ)) (pc' := 29) kX11_extend_26 rfl rfl rf_a0 ?_
    refine ok_V (As := [.int (-1000000001)]) (b := 0) (st := []) mkX11_error qX11_extend_29 rfl (rc_0) rfl rfl rfl rfl (Nat.le_of_ble_eq_true rfl) (c_error (k := 1) (by decide) (by decide) (by decide)) ?_
    refine ok_reti eX11_extend_32 rfl ?_
    refine ⟨rfl, _, rfl, ?_⟩
    refine ok_step (ps := []) (L' := [some (.ref 94), some (.int line), some (.int station), some (.int leg), none]) (st' := [.int line, .ref 94]) (σ' := (rf_w α 93 1 (α 93 1 + nI 1), μ)) (pc' := 2) kX12_extend_0 rfl rfl rf_a0 ?_
    refine ok_V (As := [.int line]) (b := 94) (st := []) mkX12_isLine qX12_extend_2 rfl (rc_94) rfl rfl rfl rfl (Nat.le_of_ble_eq_true rfl) (m_isLine) ?_
    refine ok_if_eq bX12_extend_5 (fun _ => ?_) (fun g5 => absurd (h5) g5)
    refine ok_step (ps := []) (L' := [some (.ref 94), some (.int line), some (.int station), some (.int leg), none]) (st' := [.int (nI 1), .ref 94]) (σ' := (rf_w α 93 1 (α 93 1 + nI 1), μ)) (pc' := 30) kX12_extend_28 rfl rfl rf_a0 ?_
    refine ok_V (As := [.int (nI 1)]) (b := 94) (st := []) mkX12_finds qX12_extend_30 rfl (rc_94) rfl rfl rfl rfl (Nat.le_of_ble_eq_true rfl) (m_finds (k := 1) (by decide)) ?_
    refine ok_reti eX12_extend_33 rfl ?_
    exact ⟨rfl, _, rfl, hJ.err (k := 1) (by decide)⟩
  · obtain ⟨l, hl, rfl⟩ := wi_lt (bI_n0.mp h5) hI.at2 (by omega)
    have z2 := hI.2.1 l hl
    have z6 := hI.leb (k := 90 + 13 * l) (b := 6) (bd_90 (i := l) (by omega) rfl) (by decide)
    refine ok_step (ps := []) (L' := [some (.ref 0), some (.int (nI l)), some (.int station), some (.int leg), none]) (st' := [.int station, .ref 0]) (σ' := (α, μ)) (pc' := 10) kX11_extend_8 rfl rfl rf_a0 ?_
    refine ok_V (As := [.int station]) (b := 0) (st := []) mkX11_isStation qX11_extend_10 rfl (rc_0) rfl rfl rfl rfl (Nat.le_of_ble_eq_true rfl) (c_isStation hR) ?_
    refine ok_if_eq bX11_extend_13 (fun h13 => ?_) (fun h13 => ?_)
    · refine ok_step (ps := []) (L' := [some (.ref 0), some (.int (nI l)), some (.int station), some (.int leg), none]) (st' := [.int (-1000000001), .ref 0]) (σ' := (α, μ)) (pc' := 29) kX11_extend_26 rfl rfl rf_a0 ?_
      refine ok_V (As := [.int (-1000000001)]) (b := 0) (st := []) mkX11_error qX11_extend_29 rfl (rc_0) rfl rfl rfl rfl (Nat.le_of_ble_eq_true rfl) (c_error (k := 1) (by decide) (by decide) (by decide)) ?_
      refine ok_reti eX11_extend_32 rfl ?_
      refine ⟨rfl, _, rfl, ?_⟩
      refine ok_step (ps := []) (L' := [some (.ref 94), some (.int (nI l)), some (.int station), some (.int leg), none]) (st' := [.int (nI l), .ref 94]) (σ' := (rf_w α 93 1 (α 93 1 + nI 1), μ)) (pc' := 2) kX12_extend_0 rfl rfl rf_a0 ?_
      refine ok_V (As := [.int (nI l)]) (b := 94) (st := []) mkX12_isLine qX12_extend_2 rfl (rc_94) rfl rfl rfl rfl (Nat.le_of_ble_eq_true rfl) (m_isLine) ?_
      refine ok_if_eq bX12_extend_5 (fun g5 => absurd g5 (h5)) (fun _ => ?_)
      refine ok_step (ps := []) (L' := [some (.ref 94), some (.int (nI l)), some (.int station), some (.int leg), none]) (st' := [.int station, .ref 94]) (σ' := (rf_w α 93 1 (α 93 1 + nI 1), μ)) (pc' := 10) kX12_extend_8 rfl rfl rf_a0 ?_
      refine ok_V (As := [.int station]) (b := 94) (st := []) mkX12_isStation qX12_extend_10 rfl (rc_94) rfl rfl rfl rfl (Nat.le_of_ble_eq_true rfl) (m_isStation) ?_
      refine ok_if_eq bX12_extend_13 (fun _ => ?_) (fun g13 => absurd (h13) g13)
      refine ok_step (ps := []) (L' := [some (.ref 94), some (.int (nI l)), some (.int station), some (.int leg), none]) (st' := [.int (nI 1), .ref 94]) (σ' := (rf_w α 93 1 (α 93 1 + nI 1), μ)) (pc' := 30) kX12_extend_28 rfl rfl rf_a0 ?_
      refine ok_V (As := [.int (nI 1)]) (b := 94) (st := []) mkX12_finds qX12_extend_30 rfl (rc_94) rfl rfl rfl rfl (Nat.le_of_ble_eq_true rfl) (m_finds (k := 1) (by decide)) ?_
      refine ok_reti eX12_extend_33 rfl ?_
      exact ⟨rfl, _, rfl, hJ.err (k := 1) (by decide)⟩
    · obtain ⟨a, ha, rfl⟩ := wi_lt (bI_n0.mp h13) hI.at1 (by omega)
      refine ok_step (ps := []) (L' := [some (.ref 0), some (.int (nI l)), some (.int (nI a)), some (.int leg), none]) (st' := [.int (nI 30), .int (nI 1), .int leg]) (σ' := (α, μ)) (pc' := 20) kX11_extend_16 rfl rfl rf_a0 ?_
      refine ok_S (As := [.int leg, .int (nI 1), .int (nI 30)]) (st := []) mkX11_within qX11_extend_20 rfl rfl rfl rfl rfl (Nat.le_of_ble_eq_true rfl) (c_within) ?_
      refine ok_if_ne bX11_extend_23 (fun h23 => ?_) (fun h23 => ?_)
      · obtain ⟨g, hg1, hg2, rfl⟩ := wi_of (bI_n0.mp h23) (by decide) (by decide)
        refine ok_step (ps := [rf_in (nI l) 4]) (L' := [some (.ref 0), some (.int (nI l)), some (.int (nI a)), some (.int (nI g)), some (.int (α 4 ((nI l).toNatClampNeg)))]) (st' := [.int ((α 4 ((nI l).toNatClampNeg)) - (nI 1)), .int (nI l), .ref 2]) (σ' := (α, μ)) (pc' := 59) kX11_extend_33 rfl rfl (rf_a1 (rf_in_n (a := l) rfl (by omega)) rf_a0) ?_
        try rw [(show (nI l).toNatClampNeg = l from rf_cl_n rfl (by omega))]
        try rw [(show α 4 l = μ 95 (90 + 13 * l) from rl_3 hR (i := l) (by omega) (by omega))]
        try rw [(show ((μ 95 (90 + 13 * l)) - (nI 1)) = nI ((cn (μ 95) (90 + 13 * l) - 1)) from rf_eq (rf_nsub (x := μ 95 (90 + 13 * l)) (y := nI 1) (hI.atb (k := (90 + 13 * l)) (bd_90 (i := l) (by omega) (by omega)) (by decide)) rfl (by omega)) (by omega))]
        refine ok_V (As := [.int (nI l), .int (nI ((cn (μ 95) (90 + 13 * l) - 1)))]) (b := 2) (st := []) mkX4_ofRow qX11_extend_59 rfl (rc_2) rfl rfl rfl rfl (Nat.le_of_ble_eq_true rfl) (c_ofRow hR hI (by omega) (by omega)) ?_
        refine ok_step (ps := []) (L' := [some (.ref 0), some (.int (nI l)), some (.int (nI a)), some (.int (nI g)), some (.int (μ 95 (90 + 13 * l)))]) (st' := [.int (nI a), .int (μ 95 (91 + 13 * l + (cn (μ 95) (90 + 13 * l) - 1)))]) (σ' := (α, μ)) (pc' := 63) kX11_extend_62 rfl rfl rf_a0 ?_
        refine ok_icmp_ne bX11_extend_63 (fun h63 => ?_) (fun h63 => ?_)
        · refine ok_step (ps := []) (L' := [some (.ref 0), some (.int (nI l)), some (.int (nI a)), some (.int (nI g)), some (.int (μ 95 (90 + 13 * l)))]) (st' := [.int (nI 6), .int (μ 95 (90 + 13 * l))]) (σ' := (α, μ)) (pc' := 77) kX11_extend_73 rfl rfl rf_a0 ?_
          refine ok_icmp_lt bX11_extend_77 (fun h77 => ?_) (fun h77 => ?_)
          · have l77 := nlt_lt (hI.atb (k := 90 + 13 * l) (b := 6) (bd_90 (i := l) (by omega) rfl) (by decide)) h77 (by omega)
            refine ok_step (ps := []) (L' := [some (.ref 0), some (.int (nI l)), some (.int (nI a)), some (.int (nI g)), some (.int (μ 95 (90 + 13 * l)))]) (st' := [.int (nI g), .int (nI a), .int (nI l), .ref 2]) (σ' := (α, μ)) (pc' := 97) kX11_extend_87 rfl rfl rf_a0 ?_
            have hc97 : rf_At (rf_T Ln xs) MX4_lengthen 50 0 ([some (.ref 2), some (.int (nI l)), some (.int (nI a)), some (.int (nI g)), none], [], 108, (α, μ)) (some (.int (nI (1 + cn (μ 95) (90 + 13 * l))))) 108 (rf_w (rf_w (rf_w α 5 (6 * l + cn (μ 95) (90 + 13 * l)) (nI a)) 6 (6 * l + cn (μ 95) (90 + 13 * l)) (nI g)) 4 l (nI (1 + cn (μ 95) (90 + 13 * l))), μ) := by
              refine rf_pa ?_
              refine ok_step (ps := [rf_in (nI l) 4, rf_in (((nI l) * (nI 6)) + (α 4 ((nI l).toNatClampNeg))) 24, rf_in (((nI l) * (nI 6)) + (α 4 ((nI l).toNatClampNeg))) 24, rf_in (nI l) 4, rf_in (nI l) 4, rf_in (nI l) 4]) (L' := [some (.ref 2), some (.int (nI l)), some (.int (nI a)), some (.int (nI g)), some (.int (((nI l) * (nI 6)) + (α 4 ((nI l).toNatClampNeg))))]) (st' := [.int ((rf_w (rf_w (rf_w α 5 ((((nI l) * (nI 6)) + (α 4 ((nI l).toNatClampNeg))).toNatClampNeg) (nI a)) 6 ((((nI l) * (nI 6)) + (α 4 ((nI l).toNatClampNeg))).toNatClampNeg) (nI g)) 4 ((nI l).toNatClampNeg) (((rf_w (rf_w α 5 ((((nI l) * (nI 6)) + (α 4 ((nI l).toNatClampNeg))).toNatClampNeg) (nI a)) 6 ((((nI l) * (nI 6)) + (α 4 ((nI l).toNatClampNeg))).toNatClampNeg) (nI g)) 4 ((nI l).toNatClampNeg)) + (nI 1))) 4 ((nI l).toNatClampNeg))]) (σ' := (rf_w (rf_w (rf_w α 5 ((((nI l) * (nI 6)) + (α 4 ((nI l).toNatClampNeg))).toNatClampNeg) (nI a)) 6 ((((nI l) * (nI 6)) + (α 4 ((nI l).toNatClampNeg))).toNatClampNeg) (nI g)) 4 ((nI l).toNatClampNeg) (((rf_w (rf_w α 5 ((((nI l) * (nI 6)) + (α 4 ((nI l).toNatClampNeg))).toNatClampNeg) (nI a)) 6 ((((nI l) * (nI 6)) + (α 4 ((nI l).toNatClampNeg))).toNatClampNeg) (nI g)) 4 ((nI l).toNatClampNeg)) + (nI 1)), μ)) (pc' := 45) kX4_lengthen_0 rfl rfl (rf_a1 (rf_in_n (a := l) rfl (by omega)) (rf_a1 (rf_in_n (a := (6 * l + cn (μ 95) (90 + 13 * l))) (by (try rw [(show ((nI l) * (nI 6)) = nI (6 * l) from rf_eq (rf_nmul (x := nI l) (y := nI 6) rfl rfl) (by omega))]); (try rw [(show (nI l).toNatClampNeg = l from rf_cl_n rfl (by omega))]); (try rw [(show α 4 l = μ 95 (90 + 13 * l) from rl_3 hR (i := l) (by omega) (by omega))]); (try rw [(show ((nI (6 * l)) + (μ 95 (90 + 13 * l))) = nI (6 * l + cn (μ 95) (90 + 13 * l)) from rf_eq (rf_nadd (x := nI (6 * l)) (y := μ 95 (90 + 13 * l)) rfl (hI.atb (k := (90 + 13 * l)) (bd_90 (i := l) (by omega) (by omega)) (by decide))) (by omega))]); all_goals exact rfl) (by omega)) (rf_a1 (rf_in_n (a := (6 * l + cn (μ 95) (90 + 13 * l))) (by (try rw [(show ((nI l) * (nI 6)) = nI (6 * l) from rf_eq (rf_nmul (x := nI l) (y := nI 6) rfl rfl) (by omega))]); (try rw [(show (nI l).toNatClampNeg = l from rf_cl_n rfl (by omega))]); (try rw [(show α 4 l = μ 95 (90 + 13 * l) from rl_3 hR (i := l) (by omega) (by omega))]); (try rw [(show ((nI (6 * l)) + (μ 95 (90 + 13 * l))) = nI (6 * l + cn (μ 95) (90 + 13 * l)) from rf_eq (rf_nadd (x := nI (6 * l)) (y := μ 95 (90 + 13 * l)) rfl (hI.atb (k := (90 + 13 * l)) (bd_90 (i := l) (by omega) (by omega)) (by decide))) (by omega))]); (try rw [(show (nI (6 * l + cn (μ 95) (90 + 13 * l))).toNatClampNeg = (6 * l + cn (μ 95) (90 + 13 * l)) from rf_cl_n rfl (by omega))]); all_goals exact rfl) (by omega)) (rf_a1 (rf_in_n (a := l) rfl (by omega)) (rf_a1 (rf_in_n (a := l) rfl (by omega)) (rf_a1 (rf_in_n (a := l) rfl (by omega)) rf_a0)))))) ?_
              try rw [(show ((nI l) * (nI 6)) = nI (6 * l) from rf_eq (rf_nmul (x := nI l) (y := nI 6) rfl rfl) (by omega))]
              try rw [(show (nI l).toNatClampNeg = l from rf_cl_n rfl (by omega))]
              try rw [(show α 4 l = μ 95 (90 + 13 * l) from rl_3 hR (i := l) (by omega) (by omega))]
              try rw [(show ((nI (6 * l)) + (μ 95 (90 + 13 * l))) = nI (6 * l + cn (μ 95) (90 + 13 * l)) from rf_eq (rf_nadd (x := nI (6 * l)) (y := μ 95 (90 + 13 * l)) rfl (hI.atb (k := (90 + 13 * l)) (bd_90 (i := l) (by omega) (by omega)) (by decide))) (by omega))]
              try rw [(show (nI (6 * l + cn (μ 95) (90 + 13 * l))).toNatClampNeg = (6 * l + cn (μ 95) (90 + 13 * l)) from rf_cl_n rfl (by omega))]
              try rw [(show (nI l).toNatClampNeg = l from rf_cl_n rfl (by omega))]
              try rw [(show (rf_w (rf_w α 5 (6 * l + cn (μ 95) (90 + 13 * l)) (nI a)) 6 (6 * l + cn (μ 95) (90 + 13 * l)) (nI g)) 4 l = (rf_w α 5 (6 * l + cn (μ 95) (90 + 13 * l)) (nI a)) 4 l from by rw [rf_w_at, if_neg (fun h => absurd h.1 (by decide))])]
              try rw [(show (rf_w α 5 (6 * l + cn (μ 95) (90 + 13 * l)) (nI a)) 4 l = α 4 l from by rw [rf_w_at, if_neg (fun h => absurd h.1 (by decide))])]
              try rw [(show α 4 l = μ 95 (90 + 13 * l) from rl_3 hR (i := l) (by omega) (by omega))]
              try rw [(show ((μ 95 (90 + 13 * l)) + (nI 1)) = nI (1 + cn (μ 95) (90 + 13 * l)) from rf_eq (rf_nadd (x := μ 95 (90 + 13 * l)) (y := nI 1) (hI.atb (k := (90 + 13 * l)) (bd_90 (i := l) (by omega) (by omega)) (by decide)) rfl) (by omega))]
              try rw [(show (nI l).toNatClampNeg = l from rf_cl_n rfl (by omega))]
              try rw [(show (rf_w (rf_w (rf_w α 5 (6 * l + cn (μ 95) (90 + 13 * l)) (nI a)) 6 (6 * l + cn (μ 95) (90 + 13 * l)) (nI g)) 4 l (nI (1 + cn (μ 95) (90 + 13 * l)))) 4 l = (nI (1 + cn (μ 95) (90 + 13 * l))) from by rw [rf_w_at, if_pos ⟨rfl, rfl⟩])]
              refine ok_reti eX4_lengthen_45 rfl ?_
              exact ⟨rfl, rfl⟩
            refine ok_V (As := [.int (nI l), .int (nI a), .int (nI g)]) (b := 2) (st := []) mkX4_lengthen qX11_extend_97 rfl (rc_2) rfl rfl rfl rfl (Nat.le_of_ble_eq_true rfl) (hc97) ?_
            refine ok_reti eX11_extend_100 rfl ?_
            refine ⟨rfl, _, rfl, ?_⟩
            refine ok_step (ps := []) (L' := [some (.ref 94), some (.int (nI l)), some (.int (nI a)), some (.int (nI g)), none]) (st' := [.int (nI l), .ref 94]) (σ' := (rf_w (rf_w (rf_w α 5 (6 * l + cn (μ 95) (90 + 13 * l)) (nI a)) 6 (6 * l + cn (μ 95) (90 + 13 * l)) (nI g)) 4 l (nI (1 + cn (μ 95) (90 + 13 * l))), μ)) (pc' := 2) kX12_extend_0 rfl rfl rf_a0 ?_
            refine ok_V (As := [.int (nI l)]) (b := 94) (st := []) mkX12_isLine qX12_extend_2 rfl (rc_94) rfl rfl rfl rfl (Nat.le_of_ble_eq_true rfl) (m_isLine) ?_
            refine ok_if_eq bX12_extend_5 (fun g5 => absurd g5 (h5)) (fun _ => ?_)
            refine ok_step (ps := []) (L' := [some (.ref 94), some (.int (nI l)), some (.int (nI a)), some (.int (nI g)), none]) (st' := [.int (nI a), .ref 94]) (σ' := (rf_w (rf_w (rf_w α 5 (6 * l + cn (μ 95) (90 + 13 * l)) (nI a)) 6 (6 * l + cn (μ 95) (90 + 13 * l)) (nI g)) 4 l (nI (1 + cn (μ 95) (90 + 13 * l))), μ)) (pc' := 10) kX12_extend_8 rfl rfl rf_a0 ?_
            refine ok_V (As := [.int (nI a)]) (b := 94) (st := []) mkX12_isStation qX12_extend_10 rfl (rc_94) rfl rfl rfl rfl (Nat.le_of_ble_eq_true rfl) (m_isStation) ?_
            refine ok_if_eq bX12_extend_13 (fun g13 => absurd g13 (h13)) (fun _ => ?_)
            refine ok_step (ps := []) (L' := [some (.ref 94), some (.int (nI l)), some (.int (nI a)), some (.int (nI g)), none]) (st' := [.long (lN 30), .long (lN 1), .long ((nI g).toInt64)]) (σ' := (rf_w (rf_w (rf_w α 5 (6 * l + cn (μ 95) (90 + 13 * l)) (nI a)) 6 (6 * l + cn (μ 95) (90 + 13 * l)) (nI g)) 4 l (nI (1 + cn (μ 95) (90 + 13 * l))), μ)) (pc' := 22) kX12_extend_16 rfl rfl rf_a0 ?_
            refine ok_S (As := [.long ((nI g).toInt64), .long (lN 1), .long (lN 30)]) (st := []) mkX12_in qX12_extend_22 rfl rfl rfl rfl rfl (Nat.le_of_ble_eq_true rfl) (m_in) ?_
            rw [show wl ((nI g).toInt64) (lN 1) (lN 30) = wi (nI g) (nI 1) (nI 30) from wl_of rfl (nI_l (by decide)).symm (nI_l (by decide)).symm]
            refine ok_if_ne bX12_extend_25 (fun _ => ?_) (fun g25 => absurd g25 (h23))
            refine ok_step (ps := [rf_in ((nI 90) + ((nI 13) * (nI l))) 700, rf_in (((nI 90) + ((nI 13) * (nI l))) + (μ 95 (((nI 90) + ((nI 13) * (nI l))).toNatClampNeg))) 700]) (L' := [some (.ref 94), some (.int (nI l)), some (.int (nI a)), some (.int (nI g)), some (.int ((nI 90) + ((nI 13) * (nI l))))]) (st' := [.int (nI a), .int (μ 95 ((((nI 90) + ((nI 13) * (nI l))) + (μ 95 (((nI 90) + ((nI 13) * (nI l))).toNatClampNeg))).toNatClampNeg))]) (σ' := (rf_w (rf_w (rf_w α 5 (6 * l + cn (μ 95) (90 + 13 * l)) (nI a)) 6 (6 * l + cn (μ 95) (90 + 13 * l)) (nI g)) 4 l (nI (1 + cn (μ 95) (90 + 13 * l))), μ)) (pc' := 59) kX12_extend_34 rfl rfl (rf_a1 (rf_in_n (a := (90 + 13 * l)) (by (try rw [(show ((nI 13) * (nI l)) = nI (13 * l) from rf_eq (rf_nmul (x := nI 13) (y := nI l) rfl rfl) (by omega))]); (try rw [(show ((nI 90) + (nI (13 * l))) = nI (90 + 13 * l) from rf_eq (rf_nadd (x := nI 90) (y := nI (13 * l)) rfl rfl) (by omega))]); all_goals exact rfl) (by omega)) (rf_a1 (rf_in_n (a := (90 + 13 * l + cn (μ 95) (90 + 13 * l))) (by (try rw [(show ((nI 13) * (nI l)) = nI (13 * l) from rf_eq (rf_nmul (x := nI 13) (y := nI l) rfl rfl) (by omega))]); (try rw [(show ((nI 90) + (nI (13 * l))) = nI (90 + 13 * l) from rf_eq (rf_nadd (x := nI 90) (y := nI (13 * l)) rfl rfl) (by omega))]); (try rw [(show (nI (90 + 13 * l)).toNatClampNeg = (90 + 13 * l) from rf_cl_n rfl (by omega))]); (try rw [(show ((nI (90 + 13 * l)) + (μ 95 (90 + 13 * l))) = nI (90 + 13 * l + cn (μ 95) (90 + 13 * l)) from rf_eq (rf_nadd (x := nI (90 + 13 * l)) (y := μ 95 (90 + 13 * l)) rfl (hI.atb (k := (90 + 13 * l)) (bd_90 (i := l) (by omega) (by omega)) (by decide))) (by omega))]); all_goals exact rfl) (by omega)) rf_a0)) ?_
            try rw [(show ((nI 13) * (nI l)) = nI (13 * l) from rf_eq (rf_nmul (x := nI 13) (y := nI l) rfl rfl) (by omega))]
            try rw [(show ((nI 90) + (nI (13 * l))) = nI (90 + 13 * l) from rf_eq (rf_nadd (x := nI 90) (y := nI (13 * l)) rfl rfl) (by omega))]
            try rw [(show (nI (90 + 13 * l)).toNatClampNeg = (90 + 13 * l) from rf_cl_n rfl (by omega))]
            try rw [(show ((nI (90 + 13 * l)) + (μ 95 (90 + 13 * l))) = nI (90 + 13 * l + cn (μ 95) (90 + 13 * l)) from rf_eq (rf_nadd (x := nI (90 + 13 * l)) (y := μ 95 (90 + 13 * l)) rfl (hI.atb (k := (90 + 13 * l)) (bd_90 (i := l) (by omega) (by omega)) (by decide))) (by omega))]
            try rw [(show (nI (90 + 13 * l + cn (μ 95) (90 + 13 * l))).toNatClampNeg = (90 + 13 * l + cn (μ 95) (90 + 13 * l)) from rf_cl_n rfl (by omega))]
            refine ok_icmp_ne bX12_extend_59 (fun _ => ?_) (fun g59 => absurd g59 ((by rw [show 90 + 13 * l + cn (μ 95) (90 + 13 * l) = 91 + 13 * l + (cn (μ 95) (90 + 13 * l) - 1) by omega]; exact h63)))
            refine ok_step (ps := [rf_in (nI (90 + 13 * l)) 700]) (L' := [some (.ref 94), some (.int (nI l)), some (.int (nI a)), some (.int (nI g)), some (.int (nI (90 + 13 * l)))]) (st' := [.int (nI 6), .int (μ 95 ((nI (90 + 13 * l)).toNatClampNeg))]) (σ' := (rf_w (rf_w (rf_w α 5 (6 * l + cn (μ 95) (90 + 13 * l)) (nI a)) 6 (6 * l + cn (μ 95) (90 + 13 * l)) (nI g)) 4 l (nI (1 + cn (μ 95) (90 + 13 * l))), μ)) (pc' := 77) kX12_extend_68 rfl rfl (rf_a1 (rf_in_n (a := (90 + 13 * l)) rfl (by omega)) rf_a0) ?_
            try rw [(show (nI (90 + 13 * l)).toNatClampNeg = (90 + 13 * l) from rf_cl_n rfl (by omega))]
            refine ok_icmp_ne bX12_extend_77 (fun _ => ?_) (fun g77 => absurd g77 ((lt_ne h77)))
            refine ok_step (ps := [rf_in (nI (90 + 13 * l)) 700, rf_in (nI (90 + 13 * l)) 700, rf_in (nI (90 + 13 * l)) 700, rf_in ((nI (90 + 13 * l)) + ((rf_w μ 95 ((nI (90 + 13 * l)).toNatClampNeg) ((μ 95 ((nI (90 + 13 * l)).toNatClampNeg)) + (nI 1))) 95 ((nI (90 + 13 * l)).toNatClampNeg))) 700, rf_in (nI (90 + 13 * l)) 700, rf_in (((nI (90 + 13 * l)) + (nI 5)) + ((rf_w (rf_w μ 95 ((nI (90 + 13 * l)).toNatClampNeg) ((μ 95 ((nI (90 + 13 * l)).toNatClampNeg)) + (nI 1))) 95 (((nI (90 + 13 * l)) + ((rf_w μ 95 ((nI (90 + 13 * l)).toNatClampNeg) ((μ 95 ((nI (90 + 13 * l)).toNatClampNeg)) + (nI 1))) 95 ((nI (90 + 13 * l)).toNatClampNeg))).toNatClampNeg) (nI a)) 95 ((nI (90 + 13 * l)).toNatClampNeg))) 700, rf_in (nI (90 + 13 * l)) 700]) (L' := [some (.ref 94), some (.int (nI l)), some (.int (nI a)), some (.int (nI g)), some (.int (nI (90 + 13 * l)))]) (st' := [.int ((rf_w (rf_w (rf_w μ 95 ((nI (90 + 13 * l)).toNatClampNeg) ((μ 95 ((nI (90 + 13 * l)).toNatClampNeg)) + (nI 1))) 95 (((nI (90 + 13 * l)) + ((rf_w μ 95 ((nI (90 + 13 * l)).toNatClampNeg) ((μ 95 ((nI (90 + 13 * l)).toNatClampNeg)) + (nI 1))) 95 ((nI (90 + 13 * l)).toNatClampNeg))).toNatClampNeg) (nI a)) 95 ((((nI (90 + 13 * l)) + (nI 5)) + ((rf_w (rf_w μ 95 ((nI (90 + 13 * l)).toNatClampNeg) ((μ 95 ((nI (90 + 13 * l)).toNatClampNeg)) + (nI 1))) 95 (((nI (90 + 13 * l)) + ((rf_w μ 95 ((nI (90 + 13 * l)).toNatClampNeg) ((μ 95 ((nI (90 + 13 * l)).toNatClampNeg)) + (nI 1))) 95 ((nI (90 + 13 * l)).toNatClampNeg))).toNatClampNeg) (nI a)) 95 ((nI (90 + 13 * l)).toNatClampNeg))).toNatClampNeg) (nI g)) 95 ((nI (90 + 13 * l)).toNatClampNeg))]) (σ' := (rf_w (rf_w (rf_w α 5 (6 * l + cn (μ 95) (90 + 13 * l)) (nI a)) 6 (6 * l + cn (μ 95) (90 + 13 * l)) (nI g)) 4 l (nI (1 + cn (μ 95) (90 + 13 * l))), rf_w (rf_w (rf_w μ 95 ((nI (90 + 13 * l)).toNatClampNeg) ((μ 95 ((nI (90 + 13 * l)).toNatClampNeg)) + (nI 1))) 95 (((nI (90 + 13 * l)) + ((rf_w μ 95 ((nI (90 + 13 * l)).toNatClampNeg) ((μ 95 ((nI (90 + 13 * l)).toNatClampNeg)) + (nI 1))) 95 ((nI (90 + 13 * l)).toNatClampNeg))).toNatClampNeg) (nI a)) 95 ((((nI (90 + 13 * l)) + (nI 5)) + ((rf_w (rf_w μ 95 ((nI (90 + 13 * l)).toNatClampNeg) ((μ 95 ((nI (90 + 13 * l)).toNatClampNeg)) + (nI 1))) 95 (((nI (90 + 13 * l)) + ((rf_w μ 95 ((nI (90 + 13 * l)).toNatClampNeg) ((μ 95 ((nI (90 + 13 * l)).toNatClampNeg)) + (nI 1))) 95 ((nI (90 + 13 * l)).toNatClampNeg))).toNatClampNeg) (nI a)) 95 ((nI (90 + 13 * l)).toNatClampNeg))).toNatClampNeg) (nI g))) (pc' := 138) kX12_extend_86 rfl rfl (rf_a1 (rf_in_n (a := (90 + 13 * l)) rfl (by omega)) (rf_a1 (rf_in_n (a := (90 + 13 * l)) rfl (by omega)) (rf_a1 (rf_in_n (a := (90 + 13 * l)) rfl (by omega)) (rf_a1 (rf_in_n (a := (91 + 13 * l + cn (μ 95) (90 + 13 * l))) (by (try rw [(show (nI (90 + 13 * l)).toNatClampNeg = (90 + 13 * l) from rf_cl_n rfl (by omega))]); (try rw [(show ((μ 95 (90 + 13 * l)) + (nI 1)) = nI (1 + cn (μ 95) (90 + 13 * l)) from rf_eq (rf_nadd (x := μ 95 (90 + 13 * l)) (y := nI 1) (hI.atb (k := (90 + 13 * l)) (bd_90 (i := l) (by omega) (by omega)) (by decide)) rfl) (by omega))]); (try rw [(show (nI (90 + 13 * l)).toNatClampNeg = (90 + 13 * l) from rf_cl_n rfl (by omega))]); (try rw [(show (nI (90 + 13 * l)).toNatClampNeg = (90 + 13 * l) from rf_cl_n rfl (by omega))]); (try rw [(show (rf_w μ 95 (90 + 13 * l) (nI (1 + cn (μ 95) (90 + 13 * l)))) 95 (90 + 13 * l) = (nI (1 + cn (μ 95) (90 + 13 * l))) from by rw [rf_w_at, if_pos ⟨rfl, rfl⟩])]); (try rw [(show ((nI (90 + 13 * l)) + (nI (1 + cn (μ 95) (90 + 13 * l)))) = nI (91 + 13 * l + cn (μ 95) (90 + 13 * l)) from rf_eq (rf_nadd (x := nI (90 + 13 * l)) (y := nI (1 + cn (μ 95) (90 + 13 * l))) rfl rfl) (by omega))]); all_goals exact rfl) (by omega)) (rf_a1 (rf_in_n (a := (90 + 13 * l)) rfl (by omega)) (rf_a1 (rf_in_n (a := (96 + 13 * l + cn (μ 95) (90 + 13 * l))) (by (try rw [(show (nI (90 + 13 * l)).toNatClampNeg = (90 + 13 * l) from rf_cl_n rfl (by omega))]); (try rw [(show ((μ 95 (90 + 13 * l)) + (nI 1)) = nI (1 + cn (μ 95) (90 + 13 * l)) from rf_eq (rf_nadd (x := μ 95 (90 + 13 * l)) (y := nI 1) (hI.atb (k := (90 + 13 * l)) (bd_90 (i := l) (by omega) (by omega)) (by decide)) rfl) (by omega))]); (try rw [(show (nI (90 + 13 * l)).toNatClampNeg = (90 + 13 * l) from rf_cl_n rfl (by omega))]); (try rw [(show (nI (90 + 13 * l)).toNatClampNeg = (90 + 13 * l) from rf_cl_n rfl (by omega))]); (try rw [(show (rf_w μ 95 (90 + 13 * l) (nI (1 + cn (μ 95) (90 + 13 * l)))) 95 (90 + 13 * l) = (nI (1 + cn (μ 95) (90 + 13 * l))) from by rw [rf_w_at, if_pos ⟨rfl, rfl⟩])]); (try rw [(show ((nI (90 + 13 * l)) + (nI (1 + cn (μ 95) (90 + 13 * l)))) = nI (91 + 13 * l + cn (μ 95) (90 + 13 * l)) from rf_eq (rf_nadd (x := nI (90 + 13 * l)) (y := nI (1 + cn (μ 95) (90 + 13 * l))) rfl rfl) (by omega))]); (try rw [(show (nI (91 + 13 * l + cn (μ 95) (90 + 13 * l))).toNatClampNeg = (91 + 13 * l + cn (μ 95) (90 + 13 * l)) from rf_cl_n rfl (by omega))]); (try rw [(show ((nI (90 + 13 * l)) + (nI 5)) = nI (95 + 13 * l) from rf_eq (rf_nadd (x := nI (90 + 13 * l)) (y := nI 5) rfl rfl) (by omega))]); (try rw [(show (nI (90 + 13 * l)).toNatClampNeg = (90 + 13 * l) from rf_cl_n rfl (by omega))]); (try rw [(show (rf_w (rf_w μ 95 (90 + 13 * l) (nI (1 + cn (μ 95) (90 + 13 * l)))) 95 (91 + 13 * l + cn (μ 95) (90 + 13 * l)) (nI a)) 95 (90 + 13 * l) = (rf_w μ 95 (90 + 13 * l) (nI (1 + cn (μ 95) (90 + 13 * l)))) 95 (90 + 13 * l) from by rw [rf_w_at, if_neg (fun h => absurd h.2 (by omega))])]); (try rw [(show (rf_w μ 95 (90 + 13 * l) (nI (1 + cn (μ 95) (90 + 13 * l)))) 95 (90 + 13 * l) = (nI (1 + cn (μ 95) (90 + 13 * l))) from by rw [rf_w_at, if_pos ⟨rfl, rfl⟩])]); (try rw [(show ((nI (95 + 13 * l)) + (nI (1 + cn (μ 95) (90 + 13 * l)))) = nI (96 + 13 * l + cn (μ 95) (90 + 13 * l)) from rf_eq (rf_nadd (x := nI (95 + 13 * l)) (y := nI (1 + cn (μ 95) (90 + 13 * l))) rfl rfl) (by omega))]); all_goals exact rfl) (by omega)) (rf_a1 (rf_in_n (a := (90 + 13 * l)) rfl (by omega)) rf_a0))))))) ?_
            try rw [(show (nI (90 + 13 * l)).toNatClampNeg = (90 + 13 * l) from rf_cl_n rfl (by omega))]
            try rw [(show ((μ 95 (90 + 13 * l)) + (nI 1)) = nI (1 + cn (μ 95) (90 + 13 * l)) from rf_eq (rf_nadd (x := μ 95 (90 + 13 * l)) (y := nI 1) (hI.atb (k := (90 + 13 * l)) (bd_90 (i := l) (by omega) (by omega)) (by decide)) rfl) (by omega))]
            try rw [(show (nI (90 + 13 * l)).toNatClampNeg = (90 + 13 * l) from rf_cl_n rfl (by omega))]
            try rw [(show (rf_w μ 95 (90 + 13 * l) (nI (1 + cn (μ 95) (90 + 13 * l)))) 95 (90 + 13 * l) = (nI (1 + cn (μ 95) (90 + 13 * l))) from by rw [rf_w_at, if_pos ⟨rfl, rfl⟩])]
            try rw [(show ((nI (90 + 13 * l)) + (nI (1 + cn (μ 95) (90 + 13 * l)))) = nI (91 + 13 * l + cn (μ 95) (90 + 13 * l)) from rf_eq (rf_nadd (x := nI (90 + 13 * l)) (y := nI (1 + cn (μ 95) (90 + 13 * l))) rfl rfl) (by omega))]
            try rw [(show (nI (91 + 13 * l + cn (μ 95) (90 + 13 * l))).toNatClampNeg = (91 + 13 * l + cn (μ 95) (90 + 13 * l)) from rf_cl_n rfl (by omega))]
            try rw [(show ((nI (90 + 13 * l)) + (nI 5)) = nI (95 + 13 * l) from rf_eq (rf_nadd (x := nI (90 + 13 * l)) (y := nI 5) rfl rfl) (by omega))]
            try rw [(show (nI (90 + 13 * l)).toNatClampNeg = (90 + 13 * l) from rf_cl_n rfl (by omega))]
            try rw [(show (rf_w (rf_w μ 95 (90 + 13 * l) (nI (1 + cn (μ 95) (90 + 13 * l)))) 95 (91 + 13 * l + cn (μ 95) (90 + 13 * l)) (nI a)) 95 (90 + 13 * l) = (rf_w μ 95 (90 + 13 * l) (nI (1 + cn (μ 95) (90 + 13 * l)))) 95 (90 + 13 * l) from by rw [rf_w_at, if_neg (fun h => absurd h.2 (by omega))])]
            try rw [(show (rf_w μ 95 (90 + 13 * l) (nI (1 + cn (μ 95) (90 + 13 * l)))) 95 (90 + 13 * l) = (nI (1 + cn (μ 95) (90 + 13 * l))) from by rw [rf_w_at, if_pos ⟨rfl, rfl⟩])]
            try rw [(show ((nI (95 + 13 * l)) + (nI (1 + cn (μ 95) (90 + 13 * l)))) = nI (96 + 13 * l + cn (μ 95) (90 + 13 * l)) from rf_eq (rf_nadd (x := nI (95 + 13 * l)) (y := nI (1 + cn (μ 95) (90 + 13 * l))) rfl rfl) (by omega))]
            try rw [(show (nI (96 + 13 * l + cn (μ 95) (90 + 13 * l))).toNatClampNeg = (96 + 13 * l + cn (μ 95) (90 + 13 * l)) from rf_cl_n rfl (by omega))]
            try rw [(show (nI (90 + 13 * l)).toNatClampNeg = (90 + 13 * l) from rf_cl_n rfl (by omega))]
            try rw [(show (rf_w (rf_w (rf_w μ 95 (90 + 13 * l) (nI (1 + cn (μ 95) (90 + 13 * l)))) 95 (91 + 13 * l + cn (μ 95) (90 + 13 * l)) (nI a)) 95 (96 + 13 * l + cn (μ 95) (90 + 13 * l)) (nI g)) 95 (90 + 13 * l) = (rf_w (rf_w μ 95 (90 + 13 * l) (nI (1 + cn (μ 95) (90 + 13 * l)))) 95 (91 + 13 * l + cn (μ 95) (90 + 13 * l)) (nI a)) 95 (90 + 13 * l) from by rw [rf_w_at, if_neg (fun h => absurd h.2 (by omega))])]
            try rw [(show (rf_w (rf_w μ 95 (90 + 13 * l) (nI (1 + cn (μ 95) (90 + 13 * l)))) 95 (91 + 13 * l + cn (μ 95) (90 + 13 * l)) (nI a)) 95 (90 + 13 * l) = (rf_w μ 95 (90 + 13 * l) (nI (1 + cn (μ 95) (90 + 13 * l)))) 95 (90 + 13 * l) from by rw [rf_w_at, if_neg (fun h => absurd h.2 (by omega))])]
            try rw [(show (rf_w μ 95 (90 + 13 * l) (nI (1 + cn (μ 95) (90 + 13 * l)))) 95 (90 + 13 * l) = (nI (1 + cn (μ 95) (90 + 13 * l))) from by rw [rf_w_at, if_pos ⟨rfl, rfl⟩])]
            refine ok_reti eX12_extend_138 rfl ?_
            refine ⟨rfl, _, rfl, J0.mc (((hJ.1.put (c := 4) (i := (6 * l + cn (μ 95) (90 + 13 * l))) (j := (91 + 13 * l + cn (μ 95) (90 + 13 * l))) (off_4 (l := l) (k := (cn (μ 95) (90 + 13 * l))) (by omega) (by omega) (by omega) (by omega)) _).put (c := 5) (i := (6 * l + cn (μ 95) (90 + 13 * l))) (j := (96 + 13 * l + cn (μ 95) (90 + 13 * l))) (off_5 (l := l) (k := (cn (μ 95) (90 + 13 * l))) (by omega) (by omega) (by omega) (by omega)) _).put (c := 3) (i := l) (j := (90 + 13 * l)) (off_3 (by omega) (by omega)) _) (fun i => ?_) (fun k hk => ?_), ?_⟩
            · simp only [rf_w_at, true_and, reduceIte]
              try (repeat' split)
              all_goals first | rfl | omega | (exfalso; omega)
            · simp only [rf_w_row hk]
            · try simp only [rf_w_self]
              exact ((hI.put90 (l := l) (m := (1 + cn (μ 95) (90 + 13 * l))) (by omega) (by omega) (by omega)).put (fun bb hb => ⟨a, by rw [bd_row (l := l) (i := 91 + cn (μ 95) (90 + 13 * l) - 91) (by omega) (by omega) (by omega)] at hb; cases hb; omega, rfl⟩) (by unfold nst; omega)).put (fun bb hb => ⟨g, by rw [bd_leg (l := l) (i := 96 + cn (μ 95) (90 + 13 * l) - 97) (by omega) (by omega) (by omega)] at hb; cases hb; omega, rfl⟩) (by unfold nst; omega)
          · refine ok_step (ps := []) (L' := [some (.ref 0), some (.int (nI l)), some (.int (nI a)), some (.int (nI g)), some (.int (μ 95 (90 + 13 * l)))]) (st' := [.int (-1000000004), .ref 0]) (σ' := (α, μ)) (pc' := 83) kX11_extend_80 rfl rfl rf_a0 ?_
            refine ok_V (As := [.int (-1000000004)]) (b := 0) (st := []) mkX11_error qX11_extend_83 rfl (rc_0) rfl rfl rfl rfl (Nat.le_of_ble_eq_true rfl) (c_error (k := 4) (by decide) (by decide) (by decide)) ?_
            refine ok_reti eX11_extend_86 rfl ?_
            refine ⟨rfl, _, rfl, ?_⟩
            refine ok_step (ps := []) (L' := [some (.ref 94), some (.int (nI l)), some (.int (nI a)), some (.int (nI g)), none]) (st' := [.int (nI l), .ref 94]) (σ' := (rf_w α 93 4 (α 93 4 + nI 1), μ)) (pc' := 2) kX12_extend_0 rfl rfl rf_a0 ?_
            refine ok_V (As := [.int (nI l)]) (b := 94) (st := []) mkX12_isLine qX12_extend_2 rfl (rc_94) rfl rfl rfl rfl (Nat.le_of_ble_eq_true rfl) (m_isLine) ?_
            refine ok_if_eq bX12_extend_5 (fun g5 => absurd g5 (h5)) (fun _ => ?_)
            refine ok_step (ps := []) (L' := [some (.ref 94), some (.int (nI l)), some (.int (nI a)), some (.int (nI g)), none]) (st' := [.int (nI a), .ref 94]) (σ' := (rf_w α 93 4 (α 93 4 + nI 1), μ)) (pc' := 10) kX12_extend_8 rfl rfl rf_a0 ?_
            refine ok_V (As := [.int (nI a)]) (b := 94) (st := []) mkX12_isStation qX12_extend_10 rfl (rc_94) rfl rfl rfl rfl (Nat.le_of_ble_eq_true rfl) (m_isStation) ?_
            refine ok_if_eq bX12_extend_13 (fun g13 => absurd g13 (h13)) (fun _ => ?_)
            refine ok_step (ps := []) (L' := [some (.ref 94), some (.int (nI l)), some (.int (nI a)), some (.int (nI g)), none]) (st' := [.long (lN 30), .long (lN 1), .long ((nI g).toInt64)]) (σ' := (rf_w α 93 4 (α 93 4 + nI 1), μ)) (pc' := 22) kX12_extend_16 rfl rfl rf_a0 ?_
            refine ok_S (As := [.long ((nI g).toInt64), .long (lN 1), .long (lN 30)]) (st := []) mkX12_in qX12_extend_22 rfl rfl rfl rfl rfl (Nat.le_of_ble_eq_true rfl) (m_in) ?_
            rw [show wl ((nI g).toInt64) (lN 1) (lN 30) = wi (nI g) (nI 1) (nI 30) from wl_of rfl (nI_l (by decide)).symm (nI_l (by decide)).symm]
            refine ok_if_ne bX12_extend_25 (fun _ => ?_) (fun g25 => absurd g25 (h23))
            refine ok_step (ps := [rf_in ((nI 90) + ((nI 13) * (nI l))) 700, rf_in (((nI 90) + ((nI 13) * (nI l))) + (μ 95 (((nI 90) + ((nI 13) * (nI l))).toNatClampNeg))) 700]) (L' := [some (.ref 94), some (.int (nI l)), some (.int (nI a)), some (.int (nI g)), some (.int ((nI 90) + ((nI 13) * (nI l))))]) (st' := [.int (nI a), .int (μ 95 ((((nI 90) + ((nI 13) * (nI l))) + (μ 95 (((nI 90) + ((nI 13) * (nI l))).toNatClampNeg))).toNatClampNeg))]) (σ' := (rf_w α 93 4 (α 93 4 + nI 1), μ)) (pc' := 59) kX12_extend_34 rfl rfl (rf_a1 (rf_in_n (a := (90 + 13 * l)) (by (try rw [(show ((nI 13) * (nI l)) = nI (13 * l) from rf_eq (rf_nmul (x := nI 13) (y := nI l) rfl rfl) (by omega))]); (try rw [(show ((nI 90) + (nI (13 * l))) = nI (90 + 13 * l) from rf_eq (rf_nadd (x := nI 90) (y := nI (13 * l)) rfl rfl) (by omega))]); all_goals exact rfl) (by omega)) (rf_a1 (rf_in_n (a := (90 + 13 * l + cn (μ 95) (90 + 13 * l))) (by (try rw [(show ((nI 13) * (nI l)) = nI (13 * l) from rf_eq (rf_nmul (x := nI 13) (y := nI l) rfl rfl) (by omega))]); (try rw [(show ((nI 90) + (nI (13 * l))) = nI (90 + 13 * l) from rf_eq (rf_nadd (x := nI 90) (y := nI (13 * l)) rfl rfl) (by omega))]); (try rw [(show (nI (90 + 13 * l)).toNatClampNeg = (90 + 13 * l) from rf_cl_n rfl (by omega))]); (try rw [(show ((nI (90 + 13 * l)) + (μ 95 (90 + 13 * l))) = nI (90 + 13 * l + cn (μ 95) (90 + 13 * l)) from rf_eq (rf_nadd (x := nI (90 + 13 * l)) (y := μ 95 (90 + 13 * l)) rfl (hI.atb (k := (90 + 13 * l)) (bd_90 (i := l) (by omega) (by omega)) (by decide))) (by omega))]); all_goals exact rfl) (by omega)) rf_a0)) ?_
            try rw [(show ((nI 13) * (nI l)) = nI (13 * l) from rf_eq (rf_nmul (x := nI 13) (y := nI l) rfl rfl) (by omega))]
            try rw [(show ((nI 90) + (nI (13 * l))) = nI (90 + 13 * l) from rf_eq (rf_nadd (x := nI 90) (y := nI (13 * l)) rfl rfl) (by omega))]
            try rw [(show (nI (90 + 13 * l)).toNatClampNeg = (90 + 13 * l) from rf_cl_n rfl (by omega))]
            try rw [(show ((nI (90 + 13 * l)) + (μ 95 (90 + 13 * l))) = nI (90 + 13 * l + cn (μ 95) (90 + 13 * l)) from rf_eq (rf_nadd (x := nI (90 + 13 * l)) (y := μ 95 (90 + 13 * l)) rfl (hI.atb (k := (90 + 13 * l)) (bd_90 (i := l) (by omega) (by omega)) (by decide))) (by omega))]
            try rw [(show (nI (90 + 13 * l + cn (μ 95) (90 + 13 * l))).toNatClampNeg = (90 + 13 * l + cn (μ 95) (90 + 13 * l)) from rf_cl_n rfl (by omega))]
            refine ok_icmp_ne bX12_extend_59 (fun _ => ?_) (fun g59 => absurd g59 ((by rw [show 90 + 13 * l + cn (μ 95) (90 + 13 * l) = 91 + 13 * l + (cn (μ 95) (90 + 13 * l) - 1) by omega]; exact h63)))
            refine ok_step (ps := [rf_in (nI (90 + 13 * l)) 700]) (L' := [some (.ref 94), some (.int (nI l)), some (.int (nI a)), some (.int (nI g)), some (.int (nI (90 + 13 * l)))]) (st' := [.int (nI 6), .int (μ 95 ((nI (90 + 13 * l)).toNatClampNeg))]) (σ' := (rf_w α 93 4 (α 93 4 + nI 1), μ)) (pc' := 77) kX12_extend_68 rfl rfl (rf_a1 (rf_in_n (a := (90 + 13 * l)) rfl (by omega)) rf_a0) ?_
            try rw [(show (nI (90 + 13 * l)).toNatClampNeg = (90 + 13 * l) from rf_cl_n rfl (by omega))]
            refine ok_icmp_ne bX12_extend_77 (fun g77 => absurd ((full_eq (hI.atb (k := (90 + 13 * l)) (bd_90 (i := l) (by omega) (by omega)) (by decide)) (by omega) h77)) g77) (fun _ => ?_)
            refine ok_step (ps := []) (L' := [some (.ref 94), some (.int (nI l)), some (.int (nI a)), some (.int (nI g)), some (.int (nI (90 + 13 * l)))]) (st' := [.int (nI 4), .ref 94]) (σ' := (rf_w α 93 4 (α 93 4 + nI 1), μ)) (pc' := 82) kX12_extend_80 rfl rfl rf_a0 ?_
            refine ok_V (As := [.int (nI 4)]) (b := 94) (st := []) mkX12_finds qX12_extend_82 rfl (rc_94) rfl rfl rfl rfl (Nat.le_of_ble_eq_true rfl) (m_finds (k := 4) (by decide)) ?_
            refine ok_reti eX12_extend_85 rfl ?_
            exact ⟨rfl, _, rfl, hJ.err (k := 4) (by decide)⟩
        · refine ok_step (ps := []) (L' := [some (.ref 0), some (.int (nI l)), some (.int (nI a)), some (.int (nI g)), some (.int (μ 95 (90 + 13 * l)))]) (st' := [.int (-1000000001), .ref 0]) (σ' := (α, μ)) (pc' := 69) kX11_extend_66 rfl rfl rf_a0 ?_
          refine ok_V (As := [.int (-1000000001)]) (b := 0) (st := []) mkX11_error qX11_extend_69 rfl (rc_0) rfl rfl rfl rfl (Nat.le_of_ble_eq_true rfl) (c_error (k := 1) (by decide) (by decide) (by decide)) ?_
          refine ok_reti eX11_extend_72 rfl ?_
          refine ⟨rfl, _, rfl, ?_⟩
          refine ok_step (ps := []) (L' := [some (.ref 94), some (.int (nI l)), some (.int (nI a)), some (.int (nI g)), none]) (st' := [.int (nI l), .ref 94]) (σ' := (rf_w α 93 1 (α 93 1 + nI 1), μ)) (pc' := 2) kX12_extend_0 rfl rfl rf_a0 ?_
          refine ok_V (As := [.int (nI l)]) (b := 94) (st := []) mkX12_isLine qX12_extend_2 rfl (rc_94) rfl rfl rfl rfl (Nat.le_of_ble_eq_true rfl) (m_isLine) ?_
          refine ok_if_eq bX12_extend_5 (fun g5 => absurd g5 (h5)) (fun _ => ?_)
          refine ok_step (ps := []) (L' := [some (.ref 94), some (.int (nI l)), some (.int (nI a)), some (.int (nI g)), none]) (st' := [.int (nI a), .ref 94]) (σ' := (rf_w α 93 1 (α 93 1 + nI 1), μ)) (pc' := 10) kX12_extend_8 rfl rfl rf_a0 ?_
          refine ok_V (As := [.int (nI a)]) (b := 94) (st := []) mkX12_isStation qX12_extend_10 rfl (rc_94) rfl rfl rfl rfl (Nat.le_of_ble_eq_true rfl) (m_isStation) ?_
          refine ok_if_eq bX12_extend_13 (fun g13 => absurd g13 (h13)) (fun _ => ?_)
          refine ok_step (ps := []) (L' := [some (.ref 94), some (.int (nI l)), some (.int (nI a)), some (.int (nI g)), none]) (st' := [.long (lN 30), .long (lN 1), .long ((nI g).toInt64)]) (σ' := (rf_w α 93 1 (α 93 1 + nI 1), μ)) (pc' := 22) kX12_extend_16 rfl rfl rf_a0 ?_
          refine ok_S (As := [.long ((nI g).toInt64), .long (lN 1), .long (lN 30)]) (st := []) mkX12_in qX12_extend_22 rfl rfl rfl rfl rfl (Nat.le_of_ble_eq_true rfl) (m_in) ?_
          rw [show wl ((nI g).toInt64) (lN 1) (lN 30) = wi (nI g) (nI 1) (nI 30) from wl_of rfl (nI_l (by decide)).symm (nI_l (by decide)).symm]
          refine ok_if_ne bX12_extend_25 (fun _ => ?_) (fun g25 => absurd g25 (h23))
          refine ok_step (ps := [rf_in ((nI 90) + ((nI 13) * (nI l))) 700, rf_in (((nI 90) + ((nI 13) * (nI l))) + (μ 95 (((nI 90) + ((nI 13) * (nI l))).toNatClampNeg))) 700]) (L' := [some (.ref 94), some (.int (nI l)), some (.int (nI a)), some (.int (nI g)), some (.int ((nI 90) + ((nI 13) * (nI l))))]) (st' := [.int (nI a), .int (μ 95 ((((nI 90) + ((nI 13) * (nI l))) + (μ 95 (((nI 90) + ((nI 13) * (nI l))).toNatClampNeg))).toNatClampNeg))]) (σ' := (rf_w α 93 1 (α 93 1 + nI 1), μ)) (pc' := 59) kX12_extend_34 rfl rfl (rf_a1 (rf_in_n (a := (90 + 13 * l)) (by (try rw [(show ((nI 13) * (nI l)) = nI (13 * l) from rf_eq (rf_nmul (x := nI 13) (y := nI l) rfl rfl) (by omega))]); (try rw [(show ((nI 90) + (nI (13 * l))) = nI (90 + 13 * l) from rf_eq (rf_nadd (x := nI 90) (y := nI (13 * l)) rfl rfl) (by omega))]); all_goals exact rfl) (by omega)) (rf_a1 (rf_in_n (a := (90 + 13 * l + cn (μ 95) (90 + 13 * l))) (by (try rw [(show ((nI 13) * (nI l)) = nI (13 * l) from rf_eq (rf_nmul (x := nI 13) (y := nI l) rfl rfl) (by omega))]); (try rw [(show ((nI 90) + (nI (13 * l))) = nI (90 + 13 * l) from rf_eq (rf_nadd (x := nI 90) (y := nI (13 * l)) rfl rfl) (by omega))]); (try rw [(show (nI (90 + 13 * l)).toNatClampNeg = (90 + 13 * l) from rf_cl_n rfl (by omega))]); (try rw [(show ((nI (90 + 13 * l)) + (μ 95 (90 + 13 * l))) = nI (90 + 13 * l + cn (μ 95) (90 + 13 * l)) from rf_eq (rf_nadd (x := nI (90 + 13 * l)) (y := μ 95 (90 + 13 * l)) rfl (hI.atb (k := (90 + 13 * l)) (bd_90 (i := l) (by omega) (by omega)) (by decide))) (by omega))]); all_goals exact rfl) (by omega)) rf_a0)) ?_
          try rw [(show ((nI 13) * (nI l)) = nI (13 * l) from rf_eq (rf_nmul (x := nI 13) (y := nI l) rfl rfl) (by omega))]
          try rw [(show ((nI 90) + (nI (13 * l))) = nI (90 + 13 * l) from rf_eq (rf_nadd (x := nI 90) (y := nI (13 * l)) rfl rfl) (by omega))]
          try rw [(show (nI (90 + 13 * l)).toNatClampNeg = (90 + 13 * l) from rf_cl_n rfl (by omega))]
          try rw [(show ((nI (90 + 13 * l)) + (μ 95 (90 + 13 * l))) = nI (90 + 13 * l + cn (μ 95) (90 + 13 * l)) from rf_eq (rf_nadd (x := nI (90 + 13 * l)) (y := μ 95 (90 + 13 * l)) rfl (hI.atb (k := (90 + 13 * l)) (bd_90 (i := l) (by omega) (by omega)) (by decide))) (by omega))]
          try rw [(show (nI (90 + 13 * l + cn (μ 95) (90 + 13 * l))).toNatClampNeg = (90 + 13 * l + cn (μ 95) (90 + 13 * l)) from rf_cl_n rfl (by omega))]
          refine ok_icmp_ne bX12_extend_59 (fun g59 => absurd ((by rw [show 90 + 13 * l + cn (μ 95) (90 + 13 * l) = 91 + 13 * l + (cn (μ 95) (90 + 13 * l) - 1) by omega]; exact h63)) g59) (fun _ => ?_)
          refine ok_step (ps := []) (L' := [some (.ref 94), some (.int (nI l)), some (.int (nI a)), some (.int (nI g)), some (.int (nI (90 + 13 * l)))]) (st' := [.int (nI 1), .ref 94]) (σ' := (rf_w α 93 1 (α 93 1 + nI 1), μ)) (pc' := 64) kX12_extend_62 rfl rfl rf_a0 ?_
          refine ok_V (As := [.int (nI 1)]) (b := 94) (st := []) mkX12_finds qX12_extend_64 rfl (rc_94) rfl rfl rfl rfl (Nat.le_of_ble_eq_true rfl) (m_finds (k := 1) (by decide)) ?_
          refine ok_reti eX12_extend_67 rfl ?_
          exact ⟨rfl, _, rfl, hJ.err (k := 1) (by decide)⟩
      · refine ok_step (ps := []) (L' := [some (.ref 0), some (.int (nI l)), some (.int (nI a)), some (.int leg), none]) (st' := [.int (-1000000001), .ref 0]) (σ' := (α, μ)) (pc' := 29) kX11_extend_26 rfl rfl rf_a0 ?_
        refine ok_V (As := [.int (-1000000001)]) (b := 0) (st := []) mkX11_error qX11_extend_29 rfl (rc_0) rfl rfl rfl rfl (Nat.le_of_ble_eq_true rfl) (c_error (k := 1) (by decide) (by decide) (by decide)) ?_
        refine ok_reti eX11_extend_32 rfl ?_
        refine ⟨rfl, _, rfl, ?_⟩
        refine ok_step (ps := []) (L' := [some (.ref 94), some (.int (nI l)), some (.int (nI a)), some (.int leg), none]) (st' := [.int (nI l), .ref 94]) (σ' := (rf_w α 93 1 (α 93 1 + nI 1), μ)) (pc' := 2) kX12_extend_0 rfl rfl rf_a0 ?_
        refine ok_V (As := [.int (nI l)]) (b := 94) (st := []) mkX12_isLine qX12_extend_2 rfl (rc_94) rfl rfl rfl rfl (Nat.le_of_ble_eq_true rfl) (m_isLine) ?_
        refine ok_if_eq bX12_extend_5 (fun g5 => absurd g5 (h5)) (fun _ => ?_)
        refine ok_step (ps := []) (L' := [some (.ref 94), some (.int (nI l)), some (.int (nI a)), some (.int leg), none]) (st' := [.int (nI a), .ref 94]) (σ' := (rf_w α 93 1 (α 93 1 + nI 1), μ)) (pc' := 10) kX12_extend_8 rfl rfl rf_a0 ?_
        refine ok_V (As := [.int (nI a)]) (b := 94) (st := []) mkX12_isStation qX12_extend_10 rfl (rc_94) rfl rfl rfl rfl (Nat.le_of_ble_eq_true rfl) (m_isStation) ?_
        refine ok_if_eq bX12_extend_13 (fun g13 => absurd g13 (h13)) (fun _ => ?_)
        refine ok_step (ps := []) (L' := [some (.ref 94), some (.int (nI l)), some (.int (nI a)), some (.int leg), none]) (st' := [.long (lN 30), .long (lN 1), .long leg.toInt64]) (σ' := (rf_w α 93 1 (α 93 1 + nI 1), μ)) (pc' := 22) kX12_extend_16 rfl rfl rf_a0 ?_
        refine ok_S (As := [.long leg.toInt64, .long (lN 1), .long (lN 30)]) (st := []) mkX12_in qX12_extend_22 rfl rfl rfl rfl rfl (Nat.le_of_ble_eq_true rfl) (m_in) ?_
        rw [show wl leg.toInt64 (lN 1) (lN 30) = wi leg (nI 1) (nI 30) from wl_of rfl (nI_l (by decide)).symm (nI_l (by decide)).symm]
        refine ok_if_ne bX12_extend_25 (fun g25 => absurd (h23) g25) (fun _ => ?_)
        refine ok_step (ps := []) (L' := [some (.ref 94), some (.int (nI l)), some (.int (nI a)), some (.int leg), none]) (st' := [.int (nI 1), .ref 94]) (σ' := (rf_w α 93 1 (α 93 1 + nI 1), μ)) (pc' := 30) kX12_extend_28 rfl rfl rf_a0 ?_
        refine ok_V (As := [.int (nI 1)]) (b := 94) (st := []) mkX12_finds qX12_extend_30 rfl (rc_94) rfl rfl rfl rfl (Nat.le_of_ble_eq_true rfl) (m_finds (k := 1) (by decide)) ?_
        refine ok_reti eX12_extend_33 rfl ?_
        exact ⟨rfl, _, rfl, hJ.err (k := 1) (by decide)⟩
theorem op_ofLine {line : Int32} {i : Int32} (hJ : J α μ)  : Op (rf_T Ln xs) MX11_ofLine MX12_ofLine [some (.ref 0), some (.int line), some (.int i)] [some (.ref 94), some (.int line), some (.int i), none] α μ := by
  have hR := hJ.1.1.1
  have hI := hJ.2
  have b0 := hI.le0
  have b1 := hI.le1
  have b2 := hI.le2
  have b3 := hI.le3
  have b4 := hI.le4
  have b5 := hI.le5
  have b6 := hI.le6
  have b8 := hI.le8
  have b9 := hI.le9
  have b11 := hI.le11
  have b12 := hI.le12
  refine ok_step (ps := []) (L' := [some (.ref 0), some (.int line), some (.int i)]) (st' := [.int line, .ref 0]) (σ' := (α, μ)) (pc' := 2) kX11_ofLine_0 rfl rfl rf_a0 ?_
  refine ok_V (As := [.int line]) (b := 0) (st := []) mkX11_isLine qX11_ofLine_2 rfl (rc_0) rfl rfl rfl rfl (Nat.le_of_ble_eq_true rfl) (c_isLine hR) ?_
  refine ok_if_eq bX11_ofLine_5 (fun h5 => ?_) (fun h5 => ?_)
  · refine ok_step (ps := []) (L' := [some (.ref 0), some (.int line), some (.int i)]) (st' := [.int (-1000000001), .ref 0]) (σ' := (α, μ)) (pc' := 16) kX11_ofLine_13 rfl rfl rf_a0 ?_
    refine ok_V (As := [.int (-1000000001)]) (b := 0) (st := []) mkX11_error qX11_ofLine_16 rfl (rc_0) rfl rfl rfl rfl (Nat.le_of_ble_eq_true rfl) (c_error (k := 1) (by decide) (by decide) (by decide)) ?_
    refine ok_reti eX11_ofLine_19 rfl ?_
    refine ⟨rfl, _, rfl, ?_⟩
    refine ok_step (ps := []) (L' := [some (.ref 94), some (.int line), some (.int i), none]) (st' := [.int line, .ref 94]) (σ' := (rf_w α 93 1 (α 93 1 + nI 1), μ)) (pc' := 2) kX12_ofLine_0 rfl rfl rf_a0 ?_
    refine ok_V (As := [.int line]) (b := 94) (st := []) mkX12_isLine qX12_ofLine_2 rfl (rc_94) rfl rfl rfl rfl (Nat.le_of_ble_eq_true rfl) (m_isLine) ?_
    refine ok_if_eq bX12_ofLine_5 (fun _ => ?_) (fun g5 => absurd (h5) g5)
    refine ok_step (ps := []) (L' := [some (.ref 94), some (.int line), some (.int i), none]) (st' := [.int (nI 1), .ref 94]) (σ' := (rf_w α 93 1 (α 93 1 + nI 1), μ)) (pc' := 15) kX12_ofLine_13 rfl rfl rf_a0 ?_
    refine ok_V (As := [.int (nI 1)]) (b := 94) (st := []) mkX12_finds qX12_ofLine_15 rfl (rc_94) rfl rfl rfl rfl (Nat.le_of_ble_eq_true rfl) (m_finds (k := 1) (by decide)) ?_
    refine ok_reti eX12_ofLine_18 rfl ?_
    exact ⟨rfl, _, rfl, hJ.err (k := 1) (by decide)⟩
  · obtain ⟨l, hl, rfl⟩ := wi_lt (bI_n0.mp h5) hI.at2 (by omega)
    have z2 := hI.2.1 l hl
    have z6 := hI.leb (k := 90 + 13 * l) (b := 6) (bd_90 (i := l) (by omega) rfl) (by decide)
    refine ok_step (ps := []) (L' := [some (.ref 0), some (.int (nI l)), some (.int i)]) (st' := [.int (-1), .int i]) (σ' := (α, μ)) (pc' := 10) kX11_ofLine_8 rfl rfl rf_a0 ?_
    refine ok_icmp_ge bX11_ofLine_10 (fun h10 => ?_) (fun h10 => ?_)
    · refine ok_step (ps := []) (L' := [some (.ref 0), some (.int (nI l)), some (.int i)]) (st' := [.int (-1), .int i]) (σ' := (α, μ)) (pc' := 22) kX11_ofLine_20 rfl rfl rf_a0 ?_
      refine ok_icmp_ne bX11_ofLine_22 (fun h22 => ?_) (fun h22 => ?_)
      · obtain ⟨k, hk, rfl⟩ := ge_m1 h10 h22
        refine ok_step (ps := [rf_in (nI l) 4]) (L' := [some (.ref 0), some (.int (nI l)), some (.int (nI k))]) (st' := [.int (α 4 ((nI l).toNatClampNeg)), .int (nI k)]) (σ' := (α, μ)) (pc' := 51) kX11_ofLine_38 rfl rfl (rf_a1 (rf_in_n (a := l) rfl (by omega)) rf_a0) ?_
        try rw [(show (nI l).toNatClampNeg = l from rf_cl_n rfl (by omega))]
        try rw [(show α 4 l = μ 95 (90 + 13 * l) from rl_3 hR (i := l) (by omega) (by omega))]
        refine ok_icmp_lt bX11_ofLine_51 (fun h51 => ?_) (fun h51 => ?_)
        · have l51 := lt_nat h51 (hI.atb (k := 90 + 13 * l) (b := 6) (bd_90 (i := l) (by omega) rfl) (by decide)) (by omega)
          refine ok_step (ps := []) (L' := [some (.ref 0), some (.int (nI l)), some (.int (nI k))]) (st' := [.int (nI k), .int (nI l), .ref 2]) (σ' := (α, μ)) (pc' := 70) kX11_ofLine_61 rfl rfl rf_a0 ?_
          refine ok_V (As := [.int (nI l), .int (nI k)]) (b := 2) (st := []) mkX4_ofRow qX11_ofLine_70 rfl (rc_2) rfl rfl rfl rfl (Nat.le_of_ble_eq_true rfl) (c_ofRow hR hI (by omega) (by omega)) ?_
          refine ok_reti eX11_ofLine_73 rfl ?_
          refine ⟨rfl, _, rfl, ?_⟩
          refine ok_step (ps := []) (L' := [some (.ref 94), some (.int (nI l)), some (.int (nI k)), none]) (st' := [.int (nI l), .ref 94]) (σ' := (α, μ)) (pc' := 2) kX12_ofLine_0 rfl rfl rf_a0 ?_
          refine ok_V (As := [.int (nI l)]) (b := 94) (st := []) mkX12_isLine qX12_ofLine_2 rfl (rc_94) rfl rfl rfl rfl (Nat.le_of_ble_eq_true rfl) (m_isLine) ?_
          refine ok_if_eq bX12_ofLine_5 (fun g5 => absurd g5 (h5)) (fun _ => ?_)
          refine ok_step (ps := []) (L' := [some (.ref 94), some (.int (nI l)), some (.int (nI k)), none]) (st' := [.int (-1), .int (nI k)]) (σ' := (α, μ)) (pc' := 10) kX12_ofLine_8 rfl rfl rf_a0 ?_
          refine ok_icmp_ge bX12_ofLine_10 (fun _ => ?_) (fun g10 => absurd (h10) g10)
          refine ok_step (ps := []) (L' := [some (.ref 94), some (.int (nI l)), some (.int (nI k)), some (.int ((nI 90) + ((nI 13) * (nI l))))]) (st' := [.int (-1), .int (nI k)]) (σ' := (α, μ)) (pc' := 29) kX12_ofLine_19 rfl rfl rf_a0 ?_
          try rw [(show ((nI 13) * (nI l)) = nI (13 * l) from rf_eq (rf_nmul (x := nI 13) (y := nI l) rfl rfl) (by omega))]
          try rw [(show ((nI 90) + (nI (13 * l))) = nI (90 + 13 * l) from rf_eq (rf_nadd (x := nI 90) (y := nI (13 * l)) rfl rfl) (by omega))]
          refine ok_icmp_ne bX12_ofLine_29 (fun _ => ?_) (fun g29 => absurd g29 (h22))
          refine ok_step (ps := [rf_in (nI (90 + 13 * l)) 700]) (L' := [some (.ref 94), some (.int (nI l)), some (.int (nI k)), some (.int (nI (90 + 13 * l)))]) (st' := [.int (μ 95 ((nI (90 + 13 * l)).toNatClampNeg)), .int (nI k)]) (σ' := (α, μ)) (pc' := 48) kX12_ofLine_41 rfl rfl (rf_a1 (rf_in_n (a := (90 + 13 * l)) rfl (by omega)) rf_a0) ?_
          try rw [(show (nI (90 + 13 * l)).toNatClampNeg = (90 + 13 * l) from rf_cl_n rfl (by omega))]
          refine ok_icmp_ge bX12_ofLine_48 (fun g48 => absurd g48 ((Int32.not_le.mpr h51))) (fun _ => ?_)
          refine ok_step (ps := [rf_in (((nI (90 + 13 * l)) + (nI 1)) + (nI k)) 700]) (L' := [some (.ref 94), some (.int (nI l)), some (.int (nI k)), some (.int (nI (90 + 13 * l)))]) (st' := [.int (μ 95 ((((nI (90 + 13 * l)) + (nI 1)) + (nI k)).toNatClampNeg))]) (σ' := (α, μ)) (pc' := 61) kX12_ofLine_51 rfl rfl (rf_a1 (rf_in_n (a := (91 + 13 * l + k)) (by (try rw [(show ((nI (90 + 13 * l)) + (nI 1)) = nI (91 + 13 * l) from rf_eq (rf_nadd (x := nI (90 + 13 * l)) (y := nI 1) rfl rfl) (by omega))]); (try rw [(show ((nI (91 + 13 * l)) + (nI k)) = nI (91 + 13 * l + k) from rf_eq (rf_nadd (x := nI (91 + 13 * l)) (y := nI k) rfl rfl) (by omega))]); all_goals exact rfl) (by omega)) rf_a0) ?_
          try rw [(show ((nI (90 + 13 * l)) + (nI 1)) = nI (91 + 13 * l) from rf_eq (rf_nadd (x := nI (90 + 13 * l)) (y := nI 1) rfl rfl) (by omega))]
          try rw [(show ((nI (91 + 13 * l)) + (nI k)) = nI (91 + 13 * l + k) from rf_eq (rf_nadd (x := nI (91 + 13 * l)) (y := nI k) rfl rfl) (by omega))]
          try rw [(show (nI (91 + 13 * l + k)).toNatClampNeg = (91 + 13 * l + k) from rf_cl_n rfl (by omega))]
          refine ok_goto bX12_ofLine_61 ?_
          refine ok_reti eX12_ofLine_69 rfl ?_
          exact ⟨rfl, _, rfl, hJ⟩
        · refine ok_step (ps := []) (L' := [some (.ref 0), some (.int (nI l)), some (.int (nI k))]) (st' := [.int (-1000000002), .ref 0]) (σ' := (α, μ)) (pc' := 57) kX11_ofLine_54 rfl rfl rf_a0 ?_
          refine ok_V (As := [.int (-1000000002)]) (b := 0) (st := []) mkX11_error qX11_ofLine_57 rfl (rc_0) rfl rfl rfl rfl (Nat.le_of_ble_eq_true rfl) (c_error (k := 2) (by decide) (by decide) (by decide)) ?_
          refine ok_reti eX11_ofLine_60 rfl ?_
          refine ⟨rfl, _, rfl, ?_⟩
          refine ok_step (ps := []) (L' := [some (.ref 94), some (.int (nI l)), some (.int (nI k)), none]) (st' := [.int (nI l), .ref 94]) (σ' := (rf_w α 93 2 (α 93 2 + nI 1), μ)) (pc' := 2) kX12_ofLine_0 rfl rfl rf_a0 ?_
          refine ok_V (As := [.int (nI l)]) (b := 94) (st := []) mkX12_isLine qX12_ofLine_2 rfl (rc_94) rfl rfl rfl rfl (Nat.le_of_ble_eq_true rfl) (m_isLine) ?_
          refine ok_if_eq bX12_ofLine_5 (fun g5 => absurd g5 (h5)) (fun _ => ?_)
          refine ok_step (ps := []) (L' := [some (.ref 94), some (.int (nI l)), some (.int (nI k)), none]) (st' := [.int (-1), .int (nI k)]) (σ' := (rf_w α 93 2 (α 93 2 + nI 1), μ)) (pc' := 10) kX12_ofLine_8 rfl rfl rf_a0 ?_
          refine ok_icmp_ge bX12_ofLine_10 (fun _ => ?_) (fun g10 => absurd (h10) g10)
          refine ok_step (ps := []) (L' := [some (.ref 94), some (.int (nI l)), some (.int (nI k)), some (.int ((nI 90) + ((nI 13) * (nI l))))]) (st' := [.int (-1), .int (nI k)]) (σ' := (rf_w α 93 2 (α 93 2 + nI 1), μ)) (pc' := 29) kX12_ofLine_19 rfl rfl rf_a0 ?_
          try rw [(show ((nI 13) * (nI l)) = nI (13 * l) from rf_eq (rf_nmul (x := nI 13) (y := nI l) rfl rfl) (by omega))]
          try rw [(show ((nI 90) + (nI (13 * l))) = nI (90 + 13 * l) from rf_eq (rf_nadd (x := nI 90) (y := nI (13 * l)) rfl rfl) (by omega))]
          refine ok_icmp_ne bX12_ofLine_29 (fun _ => ?_) (fun g29 => absurd g29 (h22))
          refine ok_step (ps := [rf_in (nI (90 + 13 * l)) 700]) (L' := [some (.ref 94), some (.int (nI l)), some (.int (nI k)), some (.int (nI (90 + 13 * l)))]) (st' := [.int (μ 95 ((nI (90 + 13 * l)).toNatClampNeg)), .int (nI k)]) (σ' := (rf_w α 93 2 (α 93 2 + nI 1), μ)) (pc' := 48) kX12_ofLine_41 rfl rfl (rf_a1 (rf_in_n (a := (90 + 13 * l)) rfl (by omega)) rf_a0) ?_
          try rw [(show (nI (90 + 13 * l)).toNatClampNeg = (90 + 13 * l) from rf_cl_n rfl (by omega))]
          refine ok_icmp_ge bX12_ofLine_48 (fun _ => ?_) (fun g48 => absurd ((Int32.not_lt.mp h51)) g48)
          refine ok_step (ps := []) (L' := [some (.ref 94), some (.int (nI l)), some (.int (nI k)), some (.int (nI (90 + 13 * l)))]) (st' := [.int (nI 2), .ref 94]) (σ' := (rf_w α 93 2 (α 93 2 + nI 1), μ)) (pc' := 66) kX12_ofLine_64 rfl rfl rf_a0 ?_
          refine ok_V (As := [.int (nI 2)]) (b := 94) (st := []) mkX12_finds qX12_ofLine_66 rfl (rc_94) rfl rfl rfl rfl (Nat.le_of_ble_eq_true rfl) (m_finds (k := 2) (by decide)) ?_
          refine ok_reti eX12_ofLine_69 rfl ?_
          exact ⟨rfl, _, rfl, hJ.err (k := 2) (by decide)⟩
      · refine ok_step (ps := [rf_in (nI l) 4]) (L' := [some (.ref 0), some (.int (nI l)), some (.int i)]) (st' := [.int (α 4 ((nI l).toNatClampNeg))]) (σ' := (α, μ)) (pc' := 37) kX11_ofLine_25 rfl rfl (rf_a1 (rf_in_n (a := l) rfl (by omega)) rf_a0) ?_
        try rw [(show (nI l).toNatClampNeg = l from rf_cl_n rfl (by omega))]
        try rw [(show α 4 l = μ 95 (90 + 13 * l) from rl_3 hR (i := l) (by omega) (by omega))]
        refine ok_reti eX11_ofLine_37 rfl ?_
        refine ⟨rfl, _, rfl, ?_⟩
        refine ok_step (ps := []) (L' := [some (.ref 94), some (.int (nI l)), some (.int i), none]) (st' := [.int (nI l), .ref 94]) (σ' := (α, μ)) (pc' := 2) kX12_ofLine_0 rfl rfl rf_a0 ?_
        refine ok_V (As := [.int (nI l)]) (b := 94) (st := []) mkX12_isLine qX12_ofLine_2 rfl (rc_94) rfl rfl rfl rfl (Nat.le_of_ble_eq_true rfl) (m_isLine) ?_
        refine ok_if_eq bX12_ofLine_5 (fun g5 => absurd g5 (h5)) (fun _ => ?_)
        refine ok_step (ps := []) (L' := [some (.ref 94), some (.int (nI l)), some (.int i), none]) (st' := [.int (-1), .int i]) (σ' := (α, μ)) (pc' := 10) kX12_ofLine_8 rfl rfl rf_a0 ?_
        refine ok_icmp_ge bX12_ofLine_10 (fun _ => ?_) (fun g10 => absurd (h10) g10)
        refine ok_step (ps := []) (L' := [some (.ref 94), some (.int (nI l)), some (.int i), some (.int ((nI 90) + ((nI 13) * (nI l))))]) (st' := [.int (-1), .int i]) (σ' := (α, μ)) (pc' := 29) kX12_ofLine_19 rfl rfl rf_a0 ?_
        try rw [(show ((nI 13) * (nI l)) = nI (13 * l) from rf_eq (rf_nmul (x := nI 13) (y := nI l) rfl rfl) (by omega))]
        try rw [(show ((nI 90) + (nI (13 * l))) = nI (90 + 13 * l) from rf_eq (rf_nadd (x := nI 90) (y := nI (13 * l)) rfl rfl) (by omega))]
        refine ok_icmp_ne bX12_ofLine_29 (fun g29 => absurd (h22) g29) (fun _ => ?_)
        refine ok_step (ps := [rf_in (nI (90 + 13 * l)) 700]) (L' := [some (.ref 94), some (.int (nI l)), some (.int i), some (.int (nI (90 + 13 * l)))]) (st' := [.int (μ 95 ((nI (90 + 13 * l)).toNatClampNeg))]) (σ' := (α, μ)) (pc' := 38) kX12_ofLine_32 rfl rfl (rf_a1 (rf_in_n (a := (90 + 13 * l)) rfl (by omega)) rf_a0) ?_
        try rw [(show (nI (90 + 13 * l)).toNatClampNeg = (90 + 13 * l) from rf_cl_n rfl (by omega))]
        refine ok_goto bX12_ofLine_38 ?_
        refine ok_reti eX12_ofLine_69 rfl ?_
        exact ⟨rfl, _, rfl, hJ⟩
    · refine ok_step (ps := []) (L' := [some (.ref 0), some (.int (nI l)), some (.int i)]) (st' := [.int (-1000000001), .ref 0]) (σ' := (α, μ)) (pc' := 16) kX11_ofLine_13 rfl rfl rf_a0 ?_
      refine ok_V (As := [.int (-1000000001)]) (b := 0) (st := []) mkX11_error qX11_ofLine_16 rfl (rc_0) rfl rfl rfl rfl (Nat.le_of_ble_eq_true rfl) (c_error (k := 1) (by decide) (by decide) (by decide)) ?_
      refine ok_reti eX11_ofLine_19 rfl ?_
      refine ⟨rfl, _, rfl, ?_⟩
      refine ok_step (ps := []) (L' := [some (.ref 94), some (.int (nI l)), some (.int i), none]) (st' := [.int (nI l), .ref 94]) (σ' := (rf_w α 93 1 (α 93 1 + nI 1), μ)) (pc' := 2) kX12_ofLine_0 rfl rfl rf_a0 ?_
      refine ok_V (As := [.int (nI l)]) (b := 94) (st := []) mkX12_isLine qX12_ofLine_2 rfl (rc_94) rfl rfl rfl rfl (Nat.le_of_ble_eq_true rfl) (m_isLine) ?_
      refine ok_if_eq bX12_ofLine_5 (fun g5 => absurd g5 (h5)) (fun _ => ?_)
      refine ok_step (ps := []) (L' := [some (.ref 94), some (.int (nI l)), some (.int i), none]) (st' := [.int (-1), .int i]) (σ' := (rf_w α 93 1 (α 93 1 + nI 1), μ)) (pc' := 10) kX12_ofLine_8 rfl rfl rf_a0 ?_
      refine ok_icmp_ge bX12_ofLine_10 (fun g10 => absurd g10 (h10)) (fun _ => ?_)
      refine ok_step (ps := []) (L' := [some (.ref 94), some (.int (nI l)), some (.int i), none]) (st' := [.int (nI 1), .ref 94]) (σ' := (rf_w α 93 1 (α 93 1 + nI 1), μ)) (pc' := 15) kX12_ofLine_13 rfl rfl rf_a0 ?_
      refine ok_V (As := [.int (nI 1)]) (b := 94) (st := []) mkX12_finds qX12_ofLine_15 rfl (rc_94) rfl rfl rfl rfl (Nat.le_of_ble_eq_true rfl) (m_finds (k := 1) (by decide)) ?_
      refine ok_reti eX12_ofLine_18 rfl ?_
      exact ⟨rfl, _, rfl, hJ.err (k := 1) (by decide)⟩
theorem op_ofTrain {train : Int32} {what : Int32} (hJ : J α μ)  : Op (rf_T Ln xs) MX11_ofTrain MX12_ofTrain [some (.ref 0), some (.int train), some (.int what)] [some (.ref 94), some (.int train), some (.int what)] α μ := by
  have hR := hJ.1.1.1
  have hI := hJ.2
  have b0 := hI.le0
  have b1 := hI.le1
  have b2 := hI.le2
  have b3 := hI.le3
  have b4 := hI.le4
  have b5 := hI.le5
  have b6 := hI.le6
  have b8 := hI.le8
  have b9 := hI.le9
  have b11 := hI.le11
  have b12 := hI.le12
  refine ok_step (ps := []) (L' := [some (.ref 0), some (.int train), some (.int what)]) (st' := [.int train, .ref 0]) (σ' := (α, μ)) (pc' := 2) kX11_ofTrain_0 rfl rfl rf_a0 ?_
  refine ok_V (As := [.int train]) (b := 0) (st := []) mkX11_isTrain qX11_ofTrain_2 rfl (rc_0) rfl rfl rfl rfl (Nat.le_of_ble_eq_true rfl) (c_isTrain hR) ?_
  refine ok_if_ne bX11_ofTrain_5 (fun h5 => ?_) (fun h5 => ?_)
  · obtain ⟨t, ht, rfl⟩ := wi_lt (bI_n0.mp h5) hI.at3 (by omega)
    have t3 := hI.2.2.1 t ht
    have z2 := hI.2.1 (cn (μ 95) (150 + 3 * t)) t3
    have z6 := hI.leb (k := 90 + 13 * cn (μ 95) (150 + 3 * t)) (b := 6) (bd_90 (i := cn (μ 95) (150 + 3 * t)) (by omega) rfl) (by decide)
    refine ok_step (ps := []) (L' := [some (.ref 0), some (.int (nI t)), some (.int what)]) (st' := [.int what]) (σ' := (α, μ)) (pc' := 16) kX11_ofTrain_15 rfl rfl rf_a0 ?_
    refine ok_table bX11_ofTrain_16 (fun h16 => ?_) (fun i t ht h16 => ?_)
    · refine ok_step (ps := []) (L' := [some (.ref 0), some (.int (nI t)), some (.int what)]) (st' := [.int (-1000000001), .ref 0]) (σ' := (α, μ)) (pc' := 151) kX11_ofTrain_148 rfl rfl rf_a0 ?_
      refine ok_V (As := [.int (-1000000001)]) (b := 0) (st := []) mkX11_error qX11_ofTrain_151 rfl (rc_0) rfl rfl rfl rfl (Nat.le_of_ble_eq_true rfl) (c_error (k := 1) (by decide) (by decide) (by decide)) ?_
      refine ok_reti eX11_ofTrain_154 rfl ?_
      refine ⟨rfl, _, rfl, ?_⟩
      refine ok_step (ps := []) (L' := [some (.ref 94), some (.int (nI t)), some (.int what)]) (st' := [.int (nI t), .ref 94]) (σ' := (rf_w α 93 1 (α 93 1 + nI 1), μ)) (pc' := 2) kX12_ofTrain_0 rfl rfl rf_a0 ?_
      refine ok_V (As := [.int (nI t)]) (b := 94) (st := []) mkX12_isTrain qX12_ofTrain_2 rfl (rc_94) rfl rfl rfl rfl (Nat.le_of_ble_eq_true rfl) (m_isTrain) ?_
      refine ok_if_ne bX12_ofTrain_5 (fun _ => ?_) (fun g5 => absurd g5 (h5))
      refine ok_step (ps := []) (L' := [some (.ref 94), some (.int (nI t)), some (.int what)]) (st' := [.int what]) (σ' := (rf_w α 93 1 (α 93 1 + nI 1), μ)) (pc' := 15) kX12_ofTrain_14 rfl rfl rf_a0 ?_
      refine ok_td bX12_ofTrain_15 (by omega) ?_
      refine ok_step (ps := []) (L' := [some (.ref 94), some (.int (nI t)), some (.int what)]) (st' := [.int (nI 1), .ref 94]) (σ' := (rf_w α 93 1 (α 93 1 + nI 1), μ)) (pc' := 117) kX12_ofTrain_115 rfl rfl rf_a0 ?_
      refine ok_V (As := [.int (nI 1)]) (b := 94) (st := []) mkX12_finds qX12_ofTrain_117 rfl (rc_94) rfl rfl rfl rfl (Nat.le_of_ble_eq_true rfl) (m_finds (k := 1) (by decide)) ?_
      refine ok_reti eX12_ofTrain_120 rfl ?_
      exact ⟨rfl, _, rfl, hJ.err (k := 1) (by decide)⟩
    · match i, ht, h16 with
      | 0, ht, h16 =>
        cases ht
        refine ok_step (ps := [rf_in (nI t) 12]) (L' := [some (.ref 0), some (.int (nI t)), some (.int what)]) (st' := [.int (α 7 ((nI t).toNatClampNeg))]) (σ' := (α, μ)) (pc' := 72) kX11_ofTrain_60 rfl rfl (rf_a1 (rf_in_n (a := t) rfl (by omega)) rf_a0) ?_
        try rw [(show (nI t).toNatClampNeg = t from rf_cl_n rfl (by omega))]
        try rw [(show α 7 t = μ 95 (150 + 3 * t) from rl_6 hR (i := t) (by omega) (by omega))]
        refine ok_reti eX11_ofTrain_72 rfl ?_
        refine ⟨rfl, _, rfl, ?_⟩
        refine ok_step (ps := []) (L' := [some (.ref 94), some (.int (nI t)), some (.int what)]) (st' := [.int (nI t), .ref 94]) (σ' := (α, μ)) (pc' := 2) kX12_ofTrain_0 rfl rfl rf_a0 ?_
        refine ok_V (As := [.int (nI t)]) (b := 94) (st := []) mkX12_isTrain qX12_ofTrain_2 rfl (rc_94) rfl rfl rfl rfl (Nat.le_of_ble_eq_true rfl) (m_isTrain) ?_
        refine ok_if_ne bX12_ofTrain_5 (fun _ => ?_) (fun g5 => absurd g5 (h5))
        refine ok_step (ps := []) (L' := [some (.ref 94), some (.int (nI t)), some (.int what)]) (st' := [.int what]) (σ' := (α, μ)) (pc' := 15) kX12_ofTrain_14 rfl rfl rf_a0 ?_
        refine ok_tk bX12_ofTrain_15 (i := 0) rfl (by omega) ?_
        refine ok_step (ps := []) (L' := [some (.ref 94), some (.int (nI t)), some (.int what)]) (st' := [.int (nI t), .ref 94]) (σ' := (α, μ)) (pc' := 58) kX12_ofTrain_56 rfl rfl rf_a0 ?_
        refine ok_V (As := [.int (nI t)]) (b := 94) (st := []) mkX12_lineOf qX12_ofTrain_58 rfl (rc_94) rfl rfl rfl rfl (Nat.le_of_ble_eq_true rfl) (m_lineOf (by omega)) ?_
        refine ok_reti eX12_ofTrain_61 rfl ?_
        exact ⟨rfl, _, rfl, hJ⟩
      | 1, ht, h16 =>
        cases ht
        refine ok_step (ps := [rf_in (nI t) 12]) (L' := [some (.ref 0), some (.int (nI t)), some (.int what)]) (st' := [.int (α 8 ((nI t).toNatClampNeg))]) (σ' := (α, μ)) (pc' := 85) kX11_ofTrain_73 rfl rfl (rf_a1 (rf_in_n (a := t) rfl (by omega)) rf_a0) ?_
        try rw [(show (nI t).toNatClampNeg = t from rf_cl_n rfl (by omega))]
        try rw [(show α 8 t = μ 95 (151 + 3 * t) from rl_7 hR (i := t) (by omega) (by omega))]
        refine ok_reti eX11_ofTrain_85 rfl ?_
        refine ⟨rfl, _, rfl, ?_⟩
        refine ok_step (ps := []) (L' := [some (.ref 94), some (.int (nI t)), some (.int what)]) (st' := [.int (nI t), .ref 94]) (σ' := (α, μ)) (pc' := 2) kX12_ofTrain_0 rfl rfl rf_a0 ?_
        refine ok_V (As := [.int (nI t)]) (b := 94) (st := []) mkX12_isTrain qX12_ofTrain_2 rfl (rc_94) rfl rfl rfl rfl (Nat.le_of_ble_eq_true rfl) (m_isTrain) ?_
        refine ok_if_ne bX12_ofTrain_5 (fun _ => ?_) (fun g5 => absurd g5 (h5))
        refine ok_step (ps := []) (L' := [some (.ref 94), some (.int (nI t)), some (.int what)]) (st' := [.int what]) (σ' := (α, μ)) (pc' := 15) kX12_ofTrain_14 rfl rfl rf_a0 ?_
        refine ok_tk bX12_ofTrain_15 (i := 1) rfl (by omega) ?_
        refine ok_step (ps := []) (L' := [some (.ref 94), some (.int (nI t)), some (.int what)]) (st' := [.int (nI t), .ref 94]) (σ' := (α, μ)) (pc' := 64) kX12_ofTrain_62 rfl rfl rf_a0 ?_
        refine ok_V (As := [.int (nI t)]) (b := 94) (st := []) mkX12_startOf qX12_ofTrain_64 rfl (rc_94) rfl rfl rfl rfl (Nat.le_of_ble_eq_true rfl) (m_startOf (by omega)) ?_
        refine ok_reti eX12_ofTrain_67 rfl ?_
        exact ⟨rfl, _, rfl, hJ⟩
      | 2, ht, h16 =>
        cases ht
        refine ok_step (ps := [rf_in (nI t) 12]) (L' := [some (.ref 0), some (.int (nI t)), some (.int what)]) (st' := [.int (α 9 ((nI t).toNatClampNeg))]) (σ' := (α, μ)) (pc' := 98) kX11_ofTrain_86 rfl rfl (rf_a1 (rf_in_n (a := t) rfl (by omega)) rf_a0) ?_
        try rw [(show (nI t).toNatClampNeg = t from rf_cl_n rfl (by omega))]
        try rw [(show α 9 t = μ 95 (152 + 3 * t) from rl_8 hR (i := t) (by omega) (by omega))]
        refine ok_reti eX11_ofTrain_98 rfl ?_
        refine ⟨rfl, _, rfl, ?_⟩
        refine ok_step (ps := []) (L' := [some (.ref 94), some (.int (nI t)), some (.int what)]) (st' := [.int (nI t), .ref 94]) (σ' := (α, μ)) (pc' := 2) kX12_ofTrain_0 rfl rfl rf_a0 ?_
        refine ok_V (As := [.int (nI t)]) (b := 94) (st := []) mkX12_isTrain qX12_ofTrain_2 rfl (rc_94) rfl rfl rfl rfl (Nat.le_of_ble_eq_true rfl) (m_isTrain) ?_
        refine ok_if_ne bX12_ofTrain_5 (fun _ => ?_) (fun g5 => absurd g5 (h5))
        refine ok_step (ps := []) (L' := [some (.ref 94), some (.int (nI t)), some (.int what)]) (st' := [.int what]) (σ' := (α, μ)) (pc' := 15) kX12_ofTrain_14 rfl rfl rf_a0 ?_
        refine ok_tk bX12_ofTrain_15 (i := 2) rfl (by omega) ?_
        refine ok_step (ps := [rf_in (((nI 150) + ((nI 3) * (nI t))) + (nI 2)) 700]) (L' := [some (.ref 94), some (.int (nI t)), some (.int what)]) (st' := [.int (μ 95 ((((nI 150) + ((nI 3) * (nI t))) + (nI 2)).toNatClampNeg))]) (σ' := (α, μ)) (pc' := 82) kX12_ofTrain_68 rfl rfl (rf_a1 (rf_in_n (a := (152 + 3 * t)) (by (try rw [(show ((nI 3) * (nI t)) = nI (3 * t) from rf_eq (rf_nmul (x := nI 3) (y := nI t) rfl rfl) (by omega))]); (try rw [(show ((nI 150) + (nI (3 * t))) = nI (150 + 3 * t) from rf_eq (rf_nadd (x := nI 150) (y := nI (3 * t)) rfl rfl) (by omega))]); (try rw [(show ((nI (150 + 3 * t)) + (nI 2)) = nI (152 + 3 * t) from rf_eq (rf_nadd (x := nI (150 + 3 * t)) (y := nI 2) rfl rfl) (by omega))]); all_goals exact rfl) (by omega)) rf_a0) ?_
        try rw [(show ((nI 3) * (nI t)) = nI (3 * t) from rf_eq (rf_nmul (x := nI 3) (y := nI t) rfl rfl) (by omega))]
        try rw [(show ((nI 150) + (nI (3 * t))) = nI (150 + 3 * t) from rf_eq (rf_nadd (x := nI 150) (y := nI (3 * t)) rfl rfl) (by omega))]
        try rw [(show ((nI (150 + 3 * t)) + (nI 2)) = nI (152 + 3 * t) from rf_eq (rf_nadd (x := nI (150 + 3 * t)) (y := nI 2) rfl rfl) (by omega))]
        try rw [(show (nI (152 + 3 * t)).toNatClampNeg = (152 + 3 * t) from rf_cl_n rfl (by omega))]
        refine ok_reti eX12_ofTrain_82 rfl ?_
        exact ⟨rfl, _, rfl, hJ⟩
      | 3, ht, h16 =>
        cases ht
        refine ok_step (ps := []) (L' := [some (.ref 0), some (.int (nI t)), some (.int what)]) (st' := [.int (nI t), .ref 2]) (σ' := (α, μ)) (pc' := 107) kX11_ofTrain_99 rfl rfl rf_a0 ?_
        refine ok_V (As := [.int (nI t)]) (b := 2) (st := []) mkX4_endOf qX11_ofTrain_107 rfl (rc_2) rfl rfl rfl rfl (Nat.le_of_ble_eq_true rfl) (c_end hR hI (by omega) (by omega)) ?_
        refine ok_reti eX11_ofTrain_110 rfl ?_
        refine ⟨rfl, _, rfl, ?_⟩
        refine ok_step (ps := []) (L' := [some (.ref 94), some (.int (nI t)), some (.int what)]) (st' := [.int (nI t), .ref 94]) (σ' := (α, μ)) (pc' := 2) kX12_ofTrain_0 rfl rfl rf_a0 ?_
        refine ok_V (As := [.int (nI t)]) (b := 94) (st := []) mkX12_isTrain qX12_ofTrain_2 rfl (rc_94) rfl rfl rfl rfl (Nat.le_of_ble_eq_true rfl) (m_isTrain) ?_
        refine ok_if_ne bX12_ofTrain_5 (fun _ => ?_) (fun g5 => absurd g5 (h5))
        refine ok_step (ps := []) (L' := [some (.ref 94), some (.int (nI t)), some (.int what)]) (st' := [.int what]) (σ' := (α, μ)) (pc' := 15) kX12_ofTrain_14 rfl rfl rf_a0 ?_
        refine ok_tk bX12_ofTrain_15 (i := 3) rfl (by omega) ?_
        refine ok_step (ps := []) (L' := [some (.ref 94), some (.int (nI t)), some (.int what)]) (st' := [.int (nI t), .ref 94]) (σ' := (α, μ)) (pc' := 85) kX12_ofTrain_83 rfl rfl rf_a0 ?_
        refine ok_V (As := [.int (nI t)]) (b := 94) (st := []) mkX12_endOf qX12_ofTrain_85 rfl (rc_94) rfl rfl rfl rfl (Nat.le_of_ble_eq_true rfl) (m_end hI (by omega) (by omega)) ?_
        refine ok_reti eX12_ofTrain_88 rfl ?_
        exact ⟨rfl, _, rfl, hJ⟩
      | 4, ht, h16 =>
        cases ht
        refine ok_step (ps := []) (L' := [some (.ref 0), some (.int (nI t)), some (.int what)]) (st' := [.int (nI 0), .int (nI t), .ref 2]) (σ' := (α, μ)) (pc' := 120) kX11_ofTrain_111 rfl rfl rf_a0 ?_
        refine ok_V (As := [.int (nI t), .int (nI 0)]) (b := 2) (st := []) mkX4_stationAt qX11_ofTrain_120 rfl (rc_2) rfl rfl rfl rfl (Nat.le_of_ble_eq_true rfl) (c_stAt hR hI (by omega) (by omega)) ?_
        refine ok_reti eX11_ofTrain_123 rfl ?_
        refine ⟨rfl, _, rfl, ?_⟩
        refine ok_step (ps := []) (L' := [some (.ref 94), some (.int (nI t)), some (.int what)]) (st' := [.int (nI t), .ref 94]) (σ' := (α, μ)) (pc' := 2) kX12_ofTrain_0 rfl rfl rf_a0 ?_
        refine ok_V (As := [.int (nI t)]) (b := 94) (st := []) mkX12_isTrain qX12_ofTrain_2 rfl (rc_94) rfl rfl rfl rfl (Nat.le_of_ble_eq_true rfl) (m_isTrain) ?_
        refine ok_if_ne bX12_ofTrain_5 (fun _ => ?_) (fun g5 => absurd g5 (h5))
        refine ok_step (ps := []) (L' := [some (.ref 94), some (.int (nI t)), some (.int what)]) (st' := [.int what]) (σ' := (α, μ)) (pc' := 15) kX12_ofTrain_14 rfl rfl rf_a0 ?_
        refine ok_tk bX12_ofTrain_15 (i := 4) rfl (by omega) ?_
        refine ok_step (ps := []) (L' := [some (.ref 94), some (.int (nI t)), some (.int what)]) (st' := [.int (nI 0), .int (nI t), .ref 94]) (σ' := (α, μ)) (pc' := 92) kX12_ofTrain_89 rfl rfl rf_a0 ?_
        refine ok_V (As := [.int (nI t), .int (nI 0)]) (b := 94) (st := []) mkX12_stationAt qX12_ofTrain_92 rfl (rc_94) rfl rfl rfl rfl (Nat.le_of_ble_eq_true rfl) (m_stAt hI (by omega) (by omega)) ?_
        refine ok_reti eX12_ofTrain_95 rfl ?_
        exact ⟨rfl, _, rfl, hJ⟩
      | 5, ht, h16 =>
        cases ht
        refine ok_step (ps := []) (L' := [some (.ref 0), some (.int (nI t)), some (.int what)]) (st' := [.int (nI t), .ref 2]) (σ' := (α, μ)) (pc' := 132) kX11_ofTrain_124 rfl rfl rf_a0 ?_
        refine ok_V (As := [.int (nI t)]) (b := 2) (st := []) mkX4_lastStation qX11_ofTrain_132 rfl (rc_2) rfl rfl rfl rfl (Nat.le_of_ble_eq_true rfl) (c_last hR hI (by omega) (by omega)) ?_
        refine ok_reti eX11_ofTrain_135 rfl ?_
        refine ⟨rfl, _, rfl, ?_⟩
        refine ok_step (ps := []) (L' := [some (.ref 94), some (.int (nI t)), some (.int what)]) (st' := [.int (nI t), .ref 94]) (σ' := (α, μ)) (pc' := 2) kX12_ofTrain_0 rfl rfl rf_a0 ?_
        refine ok_V (As := [.int (nI t)]) (b := 94) (st := []) mkX12_isTrain qX12_ofTrain_2 rfl (rc_94) rfl rfl rfl rfl (Nat.le_of_ble_eq_true rfl) (m_isTrain) ?_
        refine ok_if_ne bX12_ofTrain_5 (fun _ => ?_) (fun g5 => absurd g5 (h5))
        refine ok_step (ps := []) (L' := [some (.ref 94), some (.int (nI t)), some (.int what)]) (st' := [.int what]) (σ' := (α, μ)) (pc' := 15) kX12_ofTrain_14 rfl rfl rf_a0 ?_
        refine ok_tk bX12_ofTrain_15 (i := 5) rfl (by omega) ?_
        refine ok_step (ps := []) (L' := [some (.ref 94), some (.int (nI t)), some (.int what)]) (st' := [.int (nI t), .ref 94, .int (nI t), .ref 94]) (σ' := (α, μ)) (pc' := 100) kX12_ofTrain_96 rfl rfl rf_a0 ?_
        refine ok_V (As := [.int (nI t)]) (b := 94) (st := [.int (nI t), .ref 94]) mkX12_stopsOf qX12_ofTrain_100 rfl (rc_94) rfl rfl rfl rfl (Nat.le_of_ble_eq_true rfl) (m_stopsOf hI (by omega)) ?_
        refine ok_step (ps := []) (L' := [some (.ref 94), some (.int (nI t)), some (.int what)]) (st' := [.int ((s_stops (μ 95) t) - (nI 1)), .int (nI t), .ref 94]) (σ' := (α, μ)) (pc' := 105) kX12_ofTrain_103 rfl rfl rf_a0 ?_
        try rw [(show ((s_stops (μ 95) t) - (nI 1)) = nI ((cn (μ 95) (90 + 13 * cn (μ 95) (150 + 3 * t)) - 1)) from rf_eq (rf_nsub (x := s_stops (μ 95) t) (y := nI 1) (st_at hI (by omega)) rfl (by omega)) (by omega))]
        refine ok_V (As := [.int (nI t), .int (nI ((cn (μ 95) (90 + 13 * cn (μ 95) (150 + 3 * t)) - 1)))]) (b := 94) (st := []) mkX12_stationAt qX12_ofTrain_105 rfl (rc_94) rfl rfl rfl rfl (Nat.le_of_ble_eq_true rfl) (m_stAt hI (by omega) (by omega)) ?_
        refine ok_reti eX12_ofTrain_108 rfl ?_
        exact ⟨rfl, _, rfl, hJ⟩
      | 6, ht, h16 =>
        cases ht
        refine ok_step (ps := []) (L' := [some (.ref 0), some (.int (nI t)), some (.int what)]) (st' := [.int (nI t), .ref 19]) (σ' := (α, μ)) (pc' := 144) kX11_ofTrain_136 rfl rfl rf_a0 ?_
        refine ok_V (As := [.int (nI t)]) (b := 19) (st := []) mkX7_lotsWith qX11_ofTrain_144 rfl (rc_19) rfl rfl rfl rfl (Nat.le_of_ble_eq_true rfl) (c_with hR hI) ?_
        refine ok_reti eX11_ofTrain_147 rfl ?_
        refine ⟨rfl, _, rfl, ?_⟩
        refine ok_step (ps := []) (L' := [some (.ref 94), some (.int (nI t)), some (.int what)]) (st' := [.int (nI t), .ref 94]) (σ' := (α, μ)) (pc' := 2) kX12_ofTrain_0 rfl rfl rf_a0 ?_
        refine ok_V (As := [.int (nI t)]) (b := 94) (st := []) mkX12_isTrain qX12_ofTrain_2 rfl (rc_94) rfl rfl rfl rfl (Nat.le_of_ble_eq_true rfl) (m_isTrain) ?_
        refine ok_if_ne bX12_ofTrain_5 (fun _ => ?_) (fun g5 => absurd g5 (h5))
        refine ok_step (ps := []) (L' := [some (.ref 94), some (.int (nI t)), some (.int what)]) (st' := [.int what]) (σ' := (α, μ)) (pc' := 15) kX12_ofTrain_14 rfl rfl rf_a0 ?_
        refine ok_tk bX12_ofTrain_15 (i := 6) rfl (by omega) ?_
        refine ok_step (ps := []) (L' := [some (.ref 94), some (.int (nI t)), some (.int what)]) (st' := [.int (nI t), .ref 94]) (σ' := (α, μ)) (pc' := 111) kX12_ofTrain_109 rfl rfl rf_a0 ?_
        refine ok_V (As := [.int (nI t)]) (b := 94) (st := []) mkX12_lotsWith qX12_ofTrain_111 rfl (rc_94) rfl rfl rfl rfl (Nat.le_of_ble_eq_true rfl) (m_with hI) ?_
        refine ok_reti eX12_ofTrain_114 rfl ?_
        exact ⟨rfl, _, rfl, hJ⟩
      | i + 7, ht, _ => simp at ht
  · refine ok_step (ps := []) (L' := [some (.ref 0), some (.int train), some (.int what)]) (st' := [.int (-1000000001), .ref 0]) (σ' := (α, μ)) (pc' := 11) kX11_ofTrain_8 rfl rfl rf_a0 ?_
    refine ok_V (As := [.int (-1000000001)]) (b := 0) (st := []) mkX11_error qX11_ofTrain_11 rfl (rc_0) rfl rfl rfl rfl (Nat.le_of_ble_eq_true rfl) (c_error (k := 1) (by decide) (by decide) (by decide)) ?_
    refine ok_reti eX11_ofTrain_14 rfl ?_
    refine ⟨rfl, _, rfl, ?_⟩
    refine ok_step (ps := []) (L' := [some (.ref 94), some (.int train), some (.int what)]) (st' := [.int train, .ref 94]) (σ' := (rf_w α 93 1 (α 93 1 + nI 1), μ)) (pc' := 2) kX12_ofTrain_0 rfl rfl rf_a0 ?_
    refine ok_V (As := [.int train]) (b := 94) (st := []) mkX12_isTrain qX12_ofTrain_2 rfl (rc_94) rfl rfl rfl rfl (Nat.le_of_ble_eq_true rfl) (m_isTrain) ?_
    refine ok_if_ne bX12_ofTrain_5 (fun g5 => absurd (h5) g5) (fun _ => ?_)
    refine ok_step (ps := []) (L' := [some (.ref 94), some (.int train), some (.int what)]) (st' := [.int (nI 1), .ref 94]) (σ' := (rf_w α 93 1 (α 93 1 + nI 1), μ)) (pc' := 10) kX12_ofTrain_8 rfl rfl rf_a0 ?_
    refine ok_V (As := [.int (nI 1)]) (b := 94) (st := []) mkX12_finds qX12_ofTrain_10 rfl (rc_94) rfl rfl rfl rfl (Nat.le_of_ble_eq_true rfl) (m_finds (k := 1) (by decide)) ?_
    refine ok_reti eX12_ofTrain_13 rfl ?_
    exact ⟨rfl, _, rfl, hJ.err (k := 1) (by decide)⟩
theorem op_stop {train : Int32} {i : Int32} {what : Int32} (hJ : J α μ)  : Op (rf_T Ln xs) MX11_stop MX12_stop [some (.ref 0), some (.int train), some (.int i), some (.int what)] [some (.ref 94), some (.int train), some (.int i), some (.int what)] α μ := by
  have hR := hJ.1.1.1
  have hI := hJ.2
  have b0 := hI.le0
  have b1 := hI.le1
  have b2 := hI.le2
  have b3 := hI.le3
  have b4 := hI.le4
  have b5 := hI.le5
  have b6 := hI.le6
  have b8 := hI.le8
  have b9 := hI.le9
  have b11 := hI.le11
  have b12 := hI.le12
  refine ok_step (ps := []) (L' := [some (.ref 0), some (.int train), some (.int i), some (.int what)]) (st' := [.int train, .ref 0]) (σ' := (α, μ)) (pc' := 2) kX11_stop_0 rfl rfl rf_a0 ?_
  refine ok_V (As := [.int train]) (b := 0) (st := []) mkX11_isTrain qX11_stop_2 rfl (rc_0) rfl rfl rfl rfl (Nat.le_of_ble_eq_true rfl) (c_isTrain hR) ?_
  refine ok_if_eq bX11_stop_5 (fun h5 => ?_) (fun h5 => ?_)
  · refine ok_step (ps := []) (L' := [some (.ref 0), some (.int train), some (.int i), some (.int what)]) (st' := [.int (-1000000001), .ref 0]) (σ' := (α, μ)) (pc' := 24) kX11_stop_21 rfl rfl rf_a0 ?_
    refine ok_V (As := [.int (-1000000001)]) (b := 0) (st := []) mkX11_error qX11_stop_24 rfl (rc_0) rfl rfl rfl rfl (Nat.le_of_ble_eq_true rfl) (c_error (k := 1) (by decide) (by decide) (by decide)) ?_
    refine ok_reti eX11_stop_27 rfl ?_
    refine ⟨rfl, _, rfl, ?_⟩
    refine ok_step (ps := []) (L' := [some (.ref 94), some (.int train), some (.int i), some (.int what)]) (st' := [.int train, .ref 94]) (σ' := (rf_w α 93 1 (α 93 1 + nI 1), μ)) (pc' := 2) kX12_stop_0 rfl rfl rf_a0 ?_
    refine ok_V (As := [.int train]) (b := 94) (st := []) mkX12_isTrain qX12_stop_2 rfl (rc_94) rfl rfl rfl rfl (Nat.le_of_ble_eq_true rfl) (m_isTrain) ?_
    refine ok_if_eq bX12_stop_5 (fun _ => ?_) (fun g5 => absurd (h5) g5)
    refine ok_step (ps := []) (L' := [some (.ref 94), some (.int train), some (.int i), some (.int what)]) (st' := [.int (nI 1), .ref 94]) (σ' := (rf_w α 93 1 (α 93 1 + nI 1), μ)) (pc' := 24) kX12_stop_22 rfl rfl rf_a0 ?_
    refine ok_V (As := [.int (nI 1)]) (b := 94) (st := []) mkX12_finds qX12_stop_24 rfl (rc_94) rfl rfl rfl rfl (Nat.le_of_ble_eq_true rfl) (m_finds (k := 1) (by decide)) ?_
    refine ok_reti eX12_stop_27 rfl ?_
    exact ⟨rfl, _, rfl, hJ.err (k := 1) (by decide)⟩
  · obtain ⟨t, ht, rfl⟩ := wi_lt (bI_n0.mp h5) hI.at3 (by omega)
    have t3 := hI.2.2.1 t ht
    have z2 := hI.2.1 (cn (μ 95) (150 + 3 * t)) t3
    have z6 := hI.leb (k := 90 + 13 * cn (μ 95) (150 + 3 * t)) (b := 6) (bd_90 (i := cn (μ 95) (150 + 3 * t)) (by omega) rfl) (by decide)
    refine ok_step (ps := []) (L' := [some (.ref 0), some (.int (nI t)), some (.int i), some (.int what)]) (st' := [.int (nI 1), .int (nI 0), .int what]) (σ' := (α, μ)) (pc' := 11) kX11_stop_8 rfl rfl rf_a0 ?_
    refine ok_S (As := [.int what, .int (nI 0), .int (nI 1)]) (st := []) mkX11_within qX11_stop_11 rfl rfl rfl rfl rfl (Nat.le_of_ble_eq_true rfl) (c_within) ?_
    refine ok_if_eq bX11_stop_14 (fun h14 => ?_) (fun h14 => ?_)
    · refine ok_step (ps := []) (L' := [some (.ref 0), some (.int (nI t)), some (.int i), some (.int what)]) (st' := [.int (-1000000001), .ref 0]) (σ' := (α, μ)) (pc' := 24) kX11_stop_21 rfl rfl rf_a0 ?_
      refine ok_V (As := [.int (-1000000001)]) (b := 0) (st := []) mkX11_error qX11_stop_24 rfl (rc_0) rfl rfl rfl rfl (Nat.le_of_ble_eq_true rfl) (c_error (k := 1) (by decide) (by decide) (by decide)) ?_
      refine ok_reti eX11_stop_27 rfl ?_
      refine ⟨rfl, _, rfl, ?_⟩
      refine ok_step (ps := []) (L' := [some (.ref 94), some (.int (nI t)), some (.int i), some (.int what)]) (st' := [.int (nI t), .ref 94]) (σ' := (rf_w α 93 1 (α 93 1 + nI 1), μ)) (pc' := 2) kX12_stop_0 rfl rfl rf_a0 ?_
      refine ok_V (As := [.int (nI t)]) (b := 94) (st := []) mkX12_isTrain qX12_stop_2 rfl (rc_94) rfl rfl rfl rfl (Nat.le_of_ble_eq_true rfl) (m_isTrain) ?_
      refine ok_if_eq bX12_stop_5 (fun g5 => absurd g5 (h5)) (fun _ => ?_)
      refine ok_step (ps := []) (L' := [some (.ref 94), some (.int (nI t)), some (.int i), some (.int what)]) (st' := [.long (lN 1), .long (lN 0), .long what.toInt64]) (σ' := (rf_w α 93 1 (α 93 1 + nI 1), μ)) (pc' := 12) kX12_stop_8 rfl rfl rf_a0 ?_
      refine ok_S (As := [.long what.toInt64, .long (lN 0), .long (lN 1)]) (st := []) mkX12_in qX12_stop_12 rfl rfl rfl rfl rfl (Nat.le_of_ble_eq_true rfl) (m_in) ?_
      rw [show wl what.toInt64 (lN 0) (lN 1) = wi what (nI 0) (nI 1) from wl_of rfl (nI_l (by decide)).symm (nI_l (by decide)).symm]
      refine ok_if_eq bX12_stop_15 (fun _ => ?_) (fun g15 => absurd (h14) g15)
      refine ok_step (ps := []) (L' := [some (.ref 94), some (.int (nI t)), some (.int i), some (.int what)]) (st' := [.int (nI 1), .ref 94]) (σ' := (rf_w α 93 1 (α 93 1 + nI 1), μ)) (pc' := 24) kX12_stop_22 rfl rfl rf_a0 ?_
      refine ok_V (As := [.int (nI 1)]) (b := 94) (st := []) mkX12_finds qX12_stop_24 rfl (rc_94) rfl rfl rfl rfl (Nat.le_of_ble_eq_true rfl) (m_finds (k := 1) (by decide)) ?_
      refine ok_reti eX12_stop_27 rfl ?_
      exact ⟨rfl, _, rfl, hJ.err (k := 1) (by decide)⟩
    · refine ok_step (ps := []) (L' := [some (.ref 0), some (.int (nI t)), some (.int i), some (.int what)]) (st' := [.int i]) (σ' := (α, μ)) (pc' := 18) kX11_stop_17 rfl rfl rf_a0 ?_
      refine ok_if_ge bX11_stop_18 (fun h18 => ?_) (fun h18 => ?_)
      · obtain ⟨k, hk, rfl⟩ := ge_0 h18
        refine ok_step (ps := []) (L' := [some (.ref 0), some (.int (nI t)), some (.int (nI k)), some (.int what)]) (st' := [.int (nI t), .ref 2, .int (nI k)]) (σ' := (α, μ)) (pc' := 37) kX11_stop_28 rfl rfl rf_a0 ?_
        refine ok_V (As := [.int (nI t)]) (b := 2) (st := [.int (nI k)]) mkX4_stopsOf qX11_stop_37 rfl (rc_2) rfl rfl rfl rfl (Nat.le_of_ble_eq_true rfl) (c_stopsOf hR hI (by omega)) ?_
        refine ok_icmp_lt bX11_stop_40 (fun h40 => ?_) (fun h40 => ?_)
        · have l40 := lt_nat h40 (st_at hI (by omega)) (by omega)
          refine ok_step (ps := []) (L' := [some (.ref 0), some (.int (nI t)), some (.int (nI k)), some (.int what)]) (st' := [.int what]) (σ' := (α, μ)) (pc' := 51) kX11_stop_50 rfl rfl rf_a0 ?_
          refine ok_if_ne bX11_stop_51 (fun h51 => ?_) (fun h51 => ?_)
          · refine ok_step (ps := []) (L' := [some (.ref 0), some (.int (nI t)), some (.int (nI k)), some (.int what)]) (st' := [.int (nI k), .int (nI t), .ref 2]) (σ' := (α, μ)) (pc' := 78) kX11_stop_69 rfl rfl rf_a0 ?_
            refine ok_V (As := [.int (nI t), .int (nI k)]) (b := 2) (st := []) mkX4_minuteAt qX11_stop_78 rfl (rc_2) rfl rfl rfl rfl (Nat.le_of_ble_eq_true rfl) (c_min hR hI (by omega) (by omega)) ?_
            refine ok_reti eX11_stop_81 rfl ?_
            refine ⟨rfl, _, rfl, ?_⟩
            refine ok_step (ps := []) (L' := [some (.ref 94), some (.int (nI t)), some (.int (nI k)), some (.int what)]) (st' := [.int (nI t), .ref 94]) (σ' := (α, μ)) (pc' := 2) kX12_stop_0 rfl rfl rf_a0 ?_
            refine ok_V (As := [.int (nI t)]) (b := 94) (st := []) mkX12_isTrain qX12_stop_2 rfl (rc_94) rfl rfl rfl rfl (Nat.le_of_ble_eq_true rfl) (m_isTrain) ?_
            refine ok_if_eq bX12_stop_5 (fun g5 => absurd g5 (h5)) (fun _ => ?_)
            refine ok_step (ps := []) (L' := [some (.ref 94), some (.int (nI t)), some (.int (nI k)), some (.int what)]) (st' := [.long (lN 1), .long (lN 0), .long what.toInt64]) (σ' := (α, μ)) (pc' := 12) kX12_stop_8 rfl rfl rf_a0 ?_
            refine ok_S (As := [.long what.toInt64, .long (lN 0), .long (lN 1)]) (st := []) mkX12_in qX12_stop_12 rfl rfl rfl rfl rfl (Nat.le_of_ble_eq_true rfl) (m_in) ?_
            rw [show wl what.toInt64 (lN 0) (lN 1) = wi what (nI 0) (nI 1) from wl_of rfl (nI_l (by decide)).symm (nI_l (by decide)).symm]
            refine ok_if_eq bX12_stop_15 (fun g15 => absurd g15 (h14)) (fun _ => ?_)
            refine ok_step (ps := []) (L' := [some (.ref 94), some (.int (nI t)), some (.int (nI k)), some (.int what)]) (st' := [.int (nI k)]) (σ' := (α, μ)) (pc' := 19) kX12_stop_18 rfl rfl rf_a0 ?_
            refine ok_if_ge bX12_stop_19 (fun _ => ?_) (fun g19 => absurd (h18) g19)
            refine ok_step (ps := []) (L' := [some (.ref 94), some (.int (nI t)), some (.int (nI k)), some (.int what)]) (st' := [.int (nI t), .ref 94, .int (nI k)]) (σ' := (α, μ)) (pc' := 31) kX12_stop_28 rfl rfl rf_a0 ?_
            refine ok_V (As := [.int (nI t)]) (b := 94) (st := [.int (nI k)]) mkX12_stopsOf qX12_stop_31 rfl (rc_94) rfl rfl rfl rfl (Nat.le_of_ble_eq_true rfl) (m_stopsOf hI (by omega)) ?_
            refine ok_icmp_lt bX12_stop_34 (fun _ => ?_) (fun g34 => absurd (h40) g34)
            refine ok_step (ps := []) (L' := [some (.ref 94), some (.int (nI t)), some (.int (nI k)), some (.int what)]) (st' := [.int what]) (σ' := (α, μ)) (pc' := 44) kX12_stop_43 rfl rfl rf_a0 ?_
            refine ok_if_ne bX12_stop_44 (fun _ => ?_) (fun g44 => absurd g44 (h51))
            refine ok_step (ps := []) (L' := [some (.ref 94), some (.int (nI t)), some (.int (nI k)), some (.int what)]) (st' := [.int (nI k), .int (nI t), .ref 94]) (σ' := (α, μ)) (pc' := 59) kX12_stop_56 rfl rfl rf_a0 ?_
            refine ok_V (As := [.int (nI t), .int (nI k)]) (b := 94) (st := []) mkX12_minuteAt qX12_stop_59 rfl (rc_94) rfl rfl rfl rfl (Nat.le_of_ble_eq_true rfl) (m_min hI (by omega) (by omega)) ?_
            refine ok_reti eX12_stop_62 rfl ?_
            exact ⟨rfl, _, rfl, hJ⟩
          · refine ok_step (ps := []) (L' := [some (.ref 0), some (.int (nI t)), some (.int (nI k)), some (.int what)]) (st' := [.int (nI k), .int (nI t), .ref 2]) (σ' := (α, μ)) (pc' := 63) kX11_stop_54 rfl rfl rf_a0 ?_
            refine ok_V (As := [.int (nI t), .int (nI k)]) (b := 2) (st := []) mkX4_stationAt qX11_stop_63 rfl (rc_2) rfl rfl rfl rfl (Nat.le_of_ble_eq_true rfl) (c_stAt hR hI (by omega) (by omega)) ?_
            refine ok_goto bX11_stop_66 ?_
            refine ok_reti eX11_stop_81 rfl ?_
            refine ⟨rfl, _, rfl, ?_⟩
            refine ok_step (ps := []) (L' := [some (.ref 94), some (.int (nI t)), some (.int (nI k)), some (.int what)]) (st' := [.int (nI t), .ref 94]) (σ' := (α, μ)) (pc' := 2) kX12_stop_0 rfl rfl rf_a0 ?_
            refine ok_V (As := [.int (nI t)]) (b := 94) (st := []) mkX12_isTrain qX12_stop_2 rfl (rc_94) rfl rfl rfl rfl (Nat.le_of_ble_eq_true rfl) (m_isTrain) ?_
            refine ok_if_eq bX12_stop_5 (fun g5 => absurd g5 (h5)) (fun _ => ?_)
            refine ok_step (ps := []) (L' := [some (.ref 94), some (.int (nI t)), some (.int (nI k)), some (.int what)]) (st' := [.long (lN 1), .long (lN 0), .long what.toInt64]) (σ' := (α, μ)) (pc' := 12) kX12_stop_8 rfl rfl rf_a0 ?_
            refine ok_S (As := [.long what.toInt64, .long (lN 0), .long (lN 1)]) (st := []) mkX12_in qX12_stop_12 rfl rfl rfl rfl rfl (Nat.le_of_ble_eq_true rfl) (m_in) ?_
            rw [show wl what.toInt64 (lN 0) (lN 1) = wi what (nI 0) (nI 1) from wl_of rfl (nI_l (by decide)).symm (nI_l (by decide)).symm]
            refine ok_if_eq bX12_stop_15 (fun g15 => absurd g15 (h14)) (fun _ => ?_)
            refine ok_step (ps := []) (L' := [some (.ref 94), some (.int (nI t)), some (.int (nI k)), some (.int what)]) (st' := [.int (nI k)]) (σ' := (α, μ)) (pc' := 19) kX12_stop_18 rfl rfl rf_a0 ?_
            refine ok_if_ge bX12_stop_19 (fun _ => ?_) (fun g19 => absurd (h18) g19)
            refine ok_step (ps := []) (L' := [some (.ref 94), some (.int (nI t)), some (.int (nI k)), some (.int what)]) (st' := [.int (nI t), .ref 94, .int (nI k)]) (σ' := (α, μ)) (pc' := 31) kX12_stop_28 rfl rfl rf_a0 ?_
            refine ok_V (As := [.int (nI t)]) (b := 94) (st := [.int (nI k)]) mkX12_stopsOf qX12_stop_31 rfl (rc_94) rfl rfl rfl rfl (Nat.le_of_ble_eq_true rfl) (m_stopsOf hI (by omega)) ?_
            refine ok_icmp_lt bX12_stop_34 (fun _ => ?_) (fun g34 => absurd (h40) g34)
            refine ok_step (ps := []) (L' := [some (.ref 94), some (.int (nI t)), some (.int (nI k)), some (.int what)]) (st' := [.int what]) (σ' := (α, μ)) (pc' := 44) kX12_stop_43 rfl rfl rf_a0 ?_
            refine ok_if_ne bX12_stop_44 (fun g44 => absurd (h51) g44) (fun _ => ?_)
            refine ok_step (ps := []) (L' := [some (.ref 94), some (.int (nI t)), some (.int (nI k)), some (.int what)]) (st' := [.int (nI k), .int (nI t), .ref 94]) (σ' := (α, μ)) (pc' := 50) kX12_stop_47 rfl rfl rf_a0 ?_
            refine ok_V (As := [.int (nI t), .int (nI k)]) (b := 94) (st := []) mkX12_stationAt qX12_stop_50 rfl (rc_94) rfl rfl rfl rfl (Nat.le_of_ble_eq_true rfl) (m_stAt hI (by omega) (by omega)) ?_
            refine ok_goto bX12_stop_53 ?_
            refine ok_reti eX12_stop_62 rfl ?_
            exact ⟨rfl, _, rfl, hJ⟩
        · refine ok_step (ps := []) (L' := [some (.ref 0), some (.int (nI t)), some (.int (nI k)), some (.int what)]) (st' := [.int (-1000000002), .ref 0]) (σ' := (α, μ)) (pc' := 46) kX11_stop_43 rfl rfl rf_a0 ?_
          refine ok_V (As := [.int (-1000000002)]) (b := 0) (st := []) mkX11_error qX11_stop_46 rfl (rc_0) rfl rfl rfl rfl (Nat.le_of_ble_eq_true rfl) (c_error (k := 2) (by decide) (by decide) (by decide)) ?_
          refine ok_reti eX11_stop_49 rfl ?_
          refine ⟨rfl, _, rfl, ?_⟩
          refine ok_step (ps := []) (L' := [some (.ref 94), some (.int (nI t)), some (.int (nI k)), some (.int what)]) (st' := [.int (nI t), .ref 94]) (σ' := (rf_w α 93 2 (α 93 2 + nI 1), μ)) (pc' := 2) kX12_stop_0 rfl rfl rf_a0 ?_
          refine ok_V (As := [.int (nI t)]) (b := 94) (st := []) mkX12_isTrain qX12_stop_2 rfl (rc_94) rfl rfl rfl rfl (Nat.le_of_ble_eq_true rfl) (m_isTrain) ?_
          refine ok_if_eq bX12_stop_5 (fun g5 => absurd g5 (h5)) (fun _ => ?_)
          refine ok_step (ps := []) (L' := [some (.ref 94), some (.int (nI t)), some (.int (nI k)), some (.int what)]) (st' := [.long (lN 1), .long (lN 0), .long what.toInt64]) (σ' := (rf_w α 93 2 (α 93 2 + nI 1), μ)) (pc' := 12) kX12_stop_8 rfl rfl rf_a0 ?_
          refine ok_S (As := [.long what.toInt64, .long (lN 0), .long (lN 1)]) (st := []) mkX12_in qX12_stop_12 rfl rfl rfl rfl rfl (Nat.le_of_ble_eq_true rfl) (m_in) ?_
          rw [show wl what.toInt64 (lN 0) (lN 1) = wi what (nI 0) (nI 1) from wl_of rfl (nI_l (by decide)).symm (nI_l (by decide)).symm]
          refine ok_if_eq bX12_stop_15 (fun g15 => absurd g15 (h14)) (fun _ => ?_)
          refine ok_step (ps := []) (L' := [some (.ref 94), some (.int (nI t)), some (.int (nI k)), some (.int what)]) (st' := [.int (nI k)]) (σ' := (rf_w α 93 2 (α 93 2 + nI 1), μ)) (pc' := 19) kX12_stop_18 rfl rfl rf_a0 ?_
          refine ok_if_ge bX12_stop_19 (fun _ => ?_) (fun g19 => absurd (h18) g19)
          refine ok_step (ps := []) (L' := [some (.ref 94), some (.int (nI t)), some (.int (nI k)), some (.int what)]) (st' := [.int (nI t), .ref 94, .int (nI k)]) (σ' := (rf_w α 93 2 (α 93 2 + nI 1), μ)) (pc' := 31) kX12_stop_28 rfl rfl rf_a0 ?_
          refine ok_V (As := [.int (nI t)]) (b := 94) (st := [.int (nI k)]) mkX12_stopsOf qX12_stop_31 rfl (rc_94) rfl rfl rfl rfl (Nat.le_of_ble_eq_true rfl) (m_stopsOf hI (by omega)) ?_
          refine ok_icmp_lt bX12_stop_34 (fun g34 => absurd g34 (h40)) (fun _ => ?_)
          refine ok_step (ps := []) (L' := [some (.ref 94), some (.int (nI t)), some (.int (nI k)), some (.int what)]) (st' := [.int (nI 2), .ref 94]) (σ' := (rf_w α 93 2 (α 93 2 + nI 1), μ)) (pc' := 39) kX12_stop_37 rfl rfl rf_a0 ?_
          refine ok_V (As := [.int (nI 2)]) (b := 94) (st := []) mkX12_finds qX12_stop_39 rfl (rc_94) rfl rfl rfl rfl (Nat.le_of_ble_eq_true rfl) (m_finds (k := 2) (by decide)) ?_
          refine ok_reti eX12_stop_42 rfl ?_
          exact ⟨rfl, _, rfl, hJ.err (k := 2) (by decide)⟩
      · refine ok_step (ps := []) (L' := [some (.ref 0), some (.int (nI t)), some (.int i), some (.int what)]) (st' := [.int (-1000000001), .ref 0]) (σ' := (α, μ)) (pc' := 24) kX11_stop_21 rfl rfl rf_a0 ?_
        refine ok_V (As := [.int (-1000000001)]) (b := 0) (st := []) mkX11_error qX11_stop_24 rfl (rc_0) rfl rfl rfl rfl (Nat.le_of_ble_eq_true rfl) (c_error (k := 1) (by decide) (by decide) (by decide)) ?_
        refine ok_reti eX11_stop_27 rfl ?_
        refine ⟨rfl, _, rfl, ?_⟩
        refine ok_step (ps := []) (L' := [some (.ref 94), some (.int (nI t)), some (.int i), some (.int what)]) (st' := [.int (nI t), .ref 94]) (σ' := (rf_w α 93 1 (α 93 1 + nI 1), μ)) (pc' := 2) kX12_stop_0 rfl rfl rf_a0 ?_
        refine ok_V (As := [.int (nI t)]) (b := 94) (st := []) mkX12_isTrain qX12_stop_2 rfl (rc_94) rfl rfl rfl rfl (Nat.le_of_ble_eq_true rfl) (m_isTrain) ?_
        refine ok_if_eq bX12_stop_5 (fun g5 => absurd g5 (h5)) (fun _ => ?_)
        refine ok_step (ps := []) (L' := [some (.ref 94), some (.int (nI t)), some (.int i), some (.int what)]) (st' := [.long (lN 1), .long (lN 0), .long what.toInt64]) (σ' := (rf_w α 93 1 (α 93 1 + nI 1), μ)) (pc' := 12) kX12_stop_8 rfl rfl rf_a0 ?_
        refine ok_S (As := [.long what.toInt64, .long (lN 0), .long (lN 1)]) (st := []) mkX12_in qX12_stop_12 rfl rfl rfl rfl rfl (Nat.le_of_ble_eq_true rfl) (m_in) ?_
        rw [show wl what.toInt64 (lN 0) (lN 1) = wi what (nI 0) (nI 1) from wl_of rfl (nI_l (by decide)).symm (nI_l (by decide)).symm]
        refine ok_if_eq bX12_stop_15 (fun g15 => absurd g15 (h14)) (fun _ => ?_)
        refine ok_step (ps := []) (L' := [some (.ref 94), some (.int (nI t)), some (.int i), some (.int what)]) (st' := [.int i]) (σ' := (rf_w α 93 1 (α 93 1 + nI 1), μ)) (pc' := 19) kX12_stop_18 rfl rfl rf_a0 ?_
        refine ok_if_ge bX12_stop_19 (fun g19 => absurd g19 (h18)) (fun _ => ?_)
        refine ok_step (ps := []) (L' := [some (.ref 94), some (.int (nI t)), some (.int i), some (.int what)]) (st' := [.int (nI 1), .ref 94]) (σ' := (rf_w α 93 1 (α 93 1 + nI 1), μ)) (pc' := 24) kX12_stop_22 rfl rfl rf_a0 ?_
        refine ok_V (As := [.int (nI 1)]) (b := 94) (st := []) mkX12_finds qX12_stop_24 rfl (rc_94) rfl rfl rfl rfl (Nat.le_of_ble_eq_true rfl) (m_finds (k := 1) (by decide)) ?_
        refine ok_reti eX12_stop_27 rfl ?_
        exact ⟨rfl, _, rfl, hJ.err (k := 1) (by decide)⟩
end H27
