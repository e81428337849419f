theorem wi01 {x : Int32} (h0 : ¬ x = nI 0) (h1 : ¬ x = nI 1) : bI (wi x (nI 0) (nI 1)) = 0 := by
  rw [bI_0]
  cases h : wi x (nI 0) (nI 1) with
  | false => rfl
  | true =>
    obtain ⟨k, -, h3, rfl⟩ := wi_of h (by decide) (by decide)
    rcases (show k = 0 ∨ k = 1 by omega) with rfl | rfl
    · exact absurd rfl h0
    · exact absurd rfl h1
theorem nI_ne {a b : Nat} (h : ¬ nI a = nI b) : a ≠ b := fun e => h (by rw [e])
theorem nI_inj {a b : Nat} (h : nI a = nI b) (ha : a < 2147483648) (hb : b < 2147483648) : a = b := (nI_eq (by omega) (by omega)).mp h
theorem sw_eq {x : Int32} {n : Nat} (h : x.toInt = (n : Int)) (hn : n < 2147483648) : x = nI n := Int32.toInt_inj.mp (by rw [nI_toInt (by omega)]; exact h)
theorem sw_in {x : Int32} {n : Nat} (h : x.toInt = (n : Int)) (hn : n ≤ 7) : ¬ bI (wi x (nI 0) (nI 7)) = 0 := by
  rw [sw_eq h (by omega)]
  exact bI_n0.mpr (wi_n (by omega) (by omega) (by omega))
theorem sw_out {x : Int32} {n : Nat} (h : x.toInt = (n : Int)) (hn : 8 ≤ n ∧ n < 100) : bI (wi x (nI 0) (nI 7)) = 0 := by
  rw [sw_eq h (by omega), bI_0]
  unfold wi
  have : ¬ nI n ≤ nI 7 := nI_ge (by omega) (by omega)
  simp [this]
theorem sw_dft {x : Int32} (h : x.toInt < 0 ∨ 12 < x.toInt) : bI (wi x (nI 0) (nI 7)) = 0 := by
  rw [bI_0]
  cases e : wi x (nI 0) (nI 7) with
  | false => rfl
  | true =>
    obtain ⟨k, -, h3, rfl⟩ := wi_of e (by decide) (by decide)
    rw [nI_toInt (by omega)] at h
    omega
section H28
variable {Ln : Nat} {xs : Nat → Int32} {α μ : Nat → Nat → Int32}
theorem op_lots {shift : Int32} {v : Int32} (hJ : J α μ)  : Op (rf_T Ln xs) MX11_lots MX12_lots [some (.ref 0), some (.int shift), some (.int v), none] [some (.ref 94), some (.int shift), some (.int v), none] α μ := by
  have hR := hJ.1.1.1
  have hI := hJ.2
  have b0 := hI.le0
  have b1 := hI.le1
  have b2 := hI.le2
  have b3 := hI.le3
  have b4 := hI.le4
  have b5 := hI.le5
  have b6 := hI.le6
  have b8 := hI.le8
  have b9 := hI.le9
  have b11 := hI.le11
  have b12 := hI.le12
  refine ok_step (ps := []) (L' := [some (.ref 0), some (.int shift), some (.int v), none]) (st' := [.int shift, .ref 0]) (σ' := (α, μ)) (pc' := 2) kX11_lots_0 rfl rfl rf_a0 ?_
  refine ok_V (As := [.int shift]) (b := 0) (st := []) mkX11_isShift qX11_lots_2 rfl (rc_0) rfl rfl rfl rfl (Nat.le_of_ble_eq_true rfl) (c_isShift hR) ?_
  refine ok_if_eq bX11_lots_5 (fun h5 => ?_) (fun h5 => ?_)
  · refine ok_step (ps := []) (L' := [some (.ref 0), some (.int shift), some (.int v), none]) (st' := [.int (-1000000001), .ref 0]) (σ' := (α, μ)) (pc' := 21) kX11_lots_18 rfl rfl rf_a0 ?_
    refine ok_V (As := [.int (-1000000001)]) (b := 0) (st := []) mkX11_error qX11_lots_21 rfl (rc_0) rfl rfl rfl rfl (Nat.le_of_ble_eq_true rfl) (c_error (k := 1) (by decide) (by decide) (by decide)) ?_
    refine ok_reti eX11_lots_24 rfl ?_
    refine ⟨rfl, _, rfl, ?_⟩
    refine ok_step (ps := []) (L' := [some (.ref 94), some (.int shift), some (.int v), none]) (st' := [.int shift, .ref 94]) (σ' := (rf_w α 93 1 (α 93 1 + nI 1), μ)) (pc' := 2) kX12_lots_0 rfl rfl rf_a0 ?_
    refine ok_V (As := [.int shift]) (b := 94) (st := []) mkX12_isShift qX12_lots_2 rfl (rc_94) rfl rfl rfl rfl (Nat.le_of_ble_eq_true rfl) (m_isShift) ?_
    refine ok_if_eq bX12_lots_5 (fun _ => ?_) (fun g5 => absurd (h5) g5)
    refine ok_step (ps := []) (L' := [some (.ref 94), some (.int shift), some (.int v), none]) (st' := [.int (nI 1), .ref 94]) (σ' := (rf_w α 93 1 (α 93 1 + nI 1), μ)) (pc' := 22) kX12_lots_20 rfl rfl rf_a0 ?_
    refine ok_V (As := [.int (nI 1)]) (b := 94) (st := []) mkX12_finds qX12_lots_22 rfl (rc_94) rfl rfl rfl rfl (Nat.le_of_ble_eq_true rfl) (m_finds (k := 1) (by decide)) ?_
    refine ok_reti eX12_lots_25 rfl ?_
    exact ⟨rfl, _, rfl, hJ.err (k := 1) (by decide)⟩
  · obtain ⟨s, hs, rfl⟩ := wi_lt (bI_n0.mp h5) hI.at5 (by omega)
    refine ok_step (ps := []) (L' := [some (.ref 0), some (.int (nI s)), some (.int v), none]) (st' := [.int (nI 9), .int (nI 0), .int v]) (σ' := (α, μ)) (pc' := 12) kX11_lots_8 rfl rfl rf_a0 ?_
    refine ok_S (As := [.int v, .int (nI 0), .int (nI 9)]) (st := []) mkX11_within qX11_lots_12 rfl rfl rfl rfl rfl (Nat.le_of_ble_eq_true rfl) (c_within) ?_
    refine ok_if_ne bX11_lots_15 (fun h15 => ?_) (fun h15 => ?_)
    · obtain ⟨m, hm1, hm2, rfl⟩ := wi_of (bI_n0.mp h15) (by decide) (by decide)
      refine ok_step (ps := [rf_in (nI s) 8, rf_in (nI s) 8]) (L' := [some (.ref 0), some (.int (nI s)), some (.int (nI m)), some (.int (α 21 ((nI s).toNatClampNeg)))]) (st' := [.int (α 21 ((nI s).toNatClampNeg))]) (σ' := (rf_w α 21 ((nI s).toNatClampNeg) (nI m), μ)) (pc' := 52) kX11_lots_25 rfl rfl (rf_a1 (rf_in_n (a := s) rfl (by omega)) (rf_a1 (rf_in_n (a := s) rfl (by omega)) rf_a0)) ?_
      try rw [(show (nI s).toNatClampNeg = s from rf_cl_n rfl (by omega))]
      try rw [(show α 21 s = μ 95 (330 + s) from rl_20 hR (i := s) (by omega) (by omega))]
      try rw [(show (nI s).toNatClampNeg = s from rf_cl_n rfl (by omega))]
      refine ok_reti eX11_lots_52 rfl ?_
      refine ⟨rfl, _, rfl, ?_⟩
      refine ok_step (ps := []) (L' := [some (.ref 94), some (.int (nI s)), some (.int (nI m)), none]) (st' := [.int (nI s), .ref 94]) (σ' := (rf_w α 21 s (nI m), μ)) (pc' := 2) kX12_lots_0 rfl rfl rf_a0 ?_
      refine ok_V (As := [.int (nI s)]) (b := 94) (st := []) mkX12_isShift qX12_lots_2 rfl (rc_94) rfl rfl rfl rfl (Nat.le_of_ble_eq_true rfl) (m_isShift) ?_
      refine ok_if_eq bX12_lots_5 (fun g5 => absurd g5 (h5)) (fun _ => ?_)
      refine ok_step (ps := []) (L' := [some (.ref 94), some (.int (nI s)), some (.int (nI m)), none]) (st' := [.long (lN 9), .long (lN 0), .long ((nI m).toInt64)]) (σ' := (rf_w α 21 s (nI m), μ)) (pc' := 14) kX12_lots_8 rfl rfl rf_a0 ?_
      refine ok_S (As := [.long ((nI m).toInt64), .long (lN 0), .long (lN 9)]) (st := []) mkX12_in qX12_lots_14 rfl rfl rfl rfl rfl (Nat.le_of_ble_eq_true rfl) (m_in) ?_
      rw [show wl ((nI m).toInt64) (lN 0) (lN 9) = wi (nI m) (nI 0) (nI 9) from wl_of rfl (nI_l (by decide)).symm (nI_l (by decide)).symm]
      refine ok_if_ne bX12_lots_17 (fun _ => ?_) (fun g17 => absurd g17 (h15))
      refine ok_step (ps := [rf_in ((nI 330) + (nI s)) 700, rf_in ((nI 330) + (nI s)) 700]) (L' := [some (.ref 94), some (.int (nI s)), some (.int (nI m)), some (.int (μ 95 (((nI 330) + (nI s)).toNatClampNeg)))]) (st' := [.int (μ 95 (((nI 330) + (nI s)).toNatClampNeg))]) (σ' := (rf_w α 21 s (nI m), rf_w μ 95 (((nI 330) + (nI s)).toNatClampNeg) (nI m))) (pc' := 49) kX12_lots_26 rfl rfl (rf_a1 (rf_in_n (a := (330 + s)) (by (try rw [(show ((nI 330) + (nI s)) = nI (330 + s) from rf_eq (rf_nadd (x := nI 330) (y := nI s) rfl rfl) (by omega))]); all_goals exact rfl) (by omega)) (rf_a1 (rf_in_n (a := (330 + s)) (by (try rw [(show ((nI 330) + (nI s)) = nI (330 + s) from rf_eq (rf_nadd (x := nI 330) (y := nI s) rfl rfl) (by omega))]); (try rw [(show (nI (330 + s)).toNatClampNeg = (330 + s) from rf_cl_n rfl (by omega))]); (try rw [(show ((nI 330) + (nI s)) = nI (330 + s) from rf_eq (rf_nadd (x := nI 330) (y := nI s) rfl rfl) (by omega))]); all_goals exact rfl) (by omega)) rf_a0)) ?_
      try rw [(show ((nI 330) + (nI s)) = nI (330 + s) from rf_eq (rf_nadd (x := nI 330) (y := nI s) rfl rfl) (by omega))]
      try rw [(show (nI (330 + s)).toNatClampNeg = (330 + s) from rf_cl_n rfl (by omega))]
      try rw [(show ((nI 330) + (nI s)) = nI (330 + s) from rf_eq (rf_nadd (x := nI 330) (y := nI s) rfl rfl) (by omega))]
      try rw [(show (nI (330 + s)).toNatClampNeg = (330 + s) from rf_cl_n rfl (by omega))]
      refine ok_reti eX12_lots_49 rfl ?_
      refine ⟨rfl, _, rfl, J0.mc (hJ.1.put (c := 20) (i := s) (j := (330 + s)) (off_20 (by omega) (by omega)) _) (fun i => ?_) (fun k hk => ?_), ?_⟩
      · simp only [rf_w_at, true_and, reduceIte]
        try (repeat' split)
        all_goals first | rfl | omega | (exfalso; omega)
      · simp only [rf_w_row hk]
      · try simp only [rf_w_self]
        exact hI.put330 (s := s) (m := m) (by omega) (by omega) (by omega)
    · refine ok_step (ps := []) (L' := [some (.ref 0), some (.int (nI s)), some (.int v), none]) (st' := [.int (-1000000001), .ref 0]) (σ' := (α, μ)) (pc' := 21) kX11_lots_18 rfl rfl rf_a0 ?_
      refine ok_V (As := [.int (-1000000001)]) (b := 0) (st := []) mkX11_error qX11_lots_21 rfl (rc_0) rfl rfl rfl rfl (Nat.le_of_ble_eq_true rfl) (c_error (k := 1) (by decide) (by decide) (by decide)) ?_
      refine ok_reti eX11_lots_24 rfl ?_
      refine ⟨rfl, _, rfl, ?_⟩
      refine ok_step (ps := []) (L' := [some (.ref 94), some (.int (nI s)), some (.int v), none]) (st' := [.int (nI s), .ref 94]) (σ' := (rf_w α 93 1 (α 93 1 + nI 1), μ)) (pc' := 2) kX12_lots_0 rfl rfl rf_a0 ?_
      refine ok_V (As := [.int (nI s)]) (b := 94) (st := []) mkX12_isShift qX12_lots_2 rfl (rc_94) rfl rfl rfl rfl (Nat.le_of_ble_eq_true rfl) (m_isShift) ?_
      refine ok_if_eq bX12_lots_5 (fun g5 => absurd g5 (h5)) (fun _ => ?_)
      refine ok_step (ps := []) (L' := [some (.ref 94), some (.int (nI s)), some (.int v), none]) (st' := [.long (lN 9), .long (lN 0), .long v.toInt64]) (σ' := (rf_w α 93 1 (α 93 1 + nI 1), μ)) (pc' := 14) kX12_lots_8 rfl rfl rf_a0 ?_
      refine ok_S (As := [.long v.toInt64, .long (lN 0), .long (lN 9)]) (st := []) mkX12_in qX12_lots_14 rfl rfl rfl rfl rfl (Nat.le_of_ble_eq_true rfl) (m_in) ?_
      rw [show wl v.toInt64 (lN 0) (lN 9) = wi v (nI 0) (nI 9) from wl_of rfl (nI_l (by decide)).symm (nI_l (by decide)).symm]
      refine ok_if_ne bX12_lots_17 (fun g17 => absurd (h15) g17) (fun _ => ?_)
      refine ok_step (ps := []) (L' := [some (.ref 94), some (.int (nI s)), some (.int v), none]) (st' := [.int (nI 1), .ref 94]) (σ' := (rf_w α 93 1 (α 93 1 + nI 1), μ)) (pc' := 22) kX12_lots_20 rfl rfl rf_a0 ?_
      refine ok_V (As := [.int (nI 1)]) (b := 94) (st := []) mkX12_finds qX12_lots_22 rfl (rc_94) rfl rfl rfl rfl (Nat.le_of_ble_eq_true rfl) (m_finds (k := 1) (by decide)) ?_
      refine ok_reti eX12_lots_25 rfl ?_
      exact ⟨rfl, _, rfl, hJ.err (k := 1) (by decide)⟩
theorem op_told {k : Int32} (hJ : J α μ)  : Op (rf_T Ln xs) MX11_told MX12_told [some (.ref 0), some (.int k)] [some (.ref 94), some (.int k)] α μ := by
  have hR := hJ.1.1.1
  have hI := hJ.2
  have b0 := hI.le0
  have b1 := hI.le1
  have b2 := hI.le2
  have b3 := hI.le3
  have b4 := hI.le4
  have b5 := hI.le5
  have b6 := hI.le6
  have b8 := hI.le8
  have b9 := hI.le9
  have b11 := hI.le11
  have b12 := hI.le12
  refine ok_step (ps := []) (L' := [some (.ref 0), some (.int k)]) (st' := [.int (nI 5), .int (nI 1), .int k]) (σ' := (α, μ)) (pc' := 3) kX11_told_0 rfl rfl rf_a0 ?_
  refine ok_S (As := [.int k, .int (nI 1), .int (nI 5)]) (st := []) mkX11_within qX11_told_3 rfl rfl rfl rfl rfl (Nat.le_of_ble_eq_true rfl) (c_within) ?_
  refine ok_if_ne bX11_told_6 (fun h6 => ?_) (fun h6 => ?_)
  · obtain ⟨m, hm1, hm2, rfl⟩ := wi_of (bI_n0.mp h6) (by decide) (by decide)
    refine ok_step (ps := [rf_in (nI m) 6]) (L' := [some (.ref 0), some (.int (nI m))]) (st' := [.int (α 93 ((nI m).toNatClampNeg))]) (σ' := (α, μ)) (pc' := 22) kX11_told_16 rfl rfl (rf_a1 (rf_in_n (a := m) rfl (by omega)) rf_a0) ?_
    try rw [(show (nI m).toNatClampNeg = m from rf_cl_n rfl (by omega))]
    try rw [(show α 93 m = μ 97 m from hJ.1.2.2.2.1 _ (by omega))]
    refine ok_reti eX11_told_22 rfl ?_
    refine ⟨rfl, _, rfl, ?_⟩
    refine ok_step (ps := []) (L' := [some (.ref 94), some (.int (nI m))]) (st' := [.long (lN 5), .long (lN 1), .long ((nI m).toInt64)]) (σ' := (α, μ)) (pc' := 6) kX12_told_0 rfl rfl rf_a0 ?_
    refine ok_S (As := [.long ((nI m).toInt64), .long (lN 1), .long (lN 5)]) (st := []) mkX12_in qX12_told_6 rfl rfl rfl rfl rfl (Nat.le_of_ble_eq_true rfl) (m_in) ?_
    rw [show wl ((nI m).toInt64) (lN 1) (lN 5) = wi (nI m) (nI 1) (nI 5) from wl_of rfl (nI_l (by decide)).symm (nI_l (by decide)).symm]
    refine ok_if_eq bX12_told_9 (fun g9 => absurd g9 (h6)) (fun _ => ?_)
    refine ok_step (ps := [rf_in (nI m) 6]) (L' := [some (.ref 94), some (.int (nI m))]) (st' := [.int (μ 97 ((nI m).toNatClampNeg))]) (σ' := (α, μ)) (pc' := 18) kX12_told_12 rfl rfl (rf_a1 (rf_in_n (a := m) rfl (by omega)) rf_a0) ?_
    try rw [(show (nI m).toNatClampNeg = m from rf_cl_n rfl (by omega))]
    refine ok_goto bX12_told_18 ?_
    refine ok_reti eX12_told_26 rfl ?_
    exact ⟨rfl, _, rfl, hJ⟩
  · refine ok_step (ps := []) (L' := [some (.ref 0), some (.int k)]) (st' := [.int (-1000000001), .ref 0]) (σ' := (α, μ)) (pc' := 12) kX11_told_9 rfl rfl rf_a0 ?_
    refine ok_V (As := [.int (-1000000001)]) (b := 0) (st := []) mkX11_error qX11_told_12 rfl (rc_0) rfl rfl rfl rfl (Nat.le_of_ble_eq_true rfl) (c_error (k := 1) (by decide) (by decide) (by decide)) ?_
    refine ok_reti eX11_told_15 rfl ?_
    refine ⟨rfl, _, rfl, ?_⟩
    refine ok_step (ps := []) (L' := [some (.ref 94), some (.int k)]) (st' := [.long (lN 5), .long (lN 1), .long k.toInt64]) (σ' := (rf_w α 93 1 (α 93 1 + nI 1), μ)) (pc' := 6) kX12_told_0 rfl rfl rf_a0 ?_
    refine ok_S (As := [.long k.toInt64, .long (lN 1), .long (lN 5)]) (st := []) mkX12_in qX12_told_6 rfl rfl rfl rfl rfl (Nat.le_of_ble_eq_true rfl) (m_in) ?_
    rw [show wl k.toInt64 (lN 1) (lN 5) = wi k (nI 1) (nI 5) from wl_of rfl (nI_l (by decide)).symm (nI_l (by decide)).symm]
    refine ok_if_eq bX12_told_9 (fun _ => ?_) (fun g9 => absurd (h6) g9)
    refine ok_step (ps := []) (L' := [some (.ref 94), some (.int k)]) (st' := [.int (nI 1), .ref 94]) (σ' := (rf_w α 93 1 (α 93 1 + nI 1), μ)) (pc' := 23) kX12_told_21 rfl rfl rf_a0 ?_
    refine ok_V (As := [.int (nI 1)]) (b := 94) (st := []) mkX12_finds qX12_told_23 rfl (rc_94) rfl rfl rfl rfl (Nat.le_of_ble_eq_true rfl) (m_finds (k := 1) (by decide)) ?_
    refine ok_reti eX12_told_26 rfl ?_
    exact ⟨rfl, _, rfl, hJ.err (k := 1) (by decide)⟩
theorem op_tell {v : Int32} (hJ : J α μ)  : Op (rf_T Ln xs) MX11_tell MX12_tell [some (.ref 0), some (.int v)] [some (.ref 94), some (.int v)] α μ := by
  have hR := hJ.1.1.1
  have hI := hJ.2
  have b0 := hI.le0
  have b1 := hI.le1
  have b2 := hI.le2
  have b3 := hI.le3
  have b4 := hI.le4
  have b5 := hI.le5
  have b6 := hI.le6
  have b8 := hI.le8
  have b9 := hI.le9
  have b11 := hI.le11
  have b12 := hI.le12
  refine ok_step (ps := []) (L' := [some (.ref 0), some (.int v)]) (st' := [.int (nI 20), .int (α 26 1)]) (σ' := (α, μ)) (pc' := 12) kX11_tell_0 rfl rfl rf_a0 ?_
  try rw [(show α 26 1 = μ 95 12 from hR 25 1 12 rfl)]
  refine ok_icmp_lt bX11_tell_12 (fun h12 => ?_) (fun h12 => ?_)
  · have l12 := nlt_lt hI.at12 h12 (by omega)
    refine ok_step (ps := []) (L' := [some (.ref 0), some (.int v)]) (st' := [.int v, .ref 26]) (σ' := (α, μ)) (pc' := 30) kX11_tell_22 rfl rfl rf_a0 ?_
    have hc30 : rf_At (rf_T Ln xs) MX0_addNumber 50 0 ([some (.ref 26), some (.int v)], [], 108, (α, μ)) (some (.int (nI (1 + cn (μ 95) 12)))) 108 (rf_w (rf_w α 28 (cn (μ 95) 12) v) 26 1 (nI (1 + cn (μ 95) 12)), μ) := by
      refine rf_pa ?_
      refine ok_step (ps := [rf_in (α 26 1) 20]) (L' := [some (.ref 26), some (.int v)]) (st' := [.int ((rf_w (rf_w α 28 ((α 26 1).toNatClampNeg) v) 26 1 (((rf_w α 28 ((α 26 1).toNatClampNeg) v) 26 1) + (nI 1))) 26 1)]) (σ' := (rf_w (rf_w α 28 ((α 26 1).toNatClampNeg) v) 26 1 (((rf_w α 28 ((α 26 1).toNatClampNeg) v) 26 1) + (nI 1)), μ)) (pc' := 24) kX0_addNumber_0 rfl rfl (rf_a1 (rf_in_n (a := (cn (μ 95) 12)) (by (try rw [(show α 26 1 = μ 95 12 from hR 25 1 12 rfl)]); all_goals exact (hI.at12)) (by omega)) rf_a0) ?_
      try rw [(show α 26 1 = μ 95 12 from hR 25 1 12 rfl)]
      try rw [(show (μ 95 12).toNatClampNeg = (cn (μ 95) 12) from rf_cl_n (hI.at12) (by omega))]
      try rw [(show (rf_w α 28 (cn (μ 95) 12) v) 26 1 = α 26 1 from by rw [rf_w_at, if_neg (fun h => absurd h.1 (by decide))])]
      try rw [(show α 26 1 = μ 95 12 from hR 25 1 12 rfl)]
      try rw [(show ((μ 95 12) + (nI 1)) = nI (1 + cn (μ 95) 12) from rf_eq (rf_nadd (x := μ 95 12) (y := nI 1) (hI.at12) rfl) (by omega))]
      try rw [(show (rf_w (rf_w α 28 (cn (μ 95) 12) v) 26 1 (nI (1 + cn (μ 95) 12))) 26 1 = (nI (1 + cn (μ 95) 12)) from by rw [rf_w_at, if_pos ⟨rfl, rfl⟩])]
      refine ok_reti eX0_addNumber_24 rfl ?_
      exact ⟨rfl, rfl⟩
    refine ok_V (As := [.int v]) (b := 26) (st := []) mkX0_addNumber qX11_tell_30 rfl (rc_26) rfl rfl rfl rfl (Nat.le_of_ble_eq_true rfl) (hc30) ?_
    refine ok_reti eX11_tell_33 rfl ?_
    refine ⟨rfl, _, rfl, ?_⟩
    refine ok_step (ps := [rf_in (nI 12) 700]) (L' := [some (.ref 94), some (.int v)]) (st' := [.int (nI 20), .int (μ 95 ((nI 12).toNatClampNeg))]) (σ' := (rf_w (rf_w α 28 (cn (μ 95) 12) v) 26 1 (nI (1 + cn (μ 95) 12)), μ)) (pc' := 9) kX12_tell_0 rfl rfl (rf_a1 (rf_in_n (a := 12) rfl (by omega)) rf_a0) ?_
    try rw [(show (nI 12).toNatClampNeg = 12 from rf_cl_n rfl (by omega))]
    refine ok_icmp_ne bX12_tell_9 (fun _ => ?_) (fun g9 => absurd g9 ((lt_ne h12)))
    refine ok_step (ps := [rf_in (nI 12) 700, rf_in ((nI 680) + (μ 95 ((nI 12).toNatClampNeg))) 700, rf_in (nI 12) 700, rf_in (nI 12) 700, rf_in (nI 12) 700]) (L' := [some (.ref 94), some (.int v)]) (st' := [.int ((rf_w (rf_w μ 95 (((nI 680) + (μ 95 ((nI 12).toNatClampNeg))).toNatClampNeg) v) 95 ((nI 12).toNatClampNeg) (((rf_w μ 95 (((nI 680) + (μ 95 ((nI 12).toNatClampNeg))).toNatClampNeg) v) 95 ((nI 12).toNatClampNeg)) + (nI 1))) 95 ((nI 12).toNatClampNeg))]) (σ' := (rf_w (rf_w α 28 (cn (μ 95) 12) v) 26 1 (nI (1 + cn (μ 95) 12)), rf_w (rf_w μ 95 (((nI 680) + (μ 95 ((nI 12).toNatClampNeg))).toNatClampNeg) v) 95 ((nI 12).toNatClampNeg) (((rf_w μ 95 (((nI 680) + (μ 95 ((nI 12).toNatClampNeg))).toNatClampNeg) v) 95 ((nI 12).toNatClampNeg)) + (nI 1)))) (pc' := 53) kX12_tell_18 rfl rfl (rf_a1 (rf_in_n (a := 12) rfl (by omega)) (rf_a1 (rf_in_n (a := (680 + cn (μ 95) 12)) (by (try rw [(show (nI 12).toNatClampNeg = 12 from rf_cl_n rfl (by omega))]); (try rw [(show ((nI 680) + (μ 95 12)) = nI (680 + cn (μ 95) 12) from rf_eq (rf_nadd (x := nI 680) (y := μ 95 12) rfl (hI.at12)) (by omega))]); all_goals exact rfl) (by omega)) (rf_a1 (rf_in_n (a := 12) rfl (by omega)) (rf_a1 (rf_in_n (a := 12) rfl (by omega)) (rf_a1 (rf_in_n (a := 12) rfl (by omega)) rf_a0))))) ?_
    try rw [(show (nI 12).toNatClampNeg = 12 from rf_cl_n rfl (by omega))]
    try rw [(show ((nI 680) + (μ 95 12)) = nI (680 + cn (μ 95) 12) from rf_eq (rf_nadd (x := nI 680) (y := μ 95 12) rfl (hI.at12)) (by omega))]
    try rw [(show (nI (680 + cn (μ 95) 12)).toNatClampNeg = (680 + cn (μ 95) 12) from rf_cl_n rfl (by omega))]
    try rw [(show (nI 12).toNatClampNeg = 12 from rf_cl_n rfl (by omega))]
    try rw [(show (rf_w μ 95 (680 + cn (μ 95) 12) v) 95 12 = μ 95 12 from by rw [rf_w_at, if_neg (fun h => absurd h.2 (by omega))])]
    try rw [(show ((μ 95 12) + (nI 1)) = nI (1 + cn (μ 95) 12) from rf_eq (rf_nadd (x := μ 95 12) (y := nI 1) (hI.at12) rfl) (by omega))]
    try rw [(show (nI 12).toNatClampNeg = 12 from rf_cl_n rfl (by omega))]
    try rw [(show (rf_w (rf_w μ 95 (680 + cn (μ 95) 12) v) 95 12 (nI (1 + cn (μ 95) 12))) 95 12 = (nI (1 + cn (μ 95) 12)) from by rw [rf_w_at, if_pos ⟨rfl, rfl⟩])]
    refine ok_reti eX12_tell_53 rfl ?_
    refine ⟨rfl, _, rfl, J0.mc ((hJ.1.put (c := 27) (i := (cn (μ 95) 12)) (j := (680 + cn (μ 95) 12)) (off_27 (by omega) (by omega)) _).put (c := 25) (i := 1) (j := 12) rfl _) (fun i => ?_) (fun k hk => ?_), ?_⟩
    · simp only [rf_w_at, true_and, reduceIte]
      try (repeat' split)
      all_goals first | rfl | omega | (exfalso; omega)
    · simp only [rf_w_row hk]
    · try simp only [rf_w_self]
      exact (hI.put (fun bb hb => by rw [bdN (by omega)] at hb; cases hb) (by unfold nst; omega)).put (fun bb hb => ⟨(1 + cn (μ 95) 12), by cases hb; omega, rfl⟩) (by unfold nst; omega)
  · refine ok_step (ps := []) (L' := [some (.ref 0), some (.int v)]) (st' := [.int (-1000000004), .ref 0]) (σ' := (α, μ)) (pc' := 18) kX11_tell_15 rfl rfl rf_a0 ?_
    refine ok_V (As := [.int (-1000000004)]) (b := 0) (st := []) mkX11_error qX11_tell_18 rfl (rc_0) rfl rfl rfl rfl (Nat.le_of_ble_eq_true rfl) (c_error (k := 4) (by decide) (by decide) (by decide)) ?_
    refine ok_reti eX11_tell_21 rfl ?_
    refine ⟨rfl, _, rfl, ?_⟩
    refine ok_step (ps := [rf_in (nI 12) 700]) (L' := [some (.ref 94), some (.int v)]) (st' := [.int (nI 20), .int (μ 95 ((nI 12).toNatClampNeg))]) (σ' := (rf_w α 93 4 (α 93 4 + nI 1), μ)) (pc' := 9) kX12_tell_0 rfl rfl (rf_a1 (rf_in_n (a := 12) rfl (by omega)) rf_a0) ?_
    try rw [(show (nI 12).toNatClampNeg = 12 from rf_cl_n rfl (by omega))]
    refine ok_icmp_ne bX12_tell_9 (fun g9 => absurd ((full_eq (hI.at12) (by omega) h12)) g9) (fun _ => ?_)
    refine ok_step (ps := []) (L' := [some (.ref 94), some (.int v)]) (st' := [.int (nI 4), .ref 94]) (σ' := (rf_w α 93 4 (α 93 4 + nI 1), μ)) (pc' := 14) kX12_tell_12 rfl rfl rf_a0 ?_
    refine ok_V (As := [.int (nI 4)]) (b := 94) (st := []) mkX12_finds qX12_tell_14 rfl (rc_94) rfl rfl rfl rfl (Nat.le_of_ble_eq_true rfl) (m_finds (k := 4) (by decide)) ?_
    refine ok_reti eX12_tell_17 rfl ?_
    exact ⟨rfl, _, rfl, hJ.err (k := 4) (by decide)⟩
theorem op_find {i0 : Int32} {what : Int32} (hJ : J α μ)  : Op (rf_T Ln xs) MX11_find MX12_find [some (.ref 0), some (.int i0), some (.int what)] [some (.ref 94), some (.int i0), some (.int what)] α μ := by
  have hR := hJ.1.1.1
  have hI := hJ.2
  have b0 := hI.le0
  have b1 := hI.le1
  have b2 := hI.le2
  have b3 := hI.le3
  have b4 := hI.le4
  have b5 := hI.le5
  have b6 := hI.le6
  have b8 := hI.le8
  have b9 := hI.le9
  have b11 := hI.le11
  have b12 := hI.le12
  refine ok_step (ps := []) (L' := [some (.ref 0), some (.int i0), some (.int what)]) (st' := [.int (nI 2), .int (nI 0), .int what]) (σ' := (α, μ)) (pc' := 3) kX11_find_0 rfl rfl rf_a0 ?_
  refine ok_S (As := [.int what, .int (nI 0), .int (nI 2)]) (st := []) mkX11_within qX11_find_3 rfl rfl rfl rfl rfl (Nat.le_of_ble_eq_true rfl) (c_within) ?_
  refine ok_if_eq bX11_find_6 (fun h6 => ?_) (fun h6 => ?_)
  · refine ok_step (ps := []) (L' := [some (.ref 0), some (.int i0), some (.int what)]) (st' := [.int (-1000000001), .ref 0]) (σ' := (α, μ)) (pc' := 16) kX11_find_13 rfl rfl rf_a0 ?_
    refine ok_V (As := [.int (-1000000001)]) (b := 0) (st := []) mkX11_error qX11_find_16 rfl (rc_0) rfl rfl rfl rfl (Nat.le_of_ble_eq_true rfl) (c_error (k := 1) (by decide) (by decide) (by decide)) ?_
    refine ok_reti eX11_find_19 rfl ?_
    refine ⟨rfl, _, rfl, ?_⟩
    refine ok_step (ps := []) (L' := [some (.ref 94), some (.int i0), some (.int what)]) (st' := [.int i0]) (σ' := (rf_w α 93 1 (α 93 1 + nI 1), μ)) (pc' := 1) kX12_find_0 rfl rfl rf_a0 ?_
    refine ok_if_lt bX12_find_1 (fun g1 => ?_) (fun g1 => ?_)
    · refine ok_step (ps := []) (L' := [some (.ref 94), some (.int i0), some (.int what)]) (st' := [.int (nI 1), .ref 94]) (σ' := (rf_w α 93 1 (α 93 1 + nI 1), μ)) (pc' := 18) kX12_find_16 rfl rfl rf_a0 ?_
      refine ok_V (As := [.int (nI 1)]) (b := 94) (st := []) mkX12_finds qX12_find_18 rfl (rc_94) rfl rfl rfl rfl (Nat.le_of_ble_eq_true rfl) (m_finds (k := 1) (by decide)) ?_
      refine ok_reti eX12_find_21 rfl ?_
      exact ⟨rfl, _, rfl, hJ.err (k := 1) (by decide)⟩
    · refine ok_step (ps := []) (L' := [some (.ref 94), some (.int i0), some (.int what)]) (st' := [.long (lN 2), .long (lN 0), .long what.toInt64]) (σ' := (rf_w α 93 1 (α 93 1 + nI 1), μ)) (pc' := 10) kX12_find_4 rfl rfl rf_a0 ?_
      refine ok_S (As := [.long what.toInt64, .long (lN 0), .long (lN 2)]) (st := []) mkX12_in qX12_find_10 rfl rfl rfl rfl rfl (Nat.le_of_ble_eq_true rfl) (m_in) ?_
      rw [show wl what.toInt64 (lN 0) (lN 2) = wi what (nI 0) (nI 2) from wl_of rfl (nI_l (by decide)).symm (nI_l (by decide)).symm]
      refine ok_if_ne bX12_find_13 (fun g13 => absurd (h6) g13) (fun _ => ?_)
      refine ok_step (ps := []) (L' := [some (.ref 94), some (.int i0), some (.int what)]) (st' := [.int (nI 1), .ref 94]) (σ' := (rf_w α 93 1 (α 93 1 + nI 1), μ)) (pc' := 18) kX12_find_16 rfl rfl rf_a0 ?_
      refine ok_V (As := [.int (nI 1)]) (b := 94) (st := []) mkX12_finds qX12_find_18 rfl (rc_94) rfl rfl rfl rfl (Nat.le_of_ble_eq_true rfl) (m_finds (k := 1) (by decide)) ?_
      refine ok_reti eX12_find_21 rfl ?_
      exact ⟨rfl, _, rfl, hJ.err (k := 1) (by decide)⟩
  · obtain ⟨k, hk1, hk2, rfl⟩ := wi_of (bI_n0.mp h6) (by decide) (by decide)
    refine ok_step (ps := []) (L' := [some (.ref 0), some (.int i0), some (.int (nI k))]) (st' := [.int i0]) (σ' := (α, μ)) (pc' := 10) kX11_find_9 rfl rfl rf_a0 ?_
    refine ok_if_ge bX11_find_10 (fun h10 => ?_) (fun h10 => ?_)
    · obtain ⟨i, hi, rfl⟩ := ge_0 h10
      refine ok_step (ps := []) (L' := [some (.ref 0), some (.int (nI i)), some (.int (nI k))]) (st' := [.int (α 22 3), .int (nI i)]) (σ' := (α, μ)) (pc' := 31) kX11_find_20 rfl rfl rf_a0 ?_
      try rw [(show α 22 3 = μ 95 6 from hR 21 3 6 rfl)]
      refine ok_icmp_lt bX11_find_31 (fun h31 => ?_) (fun h31 => ?_)
      · have l31 := lt_nat h31 hI.at6 (by omega)
        refine ok_step (ps := []) (L' := [some (.ref 0), some (.int (nI i)), some (.int (nI k))]) (st' := [.int (nI k)]) (σ' := (α, μ)) (pc' := 42) kX11_find_41 rfl rfl rf_a0 ?_
        refine ok_if_ne bX11_find_42 (fun h42 => ?_) (fun h42 => ?_)
        · refine ok_step (ps := []) (L' := [some (.ref 0), some (.int (nI i)), some (.int (nI k))]) (st' := [.int (nI 1), .int (nI k)]) (σ' := (α, μ)) (pc' := 60) kX11_find_58 rfl rfl rf_a0 ?_
          refine ok_icmp_ne bX11_find_60 (fun h60 => ?_) (fun h60 => ?_)
          · refine ok_step (ps := [rf_in (nI i) 60]) (L' := [some (.ref 0), some (.int (nI i)), some (.int (nI k))]) (st' := [.int (α 25 ((nI i).toNatClampNeg))]) (σ' := (α, μ)) (pc' := 90) kX11_find_78 rfl rfl (rf_a1 (rf_in_n (a := i) rfl (by omega)) rf_a0) ?_
            try rw [(show (nI i).toNatClampNeg = i from rf_cl_n rfl (by omega))]
            try rw [(show α 25 i = μ 95 (342 + 3 * i) from rl_24 hR (i := i) (by omega) (by omega))]
            refine ok_reti eX11_find_90 rfl ?_
            refine ⟨rfl, _, rfl, ?_⟩
            refine ok_step (ps := []) (L' := [some (.ref 94), some (.int (nI i)), some (.int (nI k))]) (st' := [.int (nI i)]) (σ' := (α, μ)) (pc' := 1) kX12_find_0 rfl rfl rf_a0 ?_
            refine ok_if_lt bX12_find_1 (fun g1 => absurd g1 ((Int32.not_lt.mpr h10))) (fun _ => ?_)
            refine ok_step (ps := []) (L' := [some (.ref 94), some (.int (nI i)), some (.int (nI k))]) (st' := [.long (lN 2), .long (lN 0), .long ((nI k).toInt64)]) (σ' := (α, μ)) (pc' := 10) kX12_find_4 rfl rfl rf_a0 ?_
            refine ok_S (As := [.long ((nI k).toInt64), .long (lN 0), .long (lN 2)]) (st := []) mkX12_in qX12_find_10 rfl rfl rfl rfl rfl (Nat.le_of_ble_eq_true rfl) (m_in) ?_
            rw [show wl ((nI k).toInt64) (lN 0) (lN 2) = wi (nI k) (nI 0) (nI 2) from wl_of rfl (nI_l (by decide)).symm (nI_l (by decide)).symm]
            refine ok_if_ne bX12_find_13 (fun _ => ?_) (fun g13 => absurd g13 (h6))
            refine ok_step (ps := [rf_in (nI 6) 700]) (L' := [some (.ref 94), some (.int (nI i)), some (.int (nI k))]) (st' := [.int (μ 95 ((nI 6).toNatClampNeg)), .int (nI i)]) (σ' := (α, μ)) (pc' := 30) kX12_find_22 rfl rfl (rf_a1 (rf_in_n (a := 6) rfl (by omega)) rf_a0) ?_
            try rw [(show (nI 6).toNatClampNeg = 6 from rf_cl_n rfl (by omega))]
            refine ok_icmp_ge bX12_find_30 (fun g30 => absurd g30 ((Int32.not_le.mpr h31))) (fun _ => ?_)
            refine ok_step (ps := [rf_in (((nI 340) + ((nI 3) * (nI i))) + (nI k)) 700]) (L' := [some (.ref 94), some (.int (nI i)), some (.int (nI k))]) (st' := [.int (μ 95 ((((nI 340) + ((nI 3) * (nI i))) + (nI k)).toNatClampNeg))]) (σ' := (α, μ)) (pc' := 47) kX12_find_33 rfl rfl (rf_a1 (rf_in_n (a := (340 + 3 * i + k)) (by (try rw [(show ((nI 3) * (nI i)) = nI (3 * i) from rf_eq (rf_nmul (x := nI 3) (y := nI i) rfl rfl) (by omega))]); (try rw [(show ((nI 340) + (nI (3 * i))) = nI (340 + 3 * i) from rf_eq (rf_nadd (x := nI 340) (y := nI (3 * i)) rfl rfl) (by omega))]); (try rw [(show ((nI (340 + 3 * i)) + (nI k)) = nI (340 + 3 * i + k) from rf_eq (rf_nadd (x := nI (340 + 3 * i)) (y := nI k) rfl rfl) (by omega))]); all_goals exact rfl) (by omega)) rf_a0) ?_
            try rw [(show ((nI 3) * (nI i)) = nI (3 * i) from rf_eq (rf_nmul (x := nI 3) (y := nI i) rfl rfl) (by omega))]
            try rw [(show ((nI 340) + (nI (3 * i))) = nI (340 + 3 * i) from rf_eq (rf_nadd (x := nI 340) (y := nI (3 * i)) rfl rfl) (by omega))]
            try rw [(show ((nI (340 + 3 * i)) + (nI k)) = nI (340 + 3 * i + k) from rf_eq (rf_nadd (x := nI (340 + 3 * i)) (y := nI k) rfl rfl) (by omega))]
            try rw [(show (nI (340 + 3 * i + k)).toNatClampNeg = (340 + 3 * i + k) from rf_cl_n rfl (by omega))]
            refine ok_goto bX12_find_47 ?_
            refine ok_reti eX12_find_55 rfl ?_
            refine ⟨?_, _, rfl, hJ⟩
            congr 2
            first | (have e : k = 0 := nI_inj h42 (by omega) (by omega); rw [e]; rfl) | (have e : k = 1 := nI_inj h60 (by omega) (by omega); rw [e, show 340 + 3 * i + 1 = 341 + 3 * i by omega]) | (have e1 : k ≠ 0 := fun e => h42 (by rw [e]; rfl); have e2 := nI_ne h60; rw [show 340 + 3 * i + k = 342 + 3 * i by omega])
          · refine ok_step (ps := [rf_in (nI i) 60]) (L' := [some (.ref 0), some (.int (nI i)), some (.int (nI k))]) (st' := [.int (α 24 ((nI i).toNatClampNeg))]) (σ' := (α, μ)) (pc' := 75) kX11_find_63 rfl rfl (rf_a1 (rf_in_n (a := i) rfl (by omega)) rf_a0) ?_
            try rw [(show (nI i).toNatClampNeg = i from rf_cl_n rfl (by omega))]
            try rw [(show α 24 i = μ 95 (341 + 3 * i) from rl_23 hR (i := i) (by omega) (by omega))]
            refine ok_goto bX11_find_75 ?_
            refine ok_reti eX11_find_90 rfl ?_
            refine ⟨rfl, _, rfl, ?_⟩
            refine ok_step (ps := []) (L' := [some (.ref 94), some (.int (nI i)), some (.int (nI k))]) (st' := [.int (nI i)]) (σ' := (α, μ)) (pc' := 1) kX12_find_0 rfl rfl rf_a0 ?_
            refine ok_if_lt bX12_find_1 (fun g1 => absurd g1 ((Int32.not_lt.mpr h10))) (fun _ => ?_)
            refine ok_step (ps := []) (L' := [some (.ref 94), some (.int (nI i)), some (.int (nI k))]) (st' := [.long (lN 2), .long (lN 0), .long ((nI k).toInt64)]) (σ' := (α, μ)) (pc' := 10) kX12_find_4 rfl rfl rf_a0 ?_
            refine ok_S (As := [.long ((nI k).toInt64), .long (lN 0), .long (lN 2)]) (st := []) mkX12_in qX12_find_10 rfl rfl rfl rfl rfl (Nat.le_of_ble_eq_true rfl) (m_in) ?_
            rw [show wl ((nI k).toInt64) (lN 0) (lN 2) = wi (nI k) (nI 0) (nI 2) from wl_of rfl (nI_l (by decide)).symm (nI_l (by decide)).symm]
            refine ok_if_ne bX12_find_13 (fun _ => ?_) (fun g13 => absurd g13 (h6))
            refine ok_step (ps := [rf_in (nI 6) 700]) (L' := [some (.ref 94), some (.int (nI i)), some (.int (nI k))]) (st' := [.int (μ 95 ((nI 6).toNatClampNeg)), .int (nI i)]) (σ' := (α, μ)) (pc' := 30) kX12_find_22 rfl rfl (rf_a1 (rf_in_n (a := 6) rfl (by omega)) rf_a0) ?_
            try rw [(show (nI 6).toNatClampNeg = 6 from rf_cl_n rfl (by omega))]
            refine ok_icmp_ge bX12_find_30 (fun g30 => absurd g30 ((Int32.not_le.mpr h31))) (fun _ => ?_)
            refine ok_step (ps := [rf_in (((nI 340) + ((nI 3) * (nI i))) + (nI k)) 700]) (L' := [some (.ref 94), some (.int (nI i)), some (.int (nI k))]) (st' := [.int (μ 95 ((((nI 340) + ((nI 3) * (nI i))) + (nI k)).toNatClampNeg))]) (σ' := (α, μ)) (pc' := 47) kX12_find_33 rfl rfl (rf_a1 (rf_in_n (a := (340 + 3 * i + k)) (by (try rw [(show ((nI 3) * (nI i)) = nI (3 * i) from rf_eq (rf_nmul (x := nI 3) (y := nI i) rfl rfl) (by omega))]); (try rw [(show ((nI 340) + (nI (3 * i))) = nI (340 + 3 * i) from rf_eq (rf_nadd (x := nI 340) (y := nI (3 * i)) rfl rfl) (by omega))]); (try rw [(show ((nI (340 + 3 * i)) + (nI k)) = nI (340 + 3 * i + k) from rf_eq (rf_nadd (x := nI (340 + 3 * i)) (y := nI k) rfl rfl) (by omega))]); all_goals exact rfl) (by omega)) rf_a0) ?_
            try rw [(show ((nI 3) * (nI i)) = nI (3 * i) from rf_eq (rf_nmul (x := nI 3) (y := nI i) rfl rfl) (by omega))]
            try rw [(show ((nI 340) + (nI (3 * i))) = nI (340 + 3 * i) from rf_eq (rf_nadd (x := nI 340) (y := nI (3 * i)) rfl rfl) (by omega))]
            try rw [(show ((nI (340 + 3 * i)) + (nI k)) = nI (340 + 3 * i + k) from rf_eq (rf_nadd (x := nI (340 + 3 * i)) (y := nI k) rfl rfl) (by omega))]
            try rw [(show (nI (340 + 3 * i + k)).toNatClampNeg = (340 + 3 * i + k) from rf_cl_n rfl (by omega))]
            refine ok_goto bX12_find_47 ?_
            refine ok_reti eX12_find_55 rfl ?_
            refine ⟨?_, _, rfl, hJ⟩
            congr 2
            first | (have e : k = 0 := nI_inj h42 (by omega) (by omega); rw [e]; rfl) | (have e : k = 1 := nI_inj h60 (by omega) (by omega); rw [e, show 340 + 3 * i + 1 = 341 + 3 * i by omega]) | (have e1 : k ≠ 0 := fun e => h42 (by rw [e]; rfl); have e2 := nI_ne h60; rw [show 340 + 3 * i + k = 342 + 3 * i by omega])
        · refine ok_step (ps := [rf_in (nI i) 60]) (L' := [some (.ref 0), some (.int (nI i)), some (.int (nI k))]) (st' := [.int (α 23 ((nI i).toNatClampNeg))]) (σ' := (α, μ)) (pc' := 57) kX11_find_45 rfl rfl (rf_a1 (rf_in_n (a := i) rfl (by omega)) rf_a0) ?_
          try rw [(show (nI i).toNatClampNeg = i from rf_cl_n rfl (by omega))]
          try rw [(show α 23 i = μ 95 (340 + 3 * i) from rl_22 hR (i := i) (by omega) (by omega))]
          refine ok_reti eX11_find_57 rfl ?_
          refine ⟨rfl, _, rfl, ?_⟩
          refine ok_step (ps := []) (L' := [some (.ref 94), some (.int (nI i)), some (.int (nI k))]) (st' := [.int (nI i)]) (σ' := (α, μ)) (pc' := 1) kX12_find_0 rfl rfl rf_a0 ?_
          refine ok_if_lt bX12_find_1 (fun g1 => absurd g1 ((Int32.not_lt.mpr h10))) (fun _ => ?_)
          refine ok_step (ps := []) (L' := [some (.ref 94), some (.int (nI i)), some (.int (nI k))]) (st' := [.long (lN 2), .long (lN 0), .long ((nI k).toInt64)]) (σ' := (α, μ)) (pc' := 10) kX12_find_4 rfl rfl rf_a0 ?_
          refine ok_S (As := [.long ((nI k).toInt64), .long (lN 0), .long (lN 2)]) (st := []) mkX12_in qX12_find_10 rfl rfl rfl rfl rfl (Nat.le_of_ble_eq_true rfl) (m_in) ?_
          rw [show wl ((nI k).toInt64) (lN 0) (lN 2) = wi (nI k) (nI 0) (nI 2) from wl_of rfl (nI_l (by decide)).symm (nI_l (by decide)).symm]
          refine ok_if_ne bX12_find_13 (fun _ => ?_) (fun g13 => absurd g13 (h6))
          refine ok_step (ps := [rf_in (nI 6) 700]) (L' := [some (.ref 94), some (.int (nI i)), some (.int (nI k))]) (st' := [.int (μ 95 ((nI 6).toNatClampNeg)), .int (nI i)]) (σ' := (α, μ)) (pc' := 30) kX12_find_22 rfl rfl (rf_a1 (rf_in_n (a := 6) rfl (by omega)) rf_a0) ?_
          try rw [(show (nI 6).toNatClampNeg = 6 from rf_cl_n rfl (by omega))]
          refine ok_icmp_ge bX12_find_30 (fun g30 => absurd g30 ((Int32.not_le.mpr h31))) (fun _ => ?_)
          refine ok_step (ps := [rf_in (((nI 340) + ((nI 3) * (nI i))) + (nI k)) 700]) (L' := [some (.ref 94), some (.int (nI i)), some (.int (nI k))]) (st' := [.int (μ 95 ((((nI 340) + ((nI 3) * (nI i))) + (nI k)).toNatClampNeg))]) (σ' := (α, μ)) (pc' := 47) kX12_find_33 rfl rfl (rf_a1 (rf_in_n (a := (340 + 3 * i + k)) (by (try rw [(show ((nI 3) * (nI i)) = nI (3 * i) from rf_eq (rf_nmul (x := nI 3) (y := nI i) rfl rfl) (by omega))]); (try rw [(show ((nI 340) + (nI (3 * i))) = nI (340 + 3 * i) from rf_eq (rf_nadd (x := nI 340) (y := nI (3 * i)) rfl rfl) (by omega))]); (try rw [(show ((nI (340 + 3 * i)) + (nI k)) = nI (340 + 3 * i + k) from rf_eq (rf_nadd (x := nI (340 + 3 * i)) (y := nI k) rfl rfl) (by omega))]); all_goals exact rfl) (by omega)) rf_a0) ?_
          try rw [(show ((nI 3) * (nI i)) = nI (3 * i) from rf_eq (rf_nmul (x := nI 3) (y := nI i) rfl rfl) (by omega))]
          try rw [(show ((nI 340) + (nI (3 * i))) = nI (340 + 3 * i) from rf_eq (rf_nadd (x := nI 340) (y := nI (3 * i)) rfl rfl) (by omega))]
          try rw [(show ((nI (340 + 3 * i)) + (nI k)) = nI (340 + 3 * i + k) from rf_eq (rf_nadd (x := nI (340 + 3 * i)) (y := nI k) rfl rfl) (by omega))]
          try rw [(show (nI (340 + 3 * i + k)).toNatClampNeg = (340 + 3 * i + k) from rf_cl_n rfl (by omega))]
          refine ok_goto bX12_find_47 ?_
          refine ok_reti eX12_find_55 rfl ?_
          refine ⟨?_, _, rfl, hJ⟩
          congr 2
          first | (have e : k = 0 := nI_inj h42 (by omega) (by omega); rw [e]; rfl) | (have e : k = 1 := nI_inj h60 (by omega) (by omega); rw [e, show 340 + 3 * i + 1 = 341 + 3 * i by omega]) | (have e1 : k ≠ 0 := fun e => h42 (by rw [e]; rfl); have e2 := nI_ne h60; rw [show 340 + 3 * i + k = 342 + 3 * i by omega])
      · refine ok_step (ps := []) (L' := [some (.ref 0), some (.int (nI i)), some (.int (nI k))]) (st' := [.int (-1000000002), .ref 0]) (σ' := (α, μ)) (pc' := 37) kX11_find_34 rfl rfl rf_a0 ?_
        refine ok_V (As := [.int (-1000000002)]) (b := 0) (st := []) mkX11_error qX11_find_37 rfl (rc_0) rfl rfl rfl rfl (Nat.le_of_ble_eq_true rfl) (c_error (k := 2) (by decide) (by decide) (by decide)) ?_
        refine ok_reti eX11_find_40 rfl ?_
        refine ⟨rfl, _, rfl, ?_⟩
        refine ok_step (ps := []) (L' := [some (.ref 94), some (.int (nI i)), some (.int (nI k))]) (st' := [.int (nI i)]) (σ' := (rf_w α 93 2 (α 93 2 + nI 1), μ)) (pc' := 1) kX12_find_0 rfl rfl rf_a0 ?_
        refine ok_if_lt bX12_find_1 (fun g1 => absurd g1 ((Int32.not_lt.mpr h10))) (fun _ => ?_)
        refine ok_step (ps := []) (L' := [some (.ref 94), some (.int (nI i)), some (.int (nI k))]) (st' := [.long (lN 2), .long (lN 0), .long ((nI k).toInt64)]) (σ' := (rf_w α 93 2 (α 93 2 + nI 1), μ)) (pc' := 10) kX12_find_4 rfl rfl rf_a0 ?_
        refine ok_S (As := [.long ((nI k).toInt64), .long (lN 0), .long (lN 2)]) (st := []) mkX12_in qX12_find_10 rfl rfl rfl rfl rfl (Nat.le_of_ble_eq_true rfl) (m_in) ?_
        rw [show wl ((nI k).toInt64) (lN 0) (lN 2) = wi (nI k) (nI 0) (nI 2) from wl_of rfl (nI_l (by decide)).symm (nI_l (by decide)).symm]
        refine ok_if_ne bX12_find_13 (fun _ => ?_) (fun g13 => absurd g13 (h6))
        refine ok_step (ps := [rf_in (nI 6) 700]) (L' := [some (.ref 94), some (.int (nI i)), some (.int (nI k))]) (st' := [.int (μ 95 ((nI 6).toNatClampNeg)), .int (nI i)]) (σ' := (rf_w α 93 2 (α 93 2 + nI 1), μ)) (pc' := 30) kX12_find_22 rfl rfl (rf_a1 (rf_in_n (a := 6) rfl (by omega)) rf_a0) ?_
        try rw [(show (nI 6).toNatClampNeg = 6 from rf_cl_n rfl (by omega))]
        refine ok_icmp_ge bX12_find_30 (fun _ => ?_) (fun g30 => absurd ((Int32.not_lt.mp h31)) g30)
        refine ok_step (ps := []) (L' := [some (.ref 94), some (.int (nI i)), some (.int (nI k))]) (st' := [.int (nI 2), .ref 94]) (σ' := (rf_w α 93 2 (α 93 2 + nI 1), μ)) (pc' := 52) kX12_find_50 rfl rfl rf_a0 ?_
        refine ok_V (As := [.int (nI 2)]) (b := 94) (st := []) mkX12_finds qX12_find_52 rfl (rc_94) rfl rfl rfl rfl (Nat.le_of_ble_eq_true rfl) (m_finds (k := 2) (by decide)) ?_
        refine ok_reti eX12_find_55 rfl ?_
        exact ⟨rfl, _, rfl, hJ.err (k := 2) (by decide)⟩
    · refine ok_step (ps := []) (L' := [some (.ref 0), some (.int i0), some (.int (nI k))]) (st' := [.int (-1000000001), .ref 0]) (σ' := (α, μ)) (pc' := 16) kX11_find_13 rfl rfl rf_a0 ?_
      refine ok_V (As := [.int (-1000000001)]) (b := 0) (st := []) mkX11_error qX11_find_16 rfl (rc_0) rfl rfl rfl rfl (Nat.le_of_ble_eq_true rfl) (c_error (k := 1) (by decide) (by decide) (by decide)) ?_
      refine ok_reti eX11_find_19 rfl ?_
      refine ⟨rfl, _, rfl, ?_⟩
      refine ok_step (ps := []) (L' := [some (.ref 94), some (.int i0), some (.int (nI k))]) (st' := [.int i0]) (σ' := (rf_w α 93 1 (α 93 1 + nI 1), μ)) (pc' := 1) kX12_find_0 rfl rfl rf_a0 ?_
      refine ok_if_lt bX12_find_1 (fun _ => ?_) (fun g1 => absurd ((Int32.not_le.mp h10)) g1)
      refine ok_step (ps := []) (L' := [some (.ref 94), some (.int i0), some (.int (nI k))]) (st' := [.int (nI 1), .ref 94]) (σ' := (rf_w α 93 1 (α 93 1 + nI 1), μ)) (pc' := 18) kX12_find_16 rfl rfl rf_a0 ?_
      refine ok_V (As := [.int (nI 1)]) (b := 94) (st := []) mkX12_finds qX12_find_18 rfl (rc_94) rfl rfl rfl rfl (Nat.le_of_ble_eq_true rfl) (m_finds (k := 1) (by decide)) ?_
      refine ok_reti eX12_find_21 rfl ?_
      exact ⟨rfl, _, rfl, hJ.err (k := 1) (by decide)⟩
theorem op_price {what : Int32} {v : Int32} (hJ : J α μ)  : Op (rf_T Ln xs) MX11_price MX12_price [some (.ref 0), some (.int what), some (.int v), none] [some (.ref 94), some (.int what), some (.int v), none] α μ := by
  have hR := hJ.1.1.1
  have hI := hJ.2
  have b0 := hI.le0
  have b1 := hI.le1
  have b2 := hI.le2
  have b3 := hI.le3
  have b4 := hI.le4
  have b5 := hI.le5
  have b6 := hI.le6
  have b8 := hI.le8
  have b9 := hI.le9
  have b11 := hI.le11
  have b12 := hI.le12
  refine ok_step (ps := []) (L' := [some (.ref 0), some (.int what), some (.int v), none]) (st' := [.int what]) (σ' := (α, μ)) (pc' := 1) kX11_price_0 rfl rfl rf_a0 ?_
  refine ok_if_ne bX11_price_1 (fun h1 => ?_) (fun h1 => ?_)
  · refine ok_step (ps := []) (L' := [some (.ref 0), some (.int what), some (.int v), none]) (st' := [.int (nI 1), .int what]) (σ' := (α, μ)) (pc' := 40) kX11_price_38 rfl rfl rf_a0 ?_
    refine ok_icmp_ne bX11_price_40 (fun h40 => ?_) (fun h40 => ?_)
    · refine ok_step (ps := []) (L' := [some (.ref 0), some (.int what), some (.int v), none]) (st' := [.int (-1000000001), .ref 0]) (σ' := (α, μ)) (pc' := 81) kX11_price_78 rfl rfl rf_a0 ?_
      refine ok_V (As := [.int (-1000000001)]) (b := 0) (st := []) mkX11_error qX11_price_81 rfl (rc_0) rfl rfl rfl rfl (Nat.le_of_ble_eq_true rfl) (c_error (k := 1) (by decide) (by decide) (by decide)) ?_
      refine ok_reti eX11_price_84 rfl ?_
      refine ⟨rfl, _, rfl, ?_⟩
      refine ok_step (ps := []) (L' := [some (.ref 94), some (.int what), some (.int v), none]) (st' := [.long (lN 1), .long (lN 0), .long what.toInt64]) (σ' := (rf_w α 93 1 (α 93 1 + nI 1), μ)) (pc' := 4) kX12_price_0 rfl rfl rf_a0 ?_
      refine ok_S (As := [.long what.toInt64, .long (lN 0), .long (lN 1)]) (st := []) mkX12_in qX12_price_4 rfl rfl rfl rfl rfl (Nat.le_of_ble_eq_true rfl) (m_in) ?_
      rw [show wl what.toInt64 (lN 0) (lN 1) = wi what (nI 0) (nI 1) from wl_of rfl (nI_l (by decide)).symm (nI_l (by decide)).symm]
      refine ok_if_eq bX12_price_7 (fun _ => ?_) (fun g7 => absurd (wi01 h1 h40) g7)
      refine ok_step (ps := []) (L' := [some (.ref 94), some (.int what), some (.int v), none]) (st' := [.int (nI 1), .ref 94]) (σ' := (rf_w α 93 1 (α 93 1 + nI 1), μ)) (pc' := 43) kX12_price_41 rfl rfl rf_a0 ?_
      refine ok_V (As := [.int (nI 1)]) (b := 94) (st := []) mkX12_finds qX12_price_43 rfl (rc_94) rfl rfl rfl rfl (Nat.le_of_ble_eq_true rfl) (m_finds (k := 1) (by decide)) ?_
      refine ok_reti eX12_price_46 rfl ?_
      exact ⟨rfl, _, rfl, hJ.err (k := 1) (by decide)⟩
    · obtain rfl : what = nI 1 := h40
      refine ok_step (ps := []) (L' := [some (.ref 0), some (.int (nI 1)), some (.int v), none]) (st' := [.int (nI 999), .int (nI 0), .int v]) (σ' := (α, μ)) (pc' := 48) kX11_price_43 rfl rfl rf_a0 ?_
      refine ok_S (As := [.int v, .int (nI 0), .int (nI 999)]) (st := []) mkX11_within qX11_price_48 rfl rfl rfl rfl rfl (Nat.le_of_ble_eq_true rfl) (c_within) ?_
      refine ok_if_eq bX11_price_51 (fun h51 => ?_) (fun h51 => ?_)
      · refine ok_step (ps := []) (L' := [some (.ref 0), some (.int (nI 1)), some (.int v), none]) (st' := [.int (-1000000001), .ref 0]) (σ' := (α, μ)) (pc' := 81) kX11_price_78 rfl rfl rf_a0 ?_
        refine ok_V (As := [.int (-1000000001)]) (b := 0) (st := []) mkX11_error qX11_price_81 rfl (rc_0) rfl rfl rfl rfl (Nat.le_of_ble_eq_true rfl) (c_error (k := 1) (by decide) (by decide) (by decide)) ?_
        refine ok_reti eX11_price_84 rfl ?_
        refine ⟨rfl, _, rfl, ?_⟩
        refine ok_step (ps := []) (L' := [some (.ref 94), some (.int (nI 1)), some (.int v), none]) (st' := [.long (lN 1), .long (lN 0), .long ((nI 1).toInt64)]) (σ' := (rf_w α 93 1 (α 93 1 + nI 1), μ)) (pc' := 4) kX12_price_0 rfl rfl rf_a0 ?_
        refine ok_S (As := [.long ((nI 1).toInt64), .long (lN 0), .long (lN 1)]) (st := []) mkX12_in qX12_price_4 rfl rfl rfl rfl rfl (Nat.le_of_ble_eq_true rfl) (m_in) ?_
        rw [show wl ((nI 1).toInt64) (lN 0) (lN 1) = wi (nI 1) (nI 0) (nI 1) from wl_of rfl (nI_l (by decide)).symm (nI_l (by decide)).symm, show bI (wi (nI 1) (nI 0) (nI 1)) = nI 1 from rfl]
        refine ok_if_eq bX12_price_7 (fun g7 => absurd g7 ((by decide))) (fun _ => ?_)
        refine ok_step (ps := []) (L' := [some (.ref 94), some (.int (nI 1)), some (.int v), none]) (st' := [.int (nI 1)]) (σ' := (rf_w α 93 1 (α 93 1 + nI 1), μ)) (pc' := 11) kX12_price_10 rfl rfl rf_a0 ?_
        refine ok_if_ne bX12_price_11 (fun _ => ?_) (fun g11 => absurd g11 ((by decide)))
        refine ok_step (ps := []) (L' := [some (.ref 94), some (.int (nI 1)), some (.int v), none]) (st' := [.long (lN 999), .long (lN 0), .long v.toInt64]) (σ' := (rf_w α 93 1 (α 93 1 + nI 1), μ)) (pc' := 35) kX12_price_29 rfl rfl rf_a0 ?_
        refine ok_S (As := [.long v.toInt64, .long (lN 0), .long (lN 999)]) (st := []) mkX12_in qX12_price_35 rfl rfl rfl rfl rfl (Nat.le_of_ble_eq_true rfl) (m_in) ?_
        rw [show wl v.toInt64 (lN 0) (lN 999) = wi v (nI 0) (nI 999) from wl_of rfl (nI_l (by decide)).symm (nI_l (by decide)).symm]
        refine ok_if_ne bX12_price_38 (fun g38 => absurd (h51) g38) (fun _ => ?_)
        refine ok_step (ps := []) (L' := [some (.ref 94), some (.int (nI 1)), some (.int v), none]) (st' := [.int (nI 1), .ref 94]) (σ' := (rf_w α 93 1 (α 93 1 + nI 1), μ)) (pc' := 43) kX12_price_41 rfl rfl rf_a0 ?_
        refine ok_V (As := [.int (nI 1)]) (b := 94) (st := []) mkX12_finds qX12_price_43 rfl (rc_94) rfl rfl rfl rfl (Nat.le_of_ble_eq_true rfl) (m_finds (k := 1) (by decide)) ?_
        refine ok_reti eX12_price_46 rfl ?_
        exact ⟨rfl, _, rfl, hJ.err (k := 1) (by decide)⟩
      · obtain ⟨m, hm1, hm2, rfl⟩ := wi_of (bI_n0.mp h51) (by decide) (by decide)
        refine ok_step (ps := []) (L' := [some (.ref 0), some (.int (nI 1)), some (.int (nI m)), some (.int (α 10 2))]) (st' := [.int (α 10 2)]) (σ' := (rf_w α 10 2 (nI m), μ)) (pc' := 77) kX11_price_54 rfl rfl rf_a0 ?_
        try rw [(show α 10 2 = μ 95 9 from hR 9 2 9 rfl)]
        refine ok_reti eX11_price_77 rfl ?_
        refine ⟨rfl, _, rfl, ?_⟩
        refine ok_step (ps := []) (L' := [some (.ref 94), some (.int (nI 1)), some (.int (nI m)), none]) (st' := [.long (lN 1), .long (lN 0), .long ((nI 1).toInt64)]) (σ' := (rf_w α 10 2 (nI m), μ)) (pc' := 4) kX12_price_0 rfl rfl rf_a0 ?_
        refine ok_S (As := [.long ((nI 1).toInt64), .long (lN 0), .long (lN 1)]) (st := []) mkX12_in qX12_price_4 rfl rfl rfl rfl rfl (Nat.le_of_ble_eq_true rfl) (m_in) ?_
        rw [show wl ((nI 1).toInt64) (lN 0) (lN 1) = wi (nI 1) (nI 0) (nI 1) from wl_of rfl (nI_l (by decide)).symm (nI_l (by decide)).symm, show bI (wi (nI 1) (nI 0) (nI 1)) = nI 1 from rfl]
        refine ok_if_eq bX12_price_7 (fun g7 => absurd g7 ((by decide))) (fun _ => ?_)
        refine ok_step (ps := []) (L' := [some (.ref 94), some (.int (nI 1)), some (.int (nI m)), none]) (st' := [.int (nI 1)]) (σ' := (rf_w α 10 2 (nI m), μ)) (pc' := 11) kX12_price_10 rfl rfl rf_a0 ?_
        refine ok_if_ne bX12_price_11 (fun _ => ?_) (fun g11 => absurd g11 ((by decide)))
        refine ok_step (ps := []) (L' := [some (.ref 94), some (.int (nI 1)), some (.int (nI m)), none]) (st' := [.long (lN 999), .long (lN 0), .long ((nI m).toInt64)]) (σ' := (rf_w α 10 2 (nI m), μ)) (pc' := 35) kX12_price_29 rfl rfl rf_a0 ?_
        refine ok_S (As := [.long ((nI m).toInt64), .long (lN 0), .long (lN 999)]) (st := []) mkX12_in qX12_price_35 rfl rfl rfl rfl rfl (Nat.le_of_ble_eq_true rfl) (m_in) ?_
        rw [show wl ((nI m).toInt64) (lN 0) (lN 999) = wi (nI m) (nI 0) (nI 999) from wl_of rfl (nI_l (by decide)).symm (nI_l (by decide)).symm]
        refine ok_if_ne bX12_price_38 (fun _ => ?_) (fun g38 => absurd g38 (h51))
        refine ok_step (ps := [rf_in ((nI 8) + (nI 1)) 700, rf_in ((nI 8) + (nI 1)) 700]) (L' := [some (.ref 94), some (.int (nI 1)), some (.int (nI m)), some (.int (μ 95 (((nI 8) + (nI 1)).toNatClampNeg)))]) (st' := [.int (μ 95 (((nI 8) + (nI 1)).toNatClampNeg))]) (σ' := (rf_w α 10 2 (nI m), rf_w μ 95 (((nI 8) + (nI 1)).toNatClampNeg) (nI m))) (pc' := 68) kX12_price_47 rfl rfl (rf_a1 (rf_in_n (a := 9) (by (try rw [(show ((nI 8) + (nI 1)) = nI 9 from rf_eq (rf_nadd (x := nI 8) (y := nI 1) rfl rfl) (by omega))]); all_goals exact rfl) (by omega)) (rf_a1 (rf_in_n (a := 9) (by (try rw [(show ((nI 8) + (nI 1)) = nI 9 from rf_eq (rf_nadd (x := nI 8) (y := nI 1) rfl rfl) (by omega))]); (try rw [(show (nI 9).toNatClampNeg = 9 from rf_cl_n rfl (by omega))]); (try rw [(show ((nI 8) + (nI 1)) = nI 9 from rf_eq (rf_nadd (x := nI 8) (y := nI 1) rfl rfl) (by omega))]); all_goals exact rfl) (by omega)) rf_a0)) ?_
        try rw [(show ((nI 8) + (nI 1)) = nI 9 from rf_eq (rf_nadd (x := nI 8) (y := nI 1) rfl rfl) (by omega))]
        try rw [(show (nI 9).toNatClampNeg = 9 from rf_cl_n rfl (by omega))]
        try rw [(show ((nI 8) + (nI 1)) = nI 9 from rf_eq (rf_nadd (x := nI 8) (y := nI 1) rfl rfl) (by omega))]
        try rw [(show (nI 9).toNatClampNeg = 9 from rf_cl_n rfl (by omega))]
        refine ok_reti eX12_price_68 rfl ?_
        refine ⟨rfl, _, rfl, J0.mc (hJ.1.put (c := 9) (i := 2) (j := 9) rfl _) (fun i => ?_) (fun k hk => ?_), ?_⟩
        · simp only [rf_w_at, true_and, reduceIte]
          try (repeat' split)
          all_goals first | rfl | omega | (exfalso; omega)
        · simp only [rf_w_row hk]
        · try simp only [rf_w_self]
          exact hI.put (fun bb hb => ⟨m, by cases hb; omega, rfl⟩) (by unfold nst; omega)
  · obtain rfl : what = nI 0 := h1
    refine ok_step (ps := []) (L' := [some (.ref 0), some (.int (nI 0)), some (.int v), none]) (st' := [.int (nI 99), .int (nI 1), .int v]) (σ' := (α, μ)) (pc' := 8) kX11_price_4 rfl rfl rf_a0 ?_
    refine ok_S (As := [.int v, .int (nI 1), .int (nI 99)]) (st := []) mkX11_within qX11_price_8 rfl rfl rfl rfl rfl (Nat.le_of_ble_eq_true rfl) (c_within) ?_
    refine ok_if_eq bX11_price_11 (fun h11 => ?_) (fun h11 => ?_)
    · refine ok_step (ps := []) (L' := [some (.ref 0), some (.int (nI 0)), some (.int v), none]) (st' := [.int (nI 1), .int (nI 0)]) (σ' := (α, μ)) (pc' := 40) kX11_price_38 rfl rfl rf_a0 ?_
      refine ok_icmp_ne bX11_price_40 (fun _ => ?_) (fun h40 => absurd h40 ((by decide)))
      refine ok_step (ps := []) (L' := [some (.ref 0), some (.int (nI 0)), some (.int v), none]) (st' := [.int (-1000000001), .ref 0]) (σ' := (α, μ)) (pc' := 81) kX11_price_78 rfl rfl rf_a0 ?_
      refine ok_V (As := [.int (-1000000001)]) (b := 0) (st := []) mkX11_error qX11_price_81 rfl (rc_0) rfl rfl rfl rfl (Nat.le_of_ble_eq_true rfl) (c_error (k := 1) (by decide) (by decide) (by decide)) ?_
      refine ok_reti eX11_price_84 rfl ?_
      refine ⟨rfl, _, rfl, ?_⟩
      refine ok_step (ps := []) (L' := [some (.ref 94), some (.int (nI 0)), some (.int v), none]) (st' := [.long (lN 1), .long (lN 0), .long ((nI 0).toInt64)]) (σ' := (rf_w α 93 1 (α 93 1 + nI 1), μ)) (pc' := 4) kX12_price_0 rfl rfl rf_a0 ?_
      refine ok_S (As := [.long ((nI 0).toInt64), .long (lN 0), .long (lN 1)]) (st := []) mkX12_in qX12_price_4 rfl rfl rfl rfl rfl (Nat.le_of_ble_eq_true rfl) (m_in) ?_
      rw [show wl ((nI 0).toInt64) (lN 0) (lN 1) = wi (nI 0) (nI 0) (nI 1) from wl_of rfl (nI_l (by decide)).symm (nI_l (by decide)).symm, show bI (wi (nI 0) (nI 0) (nI 1)) = nI 1 from rfl]
      refine ok_if_eq bX12_price_7 (fun g7 => absurd g7 ((by decide))) (fun _ => ?_)
      refine ok_step (ps := []) (L' := [some (.ref 94), some (.int (nI 0)), some (.int v), none]) (st' := [.int (nI 0)]) (σ' := (rf_w α 93 1 (α 93 1 + nI 1), μ)) (pc' := 11) kX12_price_10 rfl rfl rf_a0 ?_
      refine ok_if_ne bX12_price_11 (fun g11 => absurd ((by decide)) g11) (fun _ => ?_)
      refine ok_step (ps := []) (L' := [some (.ref 94), some (.int (nI 0)), some (.int v), none]) (st' := [.long (lN 99), .long (lN 1), .long v.toInt64]) (σ' := (rf_w α 93 1 (α 93 1 + nI 1), μ)) (pc' := 20) kX12_price_14 rfl rfl rf_a0 ?_
      refine ok_S (As := [.long v.toInt64, .long (lN 1), .long (lN 99)]) (st := []) mkX12_in qX12_price_20 rfl rfl rfl rfl rfl (Nat.le_of_ble_eq_true rfl) (m_in) ?_
      rw [show wl v.toInt64 (lN 1) (lN 99) = wi v (nI 1) (nI 99) from wl_of rfl (nI_l (by decide)).symm (nI_l (by decide)).symm]
      refine ok_if_eq bX12_price_23 (fun _ => ?_) (fun g23 => absurd (h11) g23)
      refine ok_step (ps := []) (L' := [some (.ref 94), some (.int (nI 0)), some (.int v), none]) (st' := [.int (nI 1), .ref 94]) (σ' := (rf_w α 93 1 (α 93 1 + nI 1), μ)) (pc' := 43) kX12_price_41 rfl rfl rf_a0 ?_
      refine ok_V (As := [.int (nI 1)]) (b := 94) (st := []) mkX12_finds qX12_price_43 rfl (rc_94) rfl rfl rfl rfl (Nat.le_of_ble_eq_true rfl) (m_finds (k := 1) (by decide)) ?_
      refine ok_reti eX12_price_46 rfl ?_
      exact ⟨rfl, _, rfl, hJ.err (k := 1) (by decide)⟩
    · obtain ⟨m, hm1, hm2, rfl⟩ := wi_of (bI_n0.mp h11) (by decide) (by decide)
      refine ok_step (ps := []) (L' := [some (.ref 0), some (.int (nI 0)), some (.int (nI m)), some (.int (α 10 1))]) (st' := [.int (α 10 1)]) (σ' := (rf_w α 10 1 (nI m), μ)) (pc' := 37) kX11_price_14 rfl rfl rf_a0 ?_
      try rw [(show α 10 1 = μ 95 8 from hR 9 1 8 rfl)]
      refine ok_reti eX11_price_37 rfl ?_
      refine ⟨rfl, _, rfl, ?_⟩
      refine ok_step (ps := []) (L' := [some (.ref 94), some (.int (nI 0)), some (.int (nI m)), none]) (st' := [.long (lN 1), .long (lN 0), .long ((nI 0).toInt64)]) (σ' := (rf_w α 10 1 (nI m), μ)) (pc' := 4) kX12_price_0 rfl rfl rf_a0 ?_
      refine ok_S (As := [.long ((nI 0).toInt64), .long (lN 0), .long (lN 1)]) (st := []) mkX12_in qX12_price_4 rfl rfl rfl rfl rfl (Nat.le_of_ble_eq_true rfl) (m_in) ?_
      rw [show wl ((nI 0).toInt64) (lN 0) (lN 1) = wi (nI 0) (nI 0) (nI 1) from wl_of rfl (nI_l (by decide)).symm (nI_l (by decide)).symm, show bI (wi (nI 0) (nI 0) (nI 1)) = nI 1 from rfl]
      refine ok_if_eq bX12_price_7 (fun g7 => absurd g7 ((by decide))) (fun _ => ?_)
      refine ok_step (ps := []) (L' := [some (.ref 94), some (.int (nI 0)), some (.int (nI m)), none]) (st' := [.int (nI 0)]) (σ' := (rf_w α 10 1 (nI m), μ)) (pc' := 11) kX12_price_10 rfl rfl rf_a0 ?_
      refine ok_if_ne bX12_price_11 (fun g11 => absurd ((by decide)) g11) (fun _ => ?_)
      refine ok_step (ps := []) (L' := [some (.ref 94), some (.int (nI 0)), some (.int (nI m)), none]) (st' := [.long (lN 99), .long (lN 1), .long ((nI m).toInt64)]) (σ' := (rf_w α 10 1 (nI m), μ)) (pc' := 20) kX12_price_14 rfl rfl rf_a0 ?_
      refine ok_S (As := [.long ((nI m).toInt64), .long (lN 1), .long (lN 99)]) (st := []) mkX12_in qX12_price_20 rfl rfl rfl rfl rfl (Nat.le_of_ble_eq_true rfl) (m_in) ?_
      rw [show wl ((nI m).toInt64) (lN 1) (lN 99) = wi (nI m) (nI 1) (nI 99) from wl_of rfl (nI_l (by decide)).symm (nI_l (by decide)).symm]
      refine ok_if_eq bX12_price_23 (fun g23 => absurd g23 (h11)) (fun _ => ?_)
      refine ok_goto bX12_price_26 ?_
      refine ok_step (ps := [rf_in ((nI 8) + (nI 0)) 700, rf_in ((nI 8) + (nI 0)) 700]) (L' := [some (.ref 94), some (.int (nI 0)), some (.int (nI m)), some (.int (μ 95 (((nI 8) + (nI 0)).toNatClampNeg)))]) (st' := [.int (μ 95 (((nI 8) + (nI 0)).toNatClampNeg))]) (σ' := (rf_w α 10 1 (nI m), rf_w μ 95 (((nI 8) + (nI 0)).toNatClampNeg) (nI m))) (pc' := 68) kX12_price_47 rfl rfl (rf_a1 (rf_in_n (a := 8) (by (try rw [(show ((nI 8) + (nI 0)) = nI 8 from rf_eq (rf_nadd (x := nI 8) (y := nI 0) rfl rfl) (by omega))]); all_goals exact rfl) (by omega)) (rf_a1 (rf_in_n (a := 8) (by (try rw [(show ((nI 8) + (nI 0)) = nI 8 from rf_eq (rf_nadd (x := nI 8) (y := nI 0) rfl rfl) (by omega))]); (try rw [(show (nI 8).toNatClampNeg = 8 from rf_cl_n rfl (by omega))]); (try rw [(show ((nI 8) + (nI 0)) = nI 8 from rf_eq (rf_nadd (x := nI 8) (y := nI 0) rfl rfl) (by omega))]); all_goals exact rfl) (by omega)) rf_a0)) ?_
      try rw [(show ((nI 8) + (nI 0)) = nI 8 from rf_eq (rf_nadd (x := nI 8) (y := nI 0) rfl rfl) (by omega))]
      try rw [(show (nI 8).toNatClampNeg = 8 from rf_cl_n rfl (by omega))]
      try rw [(show ((nI 8) + (nI 0)) = nI 8 from rf_eq (rf_nadd (x := nI 8) (y := nI 0) rfl rfl) (by omega))]
      try rw [(show (nI 8).toNatClampNeg = 8 from rf_cl_n rfl (by omega))]
      refine ok_reti eX12_price_68 rfl ?_
      refine ⟨rfl, _, rfl, J0.mc (hJ.1.put (c := 9) (i := 1) (j := 8) rfl _) (fun i => ?_) (fun k hk => ?_), ?_⟩
      · simp only [rf_w_at, true_and, reduceIte]
        try (repeat' split)
        all_goals first | rfl | omega | (exfalso; omega)
      · simp only [rf_w_row hk]
      · try simp only [rf_w_self]
        exact hI.put (fun bb hb => ⟨m, by cases hb; omega, rfl⟩) (by unfold nst; omega)
theorem op_trace {i : Int32} (hJ : J α μ)  : Op (rf_T Ln xs) MX11_trace MX12_trace [some (.ref 0), some (.int i)] [some (.ref 94), some (.int i)] α μ := by
  have hR := hJ.1.1.1
  have hI := hJ.2
  have b0 := hI.le0
  have b1 := hI.le1
  have b2 := hI.le2
  have b3 := hI.le3
  have b4 := hI.le4
  have b5 := hI.le5
  have b6 := hI.le6
  have b8 := hI.le8
  have b9 := hI.le9
  have b11 := hI.le11
  have b12 := hI.le12
  obtain ⟨vm, hvm, hv18⟩ := hJ.1.2.2.2.2.1.2.1
  refine ok_step (ps := []) (L' := [some (.ref 0), some (.int i)]) (st' := [.int ((α 83 0) - (nI 1)), .int (nI 0), .int i]) (σ' := (α, μ)) (pc' := 11) kX11_trace_0 rfl rfl rf_a0 ?_
  try rw [(show α 83 0 = μ 94 18 from hJ.1.2.2.2.2.1.1)]
  refine ok_S (As := [.int i, .int (nI 0), .int ((μ 94 18) - (nI 1))]) (st := []) mkX11_within qX11_trace_11 rfl rfl rfl rfl rfl (Nat.le_of_ble_eq_true rfl) (c_within) ?_
  refine ok_if_ne bX11_trace_14 (fun h14 => ?_) (fun h14 => ?_)
  · obtain ⟨k, hk, rfl⟩ := wi_lt (bI_n0.mp h14) hv18 (by omega)
    refine ok_step (ps := [rf_in (nI k) 40]) (L' := [some (.ref 0), some (.int (nI k))]) (st' := [.int (α 84 ((nI k).toNatClampNeg))]) (σ' := (α, μ)) (pc' := 33) kX11_trace_24 rfl rfl (rf_a1 (rf_in_n (a := k) rfl (by omega)) rf_a0) ?_
    try rw [(show (nI k).toNatClampNeg = k from rf_cl_n rfl (by omega))]
    try rw [(show α 84 k = μ 103 k from hJ.1.2.2.2.2.1.2.2 _ (by omega))]
    refine ok_reti eX11_trace_33 rfl ?_
    refine ⟨rfl, _, rfl, ?_⟩
    refine ok_step (ps := []) (L' := [some (.ref 94), some (.int (nI k))]) (st' := [.long (((μ 94 18) - (nI 1)).toInt64), .long (lN 0), .long ((nI k).toInt64)]) (σ' := (α, μ)) (pc' := 10) kX12_trace_0 rfl rfl rf_a0 ?_
    refine ok_S (As := [.long ((nI k).toInt64), .long (lN 0), .long (((μ 94 18) - (nI 1)).toInt64)]) (st := []) mkX12_in qX12_trace_10 rfl rfl rfl rfl rfl (Nat.le_of_ble_eq_true rfl) (m_in) ?_
    rw [show wl ((nI k).toInt64) (lN 0) (((μ 94 18) - (nI 1)).toInt64) = wi (nI k) (nI 0) ((μ 94 18) - (nI 1)) from wl_of rfl (nI_l (by decide)).symm rfl]
    refine ok_if_eq bX12_trace_13 (fun g13 => absurd g13 (h14)) (fun _ => ?_)
    refine ok_step (ps := [rf_in (nI k) 40]) (L' := [some (.ref 94), some (.int (nI k))]) (st' := [.int (μ 103 ((nI k).toNatClampNeg))]) (σ' := (α, μ)) (pc' := 22) kX12_trace_16 rfl rfl (rf_a1 (rf_in_n (a := k) rfl (by omega)) rf_a0) ?_
    try rw [(show (nI k).toNatClampNeg = k from rf_cl_n rfl (by omega))]
    refine ok_goto bX12_trace_22 ?_
    refine ok_reti eX12_trace_30 rfl ?_
    exact ⟨rfl, _, rfl, hJ⟩
  · refine ok_step (ps := []) (L' := [some (.ref 0), some (.int i)]) (st' := [.int (-1000000002), .ref 0]) (σ' := (α, μ)) (pc' := 20) kX11_trace_17 rfl rfl rf_a0 ?_
    refine ok_V (As := [.int (-1000000002)]) (b := 0) (st := []) mkX11_error qX11_trace_20 rfl (rc_0) rfl rfl rfl rfl (Nat.le_of_ble_eq_true rfl) (c_error (k := 2) (by decide) (by decide) (by decide)) ?_
    refine ok_reti eX11_trace_23 rfl ?_
    refine ⟨rfl, _, rfl, ?_⟩
    refine ok_step (ps := []) (L' := [some (.ref 94), some (.int i)]) (st' := [.long (((μ 94 18) - (nI 1)).toInt64), .long (lN 0), .long i.toInt64]) (σ' := (rf_w α 93 2 (α 93 2 + nI 1), μ)) (pc' := 10) kX12_trace_0 rfl rfl rf_a0 ?_
    refine ok_S (As := [.long i.toInt64, .long (lN 0), .long (((μ 94 18) - (nI 1)).toInt64)]) (st := []) mkX12_in qX12_trace_10 rfl rfl rfl rfl rfl (Nat.le_of_ble_eq_true rfl) (m_in) ?_
    rw [show wl i.toInt64 (lN 0) (((μ 94 18) - (nI 1)).toInt64) = wi i (nI 0) ((μ 94 18) - (nI 1)) from wl_of rfl (nI_l (by decide)).symm rfl]
    refine ok_if_eq bX12_trace_13 (fun _ => ?_) (fun g13 => absurd (h14) g13)
    refine ok_step (ps := []) (L' := [some (.ref 94), some (.int i)]) (st' := [.int (nI 2), .ref 94]) (σ' := (rf_w α 93 2 (α 93 2 + nI 1), μ)) (pc' := 27) kX12_trace_25 rfl rfl rf_a0 ?_
    refine ok_V (As := [.int (nI 2)]) (b := 94) (st := []) mkX12_finds qX12_trace_27 rfl (rc_94) rfl rfl rfl rfl (Nat.le_of_ble_eq_true rfl) (m_finds (k := 2) (by decide)) ?_
    refine ok_reti eX12_trace_30 rfl ?_
    exact ⟨rfl, _, rfl, hJ.err (k := 2) (by decide)⟩
theorem op_count {what : Int32} (hJ : J α μ)  : Op (rf_T Ln xs) MX11_count MX12_count [some (.ref 0), some (.int what)] [some (.ref 94), some (.int what)] α μ := by
  have hR := hJ.1.1.1
  have hI := hJ.2
  have b0 := hI.le0
  have b1 := hI.le1
  have b2 := hI.le2
  have b3 := hI.le3
  have b4 := hI.le4
  have b5 := hI.le5
  have b6 := hI.le6
  have b8 := hI.le8
  have b9 := hI.le9
  have b11 := hI.le11
  have b12 := hI.le12
  refine ok_step (ps := []) (L' := [some (.ref 0), some (.int what)]) (st' := [.int what]) (σ' := (α, μ)) (pc' := 1) kX11_count_0 rfl rfl rf_a0 ?_
  refine ok_table bX11_count_1 (fun h1 => ?_) (fun i t ht h1 => ?_)
  · refine ok_step (ps := []) (L' := [some (.ref 0), some (.int what)]) (st' := [.int (-1000000001), .ref 0]) (σ' := (α, μ)) (pc' := 211) kX11_count_208 rfl rfl rf_a0 ?_
    refine ok_V (As := [.int (-1000000001)]) (b := 0) (st := []) mkX11_error qX11_count_211 rfl (rc_0) rfl rfl rfl rfl (Nat.le_of_ble_eq_true rfl) (c_error (k := 1) (by decide) (by decide) (by decide)) ?_
    refine ok_reti eX11_count_214 rfl ?_
    refine ⟨rfl, _, rfl, ?_⟩
    refine ok_step (ps := []) (L' := [some (.ref 94), some (.int what)]) (st' := [.long (lN 7), .long (lN 0), .long what.toInt64]) (σ' := (rf_w α 93 1 (α 93 1 + nI 1), μ)) (pc' := 6) kX12_count_0 rfl rfl rf_a0 ?_
    refine ok_S (As := [.long what.toInt64, .long (lN 0), .long (lN 7)]) (st := []) mkX12_in qX12_count_6 rfl rfl rfl rfl rfl (Nat.le_of_ble_eq_true rfl) (m_in) ?_
    rw [show wl what.toInt64 (lN 0) (lN 7) = wi what (nI 0) (nI 7) from wl_of rfl (nI_l (by decide)).symm (nI_l (by decide)).symm]
    refine ok_if_eq bX12_count_9 (fun _ => ?_) (fun g9 => absurd (sw_dft (by omega)) g9)
    refine ok_step (ps := []) (L' := [some (.ref 94), some (.int what)]) (st' := [.int what]) (σ' := (rf_w α 93 1 (α 93 1 + nI 1), μ)) (pc' := 20) kX12_count_19 rfl rfl rf_a0 ?_
    refine ok_td bX12_count_20 (by omega) ?_
    refine ok_step (ps := []) (L' := [some (.ref 94), some (.int what)]) (st' := [.int (nI 1), .ref 94]) (σ' := (rf_w α 93 1 (α 93 1 + nI 1), μ)) (pc' := 92) kX12_count_90 rfl rfl rf_a0 ?_
    refine ok_V (As := [.int (nI 1)]) (b := 94) (st := []) mkX12_finds qX12_count_92 rfl (rc_94) rfl rfl rfl rfl (Nat.le_of_ble_eq_true rfl) (m_finds (k := 1) (by decide)) ?_
    refine ok_reti eX12_count_95 rfl ?_
    exact ⟨rfl, _, rfl, hJ.err (k := 1) (by decide)⟩
  · match i, ht, h1 with
    | 0, ht, h1 =>
      cases ht
      obtain rfl : what = nI 0 := sw_eq (n := 0) (by omega) (by decide)
      refine ok_step (ps := []) (L' := [some (.ref 0), some (.int (nI 0))]) (st' := [.int (α 22 0)]) (σ' := (α, μ)) (pc' := 78) kX11_count_68 rfl rfl rf_a0 ?_
      try rw [(show α 22 0 = μ 95 0 from hR 21 0 0 rfl)]
      refine ok_reti eX11_count_78 rfl ?_
      refine ⟨rfl, _, rfl, ?_⟩
      refine ok_step (ps := []) (L' := [some (.ref 94), some (.int (nI 0))]) (st' := [.long (lN 7), .long (lN 0), .long ((nI 0).toInt64)]) (σ' := (α, μ)) (pc' := 6) kX12_count_0 rfl rfl rf_a0 ?_
      refine ok_S (As := [.long ((nI 0).toInt64), .long (lN 0), .long (lN 7)]) (st := []) mkX12_in qX12_count_6 rfl rfl rfl rfl rfl (Nat.le_of_ble_eq_true rfl) (m_in) ?_
      rw [show wl ((nI 0).toInt64) (lN 0) (lN 7) = wi (nI 0) (nI 0) (nI 7) from wl_of rfl (nI_l (by decide)).symm (nI_l (by decide)).symm, show bI (wi (nI 0) (nI 0) (nI 7)) = nI 1 from rfl]
      refine ok_if_eq bX12_count_9 (fun g9 => absurd g9 ((by decide))) (fun _ => ?_)
      refine ok_step (ps := [rf_in (nI 0) 700]) (L' := [some (.ref 94), some (.int (nI 0))]) (st' := [.int (μ 95 ((nI 0).toNatClampNeg))]) (σ' := (α, μ)) (pc' := 18) kX12_count_12 rfl rfl (rf_a1 (rf_in_n (a := 0) rfl (by omega)) rf_a0) ?_
      try rw [(show (nI 0).toNatClampNeg = 0 from rf_cl_n rfl (by omega))]
      refine ok_reti eX12_count_18 rfl ?_
      exact ⟨rfl, _, rfl, hJ⟩
    | 1, ht, h1 =>
      cases ht
      obtain rfl : what = nI 1 := sw_eq (n := 1) (by omega) (by decide)
      refine ok_step (ps := []) (L' := [some (.ref 0), some (.int (nI 1))]) (st' := [.int (α 2 0)]) (σ' := (α, μ)) (pc' := 89) kX11_count_79 rfl rfl rf_a0 ?_
      try rw [(show α 2 0 = μ 95 1 from hR 1 0 1 rfl)]
      refine ok_reti eX11_count_89 rfl ?_
      refine ⟨rfl, _, rfl, ?_⟩
      refine ok_step (ps := []) (L' := [some (.ref 94), some (.int (nI 1))]) (st' := [.long (lN 7), .long (lN 0), .long ((nI 1).toInt64)]) (σ' := (α, μ)) (pc' := 6) kX12_count_0 rfl rfl rf_a0 ?_
      refine ok_S (As := [.long ((nI 1).toInt64), .long (lN 0), .long (lN 7)]) (st := []) mkX12_in qX12_count_6 rfl rfl rfl rfl rfl (Nat.le_of_ble_eq_true rfl) (m_in) ?_
      rw [show wl ((nI 1).toInt64) (lN 0) (lN 7) = wi (nI 1) (nI 0) (nI 7) from wl_of rfl (nI_l (by decide)).symm (nI_l (by decide)).symm, show bI (wi (nI 1) (nI 0) (nI 7)) = nI 1 from rfl]
      refine ok_if_eq bX12_count_9 (fun g9 => absurd g9 ((by decide))) (fun _ => ?_)
      refine ok_step (ps := [rf_in (nI 1) 700]) (L' := [some (.ref 94), some (.int (nI 1))]) (st' := [.int (μ 95 ((nI 1).toNatClampNeg))]) (σ' := (α, μ)) (pc' := 18) kX12_count_12 rfl rfl (rf_a1 (rf_in_n (a := 1) rfl (by omega)) rf_a0) ?_
      try rw [(show (nI 1).toNatClampNeg = 1 from rf_cl_n rfl (by omega))]
      refine ok_reti eX12_count_18 rfl ?_
      exact ⟨rfl, _, rfl, hJ⟩
    | 2, ht, h1 =>
      cases ht
      obtain rfl : what = nI 2 := sw_eq (n := 2) (by omega) (by decide)
      refine ok_step (ps := []) (L' := [some (.ref 0), some (.int (nI 2))]) (st' := [.int (α 2 1)]) (σ' := (α, μ)) (pc' := 100) kX11_count_90 rfl rfl rf_a0 ?_
      try rw [(show α 2 1 = μ 95 2 from hR 1 1 2 rfl)]
      refine ok_reti eX11_count_100 rfl ?_
      refine ⟨rfl, _, rfl, ?_⟩
      refine ok_step (ps := []) (L' := [some (.ref 94), some (.int (nI 2))]) (st' := [.long (lN 7), .long (lN 0), .long ((nI 2).toInt64)]) (σ' := (α, μ)) (pc' := 6) kX12_count_0 rfl rfl rf_a0 ?_
      refine ok_S (As := [.long ((nI 2).toInt64), .long (lN 0), .long (lN 7)]) (st := []) mkX12_in qX12_count_6 rfl rfl rfl rfl rfl (Nat.le_of_ble_eq_true rfl) (m_in) ?_
      rw [show wl ((nI 2).toInt64) (lN 0) (lN 7) = wi (nI 2) (nI 0) (nI 7) from wl_of rfl (nI_l (by decide)).symm (nI_l (by decide)).symm, show bI (wi (nI 2) (nI 0) (nI 7)) = nI 1 from rfl]
      refine ok_if_eq bX12_count_9 (fun g9 => absurd g9 ((by decide))) (fun _ => ?_)
      refine ok_step (ps := [rf_in (nI 2) 700]) (L' := [some (.ref 94), some (.int (nI 2))]) (st' := [.int (μ 95 ((nI 2).toNatClampNeg))]) (σ' := (α, μ)) (pc' := 18) kX12_count_12 rfl rfl (rf_a1 (rf_in_n (a := 2) rfl (by omega)) rf_a0) ?_
      try rw [(show (nI 2).toNatClampNeg = 2 from rf_cl_n rfl (by omega))]
      refine ok_reti eX12_count_18 rfl ?_
      exact ⟨rfl, _, rfl, hJ⟩
    | 3, ht, h1 =>
      cases ht
      obtain rfl : what = nI 3 := sw_eq (n := 3) (by omega) (by decide)
      refine ok_step (ps := []) (L' := [some (.ref 0), some (.int (nI 3))]) (st' := [.int (α 2 2)]) (σ' := (α, μ)) (pc' := 111) kX11_count_101 rfl rfl rf_a0 ?_
      try rw [(show α 2 2 = μ 95 3 from hR 1 2 3 rfl)]
      refine ok_reti eX11_count_111 rfl ?_
      refine ⟨rfl, _, rfl, ?_⟩
      refine ok_step (ps := []) (L' := [some (.ref 94), some (.int (nI 3))]) (st' := [.long (lN 7), .long (lN 0), .long ((nI 3).toInt64)]) (σ' := (α, μ)) (pc' := 6) kX12_count_0 rfl rfl rf_a0 ?_
      refine ok_S (As := [.long ((nI 3).toInt64), .long (lN 0), .long (lN 7)]) (st := []) mkX12_in qX12_count_6 rfl rfl rfl rfl rfl (Nat.le_of_ble_eq_true rfl) (m_in) ?_
      rw [show wl ((nI 3).toInt64) (lN 0) (lN 7) = wi (nI 3) (nI 0) (nI 7) from wl_of rfl (nI_l (by decide)).symm (nI_l (by decide)).symm, show bI (wi (nI 3) (nI 0) (nI 7)) = nI 1 from rfl]
      refine ok_if_eq bX12_count_9 (fun g9 => absurd g9 ((by decide))) (fun _ => ?_)
      refine ok_step (ps := [rf_in (nI 3) 700]) (L' := [some (.ref 94), some (.int (nI 3))]) (st' := [.int (μ 95 ((nI 3).toNatClampNeg))]) (σ' := (α, μ)) (pc' := 18) kX12_count_12 rfl rfl (rf_a1 (rf_in_n (a := 3) rfl (by omega)) rf_a0) ?_
      try rw [(show (nI 3).toNatClampNeg = 3 from rf_cl_n rfl (by omega))]
      refine ok_reti eX12_count_18 rfl ?_
      exact ⟨rfl, _, rfl, hJ⟩
    | 4, ht, h1 =>
      cases ht
      obtain rfl : what = nI 4 := sw_eq (n := 4) (by omega) (by decide)
      refine ok_step (ps := []) (L' := [some (.ref 0), some (.int (nI 4))]) (st' := [.int (α 10 0)]) (σ' := (α, μ)) (pc' := 122) kX11_count_112 rfl rfl rf_a0 ?_
      try rw [(show α 10 0 = μ 95 4 from hR 9 0 4 rfl)]
      refine ok_reti eX11_count_122 rfl ?_
      refine ⟨rfl, _, rfl, ?_⟩
      refine ok_step (ps := []) (L' := [some (.ref 94), some (.int (nI 4))]) (st' := [.long (lN 7), .long (lN 0), .long ((nI 4).toInt64)]) (σ' := (α, μ)) (pc' := 6) kX12_count_0 rfl rfl rf_a0 ?_
      refine ok_S (As := [.long ((nI 4).toInt64), .long (lN 0), .long (lN 7)]) (st := []) mkX12_in qX12_count_6 rfl rfl rfl rfl rfl (Nat.le_of_ble_eq_true rfl) (m_in) ?_
      rw [show wl ((nI 4).toInt64) (lN 0) (lN 7) = wi (nI 4) (nI 0) (nI 7) from wl_of rfl (nI_l (by decide)).symm (nI_l (by decide)).symm, show bI (wi (nI 4) (nI 0) (nI 7)) = nI 1 from rfl]
      refine ok_if_eq bX12_count_9 (fun g9 => absurd g9 ((by decide))) (fun _ => ?_)
      refine ok_step (ps := [rf_in (nI 4) 700]) (L' := [some (.ref 94), some (.int (nI 4))]) (st' := [.int (μ 95 ((nI 4).toNatClampNeg))]) (σ' := (α, μ)) (pc' := 18) kX12_count_12 rfl rfl (rf_a1 (rf_in_n (a := 4) rfl (by omega)) rf_a0) ?_
      try rw [(show (nI 4).toNatClampNeg = 4 from rf_cl_n rfl (by omega))]
      refine ok_reti eX12_count_18 rfl ?_
      exact ⟨rfl, _, rfl, hJ⟩
    | 5, ht, h1 =>
      cases ht
      obtain rfl : what = nI 5 := sw_eq (n := 5) (by omega) (by decide)
      refine ok_step (ps := []) (L' := [some (.ref 0), some (.int (nI 5))]) (st' := [.int (α 19 0)]) (σ' := (α, μ)) (pc' := 133) kX11_count_123 rfl rfl rf_a0 ?_
      try rw [(show α 19 0 = μ 95 5 from hR 18 0 5 rfl)]
      refine ok_reti eX11_count_133 rfl ?_
      refine ⟨rfl, _, rfl, ?_⟩
      refine ok_step (ps := []) (L' := [some (.ref 94), some (.int (nI 5))]) (st' := [.long (lN 7), .long (lN 0), .long ((nI 5).toInt64)]) (σ' := (α, μ)) (pc' := 6) kX12_count_0 rfl rfl rf_a0 ?_
      refine ok_S (As := [.long ((nI 5).toInt64), .long (lN 0), .long (lN 7)]) (st := []) mkX12_in qX12_count_6 rfl rfl rfl rfl rfl (Nat.le_of_ble_eq_true rfl) (m_in) ?_
      rw [show wl ((nI 5).toInt64) (lN 0) (lN 7) = wi (nI 5) (nI 0) (nI 7) from wl_of rfl (nI_l (by decide)).symm (nI_l (by decide)).symm, show bI (wi (nI 5) (nI 0) (nI 7)) = nI 1 from rfl]
      refine ok_if_eq bX12_count_9 (fun g9 => absurd g9 ((by decide))) (fun _ => ?_)
      refine ok_step (ps := [rf_in (nI 5) 700]) (L' := [some (.ref 94), some (.int (nI 5))]) (st' := [.int (μ 95 ((nI 5).toNatClampNeg))]) (σ' := (α, μ)) (pc' := 18) kX12_count_12 rfl rfl (rf_a1 (rf_in_n (a := 5) rfl (by omega)) rf_a0) ?_
      try rw [(show (nI 5).toNatClampNeg = 5 from rf_cl_n rfl (by omega))]
      refine ok_reti eX12_count_18 rfl ?_
      exact ⟨rfl, _, rfl, hJ⟩
    | 6, ht, h1 =>
      cases ht
      obtain rfl : what = nI 6 := sw_eq (n := 6) (by omega) (by decide)
      refine ok_step (ps := []) (L' := [some (.ref 0), some (.int (nI 6))]) (st' := [.int (α 22 3)]) (σ' := (α, μ)) (pc' := 144) kX11_count_134 rfl rfl rf_a0 ?_
      try rw [(show α 22 3 = μ 95 6 from hR 21 3 6 rfl)]
      refine ok_reti eX11_count_144 rfl ?_
      refine ⟨rfl, _, rfl, ?_⟩
      refine ok_step (ps := []) (L' := [some (.ref 94), some (.int (nI 6))]) (st' := [.long (lN 7), .long (lN 0), .long ((nI 6).toInt64)]) (σ' := (α, μ)) (pc' := 6) kX12_count_0 rfl rfl rf_a0 ?_
      refine ok_S (As := [.long ((nI 6).toInt64), .long (lN 0), .long (lN 7)]) (st := []) mkX12_in qX12_count_6 rfl rfl rfl rfl rfl (Nat.le_of_ble_eq_true rfl) (m_in) ?_
      rw [show wl ((nI 6).toInt64) (lN 0) (lN 7) = wi (nI 6) (nI 0) (nI 7) from wl_of rfl (nI_l (by decide)).symm (nI_l (by decide)).symm, show bI (wi (nI 6) (nI 0) (nI 7)) = nI 1 from rfl]
      refine ok_if_eq bX12_count_9 (fun g9 => absurd g9 ((by decide))) (fun _ => ?_)
      refine ok_step (ps := [rf_in (nI 6) 700]) (L' := [some (.ref 94), some (.int (nI 6))]) (st' := [.int (μ 95 ((nI 6).toNatClampNeg))]) (σ' := (α, μ)) (pc' := 18) kX12_count_12 rfl rfl (rf_a1 (rf_in_n (a := 6) rfl (by omega)) rf_a0) ?_
      try rw [(show (nI 6).toNatClampNeg = 6 from rf_cl_n rfl (by omega))]
      refine ok_reti eX12_count_18 rfl ?_
      exact ⟨rfl, _, rfl, hJ⟩
    | 7, ht, h1 =>
      cases ht
      obtain rfl : what = nI 7 := sw_eq (n := 7) (by omega) (by decide)
      refine ok_step (ps := []) (L' := [some (.ref 0), some (.int (nI 7))]) (st' := [.int (α 22 1)]) (σ' := (α, μ)) (pc' := 155) kX11_count_145 rfl rfl rf_a0 ?_
      try rw [(show α 22 1 = μ 95 7 from hR 21 1 7 rfl)]
      refine ok_reti eX11_count_155 rfl ?_
      refine ⟨rfl, _, rfl, ?_⟩
      refine ok_step (ps := []) (L' := [some (.ref 94), some (.int (nI 7))]) (st' := [.long (lN 7), .long (lN 0), .long ((nI 7).toInt64)]) (σ' := (α, μ)) (pc' := 6) kX12_count_0 rfl rfl rf_a0 ?_
      refine ok_S (As := [.long ((nI 7).toInt64), .long (lN 0), .long (lN 7)]) (st := []) mkX12_in qX12_count_6 rfl rfl rfl rfl rfl (Nat.le_of_ble_eq_true rfl) (m_in) ?_
      rw [show wl ((nI 7).toInt64) (lN 0) (lN 7) = wi (nI 7) (nI 0) (nI 7) from wl_of rfl (nI_l (by decide)).symm (nI_l (by decide)).symm, show bI (wi (nI 7) (nI 0) (nI 7)) = nI 1 from rfl]
      refine ok_if_eq bX12_count_9 (fun g9 => absurd g9 ((by decide))) (fun _ => ?_)
      refine ok_step (ps := [rf_in (nI 7) 700]) (L' := [some (.ref 94), some (.int (nI 7))]) (st' := [.int (μ 95 ((nI 7).toNatClampNeg))]) (σ' := (α, μ)) (pc' := 18) kX12_count_12 rfl rfl (rf_a1 (rf_in_n (a := 7) rfl (by omega)) rf_a0) ?_
      try rw [(show (nI 7).toNatClampNeg = 7 from rf_cl_n rfl (by omega))]
      refine ok_reti eX12_count_18 rfl ?_
      exact ⟨rfl, _, rfl, hJ⟩
    | 8, ht, h1 =>
      cases ht
      obtain rfl : what = nI 8 := sw_eq (n := 8) (by omega) (by decide)
      refine ok_step (ps := []) (L' := [some (.ref 0), some (.int (nI 8))]) (st' := [.ref 19]) (σ' := (α, μ)) (pc' := 163) kX11_count_156 rfl rfl rf_a0 ?_
      refine ok_V (As := []) (b := 19) (st := []) mkX7_all qX11_count_163 rfl (rc_19) rfl rfl rfl rfl (Nat.le_of_ble_eq_true rfl) (c_all hR hI) ?_
      refine ok_reti eX11_count_166 rfl ?_
      refine ⟨rfl, _, rfl, ?_⟩
      refine ok_step (ps := []) (L' := [some (.ref 94), some (.int (nI 8))]) (st' := [.long (lN 7), .long (lN 0), .long ((nI 8).toInt64)]) (σ' := (α, μ)) (pc' := 6) kX12_count_0 rfl rfl rf_a0 ?_
      refine ok_S (As := [.long ((nI 8).toInt64), .long (lN 0), .long (lN 7)]) (st := []) mkX12_in qX12_count_6 rfl rfl rfl rfl rfl (Nat.le_of_ble_eq_true rfl) (m_in) ?_
      rw [show wl ((nI 8).toInt64) (lN 0) (lN 7) = wi (nI 8) (nI 0) (nI 7) from wl_of rfl (nI_l (by decide)).symm (nI_l (by decide)).symm, show bI (wi (nI 8) (nI 0) (nI 7)) = nI 0 from rfl]
      refine ok_if_eq bX12_count_9 (fun _ => ?_) (fun g9 => absurd ((by decide)) g9)
      refine ok_step (ps := []) (L' := [some (.ref 94), some (.int (nI 8))]) (st' := [.int (nI 8)]) (σ' := (α, μ)) (pc' := 20) kX12_count_19 rfl rfl rf_a0 ?_
      refine ok_tk bX12_count_20 (i := 0) rfl (by omega) ?_
      refine ok_step (ps := []) (L' := [some (.ref 94), some (.int (nI 8))]) (st' := [.ref 94]) (σ' := (α, μ)) (pc' := 57) kX12_count_56 rfl rfl rf_a0 ?_
      refine ok_V (As := []) (b := 94) (st := []) mkX12_allLots qX12_count_57 rfl (rc_94) rfl rfl rfl rfl (Nat.le_of_ble_eq_true rfl) (m_all hI) ?_
      refine ok_reti eX12_count_60 rfl ?_
      exact ⟨rfl, _, rfl, hJ⟩
    | 9, ht, h1 =>
      cases ht
      obtain rfl : what = nI 9 := sw_eq (n := 9) (by omega) (by decide)
      refine ok_step (ps := []) (L' := [some (.ref 0), some (.int (nI 9))]) (st' := [.int (α 26 0)]) (σ' := (α, μ)) (pc' := 177) kX11_count_167 rfl rfl rf_a0 ?_
      try rw [(show α 26 0 = μ 95 11 from hR 25 0 11 rfl)]
      refine ok_reti eX11_count_177 rfl ?_
      refine ⟨rfl, _, rfl, ?_⟩
      refine ok_step (ps := []) (L' := [some (.ref 94), some (.int (nI 9))]) (st' := [.long (lN 7), .long (lN 0), .long ((nI 9).toInt64)]) (σ' := (α, μ)) (pc' := 6) kX12_count_0 rfl rfl rf_a0 ?_
      refine ok_S (As := [.long ((nI 9).toInt64), .long (lN 0), .long (lN 7)]) (st := []) mkX12_in qX12_count_6 rfl rfl rfl rfl rfl (Nat.le_of_ble_eq_true rfl) (m_in) ?_
      rw [show wl ((nI 9).toInt64) (lN 0) (lN 7) = wi (nI 9) (nI 0) (nI 7) from wl_of rfl (nI_l (by decide)).symm (nI_l (by decide)).symm, show bI (wi (nI 9) (nI 0) (nI 7)) = nI 0 from rfl]
      refine ok_if_eq bX12_count_9 (fun _ => ?_) (fun g9 => absurd ((by decide)) g9)
      refine ok_step (ps := []) (L' := [some (.ref 94), some (.int (nI 9))]) (st' := [.int (nI 9)]) (σ' := (α, μ)) (pc' := 20) kX12_count_19 rfl rfl rf_a0 ?_
      refine ok_tk bX12_count_20 (i := 1) rfl (by omega) ?_
      refine ok_step (ps := [rf_in (nI 11) 700]) (L' := [some (.ref 94), some (.int (nI 9))]) (st' := [.int (μ 95 ((nI 11).toNatClampNeg))]) (σ' := (α, μ)) (pc' := 68) kX12_count_61 rfl rfl (rf_a1 (rf_in_n (a := 11) rfl (by omega)) rf_a0) ?_
      try rw [(show (nI 11).toNatClampNeg = 11 from rf_cl_n rfl (by omega))]
      refine ok_reti eX12_count_68 rfl ?_
      exact ⟨rfl, _, rfl, hJ⟩
    | 10, ht, h1 =>
      cases ht
      obtain rfl : what = nI 10 := sw_eq (n := 10) (by omega) (by decide)
      refine ok_step (ps := []) (L' := [some (.ref 0), some (.int (nI 10))]) (st' := [.int (α 26 1)]) (σ' := (α, μ)) (pc' := 188) kX11_count_178 rfl rfl rf_a0 ?_
      try rw [(show α 26 1 = μ 95 12 from hR 25 1 12 rfl)]
      refine ok_reti eX11_count_188 rfl ?_
      refine ⟨rfl, _, rfl, ?_⟩
      refine ok_step (ps := []) (L' := [some (.ref 94), some (.int (nI 10))]) (st' := [.long (lN 7), .long (lN 0), .long ((nI 10).toInt64)]) (σ' := (α, μ)) (pc' := 6) kX12_count_0 rfl rfl rf_a0 ?_
      refine ok_S (As := [.long ((nI 10).toInt64), .long (lN 0), .long (lN 7)]) (st := []) mkX12_in qX12_count_6 rfl rfl rfl rfl rfl (Nat.le_of_ble_eq_true rfl) (m_in) ?_
      rw [show wl ((nI 10).toInt64) (lN 0) (lN 7) = wi (nI 10) (nI 0) (nI 7) from wl_of rfl (nI_l (by decide)).symm (nI_l (by decide)).symm, show bI (wi (nI 10) (nI 0) (nI 7)) = nI 0 from rfl]
      refine ok_if_eq bX12_count_9 (fun _ => ?_) (fun g9 => absurd ((by decide)) g9)
      refine ok_step (ps := []) (L' := [some (.ref 94), some (.int (nI 10))]) (st' := [.int (nI 10)]) (σ' := (α, μ)) (pc' := 20) kX12_count_19 rfl rfl rf_a0 ?_
      refine ok_tk bX12_count_20 (i := 2) rfl (by omega) ?_
      refine ok_step (ps := [rf_in (nI 12) 700]) (L' := [some (.ref 94), some (.int (nI 10))]) (st' := [.int (μ 95 ((nI 12).toNatClampNeg))]) (σ' := (α, μ)) (pc' := 76) kX12_count_69 rfl rfl (rf_a1 (rf_in_n (a := 12) rfl (by omega)) rf_a0) ?_
      try rw [(show (nI 12).toNatClampNeg = 12 from rf_cl_n rfl (by omega))]
      refine ok_reti eX12_count_76 rfl ?_
      exact ⟨rfl, _, rfl, hJ⟩
    | 11, ht, h1 =>
      cases ht
      obtain rfl : what = nI 11 := sw_eq (n := 11) (by omega) (by decide)
      refine ok_step (ps := []) (L' := [some (.ref 0), some (.int (nI 11))]) (st' := [.int (α 83 0)]) (σ' := (α, μ)) (pc' := 196) kX11_count_189 rfl rfl rf_a0 ?_
      try rw [(show α 83 0 = μ 94 18 from hJ.1.2.2.2.2.1.1)]
      refine ok_reti eX11_count_196 rfl ?_
      refine ⟨rfl, _, rfl, ?_⟩
      refine ok_step (ps := []) (L' := [some (.ref 94), some (.int (nI 11))]) (st' := [.long (lN 7), .long (lN 0), .long ((nI 11).toInt64)]) (σ' := (α, μ)) (pc' := 6) kX12_count_0 rfl rfl rf_a0 ?_
      refine ok_S (As := [.long ((nI 11).toInt64), .long (lN 0), .long (lN 7)]) (st := []) mkX12_in qX12_count_6 rfl rfl rfl rfl rfl (Nat.le_of_ble_eq_true rfl) (m_in) ?_
      rw [show wl ((nI 11).toInt64) (lN 0) (lN 7) = wi (nI 11) (nI 0) (nI 7) from wl_of rfl (nI_l (by decide)).symm (nI_l (by decide)).symm, show bI (wi (nI 11) (nI 0) (nI 7)) = nI 0 from rfl]
      refine ok_if_eq bX12_count_9 (fun _ => ?_) (fun g9 => absurd ((by decide)) g9)
      refine ok_step (ps := []) (L' := [some (.ref 94), some (.int (nI 11))]) (st' := [.int (nI 11)]) (σ' := (α, μ)) (pc' := 20) kX12_count_19 rfl rfl rf_a0 ?_
      refine ok_tk bX12_count_20 (i := 3) rfl (by omega) ?_
      refine ok_step (ps := []) (L' := [some (.ref 94), some (.int (nI 11))]) (st' := [.int (μ 94 18)]) (σ' := (α, μ)) (pc' := 81) kX12_count_77 rfl rfl rf_a0 ?_
      refine ok_reti eX12_count_81 rfl ?_
      exact ⟨rfl, _, rfl, hJ⟩
    | 12, ht, h1 =>
      cases ht
      obtain rfl : what = nI 12 := sw_eq (n := 12) (by omega) (by decide)
      refine ok_step (ps := []) (L' := [some (.ref 0), some (.int (nI 12))]) (st' := [.int (α 22 2)]) (σ' := (α, μ)) (pc' := 207) kX11_count_197 rfl rfl rf_a0 ?_
      try rw [(show α 22 2 = μ 95 10 from hR 21 2 10 rfl)]
      refine ok_reti eX11_count_207 rfl ?_
      refine ⟨rfl, _, rfl, ?_⟩
      refine ok_step (ps := []) (L' := [some (.ref 94), some (.int (nI 12))]) (st' := [.long (lN 7), .long (lN 0), .long ((nI 12).toInt64)]) (σ' := (α, μ)) (pc' := 6) kX12_count_0 rfl rfl rf_a0 ?_
      refine ok_S (As := [.long ((nI 12).toInt64), .long (lN 0), .long (lN 7)]) (st := []) mkX12_in qX12_count_6 rfl rfl rfl rfl rfl (Nat.le_of_ble_eq_true rfl) (m_in) ?_
      rw [show wl ((nI 12).toInt64) (lN 0) (lN 7) = wi (nI 12) (nI 0) (nI 7) from wl_of rfl (nI_l (by decide)).symm (nI_l (by decide)).symm, show bI (wi (nI 12) (nI 0) (nI 7)) = nI 0 from rfl]
      refine ok_if_eq bX12_count_9 (fun _ => ?_) (fun g9 => absurd ((by decide)) g9)
      refine ok_step (ps := []) (L' := [some (.ref 94), some (.int (nI 12))]) (st' := [.int (nI 12)]) (σ' := (α, μ)) (pc' := 20) kX12_count_19 rfl rfl rf_a0 ?_
      refine ok_tk bX12_count_20 (i := 4) rfl (by omega) ?_
      refine ok_step (ps := [rf_in (nI 10) 700]) (L' := [some (.ref 94), some (.int (nI 12))]) (st' := [.int (μ 95 ((nI 10).toNatClampNeg))]) (σ' := (α, μ)) (pc' := 89) kX12_count_82 rfl rfl (rf_a1 (rf_in_n (a := 10) rfl (by omega)) rf_a0) ?_
      try rw [(show (nI 10).toNatClampNeg = 10 from rf_cl_n rfl (by omega))]
      refine ok_reti eX12_count_89 rfl ?_
      exact ⟨rfl, _, rfl, hJ⟩
    | i + 13, ht, _ => simp at ht
end H28
