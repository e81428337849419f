/-- J behind writes of the sheets alone -/
theorem J.sh {α α' μ μ' : Nat → Nat → Int32} (h : J α μ) (ha : ∀ k i, ¬ (86 ≤ k ∧ k ≤ 92) → α' k i = α k i) (hm : ∀ k i, k < 104 → μ' k i = μ k i) (hS : Sj α' μ') : J α' μ' := by
  obtain ⟨⟨⟨r1, t1, t2⟩, h2, h3, h4, ⟨v1, v2, v3⟩, h6⟩, hI⟩ := h
  have e95 : μ' 95 = μ 95 := funext fun i => hm 95 i (by omega)
  have e96 : μ' 96 = μ 96 := funext fun i => hm 96 i (by omega)
  have a29 : α' 30 = α 30 := funext fun i => ha 30 i (by omega)
  have a32 : α' 33 = α 33 := funext fun i => ha 33 i (by omega)
  have b29 : α' (38 + 29) = α (38 + 29) := funext fun i => ha 67 i (by omega)
  have b32 : α' (38 + 32) = α (38 + 32) := funext fun i => ha 70 i (by omega)
  refine ⟨⟨⟨?_, ?_, ?_⟩, fun h0 => ?_, ?_, fun k hk => ?_, ⟨?_, ?_, fun i hi => ?_⟩, hS⟩, ?_⟩
  · rw [e95]; exact r1.same (fun c hc i => ha _ _ (by omega)) (fun _ _ => rfl)
  · rw [e95, a29, ha 29 0 (by omega)]; exact t1
  · rw [e95, a32, ha 32 0 (by omega)]; exact t2
  · rw [hm 94 2 (by omega)] at h0
    obtain ⟨q1, q2, q3, q4⟩ := h2 h0
    rw [e96]
    refine ⟨q1.same (fun c hc i => ha _ _ (by omega)) (fun _ _ => rfl), q2, ?_, ?_⟩
    · rw [b29, ha (38 + 28) 0 (by omega)]; exact q3
    · rw [b32, ha (38 + 31) 0 (by omega)]; exact q4
  · rw [ha 0 7 (by omega), hm 94 2 (by omega)]; exact h3
  · rw [ha 93 k (by omega), hm 97 k (by omega)]; exact h4 k hk
  · rw [ha 83 0 (by omega), hm 94 18 (by omega)]; exact v1
  · rw [hm 94 18 (by omega)]; exact v2
  · rw [ha 84 i (by omega), hm 103 i (by omega)]; exact v3 i hi
  · rw [e95]; exact hI
theorem J.sput {α μ : Nat → Nat → Int32} (h : J α μ) {s i : Nat} (hs : s < 4) (hi : i < 40) {v : Int32} {k j : Nat} (hk : k = 89 + s) (hj : j = 40 * s + i) : J (rf_w α k i v) (rf_w μ 106 j v) := by
  subst hk
  subst hj
  refine h.sh (fun k i hk => by rw [rf_w_row (by omega)]) (fun k i hk => by rw [rf_w_row (by omega)]) (fun s' hs' => ?_)
  obtain ⟨s1, s2, s3, s4, s5⟩ := h.1.2.2.2.2.2 s' hs'
  refine ⟨?_, ?_, ?_, ?_, fun i' hi' => ?_⟩
  · rw [rf_w_row (by omega), rf_w_row (by omega)]; exact s1
  · rw [rf_w_row (by omega), rf_w_row (by omega)]; exact s2
  · rw [rf_w_row (by omega)]; exact s3
  · rw [rf_w_row (by omega)]; exact s4
  · rw [rf_w_at, rf_w_at]
    by_cases e : s' = s ∧ i' = i
    · obtain ⟨rfl, rfl⟩ := e
      rw [if_pos ⟨rfl, rfl⟩, if_pos ⟨rfl, rfl⟩]
    · rw [if_neg (by omega), if_neg (by omega)]
      exact s5 i' hi'
def cutI (b v : Int32) : Int32 := if b = nI 8 then v.toInt8.toInt32 else if b = nI 16 then v.toInt16.toInt32 else v
section H34
variable {Ln : Nat} {xs : Nat → Int32} {α μ : Nat → Nat → Int32}
theorem c_cut {k : Nat} {v : Int32} (hJ : J α μ) (hk : k < 4) : rf_At (rf_T Ln xs) MX6_cut 1 0 ([some (.ref 85), some (.int (nI k)), some (.int v)], [], 108, (α, μ)) (some (.int (cutI (μ 104 k) v))) 108 (α, μ) := by
  refine rf_pa ?_
  refine ok_step (ps := [rf_in (nI k) 4]) (L' := [some (.ref 85), some (.int (nI k)), some (.int v)]) (st' := [.int (nI 8), .int (α 86 ((nI k).toNatClampNeg))]) (σ' := (α, μ)) (pc' := 8) kX6_cut_0 rfl rfl (rf_a1 (rf_in_n (a := k) rfl (by omega)) rf_a0) ?_
  try rw [(show (nI k).toNatClampNeg = k from rf_cl_n rfl (by omega))]
  try rw [(show α 86 k = μ 104 k from (hJ.1.2.2.2.2.2 _ (by omega)).1)]
  refine ok_icmp_ne bX6_cut_8 (fun h8 => ?_) (fun h8 => ?_)
  · refine ok_step (ps := [rf_in (nI k) 4]) (L' := [some (.ref 85), some (.int (nI k)), some (.int v)]) (st' := [.int (nI 16), .int (α 86 ((nI k).toNatClampNeg))]) (σ' := (α, μ)) (pc' := 22) kX6_cut_14 rfl rfl (rf_a1 (rf_in_n (a := k) rfl (by omega)) rf_a0) ?_
    try rw [(show (nI k).toNatClampNeg = k from rf_cl_n rfl (by omega))]
    try rw [(show α 86 k = μ 104 k from (hJ.1.2.2.2.2.2 _ (by omega)).1)]
    refine ok_icmp_ne bX6_cut_22 (fun h22 => ?_) (fun h22 => ?_)
    · refine ok_step (ps := []) (L' := [some (.ref 85), some (.int (nI k)), some (.int v)]) (st' := [.int v]) (σ' := (α, μ)) (pc' := 31) kX6_cut_30 rfl rfl rf_a0 ?_
      refine ok_reti eX6_cut_31 rfl ?_
      exact ⟨by first | rw [cutI, if_pos h8] | rw [cutI, if_neg h8, if_pos h22] | rw [cutI, if_neg h8, if_neg h22], rfl⟩
    · refine ok_step (ps := []) (L' := [some (.ref 85), some (.int (nI k)), some (.int v)]) (st' := [.int v.toInt16.toInt32]) (σ' := (α, μ)) (pc' := 27) kX6_cut_25 rfl rfl rf_a0 ?_
      refine ok_goto bX6_cut_27 ?_
      refine ok_reti eX6_cut_31 rfl ?_
      exact ⟨by first | rw [cutI, if_pos h8] | rw [cutI, if_neg h8, if_pos h22] | rw [cutI, if_neg h8, if_neg h22], rfl⟩
  · refine ok_step (ps := []) (L' := [some (.ref 85), some (.int (nI k)), some (.int v)]) (st' := [.int v.toInt8.toInt32]) (σ' := (α, μ)) (pc' := 13) kX6_cut_11 rfl rfl rf_a0 ?_
    refine ok_reti eX6_cut_13 rfl ?_
    exact ⟨by first | rw [cutI, if_pos h8] | rw [cutI, if_neg h8, if_pos h22] | rw [cutI, if_neg h8, if_neg h22], rfl⟩
theorem op_put0 {i v : Int32} (hJ : J α μ)  : Op (rf_T Ln xs) MX11_put MX12_put [some (.ref 0), some (.int (nI 0)), some (.int i), some (.int v)] [some (.ref 94), some (.int (nI 0)), some (.int i), some (.int v)] α μ := by
  have hR := hJ.1.1.1
  have hI := hJ.2
  have b0 := hI.le0
  have b1 := hI.le1
  have b2 := hI.le2
  have b3 := hI.le3
  have b4 := hI.le4
  have b5 := hI.le5
  have b6 := hI.le6
  have b8 := hI.le8
  have b9 := hI.le9
  have b11 := hI.le11
  have b12 := hI.le12
  refine ok_step (ps := []) (L' := [some (.ref 0), some (.int (nI 0)), some (.int i), some (.int v)]) (st' := [.int (nI 0), .ref 0]) (σ' := (α, μ)) (pc' := 2) kX11_put_0 rfl rfl rf_a0 ?_
  refine ok_V (As := [.int (nI 0)]) (b := 0) (st := []) mkX11_isSheet qX11_put_2 rfl (rc_0) rfl rfl rfl rfl (Nat.le_of_ble_eq_true rfl) (c_isSheet) ?_
  rw [show bI (wi (nI 0) (nI 0) (nI 3)) = nI 1 from rfl]
  refine ok_if_ne bX11_put_5 (fun _ => ?_) (fun h5 => absurd h5 ((by decide)))
  refine ok_step (ps := [rf_in (nI 0) 4]) (L' := [some (.ref 0), some (.int (nI 0)), some (.int i), some (.int v)]) (st' := [.int (α 86 ((nI 0).toNatClampNeg))]) (σ' := (α, μ)) (pc' := 24) kX11_put_15 rfl rfl (rf_a1 (rf_in_n (a := 0) rfl (by omega)) rf_a0) ?_
  try rw [(show (nI 0).toNatClampNeg = 0 from rf_cl_n rfl (by omega))]
  try rw [(show α 86 0 = μ 104 0 from (hJ.1.2.2.2.2.2 _ (by omega)).1)]
  refine ok_if_ne bX11_put_24 (fun h24 => ?_) (fun h24 => ?_)
  · refine ok_step (ps := [rf_in (nI 0) 4]) (L' := [some (.ref 0), some (.int (nI 0)), some (.int i), some (.int v)]) (st' := [.int ((α 87 ((nI 0).toNatClampNeg)) - (nI 1)), .int (nI 0), .int i]) (σ' := (α, μ)) (pc' := 47) kX11_put_34 rfl rfl (rf_a1 (rf_in_n (a := 0) rfl (by omega)) rf_a0) ?_
    try rw [(show (nI 0).toNatClampNeg = 0 from rf_cl_n rfl (by omega))]
    try rw [(show α 87 0 = μ 105 0 from (hJ.1.2.2.2.2.2 _ (by omega)).2.1)]
    refine ok_S (As := [.int i, .int (nI 0), .int ((μ 105 0) - (nI 1))]) (st := []) mkX11_within qX11_put_47 rfl rfl rfl rfl rfl (Nat.le_of_ble_eq_true rfl) (c_within) ?_
    refine ok_if_ne bX11_put_50 (fun h50 => ?_) (fun h50 => ?_)
    · obtain ⟨m, hm, e⟩ := (hJ.1.2.2.2.2.2 0 (by decide)).2.2.1
      obtain ⟨k, hk, rfl⟩ := wi_lt (bI_n0.mp h50) e (by omega)
      refine ok_step (ps := [rf_in (nI 0) 4]) (L' := [some (.ref 0), some (.int (nI 0)), some (.int (nI k)), some (.int v)]) (st' := [.int v, .int (nI 0), .ref 85, .int (nI k), .ref 89]) (σ' := (α, μ)) (pc' := 76) kX11_put_60 rfl rfl (rf_a1 (rf_in_n (a := 0) rfl (by omega)) rf_a0) ?_
      refine ok_V (As := [.int (nI 0), .int v]) (b := 85) (st := [.int (nI k), .ref 89]) mkX6_cut qX11_put_76 rfl (rc_85) rfl rfl rfl rfl (Nat.le_of_ble_eq_true rfl) (c_cut hJ (by omega)) ?_
      refine ok_step (ps := [rf_in (nI k) 40]) (L' := [some (.ref 0), some (.int (nI 0)), some (.int (nI k)), some (.int v)]) (st' := [.int (nI 1)]) (σ' := (rf_w α 89 ((nI k).toNatClampNeg) (cutI (μ 104 0) v), μ)) (pc' := 81) kX11_put_79 rfl rfl (rf_a1 (rf_in_n (a := k) rfl (by omega)) rf_a0) ?_
      try rw [(show (nI k).toNatClampNeg = k from rf_cl_n rfl (by omega))]
      refine ok_reti eX11_put_81 rfl ?_
      refine ⟨rfl, _, rfl, ?_⟩
      refine ok_step (ps := []) (L' := [some (.ref 94), some (.int (nI 0)), some (.int (nI k)), some (.int v)]) (st' := [.int (nI 0)]) (σ' := (rf_w α 89 k (cutI (μ 104 0) v), μ)) (pc' := 1) kX12_put_0 rfl rfl rf_a0 ?_
      refine ok_S (As := [.int (nI 0)]) (st := []) mkX12_isSheet qX12_put_1 rfl rfl rfl rfl rfl (Nat.le_of_ble_eq_true rfl) (m_isSheet) ?_
      rw [show bI (wi (nI 0) (nI 0) (nI 3)) = nI 1 from rfl]
      refine ok_if_ne bX12_put_4 (fun _ => ?_) (fun g4 => absurd g4 ((by decide)))
      refine ok_step (ps := [rf_in (nI 0) 4]) (L' := [some (.ref 94), some (.int (nI 0)), some (.int (nI k)), some (.int v)]) (st' := [.int (μ 104 ((nI 0).toNatClampNeg))]) (σ' := (rf_w α 89 k (cutI (μ 104 0) v), μ)) (pc' := 19) kX12_put_13 rfl rfl (rf_a1 (rf_in_n (a := 0) rfl (by omega)) rf_a0) ?_
      try rw [(show (nI 0).toNatClampNeg = 0 from rf_cl_n rfl (by omega))]
      refine ok_if_ne bX12_put_19 (fun _ => ?_) (fun g19 => absurd g19 (h24))
      refine ok_step (ps := [rf_in (nI 0) 4]) (L' := [some (.ref 94), some (.int (nI 0)), some (.int (nI k)), some (.int v)]) (st' := [.long (((μ 105 ((nI 0).toNatClampNeg)) - (nI 1)).toInt64), .long (lN 0), .long ((nI k).toInt64)]) (σ' := (rf_w α 89 k (cutI (μ 104 0) v), μ)) (pc' := 40) kX12_put_28 rfl rfl (rf_a1 (rf_in_n (a := 0) rfl (by omega)) rf_a0) ?_
      try rw [(show (nI 0).toNatClampNeg = 0 from rf_cl_n rfl (by omega))]
      refine ok_S (As := [.long ((nI k).toInt64), .long (lN 0), .long (((μ 105 0) - (nI 1)).toInt64)]) (st := []) mkX12_in qX12_put_40 rfl rfl rfl rfl rfl (Nat.le_of_ble_eq_true rfl) (m_in) ?_
      rw [show wl ((nI k).toInt64) (lN 0) (((μ 105 0) - (nI 1)).toInt64) = wi (nI k) (nI 0) ((μ 105 0) - (nI 1)) from wl_of rfl (nI_l (by decide)).symm rfl]
      refine ok_if_ne bX12_put_43 (fun _ => ?_) (fun g43 => absurd g43 (h50))
      refine ok_step (ps := [rf_in (nI 0) 4]) (L' := [some (.ref 94), some (.int (nI 0)), some (.int (nI k)), some (.int v)]) (st' := [.int (nI 8), .int (μ 104 ((nI 0).toNatClampNeg)), .int (((nI 40) * (nI 0)) + (nI k)), .ref 106]) (σ' := (rf_w α 89 k (cutI (μ 104 0) v), μ)) (pc' := 70) kX12_put_52 rfl rfl (rf_a1 (rf_in_n (a := 0) rfl (by omega)) rf_a0) ?_
      try rw [(show ((nI 40) * (nI 0)) = nI 0 from rf_eq (rf_nmul (x := nI 40) (y := nI 0) rfl rfl) (by omega))]
      try rw [(show ((nI 0) + (nI k)) = nI k from rf_eq (rf_nadd (x := nI 0) (y := nI k) rfl rfl) (by omega))]
      try rw [(show (nI 0).toNatClampNeg = 0 from rf_cl_n rfl (by omega))]
      refine ok_icmp_ne bX12_put_70 (fun g70 => ?_) (fun g70 => ?_)
      · refine ok_step (ps := [rf_in (nI 0) 4]) (L' := [some (.ref 94), some (.int (nI 0)), some (.int (nI k)), some (.int v)]) (st' := [.int (nI 16), .int (μ 104 ((nI 0).toNatClampNeg)), .int (nI k), .ref 106]) (σ' := (rf_w α 89 k (cutI (μ 104 0) v), μ)) (pc' := 86) kX12_put_78 rfl rfl (rf_a1 (rf_in_n (a := 0) rfl (by omega)) rf_a0) ?_
        try rw [(show (nI 0).toNatClampNeg = 0 from rf_cl_n rfl (by omega))]
        refine ok_icmp_ne bX12_put_86 (fun g86 => ?_) (fun g86 => ?_)
        · refine ok_step (ps := []) (L' := [some (.ref 94), some (.int (nI 0)), some (.int (nI k)), some (.int v)]) (st' := [.int v, .int (nI k), .ref 106]) (σ' := (rf_w α 89 k (cutI (μ 104 0) v), μ)) (pc' := 95) kX12_put_94 rfl rfl rf_a0 ?_
          refine ok_step (ps := [rf_in (nI k) 160]) (L' := [some (.ref 94), some (.int (nI 0)), some (.int (nI k)), some (.int v)]) (st' := [.int (nI 1)]) (σ' := (rf_w α 89 k (cutI (μ 104 0) v), rf_w μ 106 ((nI k).toNatClampNeg) v)) (pc' := 97) kX12_put_95 rfl rfl (rf_a1 (rf_in_n (a := k) rfl (by omega)) rf_a0) ?_
          try rw [(show (nI k).toNatClampNeg = k from rf_cl_n rfl (by omega))]
          refine ok_reti eX12_put_97 rfl ?_
          have ec : cutI (μ 104 0) v = v := by first | rw [cutI, if_pos g70] | rw [cutI, if_neg g70, if_pos g86] | rw [cutI, if_neg g70, if_neg g86]
          rw [ec]
          exact ⟨rfl, _, rfl, hJ.sput (s := 0) (by decide) (by omega) rfl (by omega)⟩
        · refine ok_step (ps := []) (L' := [some (.ref 94), some (.int (nI 0)), some (.int (nI k)), some (.int v)]) (st' := [.int v.toInt16.toInt32, .int (nI k), .ref 106]) (σ' := (rf_w α 89 k (cutI (μ 104 0) v), μ)) (pc' := 91) kX12_put_89 rfl rfl rf_a0 ?_
          refine ok_goto bX12_put_91 ?_
          refine ok_step (ps := [rf_in (nI k) 160]) (L' := [some (.ref 94), some (.int (nI 0)), some (.int (nI k)), some (.int v)]) (st' := [.int (nI 1)]) (σ' := (rf_w α 89 k (cutI (μ 104 0) v), rf_w μ 106 ((nI k).toNatClampNeg) v.toInt16.toInt32)) (pc' := 97) kX12_put_95 rfl rfl (rf_a1 (rf_in_n (a := k) rfl (by omega)) rf_a0) ?_
          try rw [(show (nI k).toNatClampNeg = k from rf_cl_n rfl (by omega))]
          refine ok_reti eX12_put_97 rfl ?_
          have ec : cutI (μ 104 0) v = v.toInt16.toInt32 := by first | rw [cutI, if_pos g70] | rw [cutI, if_neg g70, if_pos g86] | rw [cutI, if_neg g70, if_neg g86]
          rw [ec]
          exact ⟨rfl, _, rfl, hJ.sput (s := 0) (by decide) (by omega) rfl (by omega)⟩
      · refine ok_step (ps := []) (L' := [some (.ref 94), some (.int (nI 0)), some (.int (nI k)), some (.int v)]) (st' := [.int v.toInt8.toInt32, .int (nI k), .ref 106]) (σ' := (rf_w α 89 k (cutI (μ 104 0) v), μ)) (pc' := 75) kX12_put_73 rfl rfl rf_a0 ?_
        refine ok_goto bX12_put_75 ?_
        refine ok_step (ps := [rf_in (nI k) 160]) (L' := [some (.ref 94), some (.int (nI 0)), some (.int (nI k)), some (.int v)]) (st' := [.int (nI 1)]) (σ' := (rf_w α 89 k (cutI (μ 104 0) v), rf_w μ 106 ((nI k).toNatClampNeg) v.toInt8.toInt32)) (pc' := 97) kX12_put_95 rfl rfl (rf_a1 (rf_in_n (a := k) rfl (by omega)) rf_a0) ?_
        try rw [(show (nI k).toNatClampNeg = k from rf_cl_n rfl (by omega))]
        refine ok_reti eX12_put_97 rfl ?_
        have ec : cutI (μ 104 0) v = v.toInt8.toInt32 := by first | rw [cutI, if_pos g70] | rw [cutI, if_neg g70, if_pos g86] | rw [cutI, if_neg g70, if_neg g86]
        rw [ec]
        exact ⟨rfl, _, rfl, hJ.sput (s := 0) (by decide) (by omega) rfl (by omega)⟩
    · refine ok_step (ps := []) (L' := [some (.ref 0), some (.int (nI 0)), some (.int i), some (.int v)]) (st' := [.int (-1000000001), .ref 0]) (σ' := (α, μ)) (pc' := 56) kX11_put_53 rfl rfl rf_a0 ?_
      refine ok_V (As := [.int (-1000000001)]) (b := 0) (st := []) mkX11_error qX11_put_56 rfl (rc_0) rfl rfl rfl rfl (Nat.le_of_ble_eq_true rfl) (c_error (k := 1) (by decide) (by decide) (by decide)) ?_
      refine ok_reti eX11_put_59 rfl ?_
      refine ⟨rfl, _, rfl, ?_⟩
      refine ok_step (ps := []) (L' := [some (.ref 94), some (.int (nI 0)), some (.int i), some (.int v)]) (st' := [.int (nI 0)]) (σ' := (rf_w α 93 1 (α 93 1 + nI 1), μ)) (pc' := 1) kX12_put_0 rfl rfl rf_a0 ?_
      refine ok_S (As := [.int (nI 0)]) (st := []) mkX12_isSheet qX12_put_1 rfl rfl rfl rfl rfl (Nat.le_of_ble_eq_true rfl) (m_isSheet) ?_
      rw [show bI (wi (nI 0) (nI 0) (nI 3)) = nI 1 from rfl]
      refine ok_if_ne bX12_put_4 (fun _ => ?_) (fun g4 => absurd g4 ((by decide)))
      refine ok_step (ps := [rf_in (nI 0) 4]) (L' := [some (.ref 94), some (.int (nI 0)), some (.int i), some (.int v)]) (st' := [.int (μ 104 ((nI 0).toNatClampNeg))]) (σ' := (rf_w α 93 1 (α 93 1 + nI 1), μ)) (pc' := 19) kX12_put_13 rfl rfl (rf_a1 (rf_in_n (a := 0) rfl (by omega)) rf_a0) ?_
      try rw [(show (nI 0).toNatClampNeg = 0 from rf_cl_n rfl (by omega))]
      refine ok_if_ne bX12_put_19 (fun _ => ?_) (fun g19 => absurd g19 (h24))
      refine ok_step (ps := [rf_in (nI 0) 4]) (L' := [some (.ref 94), some (.int (nI 0)), some (.int i), some (.int v)]) (st' := [.long (((μ 105 ((nI 0).toNatClampNeg)) - (nI 1)).toInt64), .long (lN 0), .long i.toInt64]) (σ' := (rf_w α 93 1 (α 93 1 + nI 1), μ)) (pc' := 40) kX12_put_28 rfl rfl (rf_a1 (rf_in_n (a := 0) rfl (by omega)) rf_a0) ?_
      try rw [(show (nI 0).toNatClampNeg = 0 from rf_cl_n rfl (by omega))]
      refine ok_S (As := [.long i.toInt64, .long (lN 0), .long (((μ 105 0) - (nI 1)).toInt64)]) (st := []) mkX12_in qX12_put_40 rfl rfl rfl rfl rfl (Nat.le_of_ble_eq_true rfl) (m_in) ?_
      rw [show wl i.toInt64 (lN 0) (((μ 105 0) - (nI 1)).toInt64) = wi i (nI 0) ((μ 105 0) - (nI 1)) from wl_of rfl (nI_l (by decide)).symm rfl]
      refine ok_if_ne bX12_put_43 (fun g43 => absurd (h50) g43) (fun _ => ?_)
      refine ok_step (ps := []) (L' := [some (.ref 94), some (.int (nI 0)), some (.int i), some (.int v)]) (st' := [.int (nI 1), .ref 94]) (σ' := (rf_w α 93 1 (α 93 1 + nI 1), μ)) (pc' := 48) kX12_put_46 rfl rfl rf_a0 ?_
      refine ok_V (As := [.int (nI 1)]) (b := 94) (st := []) mkX12_finds qX12_put_48 rfl (rc_94) rfl rfl rfl rfl (Nat.le_of_ble_eq_true rfl) (m_finds (k := 1) (by decide)) ?_
      refine ok_reti eX12_put_51 rfl ?_
      exact ⟨rfl, _, rfl, hJ.err (k := 1) (by decide)⟩
  · refine ok_step (ps := []) (L' := [some (.ref 0), some (.int (nI 0)), some (.int i), some (.int v)]) (st' := [.int (-1000000002), .ref 0]) (σ' := (α, μ)) (pc' := 30) kX11_put_27 rfl rfl rf_a0 ?_
    refine ok_V (As := [.int (-1000000002)]) (b := 0) (st := []) mkX11_error qX11_put_30 rfl (rc_0) rfl rfl rfl rfl (Nat.le_of_ble_eq_true rfl) (c_error (k := 2) (by decide) (by decide) (by decide)) ?_
    refine ok_reti eX11_put_33 rfl ?_
    refine ⟨rfl, _, rfl, ?_⟩
    refine ok_step (ps := []) (L' := [some (.ref 94), some (.int (nI 0)), some (.int i), some (.int v)]) (st' := [.int (nI 0)]) (σ' := (rf_w α 93 2 (α 93 2 + nI 1), μ)) (pc' := 1) kX12_put_0 rfl rfl rf_a0 ?_
    refine ok_S (As := [.int (nI 0)]) (st := []) mkX12_isSheet qX12_put_1 rfl rfl rfl rfl rfl (Nat.le_of_ble_eq_true rfl) (m_isSheet) ?_
    rw [show bI (wi (nI 0) (nI 0) (nI 3)) = nI 1 from rfl]
    refine ok_if_ne bX12_put_4 (fun _ => ?_) (fun g4 => absurd g4 ((by decide)))
    refine ok_step (ps := [rf_in (nI 0) 4]) (L' := [some (.ref 94), some (.int (nI 0)), some (.int i), some (.int v)]) (st' := [.int (μ 104 ((nI 0).toNatClampNeg))]) (σ' := (rf_w α 93 2 (α 93 2 + nI 1), μ)) (pc' := 19) kX12_put_13 rfl rfl (rf_a1 (rf_in_n (a := 0) rfl (by omega)) rf_a0) ?_
    try rw [(show (nI 0).toNatClampNeg = 0 from rf_cl_n rfl (by omega))]
    refine ok_if_ne bX12_put_19 (fun g19 => absurd (h24) g19) (fun _ => ?_)
    refine ok_step (ps := []) (L' := [some (.ref 94), some (.int (nI 0)), some (.int i), some (.int v)]) (st' := [.int (nI 2), .ref 94]) (σ' := (rf_w α 93 2 (α 93 2 + nI 1), μ)) (pc' := 24) kX12_put_22 rfl rfl rf_a0 ?_
    refine ok_V (As := [.int (nI 2)]) (b := 94) (st := []) mkX12_finds qX12_put_24 rfl (rc_94) rfl rfl rfl rfl (Nat.le_of_ble_eq_true rfl) (m_finds (k := 2) (by decide)) ?_
    refine ok_reti eX12_put_27 rfl ?_
    exact ⟨rfl, _, rfl, hJ.err (k := 2) (by decide)⟩
theorem op_put1 {i v : Int32} (hJ : J α μ)  : Op (rf_T Ln xs) MX11_put MX12_put [some (.ref 0), some (.int (nI 1)), some (.int i), some (.int v)] [some (.ref 94), some (.int (nI 1)), some (.int i), some (.int v)] α μ := by
  have hR := hJ.1.1.1
  have hI := hJ.2
  have b0 := hI.le0
  have b1 := hI.le1
  have b2 := hI.le2
  have b3 := hI.le3
  have b4 := hI.le4
  have b5 := hI.le5
  have b6 := hI.le6
  have b8 := hI.le8
  have b9 := hI.le9
  have b11 := hI.le11
  have b12 := hI.le12
  refine ok_step (ps := []) (L' := [some (.ref 0), some (.int (nI 1)), some (.int i), some (.int v)]) (st' := [.int (nI 1), .ref 0]) (σ' := (α, μ)) (pc' := 2) kX11_put_0 rfl rfl rf_a0 ?_
  refine ok_V (As := [.int (nI 1)]) (b := 0) (st := []) mkX11_isSheet qX11_put_2 rfl (rc_0) rfl rfl rfl rfl (Nat.le_of_ble_eq_true rfl) (c_isSheet) ?_
  rw [show bI (wi (nI 1) (nI 0) (nI 3)) = nI 1 from rfl]
  refine ok_if_ne bX11_put_5 (fun _ => ?_) (fun h5 => absurd h5 ((by decide)))
  refine ok_step (ps := [rf_in (nI 1) 4]) (L' := [some (.ref 0), some (.int (nI 1)), some (.int i), some (.int v)]) (st' := [.int (α 86 ((nI 1).toNatClampNeg))]) (σ' := (α, μ)) (pc' := 24) kX11_put_15 rfl rfl (rf_a1 (rf_in_n (a := 1) rfl (by omega)) rf_a0) ?_
  try rw [(show (nI 1).toNatClampNeg = 1 from rf_cl_n rfl (by omega))]
  try rw [(show α 86 1 = μ 104 1 from (hJ.1.2.2.2.2.2 _ (by omega)).1)]
  refine ok_if_ne bX11_put_24 (fun h24 => ?_) (fun h24 => ?_)
  · refine ok_step (ps := [rf_in (nI 1) 4]) (L' := [some (.ref 0), some (.int (nI 1)), some (.int i), some (.int v)]) (st' := [.int ((α 87 ((nI 1).toNatClampNeg)) - (nI 1)), .int (nI 0), .int i]) (σ' := (α, μ)) (pc' := 47) kX11_put_34 rfl rfl (rf_a1 (rf_in_n (a := 1) rfl (by omega)) rf_a0) ?_
    try rw [(show (nI 1).toNatClampNeg = 1 from rf_cl_n rfl (by omega))]
    try rw [(show α 87 1 = μ 105 1 from (hJ.1.2.2.2.2.2 _ (by omega)).2.1)]
    refine ok_S (As := [.int i, .int (nI 0), .int ((μ 105 1) - (nI 1))]) (st := []) mkX11_within qX11_put_47 rfl rfl rfl rfl rfl (Nat.le_of_ble_eq_true rfl) (c_within) ?_
    refine ok_if_ne bX11_put_50 (fun h50 => ?_) (fun h50 => ?_)
    · obtain ⟨m, hm, e⟩ := (hJ.1.2.2.2.2.2 1 (by decide)).2.2.1
      obtain ⟨k, hk, rfl⟩ := wi_lt (bI_n0.mp h50) e (by omega)
      refine ok_step (ps := [rf_in (nI 1) 4]) (L' := [some (.ref 0), some (.int (nI 1)), some (.int (nI k)), some (.int v)]) (st' := [.int v, .int (nI 1), .ref 85, .int (nI k), .ref 90]) (σ' := (α, μ)) (pc' := 76) kX11_put_60 rfl rfl (rf_a1 (rf_in_n (a := 1) rfl (by omega)) rf_a0) ?_
      refine ok_V (As := [.int (nI 1), .int v]) (b := 85) (st := [.int (nI k), .ref 90]) mkX6_cut qX11_put_76 rfl (rc_85) rfl rfl rfl rfl (Nat.le_of_ble_eq_true rfl) (c_cut hJ (by omega)) ?_
      refine ok_step (ps := [rf_in (nI k) 40]) (L' := [some (.ref 0), some (.int (nI 1)), some (.int (nI k)), some (.int v)]) (st' := [.int (nI 1)]) (σ' := (rf_w α 90 ((nI k).toNatClampNeg) (cutI (μ 104 1) v), μ)) (pc' := 81) kX11_put_79 rfl rfl (rf_a1 (rf_in_n (a := k) rfl (by omega)) rf_a0) ?_
      try rw [(show (nI k).toNatClampNeg = k from rf_cl_n rfl (by omega))]
      refine ok_reti eX11_put_81 rfl ?_
      refine ⟨rfl, _, rfl, ?_⟩
      refine ok_step (ps := []) (L' := [some (.ref 94), some (.int (nI 1)), some (.int (nI k)), some (.int v)]) (st' := [.int (nI 1)]) (σ' := (rf_w α 90 k (cutI (μ 104 1) v), μ)) (pc' := 1) kX12_put_0 rfl rfl rf_a0 ?_
      refine ok_S (As := [.int (nI 1)]) (st := []) mkX12_isSheet qX12_put_1 rfl rfl rfl rfl rfl (Nat.le_of_ble_eq_true rfl) (m_isSheet) ?_
      rw [show bI (wi (nI 1) (nI 0) (nI 3)) = nI 1 from rfl]
      refine ok_if_ne bX12_put_4 (fun _ => ?_) (fun g4 => absurd g4 ((by decide)))
      refine ok_step (ps := [rf_in (nI 1) 4]) (L' := [some (.ref 94), some (.int (nI 1)), some (.int (nI k)), some (.int v)]) (st' := [.int (μ 104 ((nI 1).toNatClampNeg))]) (σ' := (rf_w α 90 k (cutI (μ 104 1) v), μ)) (pc' := 19) kX12_put_13 rfl rfl (rf_a1 (rf_in_n (a := 1) rfl (by omega)) rf_a0) ?_
      try rw [(show (nI 1).toNatClampNeg = 1 from rf_cl_n rfl (by omega))]
      refine ok_if_ne bX12_put_19 (fun _ => ?_) (fun g19 => absurd g19 (h24))
      refine ok_step (ps := [rf_in (nI 1) 4]) (L' := [some (.ref 94), some (.int (nI 1)), some (.int (nI k)), some (.int v)]) (st' := [.long (((μ 105 ((nI 1).toNatClampNeg)) - (nI 1)).toInt64), .long (lN 0), .long ((nI k).toInt64)]) (σ' := (rf_w α 90 k (cutI (μ 104 1) v), μ)) (pc' := 40) kX12_put_28 rfl rfl (rf_a1 (rf_in_n (a := 1) rfl (by omega)) rf_a0) ?_
      try rw [(show (nI 1).toNatClampNeg = 1 from rf_cl_n rfl (by omega))]
      refine ok_S (As := [.long ((nI k).toInt64), .long (lN 0), .long (((μ 105 1) - (nI 1)).toInt64)]) (st := []) mkX12_in qX12_put_40 rfl rfl rfl rfl rfl (Nat.le_of_ble_eq_true rfl) (m_in) ?_
      rw [show wl ((nI k).toInt64) (lN 0) (((μ 105 1) - (nI 1)).toInt64) = wi (nI k) (nI 0) ((μ 105 1) - (nI 1)) from wl_of rfl (nI_l (by decide)).symm rfl]
      refine ok_if_ne bX12_put_43 (fun _ => ?_) (fun g43 => absurd g43 (h50))
      refine ok_step (ps := [rf_in (nI 1) 4]) (L' := [some (.ref 94), some (.int (nI 1)), some (.int (nI k)), some (.int v)]) (st' := [.int (nI 8), .int (μ 104 ((nI 1).toNatClampNeg)), .int (((nI 40) * (nI 1)) + (nI k)), .ref 106]) (σ' := (rf_w α 90 k (cutI (μ 104 1) v), μ)) (pc' := 70) kX12_put_52 rfl rfl (rf_a1 (rf_in_n (a := 1) rfl (by omega)) rf_a0) ?_
      try rw [(show ((nI 40) * (nI 1)) = nI 40 from rf_eq (rf_nmul (x := nI 40) (y := nI 1) rfl rfl) (by omega))]
      try rw [(show ((nI 40) + (nI k)) = nI (40 + k) from rf_eq (rf_nadd (x := nI 40) (y := nI k) rfl rfl) (by omega))]
      try rw [(show (nI 1).toNatClampNeg = 1 from rf_cl_n rfl (by omega))]
      refine ok_icmp_ne bX12_put_70 (fun g70 => ?_) (fun g70 => ?_)
      · refine ok_step (ps := [rf_in (nI 1) 4]) (L' := [some (.ref 94), some (.int (nI 1)), some (.int (nI k)), some (.int v)]) (st' := [.int (nI 16), .int (μ 104 ((nI 1).toNatClampNeg)), .int (nI (40 + k)), .ref 106]) (σ' := (rf_w α 90 k (cutI (μ 104 1) v), μ)) (pc' := 86) kX12_put_78 rfl rfl (rf_a1 (rf_in_n (a := 1) rfl (by omega)) rf_a0) ?_
        try rw [(show (nI 1).toNatClampNeg = 1 from rf_cl_n rfl (by omega))]
        refine ok_icmp_ne bX12_put_86 (fun g86 => ?_) (fun g86 => ?_)
        · refine ok_step (ps := []) (L' := [some (.ref 94), some (.int (nI 1)), some (.int (nI k)), some (.int v)]) (st' := [.int v, .int (nI (40 + k)), .ref 106]) (σ' := (rf_w α 90 k (cutI (μ 104 1) v), μ)) (pc' := 95) kX12_put_94 rfl rfl rf_a0 ?_
          refine ok_step (ps := [rf_in (nI (40 + k)) 160]) (L' := [some (.ref 94), some (.int (nI 1)), some (.int (nI k)), some (.int v)]) (st' := [.int (nI 1)]) (σ' := (rf_w α 90 k (cutI (μ 104 1) v), rf_w μ 106 ((nI (40 + k)).toNatClampNeg) v)) (pc' := 97) kX12_put_95 rfl rfl (rf_a1 (rf_in_n (a := (40 + k)) rfl (by omega)) rf_a0) ?_
          try rw [(show (nI (40 + k)).toNatClampNeg = (40 + k) from rf_cl_n rfl (by omega))]
          refine ok_reti eX12_put_97 rfl ?_
          have ec : cutI (μ 104 1) v = v := by first | rw [cutI, if_pos g70] | rw [cutI, if_neg g70, if_pos g86] | rw [cutI, if_neg g70, if_neg g86]
          rw [ec]
          exact ⟨rfl, _, rfl, hJ.sput (s := 1) (by decide) (by omega) rfl (by omega)⟩
        · refine ok_step (ps := []) (L' := [some (.ref 94), some (.int (nI 1)), some (.int (nI k)), some (.int v)]) (st' := [.int v.toInt16.toInt32, .int (nI (40 + k)), .ref 106]) (σ' := (rf_w α 90 k (cutI (μ 104 1) v), μ)) (pc' := 91) kX12_put_89 rfl rfl rf_a0 ?_
          refine ok_goto bX12_put_91 ?_
          refine ok_step (ps := [rf_in (nI (40 + k)) 160]) (L' := [some (.ref 94), some (.int (nI 1)), some (.int (nI k)), some (.int v)]) (st' := [.int (nI 1)]) (σ' := (rf_w α 90 k (cutI (μ 104 1) v), rf_w μ 106 ((nI (40 + k)).toNatClampNeg) v.toInt16.toInt32)) (pc' := 97) kX12_put_95 rfl rfl (rf_a1 (rf_in_n (a := (40 + k)) rfl (by omega)) rf_a0) ?_
          try rw [(show (nI (40 + k)).toNatClampNeg = (40 + k) from rf_cl_n rfl (by omega))]
          refine ok_reti eX12_put_97 rfl ?_
          have ec : cutI (μ 104 1) v = v.toInt16.toInt32 := by first | rw [cutI, if_pos g70] | rw [cutI, if_neg g70, if_pos g86] | rw [cutI, if_neg g70, if_neg g86]
          rw [ec]
          exact ⟨rfl, _, rfl, hJ.sput (s := 1) (by decide) (by omega) rfl (by omega)⟩
      · refine ok_step (ps := []) (L' := [some (.ref 94), some (.int (nI 1)), some (.int (nI k)), some (.int v)]) (st' := [.int v.toInt8.toInt32, .int (nI (40 + k)), .ref 106]) (σ' := (rf_w α 90 k (cutI (μ 104 1) v), μ)) (pc' := 75) kX12_put_73 rfl rfl rf_a0 ?_
        refine ok_goto bX12_put_75 ?_
        refine ok_step (ps := [rf_in (nI (40 + k)) 160]) (L' := [some (.ref 94), some (.int (nI 1)), some (.int (nI k)), some (.int v)]) (st' := [.int (nI 1)]) (σ' := (rf_w α 90 k (cutI (μ 104 1) v), rf_w μ 106 ((nI (40 + k)).toNatClampNeg) v.toInt8.toInt32)) (pc' := 97) kX12_put_95 rfl rfl (rf_a1 (rf_in_n (a := (40 + k)) rfl (by omega)) rf_a0) ?_
        try rw [(show (nI (40 + k)).toNatClampNeg = (40 + k) from rf_cl_n rfl (by omega))]
        refine ok_reti eX12_put_97 rfl ?_
        have ec : cutI (μ 104 1) v = v.toInt8.toInt32 := by first | rw [cutI, if_pos g70] | rw [cutI, if_neg g70, if_pos g86] | rw [cutI, if_neg g70, if_neg g86]
        rw [ec]
        exact ⟨rfl, _, rfl, hJ.sput (s := 1) (by decide) (by omega) rfl (by omega)⟩
    · refine ok_step (ps := []) (L' := [some (.ref 0), some (.int (nI 1)), some (.int i), some (.int v)]) (st' := [.int (-1000000001), .ref 0]) (σ' := (α, μ)) (pc' := 56) kX11_put_53 rfl rfl rf_a0 ?_
      refine ok_V (As := [.int (-1000000001)]) (b := 0) (st := []) mkX11_error qX11_put_56 rfl (rc_0) rfl rfl rfl rfl (Nat.le_of_ble_eq_true rfl) (c_error (k := 1) (by decide) (by decide) (by decide)) ?_
      refine ok_reti eX11_put_59 rfl ?_
      refine ⟨rfl, _, rfl, ?_⟩
      refine ok_step (ps := []) (L' := [some (.ref 94), some (.int (nI 1)), some (.int i), some (.int v)]) (st' := [.int (nI 1)]) (σ' := (rf_w α 93 1 (α 93 1 + nI 1), μ)) (pc' := 1) kX12_put_0 rfl rfl rf_a0 ?_
      refine ok_S (As := [.int (nI 1)]) (st := []) mkX12_isSheet qX12_put_1 rfl rfl rfl rfl rfl (Nat.le_of_ble_eq_true rfl) (m_isSheet) ?_
      rw [show bI (wi (nI 1) (nI 0) (nI 3)) = nI 1 from rfl]
      refine ok_if_ne bX12_put_4 (fun _ => ?_) (fun g4 => absurd g4 ((by decide)))
      refine ok_step (ps := [rf_in (nI 1) 4]) (L' := [some (.ref 94), some (.int (nI 1)), some (.int i), some (.int v)]) (st' := [.int (μ 104 ((nI 1).toNatClampNeg))]) (σ' := (rf_w α 93 1 (α 93 1 + nI 1), μ)) (pc' := 19) kX12_put_13 rfl rfl (rf_a1 (rf_in_n (a := 1) rfl (by omega)) rf_a0) ?_
      try rw [(show (nI 1).toNatClampNeg = 1 from rf_cl_n rfl (by omega))]
      refine ok_if_ne bX12_put_19 (fun _ => ?_) (fun g19 => absurd g19 (h24))
      refine ok_step (ps := [rf_in (nI 1) 4]) (L' := [some (.ref 94), some (.int (nI 1)), some (.int i), some (.int v)]) (st' := [.long (((μ 105 ((nI 1).toNatClampNeg)) - (nI 1)).toInt64), .long (lN 0), .long i.toInt64]) (σ' := (rf_w α 93 1 (α 93 1 + nI 1), μ)) (pc' := 40) kX12_put_28 rfl rfl (rf_a1 (rf_in_n (a := 1) rfl (by omega)) rf_a0) ?_
      try rw [(show (nI 1).toNatClampNeg = 1 from rf_cl_n rfl (by omega))]
      refine ok_S (As := [.long i.toInt64, .long (lN 0), .long (((μ 105 1) - (nI 1)).toInt64)]) (st := []) mkX12_in qX12_put_40 rfl rfl rfl rfl rfl (Nat.le_of_ble_eq_true rfl) (m_in) ?_
      rw [show wl i.toInt64 (lN 0) (((μ 105 1) - (nI 1)).toInt64) = wi i (nI 0) ((μ 105 1) - (nI 1)) from wl_of rfl (nI_l (by decide)).symm rfl]
      refine ok_if_ne bX12_put_43 (fun g43 => absurd (h50) g43) (fun _ => ?_)
      refine ok_step (ps := []) (L' := [some (.ref 94), some (.int (nI 1)), some (.int i), some (.int v)]) (st' := [.int (nI 1), .ref 94]) (σ' := (rf_w α 93 1 (α 93 1 + nI 1), μ)) (pc' := 48) kX12_put_46 rfl rfl rf_a0 ?_
      refine ok_V (As := [.int (nI 1)]) (b := 94) (st := []) mkX12_finds qX12_put_48 rfl (rc_94) rfl rfl rfl rfl (Nat.le_of_ble_eq_true rfl) (m_finds (k := 1) (by decide)) ?_
      refine ok_reti eX12_put_51 rfl ?_
      exact ⟨rfl, _, rfl, hJ.err (k := 1) (by decide)⟩
  · refine ok_step (ps := []) (L' := [some (.ref 0), some (.int (nI 1)), some (.int i), some (.int v)]) (st' := [.int (-1000000002), .ref 0]) (σ' := (α, μ)) (pc' := 30) kX11_put_27 rfl rfl rf_a0 ?_
    refine ok_V (As := [.int (-1000000002)]) (b := 0) (st := []) mkX11_error qX11_put_30 rfl (rc_0) rfl rfl rfl rfl (Nat.le_of_ble_eq_true rfl) (c_error (k := 2) (by decide) (by decide) (by decide)) ?_
    refine ok_reti eX11_put_33 rfl ?_
    refine ⟨rfl, _, rfl, ?_⟩
    refine ok_step (ps := []) (L' := [some (.ref 94), some (.int (nI 1)), some (.int i), some (.int v)]) (st' := [.int (nI 1)]) (σ' := (rf_w α 93 2 (α 93 2 + nI 1), μ)) (pc' := 1) kX12_put_0 rfl rfl rf_a0 ?_
    refine ok_S (As := [.int (nI 1)]) (st := []) mkX12_isSheet qX12_put_1 rfl rfl rfl rfl rfl (Nat.le_of_ble_eq_true rfl) (m_isSheet) ?_
    rw [show bI (wi (nI 1) (nI 0) (nI 3)) = nI 1 from rfl]
    refine ok_if_ne bX12_put_4 (fun _ => ?_) (fun g4 => absurd g4 ((by decide)))
    refine ok_step (ps := [rf_in (nI 1) 4]) (L' := [some (.ref 94), some (.int (nI 1)), some (.int i), some (.int v)]) (st' := [.int (μ 104 ((nI 1).toNatClampNeg))]) (σ' := (rf_w α 93 2 (α 93 2 + nI 1), μ)) (pc' := 19) kX12_put_13 rfl rfl (rf_a1 (rf_in_n (a := 1) rfl (by omega)) rf_a0) ?_
    try rw [(show (nI 1).toNatClampNeg = 1 from rf_cl_n rfl (by omega))]
    refine ok_if_ne bX12_put_19 (fun g19 => absurd (h24) g19) (fun _ => ?_)
    refine ok_step (ps := []) (L' := [some (.ref 94), some (.int (nI 1)), some (.int i), some (.int v)]) (st' := [.int (nI 2), .ref 94]) (σ' := (rf_w α 93 2 (α 93 2 + nI 1), μ)) (pc' := 24) kX12_put_22 rfl rfl rf_a0 ?_
    refine ok_V (As := [.int (nI 2)]) (b := 94) (st := []) mkX12_finds qX12_put_24 rfl (rc_94) rfl rfl rfl rfl (Nat.le_of_ble_eq_true rfl) (m_finds (k := 2) (by decide)) ?_
    refine ok_reti eX12_put_27 rfl ?_
    exact ⟨rfl, _, rfl, hJ.err (k := 2) (by decide)⟩
theorem op_put2 {i v : Int32} (hJ : J α μ)  : Op (rf_T Ln xs) MX11_put MX12_put [some (.ref 0), some (.int (nI 2)), some (.int i), some (.int v)] [some (.ref 94), some (.int (nI 2)), some (.int i), some (.int v)] α μ := by
  have hR := hJ.1.1.1
  have hI := hJ.2
  have b0 := hI.le0
  have b1 := hI.le1
  have b2 := hI.le2
  have b3 := hI.le3
  have b4 := hI.le4
  have b5 := hI.le5
  have b6 := hI.le6
  have b8 := hI.le8
  have b9 := hI.le9
  have b11 := hI.le11
  have b12 := hI.le12
  refine ok_step (ps := []) (L' := [some (.ref 0), some (.int (nI 2)), some (.int i), some (.int v)]) (st' := [.int (nI 2), .ref 0]) (σ' := (α, μ)) (pc' := 2) kX11_put_0 rfl rfl rf_a0 ?_
  refine ok_V (As := [.int (nI 2)]) (b := 0) (st := []) mkX11_isSheet qX11_put_2 rfl (rc_0) rfl rfl rfl rfl (Nat.le_of_ble_eq_true rfl) (c_isSheet) ?_
  rw [show bI (wi (nI 2) (nI 0) (nI 3)) = nI 1 from rfl]
  refine ok_if_ne bX11_put_5 (fun _ => ?_) (fun h5 => absurd h5 ((by decide)))
  refine ok_step (ps := [rf_in (nI 2) 4]) (L' := [some (.ref 0), some (.int (nI 2)), some (.int i), some (.int v)]) (st' := [.int (α 86 ((nI 2).toNatClampNeg))]) (σ' := (α, μ)) (pc' := 24) kX11_put_15 rfl rfl (rf_a1 (rf_in_n (a := 2) rfl (by omega)) rf_a0) ?_
  try rw [(show (nI 2).toNatClampNeg = 2 from rf_cl_n rfl (by omega))]
  try rw [(show α 86 2 = μ 104 2 from (hJ.1.2.2.2.2.2 _ (by omega)).1)]
  refine ok_if_ne bX11_put_24 (fun h24 => ?_) (fun h24 => ?_)
  · refine ok_step (ps := [rf_in (nI 2) 4]) (L' := [some (.ref 0), some (.int (nI 2)), some (.int i), some (.int v)]) (st' := [.int ((α 87 ((nI 2).toNatClampNeg)) - (nI 1)), .int (nI 0), .int i]) (σ' := (α, μ)) (pc' := 47) kX11_put_34 rfl rfl (rf_a1 (rf_in_n (a := 2) rfl (by omega)) rf_a0) ?_
    try rw [(show (nI 2).toNatClampNeg = 2 from rf_cl_n rfl (by omega))]
    try rw [(show α 87 2 = μ 105 2 from (hJ.1.2.2.2.2.2 _ (by omega)).2.1)]
    refine ok_S (As := [.int i, .int (nI 0), .int ((μ 105 2) - (nI 1))]) (st := []) mkX11_within qX11_put_47 rfl rfl rfl rfl rfl (Nat.le_of_ble_eq_true rfl) (c_within) ?_
    refine ok_if_ne bX11_put_50 (fun h50 => ?_) (fun h50 => ?_)
    · obtain ⟨m, hm, e⟩ := (hJ.1.2.2.2.2.2 2 (by decide)).2.2.1
      obtain ⟨k, hk, rfl⟩ := wi_lt (bI_n0.mp h50) e (by omega)
      refine ok_step (ps := [rf_in (nI 2) 4]) (L' := [some (.ref 0), some (.int (nI 2)), some (.int (nI k)), some (.int v)]) (st' := [.int v, .int (nI 2), .ref 85, .int (nI k), .ref 91]) (σ' := (α, μ)) (pc' := 76) kX11_put_60 rfl rfl (rf_a1 (rf_in_n (a := 2) rfl (by omega)) rf_a0) ?_
      refine ok_V (As := [.int (nI 2), .int v]) (b := 85) (st := [.int (nI k), .ref 91]) mkX6_cut qX11_put_76 rfl (rc_85) rfl rfl rfl rfl (Nat.le_of_ble_eq_true rfl) (c_cut hJ (by omega)) ?_
      refine ok_step (ps := [rf_in (nI k) 40]) (L' := [some (.ref 0), some (.int (nI 2)), some (.int (nI k)), some (.int v)]) (st' := [.int (nI 1)]) (σ' := (rf_w α 91 ((nI k).toNatClampNeg) (cutI (μ 104 2) v), μ)) (pc' := 81) kX11_put_79 rfl rfl (rf_a1 (rf_in_n (a := k) rfl (by omega)) rf_a0) ?_
      try rw [(show (nI k).toNatClampNeg = k from rf_cl_n rfl (by omega))]
      refine ok_reti eX11_put_81 rfl ?_
      refine ⟨rfl, _, rfl, ?_⟩
      refine ok_step (ps := []) (L' := [some (.ref 94), some (.int (nI 2)), some (.int (nI k)), some (.int v)]) (st' := [.int (nI 2)]) (σ' := (rf_w α 91 k (cutI (μ 104 2) v), μ)) (pc' := 1) kX12_put_0 rfl rfl rf_a0 ?_
      refine ok_S (As := [.int (nI 2)]) (st := []) mkX12_isSheet qX12_put_1 rfl rfl rfl rfl rfl (Nat.le_of_ble_eq_true rfl) (m_isSheet) ?_
      rw [show bI (wi (nI 2) (nI 0) (nI 3)) = nI 1 from rfl]
      refine ok_if_ne bX12_put_4 (fun _ => ?_) (fun g4 => absurd g4 ((by decide)))
      refine ok_step (ps := [rf_in (nI 2) 4]) (L' := [some (.ref 94), some (.int (nI 2)), some (.int (nI k)), some (.int v)]) (st' := [.int (μ 104 ((nI 2).toNatClampNeg))]) (σ' := (rf_w α 91 k (cutI (μ 104 2) v), μ)) (pc' := 19) kX12_put_13 rfl rfl (rf_a1 (rf_in_n (a := 2) rfl (by omega)) rf_a0) ?_
      try rw [(show (nI 2).toNatClampNeg = 2 from rf_cl_n rfl (by omega))]
      refine ok_if_ne bX12_put_19 (fun _ => ?_) (fun g19 => absurd g19 (h24))
      refine ok_step (ps := [rf_in (nI 2) 4]) (L' := [some (.ref 94), some (.int (nI 2)), some (.int (nI k)), some (.int v)]) (st' := [.long (((μ 105 ((nI 2).toNatClampNeg)) - (nI 1)).toInt64), .long (lN 0), .long ((nI k).toInt64)]) (σ' := (rf_w α 91 k (cutI (μ 104 2) v), μ)) (pc' := 40) kX12_put_28 rfl rfl (rf_a1 (rf_in_n (a := 2) rfl (by omega)) rf_a0) ?_
      try rw [(show (nI 2).toNatClampNeg = 2 from rf_cl_n rfl (by omega))]
      refine ok_S (As := [.long ((nI k).toInt64), .long (lN 0), .long (((μ 105 2) - (nI 1)).toInt64)]) (st := []) mkX12_in qX12_put_40 rfl rfl rfl rfl rfl (Nat.le_of_ble_eq_true rfl) (m_in) ?_
      rw [show wl ((nI k).toInt64) (lN 0) (((μ 105 2) - (nI 1)).toInt64) = wi (nI k) (nI 0) ((μ 105 2) - (nI 1)) from wl_of rfl (nI_l (by decide)).symm rfl]
      refine ok_if_ne bX12_put_43 (fun _ => ?_) (fun g43 => absurd g43 (h50))
      refine ok_step (ps := [rf_in (nI 2) 4]) (L' := [some (.ref 94), some (.int (nI 2)), some (.int (nI k)), some (.int v)]) (st' := [.int (nI 8), .int (μ 104 ((nI 2).toNatClampNeg)), .int (((nI 40) * (nI 2)) + (nI k)), .ref 106]) (σ' := (rf_w α 91 k (cutI (μ 104 2) v), μ)) (pc' := 70) kX12_put_52 rfl rfl (rf_a1 (rf_in_n (a := 2) rfl (by omega)) rf_a0) ?_
      try rw [(show ((nI 40) * (nI 2)) = nI 80 from rf_eq (rf_nmul (x := nI 40) (y := nI 2) rfl rfl) (by omega))]
      try rw [(show ((nI 80) + (nI k)) = nI (80 + k) from rf_eq (rf_nadd (x := nI 80) (y := nI k) rfl rfl) (by omega))]
      try rw [(show (nI 2).toNatClampNeg = 2 from rf_cl_n rfl (by omega))]
      refine ok_icmp_ne bX12_put_70 (fun g70 => ?_) (fun g70 => ?_)
      · refine ok_step (ps := [rf_in (nI 2) 4]) (L' := [some (.ref 94), some (.int (nI 2)), some (.int (nI k)), some (.int v)]) (st' := [.int (nI 16), .int (μ 104 ((nI 2).toNatClampNeg)), .int (nI (80 + k)), .ref 106]) (σ' := (rf_w α 91 k (cutI (μ 104 2) v), μ)) (pc' := 86) kX12_put_78 rfl rfl (rf_a1 (rf_in_n (a := 2) rfl (by omega)) rf_a0) ?_
        try rw [(show (nI 2).toNatClampNeg = 2 from rf_cl_n rfl (by omega))]
        refine ok_icmp_ne bX12_put_86 (fun g86 => ?_) (fun g86 => ?_)
        · refine ok_step (ps := []) (L' := [some (.ref 94), some (.int (nI 2)), some (.int (nI k)), some (.int v)]) (st' := [.int v, .int (nI (80 + k)), .ref 106]) (σ' := (rf_w α 91 k (cutI (μ 104 2) v), μ)) (pc' := 95) kX12_put_94 rfl rfl rf_a0 ?_
          refine ok_step (ps := [rf_in (nI (80 + k)) 160]) (L' := [some (.ref 94), some (.int (nI 2)), some (.int (nI k)), some (.int v)]) (st' := [.int (nI 1)]) (σ' := (rf_w α 91 k (cutI (μ 104 2) v), rf_w μ 106 ((nI (80 + k)).toNatClampNeg) v)) (pc' := 97) kX12_put_95 rfl rfl (rf_a1 (rf_in_n (a := (80 + k)) rfl (by omega)) rf_a0) ?_
          try rw [(show (nI (80 + k)).toNatClampNeg = (80 + k) from rf_cl_n rfl (by omega))]
          refine ok_reti eX12_put_97 rfl ?_
          have ec : cutI (μ 104 2) v = v := by first | rw [cutI, if_pos g70] | rw [cutI, if_neg g70, if_pos g86] | rw [cutI, if_neg g70, if_neg g86]
          rw [ec]
          exact ⟨rfl, _, rfl, hJ.sput (s := 2) (by decide) (by omega) rfl (by omega)⟩
        · refine ok_step (ps := []) (L' := [some (.ref 94), some (.int (nI 2)), some (.int (nI k)), some (.int v)]) (st' := [.int v.toInt16.toInt32, .int (nI (80 + k)), .ref 106]) (σ' := (rf_w α 91 k (cutI (μ 104 2) v), μ)) (pc' := 91) kX12_put_89 rfl rfl rf_a0 ?_
          refine ok_goto bX12_put_91 ?_
          refine ok_step (ps := [rf_in (nI (80 + k)) 160]) (L' := [some (.ref 94), some (.int (nI 2)), some (.int (nI k)), some (.int v)]) (st' := [.int (nI 1)]) (σ' := (rf_w α 91 k (cutI (μ 104 2) v), rf_w μ 106 ((nI (80 + k)).toNatClampNeg) v.toInt16.toInt32)) (pc' := 97) kX12_put_95 rfl rfl (rf_a1 (rf_in_n (a := (80 + k)) rfl (by omega)) rf_a0) ?_
          try rw [(show (nI (80 + k)).toNatClampNeg = (80 + k) from rf_cl_n rfl (by omega))]
          refine ok_reti eX12_put_97 rfl ?_
          have ec : cutI (μ 104 2) v = v.toInt16.toInt32 := by first | rw [cutI, if_pos g70] | rw [cutI, if_neg g70, if_pos g86] | rw [cutI, if_neg g70, if_neg g86]
          rw [ec]
          exact ⟨rfl, _, rfl, hJ.sput (s := 2) (by decide) (by omega) rfl (by omega)⟩
      · refine ok_step (ps := []) (L' := [some (.ref 94), some (.int (nI 2)), some (.int (nI k)), some (.int v)]) (st' := [.int v.toInt8.toInt32, .int (nI (80 + k)), .ref 106]) (σ' := (rf_w α 91 k (cutI (μ 104 2) v), μ)) (pc' := 75) kX12_put_73 rfl rfl rf_a0 ?_
        refine ok_goto bX12_put_75 ?_
        refine ok_step (ps := [rf_in (nI (80 + k)) 160]) (L' := [some (.ref 94), some (.int (nI 2)), some (.int (nI k)), some (.int v)]) (st' := [.int (nI 1)]) (σ' := (rf_w α 91 k (cutI (μ 104 2) v), rf_w μ 106 ((nI (80 + k)).toNatClampNeg) v.toInt8.toInt32)) (pc' := 97) kX12_put_95 rfl rfl (rf_a1 (rf_in_n (a := (80 + k)) rfl (by omega)) rf_a0) ?_
        try rw [(show (nI (80 + k)).toNatClampNeg = (80 + k) from rf_cl_n rfl (by omega))]
        refine ok_reti eX12_put_97 rfl ?_
        have ec : cutI (μ 104 2) v = v.toInt8.toInt32 := by first | rw [cutI, if_pos g70] | rw [cutI, if_neg g70, if_pos g86] | rw [cutI, if_neg g70, if_neg g86]
        rw [ec]
        exact ⟨rfl, _, rfl, hJ.sput (s := 2) (by decide) (by omega) rfl (by omega)⟩
    · refine ok_step (ps := []) (L' := [some (.ref 0), some (.int (nI 2)), some (.int i), some (.int v)]) (st' := [.int (-1000000001), .ref 0]) (σ' := (α, μ)) (pc' := 56) kX11_put_53 rfl rfl rf_a0 ?_
      refine ok_V (As := [.int (-1000000001)]) (b := 0) (st := []) mkX11_error qX11_put_56 rfl (rc_0) rfl rfl rfl rfl (Nat.le_of_ble_eq_true rfl) (c_error (k := 1) (by decide) (by decide) (by decide)) ?_
      refine ok_reti eX11_put_59 rfl ?_
      refine ⟨rfl, _, rfl, ?_⟩
      refine ok_step (ps := []) (L' := [some (.ref 94), some (.int (nI 2)), some (.int i), some (.int v)]) (st' := [.int (nI 2)]) (σ' := (rf_w α 93 1 (α 93 1 + nI 1), μ)) (pc' := 1) kX12_put_0 rfl rfl rf_a0 ?_
      refine ok_S (As := [.int (nI 2)]) (st := []) mkX12_isSheet qX12_put_1 rfl rfl rfl rfl rfl (Nat.le_of_ble_eq_true rfl) (m_isSheet) ?_
      rw [show bI (wi (nI 2) (nI 0) (nI 3)) = nI 1 from rfl]
      refine ok_if_ne bX12_put_4 (fun _ => ?_) (fun g4 => absurd g4 ((by decide)))
      refine ok_step (ps := [rf_in (nI 2) 4]) (L' := [some (.ref 94), some (.int (nI 2)), some (.int i), some (.int v)]) (st' := [.int (μ 104 ((nI 2).toNatClampNeg))]) (σ' := (rf_w α 93 1 (α 93 1 + nI 1), μ)) (pc' := 19) kX12_put_13 rfl rfl (rf_a1 (rf_in_n (a := 2) rfl (by omega)) rf_a0) ?_
      try rw [(show (nI 2).toNatClampNeg = 2 from rf_cl_n rfl (by omega))]
      refine ok_if_ne bX12_put_19 (fun _ => ?_) (fun g19 => absurd g19 (h24))
      refine ok_step (ps := [rf_in (nI 2) 4]) (L' := [some (.ref 94), some (.int (nI 2)), some (.int i), some (.int v)]) (st' := [.long (((μ 105 ((nI 2).toNatClampNeg)) - (nI 1)).toInt64), .long (lN 0), .long i.toInt64]) (σ' := (rf_w α 93 1 (α 93 1 + nI 1), μ)) (pc' := 40) kX12_put_28 rfl rfl (rf_a1 (rf_in_n (a := 2) rfl (by omega)) rf_a0) ?_
      try rw [(show (nI 2).toNatClampNeg = 2 from rf_cl_n rfl (by omega))]
      refine ok_S (As := [.long i.toInt64, .long (lN 0), .long (((μ 105 2) - (nI 1)).toInt64)]) (st := []) mkX12_in qX12_put_40 rfl rfl rfl rfl rfl (Nat.le_of_ble_eq_true rfl) (m_in) ?_
      rw [show wl i.toInt64 (lN 0) (((μ 105 2) - (nI 1)).toInt64) = wi i (nI 0) ((μ 105 2) - (nI 1)) from wl_of rfl (nI_l (by decide)).symm rfl]
      refine ok_if_ne bX12_put_43 (fun g43 => absurd (h50) g43) (fun _ => ?_)
      refine ok_step (ps := []) (L' := [some (.ref 94), some (.int (nI 2)), some (.int i), some (.int v)]) (st' := [.int (nI 1), .ref 94]) (σ' := (rf_w α 93 1 (α 93 1 + nI 1), μ)) (pc' := 48) kX12_put_46 rfl rfl rf_a0 ?_
      refine ok_V (As := [.int (nI 1)]) (b := 94) (st := []) mkX12_finds qX12_put_48 rfl (rc_94) rfl rfl rfl rfl (Nat.le_of_ble_eq_true rfl) (m_finds (k := 1) (by decide)) ?_
      refine ok_reti eX12_put_51 rfl ?_
      exact ⟨rfl, _, rfl, hJ.err (k := 1) (by decide)⟩
  · refine ok_step (ps := []) (L' := [some (.ref 0), some (.int (nI 2)), some (.int i), some (.int v)]) (st' := [.int (-1000000002), .ref 0]) (σ' := (α, μ)) (pc' := 30) kX11_put_27 rfl rfl rf_a0 ?_
    refine ok_V (As := [.int (-1000000002)]) (b := 0) (st := []) mkX11_error qX11_put_30 rfl (rc_0) rfl rfl rfl rfl (Nat.le_of_ble_eq_true rfl) (c_error (k := 2) (by decide) (by decide) (by decide)) ?_
    refine ok_reti eX11_put_33 rfl ?_
    refine ⟨rfl, _, rfl, ?_⟩
    refine ok_step (ps := []) (L' := [some (.ref 94), some (.int (nI 2)), some (.int i), some (.int v)]) (st' := [.int (nI 2)]) (σ' := (rf_w α 93 2 (α 93 2 + nI 1), μ)) (pc' := 1) kX12_put_0 rfl rfl rf_a0 ?_
    refine ok_S (As := [.int (nI 2)]) (st := []) mkX12_isSheet qX12_put_1 rfl rfl rfl rfl rfl (Nat.le_of_ble_eq_true rfl) (m_isSheet) ?_
    rw [show bI (wi (nI 2) (nI 0) (nI 3)) = nI 1 from rfl]
    refine ok_if_ne bX12_put_4 (fun _ => ?_) (fun g4 => absurd g4 ((by decide)))
    refine ok_step (ps := [rf_in (nI 2) 4]) (L' := [some (.ref 94), some (.int (nI 2)), some (.int i), some (.int v)]) (st' := [.int (μ 104 ((nI 2).toNatClampNeg))]) (σ' := (rf_w α 93 2 (α 93 2 + nI 1), μ)) (pc' := 19) kX12_put_13 rfl rfl (rf_a1 (rf_in_n (a := 2) rfl (by omega)) rf_a0) ?_
    try rw [(show (nI 2).toNatClampNeg = 2 from rf_cl_n rfl (by omega))]
    refine ok_if_ne bX12_put_19 (fun g19 => absurd (h24) g19) (fun _ => ?_)
    refine ok_step (ps := []) (L' := [some (.ref 94), some (.int (nI 2)), some (.int i), some (.int v)]) (st' := [.int (nI 2), .ref 94]) (σ' := (rf_w α 93 2 (α 93 2 + nI 1), μ)) (pc' := 24) kX12_put_22 rfl rfl rf_a0 ?_
    refine ok_V (As := [.int (nI 2)]) (b := 94) (st := []) mkX12_finds qX12_put_24 rfl (rc_94) rfl rfl rfl rfl (Nat.le_of_ble_eq_true rfl) (m_finds (k := 2) (by decide)) ?_
    refine ok_reti eX12_put_27 rfl ?_
    exact ⟨rfl, _, rfl, hJ.err (k := 2) (by decide)⟩
theorem op_put3 {i v : Int32} (hJ : J α μ)  : Op (rf_T Ln xs) MX11_put MX12_put [some (.ref 0), some (.int (nI 3)), some (.int i), some (.int v)] [some (.ref 94), some (.int (nI 3)), some (.int i), some (.int v)] α μ := by
  have hR := hJ.1.1.1
  have hI := hJ.2
  have b0 := hI.le0
  have b1 := hI.le1
  have b2 := hI.le2
  have b3 := hI.le3
  have b4 := hI.le4
  have b5 := hI.le5
  have b6 := hI.le6
  have b8 := hI.le8
  have b9 := hI.le9
  have b11 := hI.le11
  have b12 := hI.le12
  refine ok_step (ps := []) (L' := [some (.ref 0), some (.int (nI 3)), some (.int i), some (.int v)]) (st' := [.int (nI 3), .ref 0]) (σ' := (α, μ)) (pc' := 2) kX11_put_0 rfl rfl rf_a0 ?_
  refine ok_V (As := [.int (nI 3)]) (b := 0) (st := []) mkX11_isSheet qX11_put_2 rfl (rc_0) rfl rfl rfl rfl (Nat.le_of_ble_eq_true rfl) (c_isSheet) ?_
  rw [show bI (wi (nI 3) (nI 0) (nI 3)) = nI 1 from rfl]
  refine ok_if_ne bX11_put_5 (fun _ => ?_) (fun h5 => absurd h5 ((by decide)))
  refine ok_step (ps := [rf_in (nI 3) 4]) (L' := [some (.ref 0), some (.int (nI 3)), some (.int i), some (.int v)]) (st' := [.int (α 86 ((nI 3).toNatClampNeg))]) (σ' := (α, μ)) (pc' := 24) kX11_put_15 rfl rfl (rf_a1 (rf_in_n (a := 3) rfl (by omega)) rf_a0) ?_
  try rw [(show (nI 3).toNatClampNeg = 3 from rf_cl_n rfl (by omega))]
  try rw [(show α 86 3 = μ 104 3 from (hJ.1.2.2.2.2.2 _ (by omega)).1)]
  refine ok_if_ne bX11_put_24 (fun h24 => ?_) (fun h24 => ?_)
  · refine ok_step (ps := [rf_in (nI 3) 4]) (L' := [some (.ref 0), some (.int (nI 3)), some (.int i), some (.int v)]) (st' := [.int ((α 87 ((nI 3).toNatClampNeg)) - (nI 1)), .int (nI 0), .int i]) (σ' := (α, μ)) (pc' := 47) kX11_put_34 rfl rfl (rf_a1 (rf_in_n (a := 3) rfl (by omega)) rf_a0) ?_
    try rw [(show (nI 3).toNatClampNeg = 3 from rf_cl_n rfl (by omega))]
    try rw [(show α 87 3 = μ 105 3 from (hJ.1.2.2.2.2.2 _ (by omega)).2.1)]
    refine ok_S (As := [.int i, .int (nI 0), .int ((μ 105 3) - (nI 1))]) (st := []) mkX11_within qX11_put_47 rfl rfl rfl rfl rfl (Nat.le_of_ble_eq_true rfl) (c_within) ?_
    refine ok_if_ne bX11_put_50 (fun h50 => ?_) (fun h50 => ?_)
    · obtain ⟨m, hm, e⟩ := (hJ.1.2.2.2.2.2 3 (by decide)).2.2.1
      obtain ⟨k, hk, rfl⟩ := wi_lt (bI_n0.mp h50) e (by omega)
      refine ok_step (ps := [rf_in (nI 3) 4]) (L' := [some (.ref 0), some (.int (nI 3)), some (.int (nI k)), some (.int v)]) (st' := [.int v, .int (nI 3), .ref 85, .int (nI k), .ref 92]) (σ' := (α, μ)) (pc' := 76) kX11_put_60 rfl rfl (rf_a1 (rf_in_n (a := 3) rfl (by omega)) rf_a0) ?_
      refine ok_V (As := [.int (nI 3), .int v]) (b := 85) (st := [.int (nI k), .ref 92]) mkX6_cut qX11_put_76 rfl (rc_85) rfl rfl rfl rfl (Nat.le_of_ble_eq_true rfl) (c_cut hJ (by omega)) ?_
      refine ok_step (ps := [rf_in (nI k) 40]) (L' := [some (.ref 0), some (.int (nI 3)), some (.int (nI k)), some (.int v)]) (st' := [.int (nI 1)]) (σ' := (rf_w α 92 ((nI k).toNatClampNeg) (cutI (μ 104 3) v), μ)) (pc' := 81) kX11_put_79 rfl rfl (rf_a1 (rf_in_n (a := k) rfl (by omega)) rf_a0) ?_
      try rw [(show (nI k).toNatClampNeg = k from rf_cl_n rfl (by omega))]
      refine ok_reti eX11_put_81 rfl ?_
      refine ⟨rfl, _, rfl, ?_⟩
      refine ok_step (ps := []) (L' := [some (.ref 94), some (.int (nI 3)), some (.int (nI k)), some (.int v)]) (st' := [.int (nI 3)]) (σ' := (rf_w α 92 k (cutI (μ 104 3) v), μ)) (pc' := 1) kX12_put_0 rfl rfl rf_a0 ?_
      refine ok_S (As := [.int (nI 3)]) (st := []) mkX12_isSheet qX12_put_1 rfl rfl rfl rfl rfl (Nat.le_of_ble_eq_true rfl) (m_isSheet) ?_
      rw [show bI (wi (nI 3) (nI 0) (nI 3)) = nI 1 from rfl]
      refine ok_if_ne bX12_put_4 (fun _ => ?_) (fun g4 => absurd g4 ((by decide)))
      refine ok_step (ps := [rf_in (nI 3) 4]) (L' := [some (.ref 94), some (.int (nI 3)), some (.int (nI k)), some (.int v)]) (st' := [.int (μ 104 ((nI 3).toNatClampNeg))]) (σ' := (rf_w α 92 k (cutI (μ 104 3) v), μ)) (pc' := 19) kX12_put_13 rfl rfl (rf_a1 (rf_in_n (a := 3) rfl (by omega)) rf_a0) ?_
      try rw [(show (nI 3).toNatClampNeg = 3 from rf_cl_n rfl (by omega))]
      refine ok_if_ne bX12_put_19 (fun _ => ?_) (fun g19 => absurd g19 (h24))
      refine ok_step (ps := [rf_in (nI 3) 4]) (L' := [some (.ref 94), some (.int (nI 3)), some (.int (nI k)), some (.int v)]) (st' := [.long (((μ 105 ((nI 3).toNatClampNeg)) - (nI 1)).toInt64), .long (lN 0), .long ((nI k).toInt64)]) (σ' := (rf_w α 92 k (cutI (μ 104 3) v), μ)) (pc' := 40) kX12_put_28 rfl rfl (rf_a1 (rf_in_n (a := 3) rfl (by omega)) rf_a0) ?_
      try rw [(show (nI 3).toNatClampNeg = 3 from rf_cl_n rfl (by omega))]
      refine ok_S (As := [.long ((nI k).toInt64), .long (lN 0), .long (((μ 105 3) - (nI 1)).toInt64)]) (st := []) mkX12_in qX12_put_40 rfl rfl rfl rfl rfl (Nat.le_of_ble_eq_true rfl) (m_in) ?_
      rw [show wl ((nI k).toInt64) (lN 0) (((μ 105 3) - (nI 1)).toInt64) = wi (nI k) (nI 0) ((μ 105 3) - (nI 1)) from wl_of rfl (nI_l (by decide)).symm rfl]
      refine ok_if_ne bX12_put_43 (fun _ => ?_) (fun g43 => absurd g43 (h50))
      refine ok_step (ps := [rf_in (nI 3) 4]) (L' := [some (.ref 94), some (.int (nI 3)), some (.int (nI k)), some (.int v)]) (st' := [.int (nI 8), .int (μ 104 ((nI 3).toNatClampNeg)), .int (((nI 40) * (nI 3)) + (nI k)), .ref 106]) (σ' := (rf_w α 92 k (cutI (μ 104 3) v), μ)) (pc' := 70) kX12_put_52 rfl rfl (rf_a1 (rf_in_n (a := 3) rfl (by omega)) rf_a0) ?_
      try rw [(show ((nI 40) * (nI 3)) = nI 120 from rf_eq (rf_nmul (x := nI 40) (y := nI 3) rfl rfl) (by omega))]
      try rw [(show ((nI 120) + (nI k)) = nI (120 + k) from rf_eq (rf_nadd (x := nI 120) (y := nI k) rfl rfl) (by omega))]
      try rw [(show (nI 3).toNatClampNeg = 3 from rf_cl_n rfl (by omega))]
      refine ok_icmp_ne bX12_put_70 (fun g70 => ?_) (fun g70 => ?_)
      · refine ok_step (ps := [rf_in (nI 3) 4]) (L' := [some (.ref 94), some (.int (nI 3)), some (.int (nI k)), some (.int v)]) (st' := [.int (nI 16), .int (μ 104 ((nI 3).toNatClampNeg)), .int (nI (120 + k)), .ref 106]) (σ' := (rf_w α 92 k (cutI (μ 104 3) v), μ)) (pc' := 86) kX12_put_78 rfl rfl (rf_a1 (rf_in_n (a := 3) rfl (by omega)) rf_a0) ?_
        try rw [(show (nI 3).toNatClampNeg = 3 from rf_cl_n rfl (by omega))]
        refine ok_icmp_ne bX12_put_86 (fun g86 => ?_) (fun g86 => ?_)
        · refine ok_step (ps := []) (L' := [some (.ref 94), some (.int (nI 3)), some (.int (nI k)), some (.int v)]) (st' := [.int v, .int (nI (120 + k)), .ref 106]) (σ' := (rf_w α 92 k (cutI (μ 104 3) v), μ)) (pc' := 95) kX12_put_94 rfl rfl rf_a0 ?_
          refine ok_step (ps := [rf_in (nI (120 + k)) 160]) (L' := [some (.ref 94), some (.int (nI 3)), some (.int (nI k)), some (.int v)]) (st' := [.int (nI 1)]) (σ' := (rf_w α 92 k (cutI (μ 104 3) v), rf_w μ 106 ((nI (120 + k)).toNatClampNeg) v)) (pc' := 97) kX12_put_95 rfl rfl (rf_a1 (rf_in_n (a := (120 + k)) rfl (by omega)) rf_a0) ?_
          try rw [(show (nI (120 + k)).toNatClampNeg = (120 + k) from rf_cl_n rfl (by omega))]
          refine ok_reti eX12_put_97 rfl ?_
          have ec : cutI (μ 104 3) v = v := by first | rw [cutI, if_pos g70] | rw [cutI, if_neg g70, if_pos g86] | rw [cutI, if_neg g70, if_neg g86]
          rw [ec]
          exact ⟨rfl, _, rfl, hJ.sput (s := 3) (by decide) (by omega) rfl (by omega)⟩
        · refine ok_step (ps := []) (L' := [some (.ref 94), some (.int (nI 3)), some (.int (nI k)), some (.int v)]) (st' := [.int v.toInt16.toInt32, .int (nI (120 + k)), .ref 106]) (σ' := (rf_w α 92 k (cutI (μ 104 3) v), μ)) (pc' := 91) kX12_put_89 rfl rfl rf_a0 ?_
          refine ok_goto bX12_put_91 ?_
          refine ok_step (ps := [rf_in (nI (120 + k)) 160]) (L' := [some (.ref 94), some (.int (nI 3)), some (.int (nI k)), some (.int v)]) (st' := [.int (nI 1)]) (σ' := (rf_w α 92 k (cutI (μ 104 3) v), rf_w μ 106 ((nI (120 + k)).toNatClampNeg) v.toInt16.toInt32)) (pc' := 97) kX12_put_95 rfl rfl (rf_a1 (rf_in_n (a := (120 + k)) rfl (by omega)) rf_a0) ?_
          try rw [(show (nI (120 + k)).toNatClampNeg = (120 + k) from rf_cl_n rfl (by omega))]
          refine ok_reti eX12_put_97 rfl ?_
          have ec : cutI (μ 104 3) v = v.toInt16.toInt32 := by first | rw [cutI, if_pos g70] | rw [cutI, if_neg g70, if_pos g86] | rw [cutI, if_neg g70, if_neg g86]
          rw [ec]
          exact ⟨rfl, _, rfl, hJ.sput (s := 3) (by decide) (by omega) rfl (by omega)⟩
      · refine ok_step (ps := []) (L' := [some (.ref 94), some (.int (nI 3)), some (.int (nI k)), some (.int v)]) (st' := [.int v.toInt8.toInt32, .int (nI (120 + k)), .ref 106]) (σ' := (rf_w α 92 k (cutI (μ 104 3) v), μ)) (pc' := 75) kX12_put_73 rfl rfl rf_a0 ?_
        refine ok_goto bX12_put_75 ?_
        refine ok_step (ps := [rf_in (nI (120 + k)) 160]) (L' := [some (.ref 94), some (.int (nI 3)), some (.int (nI k)), some (.int v)]) (st' := [.int (nI 1)]) (σ' := (rf_w α 92 k (cutI (μ 104 3) v), rf_w μ 106 ((nI (120 + k)).toNatClampNeg) v.toInt8.toInt32)) (pc' := 97) kX12_put_95 rfl rfl (rf_a1 (rf_in_n (a := (120 + k)) rfl (by omega)) rf_a0) ?_
        try rw [(show (nI (120 + k)).toNatClampNeg = (120 + k) from rf_cl_n rfl (by omega))]
        refine ok_reti eX12_put_97 rfl ?_
        have ec : cutI (μ 104 3) v = v.toInt8.toInt32 := by first | rw [cutI, if_pos g70] | rw [cutI, if_neg g70, if_pos g86] | rw [cutI, if_neg g70, if_neg g86]
        rw [ec]
        exact ⟨rfl, _, rfl, hJ.sput (s := 3) (by decide) (by omega) rfl (by omega)⟩
    · refine ok_step (ps := []) (L' := [some (.ref 0), some (.int (nI 3)), some (.int i), some (.int v)]) (st' := [.int (-1000000001), .ref 0]) (σ' := (α, μ)) (pc' := 56) kX11_put_53 rfl rfl rf_a0 ?_
      refine ok_V (As := [.int (-1000000001)]) (b := 0) (st := []) mkX11_error qX11_put_56 rfl (rc_0) rfl rfl rfl rfl (Nat.le_of_ble_eq_true rfl) (c_error (k := 1) (by decide) (by decide) (by decide)) ?_
      refine ok_reti eX11_put_59 rfl ?_
      refine ⟨rfl, _, rfl, ?_⟩
      refine ok_step (ps := []) (L' := [some (.ref 94), some (.int (nI 3)), some (.int i), some (.int v)]) (st' := [.int (nI 3)]) (σ' := (rf_w α 93 1 (α 93 1 + nI 1), μ)) (pc' := 1) kX12_put_0 rfl rfl rf_a0 ?_
      refine ok_S (As := [.int (nI 3)]) (st := []) mkX12_isSheet qX12_put_1 rfl rfl rfl rfl rfl (Nat.le_of_ble_eq_true rfl) (m_isSheet) ?_
      rw [show bI (wi (nI 3) (nI 0) (nI 3)) = nI 1 from rfl]
      refine ok_if_ne bX12_put_4 (fun _ => ?_) (fun g4 => absurd g4 ((by decide)))
      refine ok_step (ps := [rf_in (nI 3) 4]) (L' := [some (.ref 94), some (.int (nI 3)), some (.int i), some (.int v)]) (st' := [.int (μ 104 ((nI 3).toNatClampNeg))]) (σ' := (rf_w α 93 1 (α 93 1 + nI 1), μ)) (pc' := 19) kX12_put_13 rfl rfl (rf_a1 (rf_in_n (a := 3) rfl (by omega)) rf_a0) ?_
      try rw [(show (nI 3).toNatClampNeg = 3 from rf_cl_n rfl (by omega))]
      refine ok_if_ne bX12_put_19 (fun _ => ?_) (fun g19 => absurd g19 (h24))
      refine ok_step (ps := [rf_in (nI 3) 4]) (L' := [some (.ref 94), some (.int (nI 3)), some (.int i), some (.int v)]) (st' := [.long (((μ 105 ((nI 3).toNatClampNeg)) - (nI 1)).toInt64), .long (lN 0), .long i.toInt64]) (σ' := (rf_w α 93 1 (α 93 1 + nI 1), μ)) (pc' := 40) kX12_put_28 rfl rfl (rf_a1 (rf_in_n (a := 3) rfl (by omega)) rf_a0) ?_
      try rw [(show (nI 3).toNatClampNeg = 3 from rf_cl_n rfl (by omega))]
      refine ok_S (As := [.long i.toInt64, .long (lN 0), .long (((μ 105 3) - (nI 1)).toInt64)]) (st := []) mkX12_in qX12_put_40 rfl rfl rfl rfl rfl (Nat.le_of_ble_eq_true rfl) (m_in) ?_
      rw [show wl i.toInt64 (lN 0) (((μ 105 3) - (nI 1)).toInt64) = wi i (nI 0) ((μ 105 3) - (nI 1)) from wl_of rfl (nI_l (by decide)).symm rfl]
      refine ok_if_ne bX12_put_43 (fun g43 => absurd (h50) g43) (fun _ => ?_)
      refine ok_step (ps := []) (L' := [some (.ref 94), some (.int (nI 3)), some (.int i), some (.int v)]) (st' := [.int (nI 1), .ref 94]) (σ' := (rf_w α 93 1 (α 93 1 + nI 1), μ)) (pc' := 48) kX12_put_46 rfl rfl rf_a0 ?_
      refine ok_V (As := [.int (nI 1)]) (b := 94) (st := []) mkX12_finds qX12_put_48 rfl (rc_94) rfl rfl rfl rfl (Nat.le_of_ble_eq_true rfl) (m_finds (k := 1) (by decide)) ?_
      refine ok_reti eX12_put_51 rfl ?_
      exact ⟨rfl, _, rfl, hJ.err (k := 1) (by decide)⟩
  · refine ok_step (ps := []) (L' := [some (.ref 0), some (.int (nI 3)), some (.int i), some (.int v)]) (st' := [.int (-1000000002), .ref 0]) (σ' := (α, μ)) (pc' := 30) kX11_put_27 rfl rfl rf_a0 ?_
    refine ok_V (As := [.int (-1000000002)]) (b := 0) (st := []) mkX11_error qX11_put_30 rfl (rc_0) rfl rfl rfl rfl (Nat.le_of_ble_eq_true rfl) (c_error (k := 2) (by decide) (by decide) (by decide)) ?_
    refine ok_reti eX11_put_33 rfl ?_
    refine ⟨rfl, _, rfl, ?_⟩
    refine ok_step (ps := []) (L' := [some (.ref 94), some (.int (nI 3)), some (.int i), some (.int v)]) (st' := [.int (nI 3)]) (σ' := (rf_w α 93 2 (α 93 2 + nI 1), μ)) (pc' := 1) kX12_put_0 rfl rfl rf_a0 ?_
    refine ok_S (As := [.int (nI 3)]) (st := []) mkX12_isSheet qX12_put_1 rfl rfl rfl rfl rfl (Nat.le_of_ble_eq_true rfl) (m_isSheet) ?_
    rw [show bI (wi (nI 3) (nI 0) (nI 3)) = nI 1 from rfl]
    refine ok_if_ne bX12_put_4 (fun _ => ?_) (fun g4 => absurd g4 ((by decide)))
    refine ok_step (ps := [rf_in (nI 3) 4]) (L' := [some (.ref 94), some (.int (nI 3)), some (.int i), some (.int v)]) (st' := [.int (μ 104 ((nI 3).toNatClampNeg))]) (σ' := (rf_w α 93 2 (α 93 2 + nI 1), μ)) (pc' := 19) kX12_put_13 rfl rfl (rf_a1 (rf_in_n (a := 3) rfl (by omega)) rf_a0) ?_
    try rw [(show (nI 3).toNatClampNeg = 3 from rf_cl_n rfl (by omega))]
    refine ok_if_ne bX12_put_19 (fun g19 => absurd (h24) g19) (fun _ => ?_)
    refine ok_step (ps := []) (L' := [some (.ref 94), some (.int (nI 3)), some (.int i), some (.int v)]) (st' := [.int (nI 2), .ref 94]) (σ' := (rf_w α 93 2 (α 93 2 + nI 1), μ)) (pc' := 24) kX12_put_22 rfl rfl rf_a0 ?_
    refine ok_V (As := [.int (nI 2)]) (b := 94) (st := []) mkX12_finds qX12_put_24 rfl (rc_94) rfl rfl rfl rfl (Nat.le_of_ble_eq_true rfl) (m_finds (k := 2) (by decide)) ?_
    refine ok_reti eX12_put_27 rfl ?_
    exact ⟨rfl, _, rfl, hJ.err (k := 2) (by decide)⟩
theorem op_putx {sheet : Int32} {i : Int32} {v : Int32} (hJ : J α μ) (hx : bI (wi sheet (nI 0) (nI 3)) = 0) : Op (rf_T Ln xs) MX11_put MX12_put [some (.ref 0), some (.int sheet), some (.int i), some (.int v)] [some (.ref 94), some (.int sheet), some (.int i), some (.int v)] α μ := by
  have hR := hJ.1.1.1
  have hI := hJ.2
  have b0 := hI.le0
  have b1 := hI.le1
  have b2 := hI.le2
  have b3 := hI.le3
  have b4 := hI.le4
  have b5 := hI.le5
  have b6 := hI.le6
  have b8 := hI.le8
  have b9 := hI.le9
  have b11 := hI.le11
  have b12 := hI.le12
  refine ok_step (ps := []) (L' := [some (.ref 0), some (.int sheet), some (.int i), some (.int v)]) (st' := [.int sheet, .ref 0]) (σ' := (α, μ)) (pc' := 2) kX11_put_0 rfl rfl rf_a0 ?_
  refine ok_V (As := [.int sheet]) (b := 0) (st := []) mkX11_isSheet qX11_put_2 rfl (rc_0) rfl rfl rfl rfl (Nat.le_of_ble_eq_true rfl) (c_isSheet) ?_
  refine ok_if_ne bX11_put_5 (fun h5 => absurd (hx) h5) (fun _ => ?_)
  refine ok_step (ps := []) (L' := [some (.ref 0), some (.int sheet), some (.int i), some (.int v)]) (st' := [.int (-1000000001), .ref 0]) (σ' := (α, μ)) (pc' := 11) kX11_put_8 rfl rfl rf_a0 ?_
  refine ok_V (As := [.int (-1000000001)]) (b := 0) (st := []) mkX11_error qX11_put_11 rfl (rc_0) rfl rfl rfl rfl (Nat.le_of_ble_eq_true rfl) (c_error (k := 1) (by decide) (by decide) (by decide)) ?_
  refine ok_reti eX11_put_14 rfl ?_
  refine ⟨rfl, _, rfl, ?_⟩
  refine ok_step (ps := []) (L' := [some (.ref 94), some (.int sheet), some (.int i), some (.int v)]) (st' := [.int sheet]) (σ' := (rf_w α 93 1 (α 93 1 + nI 1), μ)) (pc' := 1) kX12_put_0 rfl rfl rf_a0 ?_
  refine ok_S (As := [.int sheet]) (st := []) mkX12_isSheet qX12_put_1 rfl rfl rfl rfl rfl (Nat.le_of_ble_eq_true rfl) (m_isSheet) ?_
  refine ok_if_ne bX12_put_4 (fun g4 => absurd (hx) g4) (fun _ => ?_)
  refine ok_step (ps := []) (L' := [some (.ref 94), some (.int sheet), some (.int i), some (.int v)]) (st' := [.int (nI 1), .ref 94]) (σ' := (rf_w α 93 1 (α 93 1 + nI 1), μ)) (pc' := 9) kX12_put_7 rfl rfl rf_a0 ?_
  refine ok_V (As := [.int (nI 1)]) (b := 94) (st := []) mkX12_finds qX12_put_9 rfl (rc_94) rfl rfl rfl rfl (Nat.le_of_ble_eq_true rfl) (m_finds (k := 1) (by decide)) ?_
  refine ok_reti eX12_put_12 rfl ?_
  exact ⟨rfl, _, rfl, hJ.err (k := 1) (by decide)⟩
theorem by_sheet {C : Int32 → Prop} (h0 : C (nI 0)) (h1 : C (nI 1)) (h2 : C (nI 2)) (h3 : C (nI 3)) (hx : ∀ s, bI (wi s (nI 0) (nI 3)) = 0 → C s) (s : Int32) : C s := by
  by_cases h : bI (wi s (nI 0) (nI 3)) = 0
  · exact hx s h
  · obtain ⟨k, -, hk, rfl⟩ := wi_of (bI_n0.mp h) (by omega) (by omega)
    match k, hk with
    | 0, _ => exact h0
    | 1, _ => exact h1
    | 2, _ => exact h2
    | 3, _ => exact h3
theorem op_put {sheet i v : Int32} (hJ : J α μ) : Op (rf_T Ln xs) MX11_put MX12_put [some (.ref 0), some (.int sheet), some (.int i), some (.int v)] [some (.ref 94), some (.int sheet), some (.int i), some (.int v)] α μ := by_sheet (C := fun s => Op (rf_T Ln xs) MX11_put MX12_put [some (.ref 0), some (.int s), some (.int i), some (.int v)] [some (.ref 94), some (.int s), some (.int i), some (.int v)] α μ) (op_put0 hJ) (op_put1 hJ) (op_put2 hJ) (op_put3 hJ) (fun s hx => op_putx hJ hx) sheet
end H34
