theorem J.fnd {α μ ν : Nat → Nat → Int32} (h : J α μ) (g : sE μ ν) (e : ν 95 = μ 95) : J α ν := h.same (fun _ _ _ => rfl) (fun k i hk => by
  unfold jB at hk
  by_cases e1 : k = 94
  · subst e1
    exact g.2 i (by omega)
  · by_cases e2 : k = 95
    · subst e2
      rw [e]
    · rw [g.1 k e1 e2 (by omega) (by omega) (by omega)])
theorem i_of1 {i y : Int32} {m : Nat} (h1 : (-1) ≤ i) (h2 : ¬ i = (-1)) (h3 : ¬ y ≤ i) (hy : y = nI m) (hm : m < 2147483648) : ∃ x, x < m ∧ i = nI x := by
  subst hy
  rw [Int32.le_iff_toInt_le] at h1
  rw [Int32.le_iff_toInt_le, nI_toInt (by omega)] at h3
  have h4 : i.toInt ≠ -1 := fun e => h2 (Int32.toInt_inj.mp e)
  have h5 : (-1 : Int32).toInt = -1 := rfl
  rw [h5] at h1
  refine ⟨i.toInt.toNat, by omega, Int32.toInt_inj.mp ?_⟩
  rw [nI_toInt (by omega)]
  omega
theorem nz_1 {x : Int32} {m : Nat} (hx : x = nI m) (h : ¬ x = 0) : 1 ≤ m := by
  rcases Nat.eq_zero_or_pos m with e | e
  · subst e
    exact absurd hx h
  · exact e
theorem dq_0 {d : Nat → Int32} {q : Nat → Nat} : d = dq d 0 q := by
  funext j
  unfold dq
  rw [if_neg (by omega)]
theorem J.plan {α β μ ν : Nat → Nat → Int32} {n : Nat} {q : Nat → Nat} (h : J α μ) (hE : sE μ ν) (hd : ν 95 = dq (μ 95) (cn (μ 95) 5) q) (hq : Gd (cn (μ 95) 5) n q) (hn : n ≤ 5) (h1 : ∀ i, i < 8 → β 21 i = nI (q i)) (h2 : ∀ k, k ≠ 21 → β k = α k) : J β ν := by
  have hI := h.2
  have b5 := hI.le5
  have h3 := h.lots rfl hE hd (fun x => Nat.le_trans (hq.le x) (by omega))
  have a : ∀ k, k ≠ 21 → lq α (cn (μ 95) 5) q k = α k := fun k hk => by
    funext i
    unfold lq
    rw [if_neg (by omega)]
  refine h3.day (fun k g1 _ _ _ _ => by rw [h2 k (by omega), a k (by omega)]) ⟨fun _ _ _ _ _ => rfl, fun _ _ => rfl⟩ (fun c i j ho => ?_) (fun _ _ _ => rfl) h3.2
  by_cases e : c = 20
  · subst e
    have e4 : i < 8 ∧ j = 330 + i := by
      unfold off at ho
      simp only at ho
      split at ho
      · rename_i h8
        injection ho with ho
        exact ⟨h8, ho.symm⟩
      · cases ho
    obtain ⟨e4, rfl⟩ := e4
    rw [hd, show 1 + 20 = 21 from rfl, h1 i e4]
    by_cases e5 : i < cn (μ 95) 5
    · rw [dq_i e5]
    · rw [dq_o (by omega), hq.2 i (by omega), hI.atb (b := 9) (bd_330 (i := i) e4 rfl) (by decide), hI.2.2.2.2.2 i (by omega) e4]
  · rw [h2 _ (by omega), ← a _ (by omega)]
    exact h3.1.1.1 c i j ho
section H70
variable {Ln : Nat} {xs : Nat → Int32} {α μ ν γ : Nat → Nat → Int32} {d : Nat → Int32} {n : Nat} {q : Nat → Nat}
theorem c_take : rf_Ok (rf_T Ln xs) MX7_take 2 0 [some (.ref 19), some (.ref 80)] [] (α, μ) (fun r s => r = none ∧ ∃ α' : Nat → Nat → Int32, s = (α', μ) ∧ (∀ i, i < 8 → α' 21 i = α 80 i) ∧ ∀ k, k ≠ 21 → α' k = α k) := by
  refine ok_step (ps := []) (L' := [some (.ref 19), some (.ref 80)]) (st' := [.ref 21, .ref 80]) (σ' := (α, μ)) (pc' := 5) kX7_take_0 rfl rfl rf_a0 ?_
  refine ok_Sx (As := [.ref 80, .ref 21]) (st := []) mkX11_copyRow qX7_take_5 rfl rfl rfl rfl rfl (Nat.le_of_ble_eq_true rfl) (cr_80_21) (fun r1 σ1 hq => ?_)
  obtain ⟨rfl, α', rfl, a1, a2⟩ := hq
  refine ok_retv eX7_take_8 rfl ?_
  exact ⟨rfl, α', rfl, a1, a2⟩
theorem m_plan_l {u : Nat} (hI : Iv d) : ∀ (j i : Nat) (ν : Nat → Nat → Int32), i + j = cn d 5 → sE μ ν → ν 95 = dq d i q → (∀ x, x < cn d 5 → ν 100 x = nI (q x)) → ν 94 15 = nI u → rf_Ok (rf_T Ln xs) MX12_plan 60 40 [some (.ref 94), some (.int (nI n)), some (.int (nI i))] [] (γ, ν) (fun o s => o = some (.int (nI u)) ∧ ∃ ν' : Nat → Nat → Int32, s = (γ, ν') ∧ sE μ ν' ∧ ν' 95 = dq d (cn d 5) q) := by
  have b5 := hI.le5
  intro j
  induction j with
  | zero =>
    intro i ν hj hE hd h1 h2
    obtain rfl : i = cn d 5 := by omega
    refine ok_step (ps := [rf_in (nI 5) 700]) (L' := [some (.ref 94), some (.int (nI n)), some (.int (nI (cn d 5)))]) (st' := [.int (ν 95 ((nI 5).toNatClampNeg)), .int (nI (cn d 5))]) (σ' := (γ, ν)) (pc' := 47) kX12_plan_40 rfl rfl (rf_a1 (rf_in_n (a := 5) rfl (by omega)) rf_a0) ?_
    try rw [(show (nI 5).toNatClampNeg = 5 from rf_cl_n rfl (by omega))]
    try rw [(show ν 95 5 = d 5 from by rw [hd]; exact dq_o (by omega))]
    refine ok_icmp_ge bX12_plan_47 (fun _ => ?_) (fun h47 => absurd (le_of hI.at5 (by omega) (by omega)) h47)
    refine ok_step (ps := []) (L' := [some (.ref 94), some (.int (nI n)), some (.int (nI (cn d 5)))]) (st' := [.int (ν 94 15)]) (σ' := (γ, ν)) (pc' := 76) kX12_plan_72 rfl rfl rf_a0 ?_
    try rw [h2]
    refine ok_reti eX12_plan_76 rfl ?_
    exact ⟨rfl, ν, rfl, hE, hd⟩
  | succ j ih =>
    intro i ν hj hE hd h1 h2
    refine ok_step (ps := [rf_in (nI 5) 700]) (L' := [some (.ref 94), some (.int (nI n)), some (.int (nI i))]) (st' := [.int (ν 95 ((nI 5).toNatClampNeg)), .int (nI i)]) (σ' := (γ, ν)) (pc' := 47) kX12_plan_40 rfl rfl (rf_a1 (rf_in_n (a := 5) rfl (by omega)) rf_a0) ?_
    try rw [(show (nI 5).toNatClampNeg = 5 from rf_cl_n rfl (by omega))]
    try rw [(show ν 95 5 = d 5 from by rw [hd]; exact dq_o (by omega))]
    refine ok_icmp_ge bX12_plan_47 (fun h47 => absurd h47 (nle_of hI.at5 (by omega) (by omega))) (fun _ => ?_)
    refine ok_step (ps := [rf_in (nI i) 8, rf_in ((nI 330) + (nI i)) 700]) (L' := [some (.ref 94), some (.int (nI n)), some (.int ((nI i) + (nI 1)))]) (st' := []) (σ' := (γ, rf_w ν 95 (((nI 330) + (nI i)).toNatClampNeg) (ν 100 ((nI i).toNatClampNeg)))) (pc' := 69) kX12_plan_50 rfl rfl (rf_a1 (rf_in_n (a := i) rfl (by omega)) (rf_a1 (rf_in_n (a := (330 + i)) (by (try rw [(show ((nI 330) + (nI i)) = nI (330 + i) from rf_eq (rf_nadd (x := nI 330) (y := nI i) rfl rfl) (by omega))]); (try rw [(show (nI i).toNatClampNeg = i from rf_cl_n rfl (by omega))]); (try rw [(h1 i (by omega))]); all_goals exact rfl) (by omega)) rf_a0)) ?_
    try rw [(show ((nI 330) + (nI i)) = nI (330 + i) from rf_eq (rf_nadd (x := nI 330) (y := nI i) rfl rfl) (by omega))]
    try rw [(show (nI i).toNatClampNeg = i from rf_cl_n rfl (by omega))]
    try rw [(h1 i (by omega))]
    try rw [(show (nI (330 + i)).toNatClampNeg = (330 + i) from rf_cl_n rfl (by omega))]
    try rw [(show ((nI i) + (nI 1)) = nI (i + 1) from nI_add _ _)]
    refine ok_goto bX12_plan_69 ?_
    exact ih (i + 1) _ (by omega) (hE.w (by omega)) (by rw [rf_w_self, hd]; exact dq_s rfl) (fun x hx => by rw [rf_w_row (by decide)]; exact h1 x hx) ((congrFun (rf_w_row (by decide)) _).trans h2)
theorem op_best {n0 : Int32} {i0 : Int32} (hJ : J α μ)  : Op (rf_T Ln xs) MX11_best MX12_best [some (.ref 0), some (.int n0), some (.int i0)] [some (.ref 94), some (.int n0), some (.int i0)] α μ := by
  have hR := hJ.1.1.1
  have hI := hJ.2
  have b0 := hI.le0
  have b1 := hI.le1
  have b2 := hI.le2
  have b3 := hI.le3
  have b4 := hI.le4
  have b5 := hI.le5
  have b6 := hI.le6
  have b8 := hI.le8
  have b9 := hI.le9
  have b11 := hI.le11
  have b12 := hI.le12
  refine ok_step (ps := []) (L' := [some (.ref 0), some (.int n0), some (.int i0)]) (st' := [.int (nI 5), .int (nI 1), .int n0]) (σ' := (α, μ)) (pc' := 3) kX11_best_0 rfl rfl rf_a0 ?_
  refine ok_S (As := [.int n0, .int (nI 1), .int (nI 5)]) (st := []) mkX11_within qX11_best_3 rfl rfl rfl rfl rfl (Nat.le_of_ble_eq_true rfl) (c_within) ?_
  refine ok_if_eq bX11_best_6 (fun h6 => ?_) (fun h6 => ?_)
  · refine ok_step (ps := []) (L' := [some (.ref 0), some (.int n0), some (.int i0)]) (st' := [.int (-1000000001), .ref 0]) (σ' := (α, μ)) (pc' := 17) kX11_best_14 rfl rfl rf_a0 ?_
    refine ok_V (As := [.int (-1000000001)]) (b := 0) (st := []) mkX11_error qX11_best_17 rfl (rc_0) rfl rfl rfl rfl (Nat.le_of_ble_eq_true rfl) (c_error (k := 1) (by decide) (by decide) (by decide)) ?_
    refine ok_reti eX11_best_20 rfl ?_
    refine ⟨rfl, _, rfl, ?_⟩
    refine ok_step (ps := []) (L' := [some (.ref 94), some (.int n0), some (.int i0)]) (st' := [.long (lN 5), .long (lN 1), .long n0.toInt64]) (σ' := (rf_w α 93 1 (α 93 1 + nI 1), μ)) (pc' := 6) kX12_best_0 rfl rfl rf_a0 ?_
    refine ok_S (As := [.long n0.toInt64, .long (lN 1), .long (lN 5)]) (st := []) mkX12_in qX12_best_6 rfl rfl rfl rfl rfl (Nat.le_of_ble_eq_true rfl) (m_in) ?_
    rw [show wl n0.toInt64 (lN 1) (lN 5) = wi n0 (nI 1) (nI 5) from wl_of rfl (nI_l (by decide)).symm (nI_l (by decide)).symm]
    refine ok_if_eq bX12_best_9 (fun _ => ?_) (fun g9 => absurd (h6) g9)
    refine ok_step (ps := []) (L' := [some (.ref 94), some (.int n0), some (.int i0)]) (st' := [.int (nI 1), .ref 94]) (σ' := (rf_w α 93 1 (α 93 1 + nI 1), μ)) (pc' := 19) kX12_best_17 rfl rfl rf_a0 ?_
    refine ok_V (As := [.int (nI 1)]) (b := 94) (st := []) mkX12_finds qX12_best_19 rfl (rc_94) rfl rfl rfl rfl (Nat.le_of_ble_eq_true rfl) (m_finds (k := 1) (by decide)) ?_
    refine ok_reti eX12_best_22 rfl ?_
    exact ⟨rfl, _, rfl, hJ.err (k := 1) (by decide)⟩
  · obtain ⟨n, hn1, hn, rfl⟩ := wi_of (bI_n0.mp h6) (by decide) (by decide)
    refine ok_step (ps := []) (L' := [some (.ref 0), some (.int (nI n)), some (.int i0)]) (st' := [.int (-1), .int i0]) (σ' := (α, μ)) (pc' := 11) kX11_best_9 rfl rfl rf_a0 ?_
    refine ok_icmp_ge bX11_best_11 (fun h11 => ?_) (fun h11 => ?_)
    · refine ok_step (ps := []) (L' := [some (.ref 0), some (.int (nI n)), some (.int i0)]) (st' := [.int (α 19 0)]) (σ' := (α, μ)) (pc' := 31) kX11_best_21 rfl rfl rf_a0 ?_
      try rw [(show α 19 0 = μ 95 5 from hR 18 0 5 rfl)]
      refine ok_if_eq bX11_best_31 (fun h31 => ?_) (fun h31 => ?_)
      · refine ok_step (ps := []) (L' := [some (.ref 0), some (.int (nI n)), some (.int i0)]) (st' := [.int (-1000000002), .ref 0]) (σ' := (α, μ)) (pc' := 51) kX11_best_48 rfl rfl rf_a0 ?_
        refine ok_V (As := [.int (-1000000002)]) (b := 0) (st := []) mkX11_error qX11_best_51 rfl (rc_0) rfl rfl rfl rfl (Nat.le_of_ble_eq_true rfl) (c_error (k := 2) (by decide) (by decide) (by decide)) ?_
        refine ok_reti eX11_best_54 rfl ?_
        refine ⟨rfl, _, rfl, ?_⟩
        refine ok_step (ps := []) (L' := [some (.ref 94), some (.int (nI n)), some (.int i0)]) (st' := [.long (lN 5), .long (lN 1), .long ((nI n).toInt64)]) (σ' := (rf_w α 93 2 (α 93 2 + nI 1), μ)) (pc' := 6) kX12_best_0 rfl rfl rf_a0 ?_
        refine ok_S (As := [.long ((nI n).toInt64), .long (lN 1), .long (lN 5)]) (st := []) mkX12_in qX12_best_6 rfl rfl rfl rfl rfl (Nat.le_of_ble_eq_true rfl) (m_in) ?_
        rw [show wl ((nI n).toInt64) (lN 1) (lN 5) = wi (nI n) (nI 1) (nI 5) from wl_of rfl (nI_l (by decide)).symm (nI_l (by decide)).symm]
        refine ok_if_eq bX12_best_9 (fun g9 => absurd g9 (h6)) (fun _ => ?_)
        refine ok_step (ps := []) (L' := [some (.ref 94), some (.int (nI n)), some (.int i0)]) (st' := [.int (-1), .int i0]) (σ' := (rf_w α 93 2 (α 93 2 + nI 1), μ)) (pc' := 14) kX12_best_12 rfl rfl rf_a0 ?_
        refine ok_icmp_ge bX12_best_14 (fun _ => ?_) (fun g14 => absurd (h11) g14)
        refine ok_step (ps := [rf_in (nI 5) 700]) (L' := [some (.ref 94), some (.int (nI n)), some (.int i0)]) (st' := [.int (μ 95 ((nI 5).toNatClampNeg))]) (σ' := (rf_w α 93 2 (α 93 2 + nI 1), μ)) (pc' := 29) kX12_best_23 rfl rfl (rf_a1 (rf_in_n (a := 5) rfl (by omega)) rf_a0) ?_
        try rw [(show (nI 5).toNatClampNeg = 5 from rf_cl_n rfl (by omega))]
        refine ok_if_eq bX12_best_29 (fun _ => ?_) (fun g29 => absurd (h31) g29)
        refine ok_step (ps := []) (L' := [some (.ref 94), some (.int (nI n)), some (.int i0)]) (st' := [.int (nI 2), .ref 94]) (σ' := (rf_w α 93 2 (α 93 2 + nI 1), μ)) (pc' := 44) kX12_best_42 rfl rfl rf_a0 ?_
        refine ok_V (As := [.int (nI 2)]) (b := 94) (st := []) mkX12_finds qX12_best_44 rfl (rc_94) rfl rfl rfl rfl (Nat.le_of_ble_eq_true rfl) (m_finds (k := 2) (by decide)) ?_
        refine ok_reti eX12_best_47 rfl ?_
        exact ⟨rfl, _, rfl, hJ.err (k := 2) (by decide)⟩
      · refine ok_step (ps := []) (L' := [some (.ref 0), some (.int (nI n)), some (.int i0)]) (st' := [.int (α 19 0), .int i0]) (σ' := (α, μ)) (pc' := 45) kX11_best_34 rfl rfl rf_a0 ?_
        try rw [(show α 19 0 = μ 95 5 from hR 18 0 5 rfl)]
        refine ok_icmp_lt bX11_best_45 (fun h45 => ?_) (fun h45 => ?_)
        · refine ok_step (ps := []) (L' := [some (.ref 0), some (.int (nI n)), some (.int i0)]) (st' := [.int (nI n), .ref 1, .ref 79]) (σ' := (α, μ)) (pc' := 64) kX11_best_55 rfl rfl rf_a0 ?_
          have h5 : 1 ≤ cn (μ 95) 5 := nz_1 hI.at5 h31
          refine ok_Vx (As := [.ref 1, .int (nI n)]) (b := 79) (st := []) mkX5_run qX11_best_64 rfl (rc_79) rfl rfl rfl rfl (Nat.le_of_ble_eq_true rfl) (c_run hn hn1 h5 hJ) (fun r1 σ1 hq => ?_)
          obtain ⟨rfl, α1, rfl, f1, f2⟩ := hq
          refine ok_step (ps := []) (L' := [some (.ref 0), some (.int (nI n)), some (.int i0)]) (st' := [.int (-1), .int i0]) (σ' := (α1, μ)) (pc' := 69) kX11_best_67 rfl rfl rf_a0 ?_
          refine ok_icmp_ne bX11_best_69 (fun h69 => ?_) (fun h69 => ?_)
          · obtain ⟨x, hx, rfl⟩ := i_of1 h11 h69 (Int32.not_le.mpr h45) hI.at5 (by omega)
            refine ok_step (ps := [rf_in (nI x) 8]) (L' := [some (.ref 0), some (.int (nI n)), some (.int (nI x))]) (st' := [.int (α1 80 ((nI x).toNatClampNeg))]) (σ' := (α1, μ)) (pc' := 91) kX11_best_82 rfl rfl (rf_a1 (rf_in_n (a := x) rfl (by omega)) rf_a0) ?_
            try rw [(show (nI x).toNatClampNeg = x from rf_cl_n rfl (by omega))]
            refine ok_reti eX11_best_91 rfl ?_
            refine ⟨rfl, _, rfl, ?_⟩
            refine ok_step (ps := []) (L' := [some (.ref 94), some (.int (nI n)), some (.int (nI x))]) (st' := [.long (lN 5), .long (lN 1), .long ((nI n).toInt64)]) (σ' := (α1, μ)) (pc' := 6) kX12_best_0 rfl rfl rf_a0 ?_
            refine ok_S (As := [.long ((nI n).toInt64), .long (lN 1), .long (lN 5)]) (st := []) mkX12_in qX12_best_6 rfl rfl rfl rfl rfl (Nat.le_of_ble_eq_true rfl) (m_in) ?_
            rw [show wl ((nI n).toInt64) (lN 1) (lN 5) = wi (nI n) (nI 1) (nI 5) from wl_of rfl (nI_l (by decide)).symm (nI_l (by decide)).symm]
            refine ok_if_eq bX12_best_9 (fun g9 => absurd g9 (h6)) (fun _ => ?_)
            refine ok_step (ps := []) (L' := [some (.ref 94), some (.int (nI n)), some (.int (nI x))]) (st' := [.int (-1), .int (nI x)]) (σ' := (α1, μ)) (pc' := 14) kX12_best_12 rfl rfl rf_a0 ?_
            refine ok_icmp_ge bX12_best_14 (fun _ => ?_) (fun g14 => absurd (h11) g14)
            refine ok_step (ps := [rf_in (nI 5) 700]) (L' := [some (.ref 94), some (.int (nI n)), some (.int (nI x))]) (st' := [.int (μ 95 ((nI 5).toNatClampNeg))]) (σ' := (α1, μ)) (pc' := 29) kX12_best_23 rfl rfl (rf_a1 (rf_in_n (a := 5) rfl (by omega)) rf_a0) ?_
            try rw [(show (nI 5).toNatClampNeg = 5 from rf_cl_n rfl (by omega))]
            refine ok_if_eq bX12_best_29 (fun g29 => absurd g29 (h31)) (fun _ => ?_)
            refine ok_step (ps := [rf_in (nI 5) 700]) (L' := [some (.ref 94), some (.int (nI n)), some (.int (nI x))]) (st' := [.int (μ 95 ((nI 5).toNatClampNeg)), .int (nI x)]) (σ' := (α1, μ)) (pc' := 39) kX12_best_32 rfl rfl (rf_a1 (rf_in_n (a := 5) rfl (by omega)) rf_a0) ?_
            try rw [(show (nI 5).toNatClampNeg = 5 from rf_cl_n rfl (by omega))]
            refine ok_icmp_lt bX12_best_39 (fun _ => ?_) (fun g39 => absurd (h45) g39)
            refine ok_step (ps := []) (L' := [some (.ref 94), some (.int (nI n)), some (.int (nI x))]) (st' := [.int (nI n), .ref 94]) (σ' := (α1, μ)) (pc' := 50) kX12_best_48 rfl rfl rf_a0 ?_
            refine ok_Vx (As := [.int (nI n)]) (b := 94) (st := []) mkX12_findBest qX12_best_50 rfl (rc_94) rfl rfl rfl rfl (Nat.le_of_ble_eq_true rfl) (m_find rfl hJ hn hn1 h5) (fun r1 σ1 hq => ?_)
            obtain ⟨rfl, ν, q, rfl, m1, m2, m3, m4, m5⟩ := hq
            rw [m4] at f2
            obtain ⟨k1, k2, k3, k4, k5⟩ := f2
            refine ok_step (ps := []) (L' := [some (.ref 94), some (.int (nI n)), some (.int (nI x))]) (st' := [.int (-1), .int (nI x)]) (σ' := (α1, ν)) (pc' := 55) kX12_best_53 rfl rfl rf_a0 ?_
            refine ok_icmp_ne bX12_best_55 (fun _ => ?_) (fun g55 => absurd g55 (h69))
            refine ok_step (ps := [rf_in (nI x) 8]) (L' := [some (.ref 94), some (.int (nI n)), some (.int (nI x))]) (st' := [.int (ν 100 ((nI x).toNatClampNeg))]) (σ' := (α1, ν)) (pc' := 71) kX12_best_65 rfl rfl (rf_a1 (rf_in_n (a := x) rfl (by omega)) rf_a0) ?_
            try rw [(show (nI x).toNatClampNeg = x from rf_cl_n rfl (by omega))]
            refine ok_reti eX12_best_71 rfl ?_
            exact ⟨by rw [k4 x (by omega), m3.2 x hx], _, rfl, (hJ.sF f1).fnd m1 m2⟩
          · refine ok_step (ps := []) (L' := [some (.ref 0), some (.int (nI n)), some (.int i0)]) (st' := [.int (α1 79 0)]) (σ' := (α1, μ)) (pc' := 79) kX11_best_72 rfl rfl rf_a0 ?_
            refine ok_goto bX11_best_79 ?_
            refine ok_reti eX11_best_91 rfl ?_
            refine ⟨rfl, _, rfl, ?_⟩
            refine ok_step (ps := []) (L' := [some (.ref 94), some (.int (nI n)), some (.int i0)]) (st' := [.long (lN 5), .long (lN 1), .long ((nI n).toInt64)]) (σ' := (α1, μ)) (pc' := 6) kX12_best_0 rfl rfl rf_a0 ?_
            refine ok_S (As := [.long ((nI n).toInt64), .long (lN 1), .long (lN 5)]) (st := []) mkX12_in qX12_best_6 rfl rfl rfl rfl rfl (Nat.le_of_ble_eq_true rfl) (m_in) ?_
            rw [show wl ((nI n).toInt64) (lN 1) (lN 5) = wi (nI n) (nI 1) (nI 5) from wl_of rfl (nI_l (by decide)).symm (nI_l (by decide)).symm]
            refine ok_if_eq bX12_best_9 (fun g9 => absurd g9 (h6)) (fun _ => ?_)
            refine ok_step (ps := []) (L' := [some (.ref 94), some (.int (nI n)), some (.int i0)]) (st' := [.int (-1), .int i0]) (σ' := (α1, μ)) (pc' := 14) kX12_best_12 rfl rfl rf_a0 ?_
            refine ok_icmp_ge bX12_best_14 (fun _ => ?_) (fun g14 => absurd (h11) g14)
            refine ok_step (ps := [rf_in (nI 5) 700]) (L' := [some (.ref 94), some (.int (nI n)), some (.int i0)]) (st' := [.int (μ 95 ((nI 5).toNatClampNeg))]) (σ' := (α1, μ)) (pc' := 29) kX12_best_23 rfl rfl (rf_a1 (rf_in_n (a := 5) rfl (by omega)) rf_a0) ?_
            try rw [(show (nI 5).toNatClampNeg = 5 from rf_cl_n rfl (by omega))]
            refine ok_if_eq bX12_best_29 (fun g29 => absurd g29 (h31)) (fun _ => ?_)
            refine ok_step (ps := [rf_in (nI 5) 700]) (L' := [some (.ref 94), some (.int (nI n)), some (.int i0)]) (st' := [.int (μ 95 ((nI 5).toNatClampNeg)), .int i0]) (σ' := (α1, μ)) (pc' := 39) kX12_best_32 rfl rfl (rf_a1 (rf_in_n (a := 5) rfl (by omega)) rf_a0) ?_
            try rw [(show (nI 5).toNatClampNeg = 5 from rf_cl_n rfl (by omega))]
            refine ok_icmp_lt bX12_best_39 (fun _ => ?_) (fun g39 => absurd (h45) g39)
            refine ok_step (ps := []) (L' := [some (.ref 94), some (.int (nI n)), some (.int i0)]) (st' := [.int (nI n), .ref 94]) (σ' := (α1, μ)) (pc' := 50) kX12_best_48 rfl rfl rf_a0 ?_
            refine ok_Vx (As := [.int (nI n)]) (b := 94) (st := []) mkX12_findBest qX12_best_50 rfl (rc_94) rfl rfl rfl rfl (Nat.le_of_ble_eq_true rfl) (m_find rfl hJ hn hn1 h5) (fun r1 σ1 hq => ?_)
            obtain ⟨rfl, ν, q, rfl, m1, m2, m3, m4, m5⟩ := hq
            rw [m4] at f2
            obtain ⟨k1, k2, k3, k4, k5⟩ := f2
            refine ok_step (ps := []) (L' := [some (.ref 94), some (.int (nI n)), some (.int i0)]) (st' := [.int (-1), .int i0]) (σ' := (α1, ν)) (pc' := 55) kX12_best_53 rfl rfl rf_a0 ?_
            refine ok_icmp_ne bX12_best_55 (fun g55 => absurd (h69) g55) (fun _ => ?_)
            refine ok_step (ps := []) (L' := [some (.ref 94), some (.int (nI n)), some (.int i0)]) (st' := [.int (ν 94 15)]) (σ' := (α1, ν)) (pc' := 62) kX12_best_58 rfl rfl rf_a0 ?_
            refine ok_goto bX12_best_62 ?_
            refine ok_reti eX12_best_71 rfl ?_
            exact ⟨by rw [k2, m3.1], _, rfl, (hJ.sF f1).fnd m1 m2⟩
        · refine ok_step (ps := []) (L' := [some (.ref 0), some (.int (nI n)), some (.int i0)]) (st' := [.int (-1000000002), .ref 0]) (σ' := (α, μ)) (pc' := 51) kX11_best_48 rfl rfl rf_a0 ?_
          refine ok_V (As := [.int (-1000000002)]) (b := 0) (st := []) mkX11_error qX11_best_51 rfl (rc_0) rfl rfl rfl rfl (Nat.le_of_ble_eq_true rfl) (c_error (k := 2) (by decide) (by decide) (by decide)) ?_
          refine ok_reti eX11_best_54 rfl ?_
          refine ⟨rfl, _, rfl, ?_⟩
          refine ok_step (ps := []) (L' := [some (.ref 94), some (.int (nI n)), some (.int i0)]) (st' := [.long (lN 5), .long (lN 1), .long ((nI n).toInt64)]) (σ' := (rf_w α 93 2 (α 93 2 + nI 1), μ)) (pc' := 6) kX12_best_0 rfl rfl rf_a0 ?_
          refine ok_S (As := [.long ((nI n).toInt64), .long (lN 1), .long (lN 5)]) (st := []) mkX12_in qX12_best_6 rfl rfl rfl rfl rfl (Nat.le_of_ble_eq_true rfl) (m_in) ?_
          rw [show wl ((nI n).toInt64) (lN 1) (lN 5) = wi (nI n) (nI 1) (nI 5) from wl_of rfl (nI_l (by decide)).symm (nI_l (by decide)).symm]
          refine ok_if_eq bX12_best_9 (fun g9 => absurd g9 (h6)) (fun _ => ?_)
          refine ok_step (ps := []) (L' := [some (.ref 94), some (.int (nI n)), some (.int i0)]) (st' := [.int (-1), .int i0]) (σ' := (rf_w α 93 2 (α 93 2 + nI 1), μ)) (pc' := 14) kX12_best_12 rfl rfl rf_a0 ?_
          refine ok_icmp_ge bX12_best_14 (fun _ => ?_) (fun g14 => absurd (h11) g14)
          refine ok_step (ps := [rf_in (nI 5) 700]) (L' := [some (.ref 94), some (.int (nI n)), some (.int i0)]) (st' := [.int (μ 95 ((nI 5).toNatClampNeg))]) (σ' := (rf_w α 93 2 (α 93 2 + nI 1), μ)) (pc' := 29) kX12_best_23 rfl rfl (rf_a1 (rf_in_n (a := 5) rfl (by omega)) rf_a0) ?_
          try rw [(show (nI 5).toNatClampNeg = 5 from rf_cl_n rfl (by omega))]
          refine ok_if_eq bX12_best_29 (fun g29 => absurd g29 (h31)) (fun _ => ?_)
          refine ok_step (ps := [rf_in (nI 5) 700]) (L' := [some (.ref 94), some (.int (nI n)), some (.int i0)]) (st' := [.int (μ 95 ((nI 5).toNatClampNeg)), .int i0]) (σ' := (rf_w α 93 2 (α 93 2 + nI 1), μ)) (pc' := 39) kX12_best_32 rfl rfl (rf_a1 (rf_in_n (a := 5) rfl (by omega)) rf_a0) ?_
          try rw [(show (nI 5).toNatClampNeg = 5 from rf_cl_n rfl (by omega))]
          refine ok_icmp_lt bX12_best_39 (fun g39 => absurd g39 (h45)) (fun _ => ?_)
          refine ok_step (ps := []) (L' := [some (.ref 94), some (.int (nI n)), some (.int i0)]) (st' := [.int (nI 2), .ref 94]) (σ' := (rf_w α 93 2 (α 93 2 + nI 1), μ)) (pc' := 44) kX12_best_42 rfl rfl rf_a0 ?_
          refine ok_V (As := [.int (nI 2)]) (b := 94) (st := []) mkX12_finds qX12_best_44 rfl (rc_94) rfl rfl rfl rfl (Nat.le_of_ble_eq_true rfl) (m_finds (k := 2) (by decide)) ?_
          refine ok_reti eX12_best_47 rfl ?_
          exact ⟨rfl, _, rfl, hJ.err (k := 2) (by decide)⟩
    · refine ok_step (ps := []) (L' := [some (.ref 0), some (.int (nI n)), some (.int i0)]) (st' := [.int (-1000000001), .ref 0]) (σ' := (α, μ)) (pc' := 17) kX11_best_14 rfl rfl rf_a0 ?_
      refine ok_V (As := [.int (-1000000001)]) (b := 0) (st := []) mkX11_error qX11_best_17 rfl (rc_0) rfl rfl rfl rfl (Nat.le_of_ble_eq_true rfl) (c_error (k := 1) (by decide) (by decide) (by decide)) ?_
      refine ok_reti eX11_best_20 rfl ?_
      refine ⟨rfl, _, rfl, ?_⟩
      refine ok_step (ps := []) (L' := [some (.ref 94), some (.int (nI n)), some (.int i0)]) (st' := [.long (lN 5), .long (lN 1), .long ((nI n).toInt64)]) (σ' := (rf_w α 93 1 (α 93 1 + nI 1), μ)) (pc' := 6) kX12_best_0 rfl rfl rf_a0 ?_
      refine ok_S (As := [.long ((nI n).toInt64), .long (lN 1), .long (lN 5)]) (st := []) mkX12_in qX12_best_6 rfl rfl rfl rfl rfl (Nat.le_of_ble_eq_true rfl) (m_in) ?_
      rw [show wl ((nI n).toInt64) (lN 1) (lN 5) = wi (nI n) (nI 1) (nI 5) from wl_of rfl (nI_l (by decide)).symm (nI_l (by decide)).symm]
      refine ok_if_eq bX12_best_9 (fun g9 => absurd g9 (h6)) (fun _ => ?_)
      refine ok_step (ps := []) (L' := [some (.ref 94), some (.int (nI n)), some (.int i0)]) (st' := [.int (-1), .int i0]) (σ' := (rf_w α 93 1 (α 93 1 + nI 1), μ)) (pc' := 14) kX12_best_12 rfl rfl rf_a0 ?_
      refine ok_icmp_ge bX12_best_14 (fun g14 => absurd g14 (h11)) (fun _ => ?_)
      refine ok_step (ps := []) (L' := [some (.ref 94), some (.int (nI n)), some (.int i0)]) (st' := [.int (nI 1), .ref 94]) (σ' := (rf_w α 93 1 (α 93 1 + nI 1), μ)) (pc' := 19) kX12_best_17 rfl rfl rf_a0 ?_
      refine ok_V (As := [.int (nI 1)]) (b := 94) (st := []) mkX12_finds qX12_best_19 rfl (rc_94) rfl rfl rfl rfl (Nat.le_of_ble_eq_true rfl) (m_finds (k := 1) (by decide)) ?_
      refine ok_reti eX12_best_22 rfl ?_
      exact ⟨rfl, _, rfl, hJ.err (k := 1) (by decide)⟩
theorem op_plan {n0 : Int32} (hJ : J α μ)  : Op (rf_T Ln xs) MX11_plan MX12_plan [some (.ref 0), some (.int n0)] [some (.ref 94), some (.int n0), none] α μ := by
  have hR := hJ.1.1.1
  have hI := hJ.2
  have b0 := hI.le0
  have b1 := hI.le1
  have b2 := hI.le2
  have b3 := hI.le3
  have b4 := hI.le4
  have b5 := hI.le5
  have b6 := hI.le6
  have b8 := hI.le8
  have b9 := hI.le9
  have b11 := hI.le11
  have b12 := hI.le12
  refine ok_step (ps := []) (L' := [some (.ref 0), some (.int n0)]) (st' := [.int (nI 5), .int (nI 1), .int n0]) (σ' := (α, μ)) (pc' := 3) kX11_plan_0 rfl rfl rf_a0 ?_
  refine ok_S (As := [.int n0, .int (nI 1), .int (nI 5)]) (st := []) mkX11_within qX11_plan_3 rfl rfl rfl rfl rfl (Nat.le_of_ble_eq_true rfl) (c_within) ?_
  refine ok_if_ne bX11_plan_6 (fun h6 => ?_) (fun h6 => ?_)
  · obtain ⟨n, hn1, hn, rfl⟩ := wi_of (bI_n0.mp h6) (by decide) (by decide)
    refine ok_step (ps := []) (L' := [some (.ref 0), some (.int (nI n))]) (st' := [.int (α 19 0)]) (σ' := (α, μ)) (pc' := 26) kX11_plan_16 rfl rfl rf_a0 ?_
    try rw [(show α 19 0 = μ 95 5 from hR 18 0 5 rfl)]
    refine ok_if_ne bX11_plan_26 (fun h26 => ?_) (fun h26 => ?_)
    · refine ok_step (ps := []) (L' := [some (.ref 0), some (.int (nI n))]) (st' := [.int (nI n), .ref 1, .ref 79]) (σ' := (α, μ)) (pc' := 45) kX11_plan_36 rfl rfl rf_a0 ?_
      have h5 : 1 ≤ cn (μ 95) 5 := nz_1 hI.at5 h26
      refine ok_Vx (As := [.ref 1, .int (nI n)]) (b := 79) (st := []) mkX5_run qX11_plan_45 rfl (rc_79) rfl rfl rfl rfl (Nat.le_of_ble_eq_true rfl) (c_run hn hn1 h5 hJ) (fun r1 σ1 hq => ?_)
      obtain ⟨rfl, α1, rfl, f1, f2⟩ := hq
      refine ok_step (ps := []) (L' := [some (.ref 0), some (.int (nI n))]) (st' := [.ref 80, .ref 19]) (σ' := (α1, μ)) (pc' := 62) kX11_plan_48 rfl rfl rf_a0 ?_
      refine ok_Vx (As := [.ref 80]) (b := 19) (st := []) mkX7_take qX11_plan_62 rfl (rc_19) rfl rfl rfl rfl (Nat.le_of_ble_eq_true rfl) (c_take) (fun r1 σ1 hq => ?_)
      obtain ⟨rfl, α2, rfl, t1, t2⟩ := hq
      refine ok_step (ps := []) (L' := [some (.ref 0), some (.int (nI n))]) (st' := [.int (α2 79 0)]) (σ' := (α2, μ)) (pc' := 72) kX11_plan_65 rfl rfl rf_a0 ?_
      refine ok_reti eX11_plan_72 rfl ?_
      refine ⟨rfl, _, rfl, ?_⟩
      refine ok_step (ps := []) (L' := [some (.ref 94), some (.int (nI n)), none]) (st' := [.long (lN 5), .long (lN 1), .long ((nI n).toInt64)]) (σ' := (α2, μ)) (pc' := 6) kX12_plan_0 rfl rfl rf_a0 ?_
      refine ok_S (As := [.long ((nI n).toInt64), .long (lN 1), .long (lN 5)]) (st := []) mkX12_in qX12_plan_6 rfl rfl rfl rfl rfl (Nat.le_of_ble_eq_true rfl) (m_in) ?_
      rw [show wl ((nI n).toInt64) (lN 1) (lN 5) = wi (nI n) (nI 1) (nI 5) from wl_of rfl (nI_l (by decide)).symm (nI_l (by decide)).symm]
      refine ok_if_ne bX12_plan_9 (fun _ => ?_) (fun g9 => absurd g9 (h6))
      refine ok_step (ps := [rf_in (nI 5) 700]) (L' := [some (.ref 94), some (.int (nI n)), none]) (st' := [.int (μ 95 ((nI 5).toNatClampNeg))]) (σ' := (α2, μ)) (pc' := 24) kX12_plan_18 rfl rfl (rf_a1 (rf_in_n (a := 5) rfl (by omega)) rf_a0) ?_
      try rw [(show (nI 5).toNatClampNeg = 5 from rf_cl_n rfl (by omega))]
      refine ok_if_ne bX12_plan_24 (fun _ => ?_) (fun g24 => absurd g24 (h26))
      refine ok_step (ps := []) (L' := [some (.ref 94), some (.int (nI n)), none]) (st' := [.int (nI n), .ref 94]) (σ' := (α2, μ)) (pc' := 35) kX12_plan_33 rfl rfl rf_a0 ?_
      refine ok_Vx (As := [.int (nI n)]) (b := 94) (st := []) mkX12_findBest qX12_plan_35 rfl (rc_94) rfl rfl rfl rfl (Nat.le_of_ble_eq_true rfl) (m_find rfl hJ hn hn1 h5) (fun r1 σ1 hq => ?_)
      obtain ⟨rfl, ν, q, rfl, m1, m2, m3, m4, m5⟩ := hq
      rw [m4] at f2
      obtain ⟨k1, k2, k3, k4, k5⟩ := f2
      refine ok_step (ps := []) (L' := [some (.ref 94), some (.int (nI n)), some (.int (nI 0))]) (st' := []) (σ' := (α2, ν)) (pc' := 40) kX12_plan_38 rfl rfl rf_a0 ?_
      refine rf_Ok.mono (m_plan_l (q := q) hI (cn (μ 95) 5) 0 ν (by omega) m1 (m2.trans dq_0) m3.2 m3.1) ?_
      rintro o s ⟨rfl, ν2, rfl, n1, n2⟩
      exact ⟨by rw [t2 79 (by decide), k2], _, rfl, (hJ.sF f1).plan n1 n2 m5 hn (fun i hi => by rw [t1 i hi, k4 i hi]) t2⟩
    · refine ok_step (ps := []) (L' := [some (.ref 0), some (.int (nI n))]) (st' := [.int (-1000000002), .ref 0]) (σ' := (α, μ)) (pc' := 32) kX11_plan_29 rfl rfl rf_a0 ?_
      refine ok_V (As := [.int (-1000000002)]) (b := 0) (st := []) mkX11_error qX11_plan_32 rfl (rc_0) rfl rfl rfl rfl (Nat.le_of_ble_eq_true rfl) (c_error (k := 2) (by decide) (by decide) (by decide)) ?_
      refine ok_reti eX11_plan_35 rfl ?_
      refine ⟨rfl, _, rfl, ?_⟩
      refine ok_step (ps := []) (L' := [some (.ref 94), some (.int (nI n)), none]) (st' := [.long (lN 5), .long (lN 1), .long ((nI n).toInt64)]) (σ' := (rf_w α 93 2 (α 93 2 + nI 1), μ)) (pc' := 6) kX12_plan_0 rfl rfl rf_a0 ?_
      refine ok_S (As := [.long ((nI n).toInt64), .long (lN 1), .long (lN 5)]) (st := []) mkX12_in qX12_plan_6 rfl rfl rfl rfl rfl (Nat.le_of_ble_eq_true rfl) (m_in) ?_
      rw [show wl ((nI n).toInt64) (lN 1) (lN 5) = wi (nI n) (nI 1) (nI 5) from wl_of rfl (nI_l (by decide)).symm (nI_l (by decide)).symm]
      refine ok_if_ne bX12_plan_9 (fun _ => ?_) (fun g9 => absurd g9 (h6))
      refine ok_step (ps := [rf_in (nI 5) 700]) (L' := [some (.ref 94), some (.int (nI n)), none]) (st' := [.int (μ 95 ((nI 5).toNatClampNeg))]) (σ' := (rf_w α 93 2 (α 93 2 + nI 1), μ)) (pc' := 24) kX12_plan_18 rfl rfl (rf_a1 (rf_in_n (a := 5) rfl (by omega)) rf_a0) ?_
      try rw [(show (nI 5).toNatClampNeg = 5 from rf_cl_n rfl (by omega))]
      refine ok_if_ne bX12_plan_24 (fun g24 => absurd (h26) g24) (fun _ => ?_)
      refine ok_step (ps := []) (L' := [some (.ref 94), some (.int (nI n)), none]) (st' := [.int (nI 2), .ref 94]) (σ' := (rf_w α 93 2 (α 93 2 + nI 1), μ)) (pc' := 29) kX12_plan_27 rfl rfl rf_a0 ?_
      refine ok_V (As := [.int (nI 2)]) (b := 94) (st := []) mkX12_finds qX12_plan_29 rfl (rc_94) rfl rfl rfl rfl (Nat.le_of_ble_eq_true rfl) (m_finds (k := 2) (by decide)) ?_
      refine ok_reti eX12_plan_32 rfl ?_
      exact ⟨rfl, _, rfl, hJ.err (k := 2) (by decide)⟩
  · refine ok_step (ps := []) (L' := [some (.ref 0), some (.int n0)]) (st' := [.int (-1000000001), .ref 0]) (σ' := (α, μ)) (pc' := 12) kX11_plan_9 rfl rfl rf_a0 ?_
    refine ok_V (As := [.int (-1000000001)]) (b := 0) (st := []) mkX11_error qX11_plan_12 rfl (rc_0) rfl rfl rfl rfl (Nat.le_of_ble_eq_true rfl) (c_error (k := 1) (by decide) (by decide) (by decide)) ?_
    refine ok_reti eX11_plan_15 rfl ?_
    refine ⟨rfl, _, rfl, ?_⟩
    refine ok_step (ps := []) (L' := [some (.ref 94), some (.int n0), none]) (st' := [.long (lN 5), .long (lN 1), .long n0.toInt64]) (σ' := (rf_w α 93 1 (α 93 1 + nI 1), μ)) (pc' := 6) kX12_plan_0 rfl rfl rf_a0 ?_
    refine ok_S (As := [.long n0.toInt64, .long (lN 1), .long (lN 5)]) (st := []) mkX12_in qX12_plan_6 rfl rfl rfl rfl rfl (Nat.le_of_ble_eq_true rfl) (m_in) ?_
    rw [show wl n0.toInt64 (lN 1) (lN 5) = wi n0 (nI 1) (nI 5) from wl_of rfl (nI_l (by decide)).symm (nI_l (by decide)).symm]
    refine ok_if_ne bX12_plan_9 (fun g9 => absurd (h6) g9) (fun _ => ?_)
    refine ok_step (ps := []) (L' := [some (.ref 94), some (.int n0), none]) (st' := [.int (nI 1), .ref 94]) (σ' := (rf_w α 93 1 (α 93 1 + nI 1), μ)) (pc' := 14) kX12_plan_12 rfl rfl rf_a0 ?_
    refine ok_V (As := [.int (nI 1)]) (b := 94) (st := []) mkX12_finds qX12_plan_14 rfl (rc_94) rfl rfl rfl rfl (Nat.le_of_ble_eq_true rfl) (m_finds (k := 1) (by decide)) ?_
    refine ok_reti eX12_plan_17 rfl ?_
    exact ⟨rfl, _, rfl, hJ.err (k := 1) (by decide)⟩
end H70
