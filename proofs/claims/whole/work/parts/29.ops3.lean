theorem dft {x : Int32} {n : Nat} (h : x.toInt < 0 ∨ (n : Int) < x.toInt) (hn : n < 1000) : bI (wi x (nI 0) (nI n)) = 0 := by
  rw [bI_0]
  cases e : wi x (nI 0) (nI n) with
  | false => rfl
  | true =>
    obtain ⟨k, -, h3, rfl⟩ := wi_of e (by omega) (by omega)
    rw [nI_toInt (by omega)] at h
    omega
def sumN (f : Nat → Nat) : Nat → Nat
  | 0 => 0
  | n + 1 => sumN f n + f n
def sumL (f : Nat → Int64) : Nat → Int64
  | 0 => 0
  | n + 1 => sumL f n + f n
theorem sumN_le {f : Nat → Nat} {b : Nat} : ∀ {n : Nat}, (∀ i, i < n → f i ≤ b) → sumN f n ≤ n * b
  | 0, _ => by simp [sumN]
  | n + 1, h => by
    have h1 := sumN_le (f := f) (n := n) (fun i hi => h i (by omega))
    have h2 := h n (by omega)
    rw [sumN, Nat.succ_mul]
    omega
theorem sumI_nat {f : Nat → Int32} {g : Nat → Nat} : ∀ {n : Nat}, (∀ i, i < n → f i = nI (g i)) → sumI f n = nI (sumN g n)
  | 0, _ => rfl
  | n + 1, h => by rw [sumI, sumN, sumI_nat (fun i hi => h i (by omega)), h n (by omega), nI_add]
theorem sumL_nat {f : Nat → Int64} {g : Nat → Nat} : ∀ {n : Nat}, (∀ i, i < n → f i = lN (g i)) → sumL f n = lN (sumN g n)
  | 0, _ => rfl
  | n + 1, h => by rw [sumL, sumN, sumL_nat (fun i hi => h i (by omega)), h n (by omega), lN_add]
theorem sumN_congr {f g : Nat → Nat} : ∀ {n : Nat}, (∀ i, i < n → f i = g i) → sumN f n = sumN g n
  | 0, _ => rfl
  | n + 1, h => by rw [sumN, sumN, sumN_congr (fun i hi => h i (by omega)), h n (by omega)]
def f_of (d : Nat → Int32) (x : Int32) : Nat → Int32 := fun k => if d (340 + 3 * k) = x then nI 1 else nI 0
def s_of (d : Nat → Int32) (x : Int32) : Int32 := sumI (f_of d x) (cn d 6)
/-- the RIGHT numbers of the first n FINDS -/
def f_rt (d : Nat → Int32) : Nat → Nat := fun k => cn d (342 + 3 * k)
def s_av (d : Nat → Int32) : Int32 := nI (sumN (f_rt d) (cn d 6) / cn d 6)
/-- a KIND is another one, or under it -/
def und (k o : Nat) : Bool := match k with
  | 0 => decide (o = 0)
  | 1 => decide (o = 1) || decide (o = 0)
  | 2 => decide (o = 2) || decide (o = 0)
  | 3 => decide (o = 3) || decide (o = 2) || decide (o = 0)
  | 4 => decide (o = 4) || decide (o = 2) || decide (o = 0)
  | 5 => decide (o = 5) || decide (o = 0)
  | 6 => decide (o = 6) || decide (o = 1) || decide (o = 0)
  | _ => decide (o = 7) || decide (o = 5) || decide (o = 0)
section H29
variable {Ln : Nat} {xs : Nat → Int32} {α μ : Nat → Nat → Int32}
theorem c_of_l {x : Int32} (hR : Rl 1 α (μ 95)) (hI : Iv (μ 95)) : ∀ (j i : Nat), i + j = cn (μ 95) 6 → rf_Ok (rf_T Ln xs) MX1_findsOf 1 4 [some (.ref 22), some (.int x), some (.int (sumI (f_of (μ 95) x) i)), some (.int (nI i))] [] (α, μ) (fun r s => r = some (.int (s_of (μ 95) x)) ∧ s = (α, μ)) := by
  have b6 := hI.le6
  intro j
  induction j with
  | zero =>
    intro i hj
    have hj : i = cn (μ 95) 6 := by omega
    refine ok_step (ps := []) (L' := [some (.ref 22), some (.int x), some (.int (sumI (f_of (μ 95) x) i)), some (.int (nI i))]) (st' := [.int (α 22 3), .int (nI i)]) (σ' := (α, μ)) (pc' := 9) kX1_findsOf_4 rfl rfl rf_a0 ?_
    try rw [(show α 22 3 = μ 95 6 from hR 21 3 6 rfl)]
    refine ok_icmp_ge bX1_findsOf_9 (fun _ => ?_) (fun h9 => absurd (le_of hI.at6 (by omega) (by omega)) h9)
    refine ok_step (ps := []) (L' := [some (.ref 22), some (.int x), some (.int (sumI (f_of (μ 95) x) i)), some (.int (nI i))]) (st' := [.int (sumI (f_of (μ 95) x) i)]) (σ' := (α, μ)) (pc' := 32) kX1_findsOf_31 rfl rfl rf_a0 ?_
    refine ok_reti eX1_findsOf_32 rfl ?_
    exact ⟨by rw [hj]; rfl, rfl⟩
  | succ j ih =>
    intro i hj
    refine ok_step (ps := []) (L' := [some (.ref 22), some (.int x), some (.int (sumI (f_of (μ 95) x) i)), some (.int (nI i))]) (st' := [.int (α 22 3), .int (nI i)]) (σ' := (α, μ)) (pc' := 9) kX1_findsOf_4 rfl rfl rf_a0 ?_
    try rw [(show α 22 3 = μ 95 6 from hR 21 3 6 rfl)]
    refine ok_icmp_ge bX1_findsOf_9 (fun h9 => absurd h9 (nle_of hI.at6 (by omega) (by omega))) (fun _ => ?_)
    refine ok_step (ps := [rf_in (nI i) 60]) (L' := [some (.ref 22), some (.int x), some (.int (sumI (f_of (μ 95) x) i)), some (.int (nI i))]) (st' := [.int x, .int (α 23 ((nI i).toNatClampNeg))]) (σ' := (α, μ)) (pc' := 19) kX1_findsOf_12 rfl rfl (rf_a1 (rf_in_n (a := i) rfl (by omega)) rf_a0) ?_
    try rw [(show (nI i).toNatClampNeg = i from rf_cl_n rfl (by omega))]
    try rw [(show α 23 i = μ 95 (340 + 3 * i) from rl_22 hR (i := i) (by omega) (by omega))]
    refine ok_icmp_ne bX1_findsOf_19 (fun h19 => ?_) (fun h19 => ?_)
    · refine ok_step (ps := []) (L' := [some (.ref 22), some (.int x), some (.int (sumI (f_of (μ 95) x) i)), some (.int ((nI i) + (nI 1)))]) (st' := []) (σ' := (α, μ)) (pc' := 28) kX1_findsOf_25 rfl rfl rf_a0 ?_
      try rw [(show ((nI i) + (nI 1)) = nI (i + 1) from nI_add _ _)]
      refine ok_goto bX1_findsOf_28 ?_
      have e : sumI (f_of (μ 95) x) i = sumI (f_of (μ 95) x) (i + 1) := by simp_all [sumI, f_of, nI_0]
      rw [e]
      exact ih (i + 1) (by omega)
    · refine ok_step (ps := []) (L' := [some (.ref 22), some (.int x), some (.int ((sumI (f_of (μ 95) x) i) + (nI 1))), some (.int (nI i))]) (st' := []) (σ' := (α, μ)) (pc' := 25) kX1_findsOf_22 rfl rfl rf_a0 ?_
      refine ok_step (ps := []) (L' := [some (.ref 22), some (.int x), some (.int ((sumI (f_of (μ 95) x) i) + (nI 1))), some (.int ((nI i) + (nI 1)))]) (st' := []) (σ' := (α, μ)) (pc' := 28) kX1_findsOf_25 rfl rfl rf_a0 ?_
      try rw [(show ((nI i) + (nI 1)) = nI (i + 1) from nI_add _ _)]
      refine ok_goto bX1_findsOf_28 ?_
      have e : ((sumI (f_of (μ 95) x) i) + (nI 1)) = sumI (f_of (μ 95) x) (i + 1) := by simp_all [sumI, f_of, nI_0]
      rw [e]
      exact ih (i + 1) (by omega)
theorem c_of {x : Int32} (hR : Rl 1 α (μ 95)) (hI : Iv (μ 95)) : rf_At (rf_T Ln xs) MX1_findsOf 1 0 ([some (.ref 22), some (.int x), none, none], [], 108, (α, μ)) (some (.int (s_of (μ 95) x))) 108 (α, μ) := by
  refine rf_pa ?_
  refine ok_step (ps := []) (L' := [some (.ref 22), some (.int x), some (.int (nI 0)), some (.int (nI 0))]) (st' := []) (σ' := (α, μ)) (pc' := 4) kX1_findsOf_0 rfl rfl rf_a0 ?_
  exact c_of_l hR hI (cn (μ 95) 6) 0 (by omega)
theorem m_of_l {x : Int32} (hI : Iv (μ 95)) : ∀ (j i : Nat), i + j = cn (μ 95) 6 → rf_Ok (rf_T Ln xs) MX12_findsOf 1 4 [some (.ref 94), some (.int x), some (.int (sumI (f_of (μ 95) x) i)), some (.int (nI i))] [] (α, μ) (fun r s => r = some (.int (s_of (μ 95) x)) ∧ s = (α, μ)) := by
  have b6 := hI.le6
  intro j
  induction j with
  | zero =>
    intro i hj
    have hj : i = cn (μ 95) 6 := by omega
    refine ok_step (ps := [rf_in (nI 6) 700]) (L' := [some (.ref 94), some (.int x), some (.int (sumI (f_of (μ 95) x) i)), some (.int (nI i))]) (st' := [.int (μ 95 ((nI 6).toNatClampNeg)), .int (nI i)]) (σ' := (α, μ)) (pc' := 12) kX12_findsOf_4 rfl rfl (rf_a1 (rf_in_n (a := 6) rfl (by omega)) rf_a0) ?_
    try rw [(show (nI 6).toNatClampNeg = 6 from rf_cl_n rfl (by omega))]
    refine ok_icmp_ge bX12_findsOf_12 (fun _ => ?_) (fun h12 => absurd (le_of hI.at6 (by omega) (by omega)) h12)
    refine ok_step (ps := []) (L' := [some (.ref 94), some (.int x), some (.int (sumI (f_of (μ 95) x) i)), some (.int (nI i))]) (st' := [.int (sumI (f_of (μ 95) x) i)]) (σ' := (α, μ)) (pc' := 46) kX12_findsOf_45 rfl rfl rf_a0 ?_
    refine ok_reti eX12_findsOf_46 rfl ?_
    exact ⟨by rw [hj]; rfl, rfl⟩
  | succ j ih =>
    intro i hj
    refine ok_step (ps := [rf_in (nI 6) 700]) (L' := [some (.ref 94), some (.int x), some (.int (sumI (f_of (μ 95) x) i)), some (.int (nI i))]) (st' := [.int (μ 95 ((nI 6).toNatClampNeg)), .int (nI i)]) (σ' := (α, μ)) (pc' := 12) kX12_findsOf_4 rfl rfl (rf_a1 (rf_in_n (a := 6) rfl (by omega)) rf_a0) ?_
    try rw [(show (nI 6).toNatClampNeg = 6 from rf_cl_n rfl (by omega))]
    refine ok_icmp_ge bX12_findsOf_12 (fun h12 => absurd h12 (nle_of hI.at6 (by omega) (by omega))) (fun _ => ?_)
    refine ok_step (ps := [rf_in ((nI 340) + ((nI 3) * (nI i))) 700]) (L' := [some (.ref 94), some (.int x), some (.int (sumI (f_of (μ 95) x) i)), some (.int (nI i))]) (st' := [.int x, .int (μ 95 (((nI 340) + ((nI 3) * (nI i))).toNatClampNeg)), .int (sumI (f_of (μ 95) x) i)]) (σ' := (α, μ)) (pc' := 29) kX12_findsOf_15 rfl rfl (rf_a1 (rf_in_n (a := (340 + 3 * i)) (by (try rw [(show ((nI 3) * (nI i)) = nI (3 * i) from rf_eq (rf_nmul (x := nI 3) (y := nI i) rfl rfl) (by omega))]); (try rw [(show ((nI 340) + (nI (3 * i))) = nI (340 + 3 * i) from rf_eq (rf_nadd (x := nI 340) (y := nI (3 * i)) rfl rfl) (by omega))]); all_goals exact rfl) (by omega)) rf_a0) ?_
    try rw [(show ((nI 3) * (nI i)) = nI (3 * i) from rf_eq (rf_nmul (x := nI 3) (y := nI i) rfl rfl) (by omega))]
    try rw [(show ((nI 340) + (nI (3 * i))) = nI (340 + 3 * i) from rf_eq (rf_nadd (x := nI 340) (y := nI (3 * i)) rfl rfl) (by omega))]
    try rw [(show (nI (340 + 3 * i)).toNatClampNeg = (340 + 3 * i) from rf_cl_n rfl (by omega))]
    refine ok_icmp_ne bX12_findsOf_29 (fun h29 => ?_) (fun h29 => ?_)
    · refine ok_step (ps := []) (L' := [some (.ref 94), some (.int x), some (.int (sumI (f_of (μ 95) x) i)), some (.int (nI i))]) (st' := [.int (nI 0), .int (sumI (f_of (μ 95) x) i)]) (σ' := (α, μ)) (pc' := 37) kX12_findsOf_36 rfl rfl rf_a0 ?_
      refine ok_step (ps := []) (L' := [some (.ref 94), some (.int x), some (.int ((sumI (f_of (μ 95) x) i) + (nI 0))), some (.int ((nI i) + (nI 1)))]) (st' := []) (σ' := (α, μ)) (pc' := 42) kX12_findsOf_37 rfl rfl rf_a0 ?_
      try rw [(show ((nI i) + (nI 1)) = nI (i + 1) from nI_add _ _)]
      refine ok_goto bX12_findsOf_42 ?_
      have e : ((sumI (f_of (μ 95) x) i) + (nI 0)) = sumI (f_of (μ 95) x) (i + 1) := by simp_all [sumI, f_of, nI_0]
      rw [e]
      exact ih (i + 1) (by omega)
    · refine ok_step (ps := []) (L' := [some (.ref 94), some (.int x), some (.int (sumI (f_of (μ 95) x) i)), some (.int (nI i))]) (st' := [.int (nI 1), .int (sumI (f_of (μ 95) x) i)]) (σ' := (α, μ)) (pc' := 33) kX12_findsOf_32 rfl rfl rf_a0 ?_
      refine ok_goto bX12_findsOf_33 ?_
      refine ok_step (ps := []) (L' := [some (.ref 94), some (.int x), some (.int ((sumI (f_of (μ 95) x) i) + (nI 1))), some (.int ((nI i) + (nI 1)))]) (st' := []) (σ' := (α, μ)) (pc' := 42) kX12_findsOf_37 rfl rfl rf_a0 ?_
      try rw [(show ((nI i) + (nI 1)) = nI (i + 1) from nI_add _ _)]
      refine ok_goto bX12_findsOf_42 ?_
      have e : ((sumI (f_of (μ 95) x) i) + (nI 1)) = sumI (f_of (μ 95) x) (i + 1) := by simp_all [sumI, f_of, nI_0]
      rw [e]
      exact ih (i + 1) (by omega)
theorem m_of {x : Int32} (hI : Iv (μ 95)) : rf_At (rf_T Ln xs) MX12_findsOf 1 0 ([some (.ref 94), some (.int x), none, none], [], 108, (α, μ)) (some (.int (s_of (μ 95) x))) 108 (α, μ) := by
  refine rf_pa ?_
  refine ok_step (ps := []) (L' := [some (.ref 94), some (.int x), some (.int (nI 0)), some (.int (nI 0))]) (st' := []) (σ' := (α, μ)) (pc' := 4) kX12_findsOf_0 rfl rfl rf_a0 ?_
  exact m_of_l hI (cn (μ 95) 6) 0 (by omega)
theorem op_ofShift {shift : Int32} {what : Int32} (hJ : J α μ)  : Op (rf_T Ln xs) MX11_ofShift MX12_ofShift [some (.ref 0), some (.int shift), some (.int what)] [some (.ref 94), some (.int shift), some (.int what)] α μ := by
  have hR := hJ.1.1.1
  have hI := hJ.2
  have b0 := hI.le0
  have b1 := hI.le1
  have b2 := hI.le2
  have b3 := hI.le3
  have b4 := hI.le4
  have b5 := hI.le5
  have b6 := hI.le6
  have b8 := hI.le8
  have b9 := hI.le9
  have b11 := hI.le11
  have b12 := hI.le12
  refine ok_step (ps := []) (L' := [some (.ref 0), some (.int shift), some (.int what)]) (st' := [.int shift, .ref 0]) (σ' := (α, μ)) (pc' := 2) kX11_ofShift_0 rfl rfl rf_a0 ?_
  refine ok_V (As := [.int shift]) (b := 0) (st := []) mkX11_isShift qX11_ofShift_2 rfl (rc_0) rfl rfl rfl rfl (Nat.le_of_ble_eq_true rfl) (c_isShift hR) ?_
  refine ok_if_ne bX11_ofShift_5 (fun h5 => ?_) (fun h5 => ?_)
  · obtain ⟨s, hs, rfl⟩ := wi_lt (bI_n0.mp h5) hI.at5 (by omega)
    refine ok_step (ps := []) (L' := [some (.ref 0), some (.int (nI s)), some (.int what)]) (st' := [.int what]) (σ' := (α, μ)) (pc' := 16) kX11_ofShift_15 rfl rfl rf_a0 ?_
    refine ok_table bX11_ofShift_16 (fun h16 => ?_) (fun i t ht h16 => ?_)
    · refine ok_step (ps := []) (L' := [some (.ref 0), some (.int (nI s)), some (.int what)]) (st' := [.int (-1000000001), .ref 0]) (σ' := (α, μ)) (pc' := 85) kX11_ofShift_82 rfl rfl rf_a0 ?_
      refine ok_V (As := [.int (-1000000001)]) (b := 0) (st := []) mkX11_error qX11_ofShift_85 rfl (rc_0) rfl rfl rfl rfl (Nat.le_of_ble_eq_true rfl) (c_error (k := 1) (by decide) (by decide) (by decide)) ?_
      refine ok_reti eX11_ofShift_88 rfl ?_
      refine ⟨rfl, _, rfl, ?_⟩
      refine ok_step (ps := []) (L' := [some (.ref 94), some (.int (nI s)), some (.int what)]) (st' := [.int (nI s), .ref 94]) (σ' := (rf_w α 93 1 (α 93 1 + nI 1), μ)) (pc' := 2) kX12_ofShift_0 rfl rfl rf_a0 ?_
      refine ok_V (As := [.int (nI s)]) (b := 94) (st := []) mkX12_isShift qX12_ofShift_2 rfl (rc_94) rfl rfl rfl rfl (Nat.le_of_ble_eq_true rfl) (m_isShift) ?_
      refine ok_if_eq bX12_ofShift_5 (fun g5 => absurd g5 (h5)) (fun _ => ?_)
      refine ok_step (ps := []) (L' := [some (.ref 94), some (.int (nI s)), some (.int what)]) (st' := [.long (lN 2), .long (lN 0), .long what.toInt64]) (σ' := (rf_w α 93 1 (α 93 1 + nI 1), μ)) (pc' := 14) kX12_ofShift_8 rfl rfl rf_a0 ?_
      refine ok_S (As := [.long what.toInt64, .long (lN 0), .long (lN 2)]) (st := []) mkX12_in qX12_ofShift_14 rfl rfl rfl rfl rfl (Nat.le_of_ble_eq_true rfl) (m_in) ?_
      rw [show wl what.toInt64 (lN 0) (lN 2) = wi what (nI 0) (nI 2) from wl_of rfl (nI_l (by decide)).symm (nI_l (by decide)).symm]
      refine ok_if_ne bX12_ofShift_17 (fun g17 => absurd (dft (n := 2) (by omega) (by decide)) g17) (fun _ => ?_)
      refine ok_step (ps := []) (L' := [some (.ref 94), some (.int (nI s)), some (.int what)]) (st' := [.int (nI 1), .ref 94]) (σ' := (rf_w α 93 1 (α 93 1 + nI 1), μ)) (pc' := 22) kX12_ofShift_20 rfl rfl rf_a0 ?_
      refine ok_V (As := [.int (nI 1)]) (b := 94) (st := []) mkX12_finds qX12_ofShift_22 rfl (rc_94) rfl rfl rfl rfl (Nat.le_of_ble_eq_true rfl) (m_finds (k := 1) (by decide)) ?_
      refine ok_reti eX12_ofShift_25 rfl ?_
      exact ⟨rfl, _, rfl, hJ.err (k := 1) (by decide)⟩
    · match i, ht, h16 with
      | 0, ht, h16 =>
        cases ht
        obtain rfl : what = nI 0 := sw_eq (n := 0) (by omega) (by decide)
        refine ok_step (ps := [rf_in (nI s) 8]) (L' := [some (.ref 0), some (.int (nI s)), some (.int (nI 0))]) (st' := [.int (α 20 ((nI s).toNatClampNeg))]) (σ' := (α, μ)) (pc' := 56) kX11_ofShift_44 rfl rfl (rf_a1 (rf_in_n (a := s) rfl (by omega)) rf_a0) ?_
        try rw [(show (nI s).toNatClampNeg = s from rf_cl_n rfl (by omega))]
        try rw [(show α 20 s = μ 95 (320 + s) from rl_19 hR (i := s) (by omega) (by omega))]
        refine ok_reti eX11_ofShift_56 rfl ?_
        refine ⟨rfl, _, rfl, ?_⟩
        refine ok_step (ps := []) (L' := [some (.ref 94), some (.int (nI s)), some (.int (nI 0))]) (st' := [.int (nI s), .ref 94]) (σ' := (α, μ)) (pc' := 2) kX12_ofShift_0 rfl rfl rf_a0 ?_
        refine ok_V (As := [.int (nI s)]) (b := 94) (st := []) mkX12_isShift qX12_ofShift_2 rfl (rc_94) rfl rfl rfl rfl (Nat.le_of_ble_eq_true rfl) (m_isShift) ?_
        refine ok_if_eq bX12_ofShift_5 (fun g5 => absurd g5 (h5)) (fun _ => ?_)
        refine ok_step (ps := []) (L' := [some (.ref 94), some (.int (nI s)), some (.int (nI 0))]) (st' := [.long (lN 2), .long (lN 0), .long ((nI 0).toInt64)]) (σ' := (α, μ)) (pc' := 14) kX12_ofShift_8 rfl rfl rf_a0 ?_
        refine ok_S (As := [.long ((nI 0).toInt64), .long (lN 0), .long (lN 2)]) (st := []) mkX12_in qX12_ofShift_14 rfl rfl rfl rfl rfl (Nat.le_of_ble_eq_true rfl) (m_in) ?_
        rw [show wl ((nI 0).toInt64) (lN 0) (lN 2) = wi (nI 0) (nI 0) (nI 2) from wl_of rfl (nI_l (by decide)).symm (nI_l (by decide)).symm, show bI (wi (nI 0) (nI 0) (nI 2)) = nI 1 from rfl]
        refine ok_if_ne bX12_ofShift_17 (fun _ => ?_) (fun g17 => absurd g17 ((by decide)))
        refine ok_step (ps := []) (L' := [some (.ref 94), some (.int (nI s)), some (.int (nI 0))]) (st' := [.int (nI 0)]) (σ' := (α, μ)) (pc' := 27) kX12_ofShift_26 rfl rfl rf_a0 ?_
        refine ok_if_ne bX12_ofShift_27 (fun g27 => absurd ((by decide)) g27) (fun _ => ?_)
        refine ok_step (ps := [rf_in ((nI 320) + (nI s)) 700]) (L' := [some (.ref 94), some (.int (nI s)), some (.int (nI 0))]) (st' := [.int (μ 95 (((nI 320) + (nI s)).toNatClampNeg))]) (σ' := (α, μ)) (pc' := 40) kX12_ofShift_30 rfl rfl (rf_a1 (rf_in_n (a := (320 + s)) (by (try rw [(show ((nI 320) + (nI s)) = nI (320 + s) from rf_eq (rf_nadd (x := nI 320) (y := nI s) rfl rfl) (by omega))]); all_goals exact rfl) (by omega)) rf_a0) ?_
        try rw [(show ((nI 320) + (nI s)) = nI (320 + s) from rf_eq (rf_nadd (x := nI 320) (y := nI s) rfl rfl) (by omega))]
        try rw [(show (nI (320 + s)).toNatClampNeg = (320 + s) from rf_cl_n rfl (by omega))]
        refine ok_goto bX12_ofShift_40 ?_
        refine ok_reti eX12_ofShift_66 rfl ?_
        exact ⟨rfl, _, rfl, hJ⟩
      | 1, ht, h16 =>
        cases ht
        obtain rfl : what = nI 1 := sw_eq (n := 1) (by omega) (by decide)
        refine ok_step (ps := [rf_in (nI s) 8]) (L' := [some (.ref 0), some (.int (nI s)), some (.int (nI 1))]) (st' := [.int (α 21 ((nI s).toNatClampNeg))]) (σ' := (α, μ)) (pc' := 69) kX11_ofShift_57 rfl rfl (rf_a1 (rf_in_n (a := s) rfl (by omega)) rf_a0) ?_
        try rw [(show (nI s).toNatClampNeg = s from rf_cl_n rfl (by omega))]
        try rw [(show α 21 s = μ 95 (330 + s) from rl_20 hR (i := s) (by omega) (by omega))]
        refine ok_reti eX11_ofShift_69 rfl ?_
        refine ⟨rfl, _, rfl, ?_⟩
        refine ok_step (ps := []) (L' := [some (.ref 94), some (.int (nI s)), some (.int (nI 1))]) (st' := [.int (nI s), .ref 94]) (σ' := (α, μ)) (pc' := 2) kX12_ofShift_0 rfl rfl rf_a0 ?_
        refine ok_V (As := [.int (nI s)]) (b := 94) (st := []) mkX12_isShift qX12_ofShift_2 rfl (rc_94) rfl rfl rfl rfl (Nat.le_of_ble_eq_true rfl) (m_isShift) ?_
        refine ok_if_eq bX12_ofShift_5 (fun g5 => absurd g5 (h5)) (fun _ => ?_)
        refine ok_step (ps := []) (L' := [some (.ref 94), some (.int (nI s)), some (.int (nI 1))]) (st' := [.long (lN 2), .long (lN 0), .long ((nI 1).toInt64)]) (σ' := (α, μ)) (pc' := 14) kX12_ofShift_8 rfl rfl rf_a0 ?_
        refine ok_S (As := [.long ((nI 1).toInt64), .long (lN 0), .long (lN 2)]) (st := []) mkX12_in qX12_ofShift_14 rfl rfl rfl rfl rfl (Nat.le_of_ble_eq_true rfl) (m_in) ?_
        rw [show wl ((nI 1).toInt64) (lN 0) (lN 2) = wi (nI 1) (nI 0) (nI 2) from wl_of rfl (nI_l (by decide)).symm (nI_l (by decide)).symm, show bI (wi (nI 1) (nI 0) (nI 2)) = nI 1 from rfl]
        refine ok_if_ne bX12_ofShift_17 (fun _ => ?_) (fun g17 => absurd g17 ((by decide)))
        refine ok_step (ps := []) (L' := [some (.ref 94), some (.int (nI s)), some (.int (nI 1))]) (st' := [.int (nI 1)]) (σ' := (α, μ)) (pc' := 27) kX12_ofShift_26 rfl rfl rf_a0 ?_
        refine ok_if_ne bX12_ofShift_27 (fun _ => ?_) (fun g27 => absurd g27 ((by decide)))
        refine ok_step (ps := []) (L' := [some (.ref 94), some (.int (nI s)), some (.int (nI 1))]) (st' := [.int (nI 1), .int (nI 1)]) (σ' := (α, μ)) (pc' := 45) kX12_ofShift_43 rfl rfl rf_a0 ?_
        refine ok_icmp_ne bX12_ofShift_45 (fun g45 => absurd ((by decide)) g45) (fun _ => ?_)
        refine ok_step (ps := [rf_in ((nI 330) + (nI s)) 700]) (L' := [some (.ref 94), some (.int (nI s)), some (.int (nI 1))]) (st' := [.int (μ 95 (((nI 330) + (nI s)).toNatClampNeg))]) (σ' := (α, μ)) (pc' := 58) kX12_ofShift_48 rfl rfl (rf_a1 (rf_in_n (a := (330 + s)) (by (try rw [(show ((nI 330) + (nI s)) = nI (330 + s) from rf_eq (rf_nadd (x := nI 330) (y := nI s) rfl rfl) (by omega))]); all_goals exact rfl) (by omega)) rf_a0) ?_
        try rw [(show ((nI 330) + (nI s)) = nI (330 + s) from rf_eq (rf_nadd (x := nI 330) (y := nI s) rfl rfl) (by omega))]
        try rw [(show (nI (330 + s)).toNatClampNeg = (330 + s) from rf_cl_n rfl (by omega))]
        refine ok_goto bX12_ofShift_58 ?_
        refine ok_reti eX12_ofShift_66 rfl ?_
        exact ⟨rfl, _, rfl, hJ⟩
      | 2, ht, h16 =>
        cases ht
        obtain rfl : what = nI 2 := sw_eq (n := 2) (by omega) (by decide)
        refine ok_step (ps := []) (L' := [some (.ref 0), some (.int (nI s)), some (.int (nI 2))]) (st' := [.int (nI s), .ref 22]) (σ' := (α, μ)) (pc' := 78) kX11_ofShift_70 rfl rfl rf_a0 ?_
        refine ok_V (As := [.int (nI s)]) (b := 22) (st := []) mkX1_findsOf qX11_ofShift_78 rfl (rc_22) rfl rfl rfl rfl (Nat.le_of_ble_eq_true rfl) (c_of hR hI) ?_
        refine ok_reti eX11_ofShift_81 rfl ?_
        refine ⟨rfl, _, rfl, ?_⟩
        refine ok_step (ps := []) (L' := [some (.ref 94), some (.int (nI s)), some (.int (nI 2))]) (st' := [.int (nI s), .ref 94]) (σ' := (α, μ)) (pc' := 2) kX12_ofShift_0 rfl rfl rf_a0 ?_
        refine ok_V (As := [.int (nI s)]) (b := 94) (st := []) mkX12_isShift qX12_ofShift_2 rfl (rc_94) rfl rfl rfl rfl (Nat.le_of_ble_eq_true rfl) (m_isShift) ?_
        refine ok_if_eq bX12_ofShift_5 (fun g5 => absurd g5 (h5)) (fun _ => ?_)
        refine ok_step (ps := []) (L' := [some (.ref 94), some (.int (nI s)), some (.int (nI 2))]) (st' := [.long (lN 2), .long (lN 0), .long ((nI 2).toInt64)]) (σ' := (α, μ)) (pc' := 14) kX12_ofShift_8 rfl rfl rf_a0 ?_
        refine ok_S (As := [.long ((nI 2).toInt64), .long (lN 0), .long (lN 2)]) (st := []) mkX12_in qX12_ofShift_14 rfl rfl rfl rfl rfl (Nat.le_of_ble_eq_true rfl) (m_in) ?_
        rw [show wl ((nI 2).toInt64) (lN 0) (lN 2) = wi (nI 2) (nI 0) (nI 2) from wl_of rfl (nI_l (by decide)).symm (nI_l (by decide)).symm, show bI (wi (nI 2) (nI 0) (nI 2)) = nI 1 from rfl]
        refine ok_if_ne bX12_ofShift_17 (fun _ => ?_) (fun g17 => absurd g17 ((by decide)))
        refine ok_step (ps := []) (L' := [some (.ref 94), some (.int (nI s)), some (.int (nI 2))]) (st' := [.int (nI 2)]) (σ' := (α, μ)) (pc' := 27) kX12_ofShift_26 rfl rfl rf_a0 ?_
        refine ok_if_ne bX12_ofShift_27 (fun _ => ?_) (fun g27 => absurd g27 ((by decide)))
        refine ok_step (ps := []) (L' := [some (.ref 94), some (.int (nI s)), some (.int (nI 2))]) (st' := [.int (nI 1), .int (nI 2)]) (σ' := (α, μ)) (pc' := 45) kX12_ofShift_43 rfl rfl rf_a0 ?_
        refine ok_icmp_ne bX12_ofShift_45 (fun _ => ?_) (fun g45 => absurd g45 ((by decide)))
        refine ok_step (ps := []) (L' := [some (.ref 94), some (.int (nI s)), some (.int (nI 2))]) (st' := [.int (nI s), .ref 94]) (σ' := (α, μ)) (pc' := 63) kX12_ofShift_61 rfl rfl rf_a0 ?_
        refine ok_V (As := [.int (nI s)]) (b := 94) (st := []) mkX12_findsOf qX12_ofShift_63 rfl (rc_94) rfl rfl rfl rfl (Nat.le_of_ble_eq_true rfl) (m_of hI) ?_
        refine ok_reti eX12_ofShift_66 rfl ?_
        exact ⟨rfl, _, rfl, hJ⟩
      | i + 3, ht, _ => simp at ht
  · refine ok_step (ps := []) (L' := [some (.ref 0), some (.int shift), some (.int what)]) (st' := [.int (-1000000001), .ref 0]) (σ' := (α, μ)) (pc' := 11) kX11_ofShift_8 rfl rfl rf_a0 ?_
    refine ok_V (As := [.int (-1000000001)]) (b := 0) (st := []) mkX11_error qX11_ofShift_11 rfl (rc_0) rfl rfl rfl rfl (Nat.le_of_ble_eq_true rfl) (c_error (k := 1) (by decide) (by decide) (by decide)) ?_
    refine ok_reti eX11_ofShift_14 rfl ?_
    refine ⟨rfl, _, rfl, ?_⟩
    refine ok_step (ps := []) (L' := [some (.ref 94), some (.int shift), some (.int what)]) (st' := [.int shift, .ref 94]) (σ' := (rf_w α 93 1 (α 93 1 + nI 1), μ)) (pc' := 2) kX12_ofShift_0 rfl rfl rf_a0 ?_
    refine ok_V (As := [.int shift]) (b := 94) (st := []) mkX12_isShift qX12_ofShift_2 rfl (rc_94) rfl rfl rfl rfl (Nat.le_of_ble_eq_true rfl) (m_isShift) ?_
    refine ok_if_eq bX12_ofShift_5 (fun _ => ?_) (fun g5 => absurd (h5) g5)
    refine ok_step (ps := []) (L' := [some (.ref 94), some (.int shift), some (.int what)]) (st' := [.int (nI 1), .ref 94]) (σ' := (rf_w α 93 1 (α 93 1 + nI 1), μ)) (pc' := 22) kX12_ofShift_20 rfl rfl rf_a0 ?_
    refine ok_V (As := [.int (nI 1)]) (b := 94) (st := []) mkX12_finds qX12_ofShift_22 rfl (rc_94) rfl rfl rfl rfl (Nat.le_of_ble_eq_true rfl) (m_finds (k := 1) (by decide)) ?_
    refine ok_reti eX12_ofShift_25 rfl ?_
    exact ⟨rfl, _, rfl, hJ.err (k := 1) (by decide)⟩
theorem rt_at {d : Nat → Int32} (hI : Iv d) {k : Nat} (hk : k < 60) : d (342 + 3 * k) = nI (f_rt d k) ∧ f_rt d k ≤ 1150848 := ⟨hI.atb (b := 1150848) (bd_342 hk rfl) (by decide), hI.leb (b := 1150848) (bd_342 hk rfl) (by decide)⟩
theorem rt_sum {d : Nat → Int32} (hI : Iv d) {n : Nat} (hn : n ≤ 60) : sumN (f_rt d) n ≤ 69050880 := Nat.le_trans (sumN_le (b := 1150848) (fun i hi => (rt_at hI (by omega)).2)) (by have := Nat.mul_le_mul_right 1150848 hn; omega)
theorem rf_max_1 {n : Nat} (h : 1 ≤ n) (hn : n < 2147483648) : rf_max (nI n) (nI 1) = nI n := by
  unfold rf_max
  rw [if_neg (nI_nlt h (by omega))]
theorem av_c {d : Nat → Int32} (hI : Iv d) {i : Nat} (hj : i = cn d 6) (h0 : 1 ≤ cn d 6) : sumI (fun k => d (342 + 3 * k)) i / rf_max (d 6) (nI 1) = s_av d := by
  have b6 := hI.le6
  rw [hI.at6, rf_max_1 h0 (by omega), sumI_nat (g := f_rt d) (fun k hk => (rt_at hI (by omega)).1), hj]
  have := rt_sum hI b6
  exact pk_div (by omega) (by omega) (by omega)
theorem av_nz {d : Nat → Int32} (hI : Iv d) (h0 : 1 ≤ cn d 6) : rf_nz (rf_max (d 6) (nI 1)) = true := by
  have b6 := hI.le6
  rw [hI.at6, rf_max_1 h0 (by omega)]
  unfold rf_nz
  simp only [decide_eq_true_eq]
  exact nI_ne0 (by omega) (by omega)
theorem av_m {d : Nat → Int32} (hI : Iv d) {i : Nat} (hj : i = cn d 6) (h0 : 1 ≤ cn d 6) : (sumL (fun k => (d (342 + 3 * k)).toInt64) i / (d 6).toInt64).toInt32 = s_av d := by
  have b6 := hI.le6
  have := rt_sum hI b6
  rw [hI.at6, nI_l (by omega), sumL_nat (g := f_rt d) (fun k hk => by rw [(rt_at hI (by omega)).1, nI_l (by have := (rt_at hI (k := k) (by omega)).2; omega)]), hj, pk_lDiv (by omega) (by omega) (by omega), lN_i]
  rfl
theorem av_nzl {d : Nat → Int32} (hI : Iv d) (h0 : 1 ≤ cn d 6) : rf_nzl (d 6).toInt64 = true := by
  have b6 := hI.le6
  rw [hI.at6, nI_l (by omega)]
  unfold rf_nzl
  simp only [decide_eq_true_eq]
  intro e
  have := (pk_lEQ (a := cn d 6) (b := 0) (by omega) (by omega)).mp e
  omega
theorem c_av_l (hR : Rl 1 α (μ 95)) (hI : Iv (μ 95))(h0 : 1 ≤ cn (μ 95) 6) : ∀ (j i : Nat), i + j = cn (μ 95) 6 → rf_Ok (rf_T Ln xs) MX1_meanRight 1 4 [some (.ref 22), some (.int (sumI (fun k => μ 95 (342 + 3 * k)) i)), some (.int (nI i))] [] (α, μ) (fun r s => r = some (.int (s_av (μ 95))) ∧ s = (α, μ)) := by
  have b6 := hI.le6
  intro j
  induction j with
  | zero =>
    intro i hj
    have hj : i = cn (μ 95) 6 := by omega
    refine ok_step (ps := []) (L' := [some (.ref 22), some (.int (sumI (fun k => μ 95 (342 + 3 * k)) i)), some (.int (nI i))]) (st' := [.int (α 22 3), .int (nI i)]) (σ' := (α, μ)) (pc' := 9) kX1_meanRight_4 rfl rfl rf_a0 ?_
    try rw [(show α 22 3 = μ 95 6 from hR 21 3 6 rfl)]
    refine ok_icmp_ge bX1_meanRight_9 (fun _ => ?_) (fun h9 => absurd (le_of hI.at6 (by omega) (by omega)) h9)
    refine ok_step (ps := [rf_nz (rf_max (α 22 3) (nI 1))]) (L' := [some (.ref 22), some (.int (sumI (fun k => μ 95 (342 + 3 * k)) i)), some (.int (nI i))]) (st' := [.int ((sumI (fun k => μ 95 (342 + 3 * k)) i) / (rf_max (α 22 3) (nI 1)))]) (σ' := (α, μ)) (pc' := 37) kX1_meanRight_27 rfl rfl (rf_a1 (by first | exact av_nz hI h0 | (rw [hR 21 3 6 rfl]; exact av_nz hI h0)) rf_a0) ?_
    try rw [(show α 22 3 = μ 95 6 from hR 21 3 6 rfl)]
    refine ok_reti eX1_meanRight_37 rfl ?_
    exact ⟨by rw [av_c hI hj h0], rfl⟩
  | succ j ih =>
    intro i hj
    refine ok_step (ps := []) (L' := [some (.ref 22), some (.int (sumI (fun k => μ 95 (342 + 3 * k)) i)), some (.int (nI i))]) (st' := [.int (α 22 3), .int (nI i)]) (σ' := (α, μ)) (pc' := 9) kX1_meanRight_4 rfl rfl rf_a0 ?_
    try rw [(show α 22 3 = μ 95 6 from hR 21 3 6 rfl)]
    refine ok_icmp_ge bX1_meanRight_9 (fun h9 => absurd h9 (nle_of hI.at6 (by omega) (by omega))) (fun _ => ?_)
    refine ok_step (ps := [rf_in (nI i) 60]) (L' := [some (.ref 22), some (.int ((sumI (fun k => μ 95 (342 + 3 * k)) i) + (α 25 ((nI i).toNatClampNeg)))), some (.int ((nI i) + (nI 1)))]) (st' := []) (σ' := (α, μ)) (pc' := 24) kX1_meanRight_12 rfl rfl (rf_a1 (rf_in_n (a := i) rfl (by omega)) rf_a0) ?_
    try rw [(show (nI i).toNatClampNeg = i from rf_cl_n rfl (by omega))]
    try rw [(show α 25 i = μ 95 (342 + 3 * i) from rl_24 hR (i := i) (by omega) (by omega))]
    try rw [(show ((nI i) + (nI 1)) = nI (i + 1) from nI_add _ _)]
    refine ok_goto bX1_meanRight_24 ?_
    exact ih (i + 1) (by omega)
theorem c_av  (hR : Rl 1 α (μ 95)) (hI : Iv (μ 95))(h0 : 1 ≤ cn (μ 95) 6) : rf_At (rf_T Ln xs) MX1_meanRight 1 0 ([some (.ref 22), none, none], [], 108, (α, μ)) (some (.int (s_av (μ 95)))) 108 (α, μ) := by
  refine rf_pa ?_
  refine ok_step (ps := []) (L' := [some (.ref 22), some (.int (nI 0)), some (.int (nI 0))]) (st' := []) (σ' := (α, μ)) (pc' := 4) kX1_meanRight_0 rfl rfl rf_a0 ?_
  exact c_av_l hR hI h0 (cn (μ 95) 6) 0 (by omega)
theorem cnt_pos {x : Int32} {n : Nat} (h : x = nI n) (h0 : ¬ x = 0) : 1 ≤ n := by
  subst h
  rcases Nat.eq_zero_or_pos n with e | e
  · subst e
    exact absurd rfl h0
  · exact e
theorem m_av_l (hI : Iv (μ 95))(h0 : 1 ≤ cn (μ 95) 6) : ∀ (j i : Nat), i + j = cn (μ 95) 6 → rf_Ok (rf_T Ln xs) MX12_average 1 20 [some (.ref 94), some (.long (sumL (fun k => (μ 95 (342 + 3 * k)).toInt64) i)), none, some (.int (nI i))] [] (α, μ) (fun r2 s2 => r2 = some (.int (s_av (μ 95))) ∧ s2 = (α, μ)) := by
  have b6 := hI.le6
  intro j
  induction j with
  | zero =>
    intro i hj
    have hj : i = cn (μ 95) 6 := by omega
    refine ok_step (ps := [rf_in (nI 6) 700]) (L' := [some (.ref 94), some (.long (sumL (fun k => (μ 95 (342 + 3 * k)).toInt64) i)), none, some (.int (nI i))]) (st' := [.int (μ 95 ((nI 6).toNatClampNeg)), .int (nI i)]) (σ' := (α, μ)) (pc' := 28) kX12_average_20 rfl rfl (rf_a1 (rf_in_n (a := 6) rfl (by omega)) rf_a0) ?_
    try rw [(show (nI 6).toNatClampNeg = 6 from rf_cl_n rfl (by omega))]
    refine ok_icmp_ge bX12_average_28 (fun _ => ?_) (fun h28 => absurd (le_of hI.at6 (by omega) (by omega)) h28)
    refine ok_step (ps := [rf_in (nI 6) 700, rf_nzl ((μ 95 ((nI 6).toNatClampNeg)).toInt64)]) (L' := [some (.ref 94), some (.long (sumL (fun k => (μ 95 (342 + 3 * k)).toInt64) i)), none, some (.int (nI i))]) (st' := [.int (((sumL (fun k => (μ 95 (342 + 3 * k)).toInt64) i) / ((μ 95 ((nI 6).toNatClampNeg)).toInt64)).toInt32)]) (σ' := (α, μ)) (pc' := 66) kX12_average_55 rfl rfl (rf_a1 (rf_in_n (a := 6) rfl (by omega)) (rf_a1 (av_nzl hI h0) rf_a0)) ?_
    try rw [(show (nI 6).toNatClampNeg = 6 from rf_cl_n rfl (by omega))]
    refine ok_reti eX12_average_66 rfl ?_
    exact ⟨by rw [av_m hI hj h0], rfl⟩
  | succ j ih =>
    intro i hj
    refine ok_step (ps := [rf_in (nI 6) 700]) (L' := [some (.ref 94), some (.long (sumL (fun k => (μ 95 (342 + 3 * k)).toInt64) i)), none, some (.int (nI i))]) (st' := [.int (μ 95 ((nI 6).toNatClampNeg)), .int (nI i)]) (σ' := (α, μ)) (pc' := 28) kX12_average_20 rfl rfl (rf_a1 (rf_in_n (a := 6) rfl (by omega)) rf_a0) ?_
    try rw [(show (nI 6).toNatClampNeg = 6 from rf_cl_n rfl (by omega))]
    refine ok_icmp_ge bX12_average_28 (fun h28 => absurd h28 (nle_of hI.at6 (by omega) (by omega))) (fun _ => ?_)
    refine ok_step (ps := [rf_in (((nI 340) + ((nI 3) * (nI i))) + (nI 2)) 700]) (L' := [some (.ref 94), some (.long ((sumL (fun k => (μ 95 (342 + 3 * k)).toInt64) i) + ((μ 95 ((((nI 340) + ((nI 3) * (nI i))) + (nI 2)).toNatClampNeg)).toInt64))), none, some (.int ((nI i) + (nI 1)))]) (st' := []) (σ' := (α, μ)) (pc' := 52) kX12_average_31 rfl rfl (rf_a1 (rf_in_n (a := (342 + 3 * i)) (by (try rw [(show ((nI 3) * (nI i)) = nI (3 * i) from rf_eq (rf_nmul (x := nI 3) (y := nI i) rfl rfl) (by omega))]); (try rw [(show ((nI 340) + (nI (3 * i))) = nI (340 + 3 * i) from rf_eq (rf_nadd (x := nI 340) (y := nI (3 * i)) rfl rfl) (by omega))]); (try rw [(show ((nI (340 + 3 * i)) + (nI 2)) = nI (342 + 3 * i) from rf_eq (rf_nadd (x := nI (340 + 3 * i)) (y := nI 2) rfl rfl) (by omega))]); all_goals exact rfl) (by omega)) rf_a0) ?_
    try rw [(show ((nI 3) * (nI i)) = nI (3 * i) from rf_eq (rf_nmul (x := nI 3) (y := nI i) rfl rfl) (by omega))]
    try rw [(show ((nI 340) + (nI (3 * i))) = nI (340 + 3 * i) from rf_eq (rf_nadd (x := nI 340) (y := nI (3 * i)) rfl rfl) (by omega))]
    try rw [(show ((nI (340 + 3 * i)) + (nI 2)) = nI (342 + 3 * i) from rf_eq (rf_nadd (x := nI (340 + 3 * i)) (y := nI 2) rfl rfl) (by omega))]
    try rw [(show (nI (342 + 3 * i)).toNatClampNeg = (342 + 3 * i) from rf_cl_n rfl (by omega))]
    try rw [(show ((nI i) + (nI 1)) = nI (i + 1) from nI_add _ _)]
    refine ok_goto bX12_average_52 ?_
    exact ih (i + 1) (by omega)
theorem op_average (hJ : J α μ)  : Op (rf_T Ln xs) MX11_average MX12_average [some (.ref 0)] [some (.ref 94), none, none, none] α μ := by
  have hR := hJ.1.1.1
  have hI := hJ.2
  have b0 := hI.le0
  have b1 := hI.le1
  have b2 := hI.le2
  have b3 := hI.le3
  have b4 := hI.le4
  have b5 := hI.le5
  have b6 := hI.le6
  have b8 := hI.le8
  have b9 := hI.le9
  have b11 := hI.le11
  have b12 := hI.le12
  refine ok_step (ps := []) (L' := [some (.ref 0)]) (st' := [.int (α 22 3)]) (σ' := (α, μ)) (pc' := 10) kX11_average_0 rfl rfl rf_a0 ?_
  try rw [(show α 22 3 = μ 95 6 from hR 21 3 6 rfl)]
  refine ok_if_ne bX11_average_10 (fun h10 => ?_) (fun h10 => ?_)
  · have h0 := cnt_pos hI.at6 h10
    refine ok_step (ps := []) (L' := [some (.ref 0)]) (st' := [.ref 22]) (σ' := (α, μ)) (pc' := 27) kX11_average_20 rfl rfl rf_a0 ?_
    refine ok_V (As := []) (b := 22) (st := []) mkX1_meanRight qX11_average_27 rfl (rc_22) rfl rfl rfl rfl (Nat.le_of_ble_eq_true rfl) (c_av hR hI h0) ?_
    refine ok_reti eX11_average_30 rfl ?_
    refine ⟨rfl, _, rfl, ?_⟩
    refine ok_step (ps := [rf_in (nI 6) 700]) (L' := [some (.ref 94), none, none, none]) (st' := [.int (μ 95 ((nI 6).toNatClampNeg))]) (σ' := (α, μ)) (pc' := 7) kX12_average_0 rfl rfl (rf_a1 (rf_in_n (a := 6) rfl (by omega)) rf_a0) ?_
    try rw [(show (nI 6).toNatClampNeg = 6 from rf_cl_n rfl (by omega))]
    refine ok_if_ne bX12_average_7 (fun _ => ?_) (fun g7 => absurd g7 (h10))
    refine ok_step (ps := []) (L' := [some (.ref 94), some (.long (lN 0)), none, some (.int (nI 0))]) (st' := []) (σ' := (α, μ)) (pc' := 20) kX12_average_16 rfl rfl rf_a0 ?_
    refine (m_av_l hI h0 (cn (μ 95) 6) 0 (by omega)).mono (fun r s h => ?_) |>.more (by omega)
    obtain ⟨rfl, rfl⟩ := h
    exact ⟨rfl, _, rfl, hJ⟩
  · refine ok_step (ps := []) (L' := [some (.ref 0)]) (st' := [.int (-1000000002), .ref 0]) (σ' := (α, μ)) (pc' := 16) kX11_average_13 rfl rfl rf_a0 ?_
    refine ok_V (As := [.int (-1000000002)]) (b := 0) (st := []) mkX11_error qX11_average_16 rfl (rc_0) rfl rfl rfl rfl (Nat.le_of_ble_eq_true rfl) (c_error (k := 2) (by decide) (by decide) (by decide)) ?_
    refine ok_reti eX11_average_19 rfl ?_
    refine ⟨rfl, _, rfl, ?_⟩
    refine ok_step (ps := [rf_in (nI 6) 700]) (L' := [some (.ref 94), none, none, none]) (st' := [.int (μ 95 ((nI 6).toNatClampNeg))]) (σ' := (rf_w α 93 2 (α 93 2 + nI 1), μ)) (pc' := 7) kX12_average_0 rfl rfl (rf_a1 (rf_in_n (a := 6) rfl (by omega)) rf_a0) ?_
    try rw [(show (nI 6).toNatClampNeg = 6 from rf_cl_n rfl (by omega))]
    refine ok_if_ne bX12_average_7 (fun g7 => absurd (h10) g7) (fun _ => ?_)
    refine ok_step (ps := []) (L' := [some (.ref 94), none, none, none]) (st' := [.int (nI 2), .ref 94]) (σ' := (rf_w α 93 2 (α 93 2 + nI 1), μ)) (pc' := 12) kX12_average_10 rfl rfl rf_a0 ?_
    refine ok_V (As := [.int (nI 2)]) (b := 94) (st := []) mkX12_finds qX12_average_12 rfl (rc_94) rfl rfl rfl rfl (Nat.le_of_ble_eq_true rfl) (m_finds (k := 2) (by decide)) ?_
    refine ok_reti eX12_average_15 rfl ?_
    exact ⟨rfl, _, rfl, hJ.err (k := 2) (by decide)⟩
theorem c_isUnder_0 {o : Nat} (ho : o < 8) : rf_At (rf_T Ln xs) MX11_isUnder 1 0 ([some (.int (nI 0)), some (.int (nI o)), none, none], [], 108, (α, μ)) (some (.int (bI (und 0 o)))) 108 (α, μ) := by
  refine rf_pa ?_
  refine ok_step (ps := []) (L' := [some (.int (nI 0)), some (.int (nI o)), some (.int (nI 0)), some (.int (nI 0))]) (st' := []) (σ' := (α, μ)) (pc' := 4) kX11_isUnder_0 rfl rfl rf_a0 ?_
  refine ok_step (ps := []) (L' := [some (.int (nI 0)), some (.int (nI o)), some (.int (nI 0)), some (.int (nI 0))]) (st' := [.int (nI 8), .int (nI 0)]) (σ' := (α, μ)) (pc' := 7) kX11_isUnder_4 rfl rfl rf_a0 ?_
  refine ok_icmp_ge bX11_isUnder_7 (fun h7 => absurd h7 ((by decide))) (fun _ => ?_)
  refine ok_step (ps := []) (L' := [some (.int (nI 0)), some (.int (nI o)), some (.int (nI 0)), some (.int (nI 0))]) (st' := [.int (nI o), .int (nI 0)]) (σ' := (α, μ)) (pc' := 12) kX11_isUnder_10 rfl rfl rf_a0 ?_
  refine ok_icmp_eq bX11_isUnder_12 (fun h12 => ?_) (fun h12 => ?_)
  · refine ok_step (ps := []) (L' := [some (.int (nI 0)), some (.int (nI o)), some (.int (nI 0)), some (.int (nI 0))]) (st' := [.int (nI o), .int (nI 0)]) (σ' := (α, μ)) (pc' := 33) kX11_isUnder_31 rfl rfl rf_a0 ?_
    refine ok_icmp_ne bX11_isUnder_33 (fun h33 => absurd (h12) h33) (fun _ => ?_)
    refine ok_step (ps := []) (L' := [some (.int (nI 0)), some (.int (nI o)), some (.int (nI 0)), some (.int (nI 0))]) (st' := [.int (nI 1)]) (σ' := (α, μ)) (pc' := 37) kX11_isUnder_36 rfl rfl rf_a0 ?_
    refine ok_goto bX11_isUnder_37 ?_
    refine ok_retz eX11_isUnder_41 rfl (Or.inr rfl) ?_
    have e : o = 0 := (nI_inj h12 (by omega) (by omega)).symm
    subst e
    exact ⟨rfl, rfl⟩
  · refine ok_step (ps := []) (L' := [some (.int (nI 0)), some (.int (nI o)), some (.int (nI 0)), some (.int (nI 0))]) (st' := [.int (nI 0)]) (σ' := (α, μ)) (pc' := 16) kX11_isUnder_15 rfl rfl rf_a0 ?_
    refine ok_if_eq bX11_isUnder_16 (fun _ => ?_) (fun h16 => absurd ((by decide)) h16)
    refine ok_step (ps := []) (L' := [some (.int (nI 0)), some (.int (nI o)), some (.int (nI 0)), some (.int (nI 0))]) (st' := [.int (nI o), .int (nI 0)]) (σ' := (α, μ)) (pc' := 33) kX11_isUnder_31 rfl rfl rf_a0 ?_
    refine ok_icmp_ne bX11_isUnder_33 (fun _ => ?_) (fun h33 => absurd h33 (h12))
    refine ok_step (ps := []) (L' := [some (.int (nI 0)), some (.int (nI o)), some (.int (nI 0)), some (.int (nI 0))]) (st' := [.int (nI 0)]) (σ' := (α, μ)) (pc' := 41) kX11_isUnder_40 rfl rfl rf_a0 ?_
    refine ok_retz eX11_isUnder_41 rfl (Or.inl rfl) ?_
    have e0 : o ≠ 0 := fun e => h12 (by subst e; rfl)
    exact ⟨rz (by simp [und]; omega), rfl⟩
theorem m_isOf_0 {o : Nat} (ho : o < 8) : rf_At (rf_T Ln xs) MX12_isOf 1 0 ([some (.int (nI 0)), some (.int (nI o))], [], 108, (α, μ)) (some (.int (bI (und 0 o)))) 108 (α, μ) := by
  refine rf_pa ?_
  refine ok_step (ps := []) (L' := [some (.int (nI 0)), some (.int (nI o))]) (st' := [.int (nI o)]) (σ' := (α, μ)) (pc' := 1) kX12_isOf_0 rfl rfl rf_a0 ?_
  refine ok_if_eq bX12_isOf_1 (fun h1 => ?_) (fun h1 => ?_)
  · refine ok_step (ps := []) (L' := [some (.int (nI 0)), some (.int (nI o))]) (st' := [.int (nI 1)]) (σ' := (α, μ)) (pc' := 47) kX12_isOf_46 rfl rfl rf_a0 ?_
    refine ok_goto bX12_isOf_47 ?_
    refine ok_retz eX12_isOf_51 rfl (Or.inr rfl) ?_
    have e : o = 0 := nI_inj h1 (by omega) (by omega)
    subst e
    exact ⟨rfl, rfl⟩
  · refine ok_step (ps := []) (L' := [some (.int (nI 0)), some (.int (nI o))]) (st' := [.int (nI 0), .int (nI o)]) (σ' := (α, μ)) (pc' := 6) kX12_isOf_4 rfl rfl rf_a0 ?_
    refine ok_icmp_eq bX12_isOf_6 (fun h6 => absurd h6 (h1)) (fun _ => ?_)
    refine ok_step (ps := []) (L' := [some (.int (nI 0)), some (.int (nI o))]) (st' := [.int (nI 1), .int (nI o)]) (σ' := (α, μ)) (pc' := 11) kX12_isOf_9 rfl rfl rf_a0 ?_
    refine ok_icmp_ne bX12_isOf_11 (fun h11 => ?_) (fun h11 => ?_)
    · refine ok_step (ps := []) (L' := [some (.int (nI 0)), some (.int (nI o))]) (st' := [.int (nI 2), .int (nI o)]) (σ' := (α, μ)) (pc' := 22) kX12_isOf_20 rfl rfl rf_a0 ?_
      refine ok_icmp_ne bX12_isOf_22 (fun h22 => ?_) (fun h22 => ?_)
      · refine ok_step (ps := []) (L' := [some (.int (nI 0)), some (.int (nI o))]) (st' := [.int (nI 5), .int (nI o)]) (σ' := (α, μ)) (pc' := 37) kX12_isOf_35 rfl rfl rf_a0 ?_
        refine ok_icmp_ne bX12_isOf_37 (fun h37 => ?_) (fun h37 => ?_)
        · refine ok_step (ps := []) (L' := [some (.int (nI 0)), some (.int (nI o))]) (st' := [.int (nI 0)]) (σ' := (α, μ)) (pc' := 51) kX12_isOf_50 rfl rfl rf_a0 ?_
          refine ok_retz eX12_isOf_51 rfl (Or.inl rfl) ?_
          have e0 : o ≠ 0 := fun e => h1 (by subst e; rfl)
          have e1 : o ≠ 1 := fun e => h11 (by subst e; rfl)
          have e2 : o ≠ 2 := fun e => h22 (by subst e; rfl)
          have e5 : o ≠ 5 := fun e => h37 (by subst e; rfl)
          exact ⟨rz (by simp [und]; omega), rfl⟩
        · refine ok_step (ps := []) (L' := [some (.int (nI 0)), some (.int (nI o))]) (st' := [.int (nI 7), .int (nI 0)]) (σ' := (α, μ)) (pc' := 43) kX12_isOf_40 rfl rfl rf_a0 ?_
          refine ok_icmp_ne bX12_isOf_43 (fun _ => ?_) (fun h43 => absurd h43 ((by decide)))
          refine ok_step (ps := []) (L' := [some (.int (nI 0)), some (.int (nI o))]) (st' := [.int (nI 0)]) (σ' := (α, μ)) (pc' := 51) kX12_isOf_50 rfl rfl rf_a0 ?_
          refine ok_retz eX12_isOf_51 rfl (Or.inl rfl) ?_
          have e0 : o ≠ 0 := fun e => h1 (by subst e; rfl)
          have e1 : o ≠ 1 := fun e => h11 (by subst e; rfl)
          have e2 : o ≠ 2 := fun e => h22 (by subst e; rfl)
          have e : o = 5 := nI_inj h37 (by omega) (by omega)
          subst e
          exact ⟨rfl, rfl⟩
      · refine ok_step (ps := []) (L' := [some (.int (nI 0)), some (.int (nI o))]) (st' := [.int (nI 3), .int (nI 0)]) (σ' := (α, μ)) (pc' := 27) kX12_isOf_25 rfl rfl rf_a0 ?_
        refine ok_icmp_eq bX12_isOf_27 (fun h27 => absurd h27 ((by decide))) (fun _ => ?_)
        refine ok_step (ps := []) (L' := [some (.int (nI 0)), some (.int (nI o))]) (st' := [.int (nI 4), .int (nI 0)]) (σ' := (α, μ)) (pc' := 32) kX12_isOf_30 rfl rfl rf_a0 ?_
        refine ok_icmp_eq bX12_isOf_32 (fun h32 => absurd h32 ((by decide))) (fun _ => ?_)
        refine ok_step (ps := []) (L' := [some (.int (nI 0)), some (.int (nI o))]) (st' := [.int (nI 5), .int (nI o)]) (σ' := (α, μ)) (pc' := 37) kX12_isOf_35 rfl rfl rf_a0 ?_
        refine ok_icmp_ne bX12_isOf_37 (fun h37 => ?_) (fun h37 => ?_)
        · refine ok_step (ps := []) (L' := [some (.int (nI 0)), some (.int (nI o))]) (st' := [.int (nI 0)]) (σ' := (α, μ)) (pc' := 51) kX12_isOf_50 rfl rfl rf_a0 ?_
          refine ok_retz eX12_isOf_51 rfl (Or.inl rfl) ?_
          have e0 : o ≠ 0 := fun e => h1 (by subst e; rfl)
          have e1 : o ≠ 1 := fun e => h11 (by subst e; rfl)
          have e5 : o ≠ 5 := fun e => h37 (by subst e; rfl)
          have e : o = 2 := nI_inj h22 (by omega) (by omega)
          subst e
          exact ⟨rfl, rfl⟩
        · refine ok_step (ps := []) (L' := [some (.int (nI 0)), some (.int (nI o))]) (st' := [.int (nI 7), .int (nI 0)]) (σ' := (α, μ)) (pc' := 43) kX12_isOf_40 rfl rfl rf_a0 ?_
          refine ok_icmp_ne bX12_isOf_43 (fun _ => ?_) (fun h43 => absurd h43 ((by decide)))
          refine ok_step (ps := []) (L' := [some (.int (nI 0)), some (.int (nI o))]) (st' := [.int (nI 0)]) (σ' := (α, μ)) (pc' := 51) kX12_isOf_50 rfl rfl rf_a0 ?_
          refine ok_retz eX12_isOf_51 rfl (Or.inl rfl) ?_
          have e1 : o = 2 := nI_inj h22 (by omega) (by omega)
          have e2 : o = 5 := nI_inj h37 (by omega) (by omega)
          omega
    · refine ok_step (ps := []) (L' := [some (.int (nI 0)), some (.int (nI o))]) (st' := [.int (nI 6), .int (nI 0)]) (σ' := (α, μ)) (pc' := 17) kX12_isOf_14 rfl rfl rf_a0 ?_
      refine ok_icmp_eq bX12_isOf_17 (fun h17 => absurd h17 ((by decide))) (fun _ => ?_)
      refine ok_step (ps := []) (L' := [some (.int (nI 0)), some (.int (nI o))]) (st' := [.int (nI 2), .int (nI o)]) (σ' := (α, μ)) (pc' := 22) kX12_isOf_20 rfl rfl rf_a0 ?_
      refine ok_icmp_ne bX12_isOf_22 (fun h22 => ?_) (fun h22 => ?_)
      · refine ok_step (ps := []) (L' := [some (.int (nI 0)), some (.int (nI o))]) (st' := [.int (nI 5), .int (nI o)]) (σ' := (α, μ)) (pc' := 37) kX12_isOf_35 rfl rfl rf_a0 ?_
        refine ok_icmp_ne bX12_isOf_37 (fun h37 => ?_) (fun h37 => ?_)
        · refine ok_step (ps := []) (L' := [some (.int (nI 0)), some (.int (nI o))]) (st' := [.int (nI 0)]) (σ' := (α, μ)) (pc' := 51) kX12_isOf_50 rfl rfl rf_a0 ?_
          refine ok_retz eX12_isOf_51 rfl (Or.inl rfl) ?_
          have e0 : o ≠ 0 := fun e => h1 (by subst e; rfl)
          have e2 : o ≠ 2 := fun e => h22 (by subst e; rfl)
          have e5 : o ≠ 5 := fun e => h37 (by subst e; rfl)
          have e : o = 1 := nI_inj h11 (by omega) (by omega)
          subst e
          exact ⟨rfl, rfl⟩
        · refine ok_step (ps := []) (L' := [some (.int (nI 0)), some (.int (nI o))]) (st' := [.int (nI 7), .int (nI 0)]) (σ' := (α, μ)) (pc' := 43) kX12_isOf_40 rfl rfl rf_a0 ?_
          refine ok_icmp_ne bX12_isOf_43 (fun _ => ?_) (fun h43 => absurd h43 ((by decide)))
          refine ok_step (ps := []) (L' := [some (.int (nI 0)), some (.int (nI o))]) (st' := [.int (nI 0)]) (σ' := (α, μ)) (pc' := 51) kX12_isOf_50 rfl rfl rf_a0 ?_
          refine ok_retz eX12_isOf_51 rfl (Or.inl rfl) ?_
          have e1 : o = 1 := nI_inj h11 (by omega) (by omega)
          have e2 : o = 5 := nI_inj h37 (by omega) (by omega)
          omega
      · refine ok_step (ps := []) (L' := [some (.int (nI 0)), some (.int (nI o))]) (st' := [.int (nI 3), .int (nI 0)]) (σ' := (α, μ)) (pc' := 27) kX12_isOf_25 rfl rfl rf_a0 ?_
        refine ok_icmp_eq bX12_isOf_27 (fun h27 => absurd h27 ((by decide))) (fun _ => ?_)
        refine ok_step (ps := []) (L' := [some (.int (nI 0)), some (.int (nI o))]) (st' := [.int (nI 4), .int (nI 0)]) (σ' := (α, μ)) (pc' := 32) kX12_isOf_30 rfl rfl rf_a0 ?_
        refine ok_icmp_eq bX12_isOf_32 (fun h32 => absurd h32 ((by decide))) (fun _ => ?_)
        refine ok_step (ps := []) (L' := [some (.int (nI 0)), some (.int (nI o))]) (st' := [.int (nI 5), .int (nI o)]) (σ' := (α, μ)) (pc' := 37) kX12_isOf_35 rfl rfl rf_a0 ?_
        refine ok_icmp_ne bX12_isOf_37 (fun h37 => ?_) (fun h37 => ?_)
        · refine ok_step (ps := []) (L' := [some (.int (nI 0)), some (.int (nI o))]) (st' := [.int (nI 0)]) (σ' := (α, μ)) (pc' := 51) kX12_isOf_50 rfl rfl rf_a0 ?_
          refine ok_retz eX12_isOf_51 rfl (Or.inl rfl) ?_
          have e1 : o = 1 := nI_inj h11 (by omega) (by omega)
          have e2 : o = 2 := nI_inj h22 (by omega) (by omega)
          omega
        · refine ok_step (ps := []) (L' := [some (.int (nI 0)), some (.int (nI o))]) (st' := [.int (nI 7), .int (nI 0)]) (σ' := (α, μ)) (pc' := 43) kX12_isOf_40 rfl rfl rf_a0 ?_
          refine ok_icmp_ne bX12_isOf_43 (fun _ => ?_) (fun h43 => absurd h43 ((by decide)))
          refine ok_step (ps := []) (L' := [some (.int (nI 0)), some (.int (nI o))]) (st' := [.int (nI 0)]) (σ' := (α, μ)) (pc' := 51) kX12_isOf_50 rfl rfl rf_a0 ?_
          refine ok_retz eX12_isOf_51 rfl (Or.inl rfl) ?_
          have e1 : o = 1 := nI_inj h11 (by omega) (by omega)
          have e2 : o = 2 := nI_inj h22 (by omega) (by omega)
          omega
theorem c_isUnder_1 {o : Nat} (ho : o < 8) : rf_At (rf_T Ln xs) MX11_isUnder 1 0 ([some (.int (nI 1)), some (.int (nI o)), none, none], [], 108, (α, μ)) (some (.int (bI (und 1 o)))) 108 (α, μ) := by
  refine rf_pa ?_
  refine ok_step (ps := []) (L' := [some (.int (nI 1)), some (.int (nI o)), some (.int (nI 1)), some (.int (nI 0))]) (st' := []) (σ' := (α, μ)) (pc' := 4) kX11_isUnder_0 rfl rfl rf_a0 ?_
  refine ok_step (ps := []) (L' := [some (.int (nI 1)), some (.int (nI o)), some (.int (nI 1)), some (.int (nI 0))]) (st' := [.int (nI 8), .int (nI 0)]) (σ' := (α, μ)) (pc' := 7) kX11_isUnder_4 rfl rfl rf_a0 ?_
  refine ok_icmp_ge bX11_isUnder_7 (fun h7 => absurd h7 ((by decide))) (fun _ => ?_)
  refine ok_step (ps := []) (L' := [some (.int (nI 1)), some (.int (nI o)), some (.int (nI 1)), some (.int (nI 0))]) (st' := [.int (nI o), .int (nI 1)]) (σ' := (α, μ)) (pc' := 12) kX11_isUnder_10 rfl rfl rf_a0 ?_
  refine ok_icmp_eq bX11_isUnder_12 (fun h12 => ?_) (fun h12 => ?_)
  · refine ok_step (ps := []) (L' := [some (.int (nI 1)), some (.int (nI o)), some (.int (nI 1)), some (.int (nI 0))]) (st' := [.int (nI o), .int (nI 1)]) (σ' := (α, μ)) (pc' := 33) kX11_isUnder_31 rfl rfl rf_a0 ?_
    refine ok_icmp_ne bX11_isUnder_33 (fun h33 => absurd (h12) h33) (fun _ => ?_)
    refine ok_step (ps := []) (L' := [some (.int (nI 1)), some (.int (nI o)), some (.int (nI 1)), some (.int (nI 0))]) (st' := [.int (nI 1)]) (σ' := (α, μ)) (pc' := 37) kX11_isUnder_36 rfl rfl rf_a0 ?_
    refine ok_goto bX11_isUnder_37 ?_
    refine ok_retz eX11_isUnder_41 rfl (Or.inr rfl) ?_
    have e : o = 1 := (nI_inj h12 (by omega) (by omega)).symm
    subst e
    exact ⟨rfl, rfl⟩
  · refine ok_step (ps := []) (L' := [some (.int (nI 1)), some (.int (nI o)), some (.int (nI 1)), some (.int (nI 0))]) (st' := [.int (nI 1)]) (σ' := (α, μ)) (pc' := 16) kX11_isUnder_15 rfl rfl rf_a0 ?_
    refine ok_if_eq bX11_isUnder_16 (fun h16 => absurd h16 ((by decide))) (fun _ => ?_)
    refine ok_step (ps := [rf_in (nI 1) 8]) (L' := [some (.int (nI 1)), some (.int (nI o)), some (.int (tAbove ((nI 1).toNatClampNeg))), some (.int ((nI 0) + (nI 1)))]) (st' := []) (σ' := (α, μ)) (pc' := 28) kX11_isUnder_19 rfl rfl (rf_a1 (rf_in_n (a := 1) rfl (by omega)) rf_a0) ?_
    try rw [(show (nI 1).toNatClampNeg = 1 from rf_cl_n rfl (by omega))]
    try rw [(show tAbove 1 = nI 0 from rfl)]
    try rw [(show ((nI 0) + (nI 1)) = nI 1 from rf_eq (rf_nadd (x := nI 0) (y := nI 1) rfl rfl) (by omega))]
    refine ok_goto bX11_isUnder_28 ?_
    refine ok_step (ps := []) (L' := [some (.int (nI 1)), some (.int (nI o)), some (.int (nI 0)), some (.int (nI 1))]) (st' := [.int (nI 8), .int (nI 1)]) (σ' := (α, μ)) (pc' := 7) kX11_isUnder_4 rfl rfl rf_a0 ?_
    refine ok_icmp_ge bX11_isUnder_7 (fun h7 => absurd h7 ((by decide))) (fun _ => ?_)
    refine ok_step (ps := []) (L' := [some (.int (nI 1)), some (.int (nI o)), some (.int (nI 0)), some (.int (nI 1))]) (st' := [.int (nI o), .int (nI 0)]) (σ' := (α, μ)) (pc' := 12) kX11_isUnder_10 rfl rfl rf_a0 ?_
    refine ok_icmp_eq bX11_isUnder_12 (fun h12_2 => ?_) (fun h12_2 => ?_)
    · refine ok_step (ps := []) (L' := [some (.int (nI 1)), some (.int (nI o)), some (.int (nI 0)), some (.int (nI 1))]) (st' := [.int (nI o), .int (nI 0)]) (σ' := (α, μ)) (pc' := 33) kX11_isUnder_31 rfl rfl rf_a0 ?_
      refine ok_icmp_ne bX11_isUnder_33 (fun h33 => absurd (h12_2) h33) (fun _ => ?_)
      refine ok_step (ps := []) (L' := [some (.int (nI 1)), some (.int (nI o)), some (.int (nI 0)), some (.int (nI 1))]) (st' := [.int (nI 1)]) (σ' := (α, μ)) (pc' := 37) kX11_isUnder_36 rfl rfl rf_a0 ?_
      refine ok_goto bX11_isUnder_37 ?_
      refine ok_retz eX11_isUnder_41 rfl (Or.inr rfl) ?_
      have e : o = 0 := (nI_inj h12_2 (by omega) (by omega)).symm
      subst e
      exact ⟨rfl, rfl⟩
    · refine ok_step (ps := []) (L' := [some (.int (nI 1)), some (.int (nI o)), some (.int (nI 0)), some (.int (nI 1))]) (st' := [.int (nI 0)]) (σ' := (α, μ)) (pc' := 16) kX11_isUnder_15 rfl rfl rf_a0 ?_
      refine ok_if_eq bX11_isUnder_16 (fun _ => ?_) (fun h16 => absurd ((by decide)) h16)
      refine ok_step (ps := []) (L' := [some (.int (nI 1)), some (.int (nI o)), some (.int (nI 0)), some (.int (nI 1))]) (st' := [.int (nI o), .int (nI 0)]) (σ' := (α, μ)) (pc' := 33) kX11_isUnder_31 rfl rfl rf_a0 ?_
      refine ok_icmp_ne bX11_isUnder_33 (fun _ => ?_) (fun h33 => absurd h33 (h12_2))
      refine ok_step (ps := []) (L' := [some (.int (nI 1)), some (.int (nI o)), some (.int (nI 0)), some (.int (nI 1))]) (st' := [.int (nI 0)]) (σ' := (α, μ)) (pc' := 41) kX11_isUnder_40 rfl rfl rf_a0 ?_
      refine ok_retz eX11_isUnder_41 rfl (Or.inl rfl) ?_
      have e1 : o ≠ 1 := fun e => h12 (by subst e; rfl)
      have e0 : o ≠ 0 := fun e => h12_2 (by subst e; rfl)
      exact ⟨rz (by simp [und]; omega), rfl⟩
theorem m_isOf_1 {o : Nat} (ho : o < 8) : rf_At (rf_T Ln xs) MX12_isOf 1 0 ([some (.int (nI 1)), some (.int (nI o))], [], 108, (α, μ)) (some (.int (bI (und 1 o)))) 108 (α, μ) := by
  refine rf_pa ?_
  refine ok_step (ps := []) (L' := [some (.int (nI 1)), some (.int (nI o))]) (st' := [.int (nI o)]) (σ' := (α, μ)) (pc' := 1) kX12_isOf_0 rfl rfl rf_a0 ?_
  refine ok_if_eq bX12_isOf_1 (fun h1 => ?_) (fun h1 => ?_)
  · refine ok_step (ps := []) (L' := [some (.int (nI 1)), some (.int (nI o))]) (st' := [.int (nI 1)]) (σ' := (α, μ)) (pc' := 47) kX12_isOf_46 rfl rfl rf_a0 ?_
    refine ok_goto bX12_isOf_47 ?_
    refine ok_retz eX12_isOf_51 rfl (Or.inr rfl) ?_
    have e : o = 0 := nI_inj h1 (by omega) (by omega)
    subst e
    exact ⟨rfl, rfl⟩
  · refine ok_step (ps := []) (L' := [some (.int (nI 1)), some (.int (nI o))]) (st' := [.int (nI 1), .int (nI o)]) (σ' := (α, μ)) (pc' := 6) kX12_isOf_4 rfl rfl rf_a0 ?_
    refine ok_icmp_eq bX12_isOf_6 (fun h6 => ?_) (fun h6 => ?_)
    · refine ok_step (ps := []) (L' := [some (.int (nI 1)), some (.int (nI o))]) (st' := [.int (nI 1)]) (σ' := (α, μ)) (pc' := 47) kX12_isOf_46 rfl rfl rf_a0 ?_
      refine ok_goto bX12_isOf_47 ?_
      refine ok_retz eX12_isOf_51 rfl (Or.inr rfl) ?_
      have e0 : o ≠ 0 := fun e => h1 (by subst e; rfl)
      have e : o = 1 := nI_inj h6 (by omega) (by omega)
      subst e
      exact ⟨rfl, rfl⟩
    · refine ok_step (ps := []) (L' := [some (.int (nI 1)), some (.int (nI o))]) (st' := [.int (nI 1), .int (nI o)]) (σ' := (α, μ)) (pc' := 11) kX12_isOf_9 rfl rfl rf_a0 ?_
      refine ok_icmp_ne bX12_isOf_11 (fun _ => ?_) (fun h11 => absurd h11 (h6))
      refine ok_step (ps := []) (L' := [some (.int (nI 1)), some (.int (nI o))]) (st' := [.int (nI 2), .int (nI o)]) (σ' := (α, μ)) (pc' := 22) kX12_isOf_20 rfl rfl rf_a0 ?_
      refine ok_icmp_ne bX12_isOf_22 (fun h22 => ?_) (fun h22 => ?_)
      · refine ok_step (ps := []) (L' := [some (.int (nI 1)), some (.int (nI o))]) (st' := [.int (nI 5), .int (nI o)]) (σ' := (α, μ)) (pc' := 37) kX12_isOf_35 rfl rfl rf_a0 ?_
        refine ok_icmp_ne bX12_isOf_37 (fun h37 => ?_) (fun h37 => ?_)
        · refine ok_step (ps := []) (L' := [some (.int (nI 1)), some (.int (nI o))]) (st' := [.int (nI 0)]) (σ' := (α, μ)) (pc' := 51) kX12_isOf_50 rfl rfl rf_a0 ?_
          refine ok_retz eX12_isOf_51 rfl (Or.inl rfl) ?_
          have e0 : o ≠ 0 := fun e => h1 (by subst e; rfl)
          have e1 : o ≠ 1 := fun e => h6 (by subst e; rfl)
          have e2 : o ≠ 2 := fun e => h22 (by subst e; rfl)
          have e5 : o ≠ 5 := fun e => h37 (by subst e; rfl)
          exact ⟨rz (by simp [und]; omega), rfl⟩
        · refine ok_step (ps := []) (L' := [some (.int (nI 1)), some (.int (nI o))]) (st' := [.int (nI 7), .int (nI 1)]) (σ' := (α, μ)) (pc' := 43) kX12_isOf_40 rfl rfl rf_a0 ?_
          refine ok_icmp_ne bX12_isOf_43 (fun _ => ?_) (fun h43 => absurd h43 ((by decide)))
          refine ok_step (ps := []) (L' := [some (.int (nI 1)), some (.int (nI o))]) (st' := [.int (nI 0)]) (σ' := (α, μ)) (pc' := 51) kX12_isOf_50 rfl rfl rf_a0 ?_
          refine ok_retz eX12_isOf_51 rfl (Or.inl rfl) ?_
          have e0 : o ≠ 0 := fun e => h1 (by subst e; rfl)
          have e1 : o ≠ 1 := fun e => h6 (by subst e; rfl)
          have e2 : o ≠ 2 := fun e => h22 (by subst e; rfl)
          have e : o = 5 := nI_inj h37 (by omega) (by omega)
          subst e
          exact ⟨rfl, rfl⟩
      · refine ok_step (ps := []) (L' := [some (.int (nI 1)), some (.int (nI o))]) (st' := [.int (nI 3), .int (nI 1)]) (σ' := (α, μ)) (pc' := 27) kX12_isOf_25 rfl rfl rf_a0 ?_
        refine ok_icmp_eq bX12_isOf_27 (fun h27 => absurd h27 ((by decide))) (fun _ => ?_)
        refine ok_step (ps := []) (L' := [some (.int (nI 1)), some (.int (nI o))]) (st' := [.int (nI 4), .int (nI 1)]) (σ' := (α, μ)) (pc' := 32) kX12_isOf_30 rfl rfl rf_a0 ?_
        refine ok_icmp_eq bX12_isOf_32 (fun h32 => absurd h32 ((by decide))) (fun _ => ?_)
        refine ok_step (ps := []) (L' := [some (.int (nI 1)), some (.int (nI o))]) (st' := [.int (nI 5), .int (nI o)]) (σ' := (α, μ)) (pc' := 37) kX12_isOf_35 rfl rfl rf_a0 ?_
        refine ok_icmp_ne bX12_isOf_37 (fun h37 => ?_) (fun h37 => ?_)
        · refine ok_step (ps := []) (L' := [some (.int (nI 1)), some (.int (nI o))]) (st' := [.int (nI 0)]) (σ' := (α, μ)) (pc' := 51) kX12_isOf_50 rfl rfl rf_a0 ?_
          refine ok_retz eX12_isOf_51 rfl (Or.inl rfl) ?_
          have e0 : o ≠ 0 := fun e => h1 (by subst e; rfl)
          have e1 : o ≠ 1 := fun e => h6 (by subst e; rfl)
          have e5 : o ≠ 5 := fun e => h37 (by subst e; rfl)
          have e : o = 2 := nI_inj h22 (by omega) (by omega)
          subst e
          exact ⟨rfl, rfl⟩
        · refine ok_step (ps := []) (L' := [some (.int (nI 1)), some (.int (nI o))]) (st' := [.int (nI 7), .int (nI 1)]) (σ' := (α, μ)) (pc' := 43) kX12_isOf_40 rfl rfl rf_a0 ?_
          refine ok_icmp_ne bX12_isOf_43 (fun _ => ?_) (fun h43 => absurd h43 ((by decide)))
          refine ok_step (ps := []) (L' := [some (.int (nI 1)), some (.int (nI o))]) (st' := [.int (nI 0)]) (σ' := (α, μ)) (pc' := 51) kX12_isOf_50 rfl rfl rf_a0 ?_
          refine ok_retz eX12_isOf_51 rfl (Or.inl rfl) ?_
          have e1 : o = 2 := nI_inj h22 (by omega) (by omega)
          have e2 : o = 5 := nI_inj h37 (by omega) (by omega)
          omega
theorem c_isUnder_2 {o : Nat} (ho : o < 8) : rf_At (rf_T Ln xs) MX11_isUnder 1 0 ([some (.int (nI 2)), some (.int (nI o)), none, none], [], 108, (α, μ)) (some (.int (bI (und 2 o)))) 108 (α, μ) := by
  refine rf_pa ?_
  refine ok_step (ps := []) (L' := [some (.int (nI 2)), some (.int (nI o)), some (.int (nI 2)), some (.int (nI 0))]) (st' := []) (σ' := (α, μ)) (pc' := 4) kX11_isUnder_0 rfl rfl rf_a0 ?_
  refine ok_step (ps := []) (L' := [some (.int (nI 2)), some (.int (nI o)), some (.int (nI 2)), some (.int (nI 0))]) (st' := [.int (nI 8), .int (nI 0)]) (σ' := (α, μ)) (pc' := 7) kX11_isUnder_4 rfl rfl rf_a0 ?_
  refine ok_icmp_ge bX11_isUnder_7 (fun h7 => absurd h7 ((by decide))) (fun _ => ?_)
  refine ok_step (ps := []) (L' := [some (.int (nI 2)), some (.int (nI o)), some (.int (nI 2)), some (.int (nI 0))]) (st' := [.int (nI o), .int (nI 2)]) (σ' := (α, μ)) (pc' := 12) kX11_isUnder_10 rfl rfl rf_a0 ?_
  refine ok_icmp_eq bX11_isUnder_12 (fun h12 => ?_) (fun h12 => ?_)
  · refine ok_step (ps := []) (L' := [some (.int (nI 2)), some (.int (nI o)), some (.int (nI 2)), some (.int (nI 0))]) (st' := [.int (nI o), .int (nI 2)]) (σ' := (α, μ)) (pc' := 33) kX11_isUnder_31 rfl rfl rf_a0 ?_
    refine ok_icmp_ne bX11_isUnder_33 (fun h33 => absurd (h12) h33) (fun _ => ?_)
    refine ok_step (ps := []) (L' := [some (.int (nI 2)), some (.int (nI o)), some (.int (nI 2)), some (.int (nI 0))]) (st' := [.int (nI 1)]) (σ' := (α, μ)) (pc' := 37) kX11_isUnder_36 rfl rfl rf_a0 ?_
    refine ok_goto bX11_isUnder_37 ?_
    refine ok_retz eX11_isUnder_41 rfl (Or.inr rfl) ?_
    have e : o = 2 := (nI_inj h12 (by omega) (by omega)).symm
    subst e
    exact ⟨rfl, rfl⟩
  · refine ok_step (ps := []) (L' := [some (.int (nI 2)), some (.int (nI o)), some (.int (nI 2)), some (.int (nI 0))]) (st' := [.int (nI 2)]) (σ' := (α, μ)) (pc' := 16) kX11_isUnder_15 rfl rfl rf_a0 ?_
    refine ok_if_eq bX11_isUnder_16 (fun h16 => absurd h16 ((by decide))) (fun _ => ?_)
    refine ok_step (ps := [rf_in (nI 2) 8]) (L' := [some (.int (nI 2)), some (.int (nI o)), some (.int (tAbove ((nI 2).toNatClampNeg))), some (.int ((nI 0) + (nI 1)))]) (st' := []) (σ' := (α, μ)) (pc' := 28) kX11_isUnder_19 rfl rfl (rf_a1 (rf_in_n (a := 2) rfl (by omega)) rf_a0) ?_
    try rw [(show (nI 2).toNatClampNeg = 2 from rf_cl_n rfl (by omega))]
    try rw [(show tAbove 2 = nI 0 from rfl)]
    try rw [(show ((nI 0) + (nI 1)) = nI 1 from rf_eq (rf_nadd (x := nI 0) (y := nI 1) rfl rfl) (by omega))]
    refine ok_goto bX11_isUnder_28 ?_
    refine ok_step (ps := []) (L' := [some (.int (nI 2)), some (.int (nI o)), some (.int (nI 0)), some (.int (nI 1))]) (st' := [.int (nI 8), .int (nI 1)]) (σ' := (α, μ)) (pc' := 7) kX11_isUnder_4 rfl rfl rf_a0 ?_
    refine ok_icmp_ge bX11_isUnder_7 (fun h7 => absurd h7 ((by decide))) (fun _ => ?_)
    refine ok_step (ps := []) (L' := [some (.int (nI 2)), some (.int (nI o)), some (.int (nI 0)), some (.int (nI 1))]) (st' := [.int (nI o), .int (nI 0)]) (σ' := (α, μ)) (pc' := 12) kX11_isUnder_10 rfl rfl rf_a0 ?_
    refine ok_icmp_eq bX11_isUnder_12 (fun h12_2 => ?_) (fun h12_2 => ?_)
    · refine ok_step (ps := []) (L' := [some (.int (nI 2)), some (.int (nI o)), some (.int (nI 0)), some (.int (nI 1))]) (st' := [.int (nI o), .int (nI 0)]) (σ' := (α, μ)) (pc' := 33) kX11_isUnder_31 rfl rfl rf_a0 ?_
      refine ok_icmp_ne bX11_isUnder_33 (fun h33 => absurd (h12_2) h33) (fun _ => ?_)
      refine ok_step (ps := []) (L' := [some (.int (nI 2)), some (.int (nI o)), some (.int (nI 0)), some (.int (nI 1))]) (st' := [.int (nI 1)]) (σ' := (α, μ)) (pc' := 37) kX11_isUnder_36 rfl rfl rf_a0 ?_
      refine ok_goto bX11_isUnder_37 ?_
      refine ok_retz eX11_isUnder_41 rfl (Or.inr rfl) ?_
      have e : o = 0 := (nI_inj h12_2 (by omega) (by omega)).symm
      subst e
      exact ⟨rfl, rfl⟩
    · refine ok_step (ps := []) (L' := [some (.int (nI 2)), some (.int (nI o)), some (.int (nI 0)), some (.int (nI 1))]) (st' := [.int (nI 0)]) (σ' := (α, μ)) (pc' := 16) kX11_isUnder_15 rfl rfl rf_a0 ?_
      refine ok_if_eq bX11_isUnder_16 (fun _ => ?_) (fun h16 => absurd ((by decide)) h16)
      refine ok_step (ps := []) (L' := [some (.int (nI 2)), some (.int (nI o)), some (.int (nI 0)), some (.int (nI 1))]) (st' := [.int (nI o), .int (nI 0)]) (σ' := (α, μ)) (pc' := 33) kX11_isUnder_31 rfl rfl rf_a0 ?_
      refine ok_icmp_ne bX11_isUnder_33 (fun _ => ?_) (fun h33 => absurd h33 (h12_2))
      refine ok_step (ps := []) (L' := [some (.int (nI 2)), some (.int (nI o)), some (.int (nI 0)), some (.int (nI 1))]) (st' := [.int (nI 0)]) (σ' := (α, μ)) (pc' := 41) kX11_isUnder_40 rfl rfl rf_a0 ?_
      refine ok_retz eX11_isUnder_41 rfl (Or.inl rfl) ?_
      have e2 : o ≠ 2 := fun e => h12 (by subst e; rfl)
      have e0 : o ≠ 0 := fun e => h12_2 (by subst e; rfl)
      exact ⟨rz (by simp [und]; omega), rfl⟩
theorem m_isOf_2 {o : Nat} (ho : o < 8) : rf_At (rf_T Ln xs) MX12_isOf 1 0 ([some (.int (nI 2)), some (.int (nI o))], [], 108, (α, μ)) (some (.int (bI (und 2 o)))) 108 (α, μ) := by
  refine rf_pa ?_
  refine ok_step (ps := []) (L' := [some (.int (nI 2)), some (.int (nI o))]) (st' := [.int (nI o)]) (σ' := (α, μ)) (pc' := 1) kX12_isOf_0 rfl rfl rf_a0 ?_
  refine ok_if_eq bX12_isOf_1 (fun h1 => ?_) (fun h1 => ?_)
  · refine ok_step (ps := []) (L' := [some (.int (nI 2)), some (.int (nI o))]) (st' := [.int (nI 1)]) (σ' := (α, μ)) (pc' := 47) kX12_isOf_46 rfl rfl rf_a0 ?_
    refine ok_goto bX12_isOf_47 ?_
    refine ok_retz eX12_isOf_51 rfl (Or.inr rfl) ?_
    have e : o = 0 := nI_inj h1 (by omega) (by omega)
    subst e
    exact ⟨rfl, rfl⟩
  · refine ok_step (ps := []) (L' := [some (.int (nI 2)), some (.int (nI o))]) (st' := [.int (nI 2), .int (nI o)]) (σ' := (α, μ)) (pc' := 6) kX12_isOf_4 rfl rfl rf_a0 ?_
    refine ok_icmp_eq bX12_isOf_6 (fun h6 => ?_) (fun h6 => ?_)
    · refine ok_step (ps := []) (L' := [some (.int (nI 2)), some (.int (nI o))]) (st' := [.int (nI 1)]) (σ' := (α, μ)) (pc' := 47) kX12_isOf_46 rfl rfl rf_a0 ?_
      refine ok_goto bX12_isOf_47 ?_
      refine ok_retz eX12_isOf_51 rfl (Or.inr rfl) ?_
      have e0 : o ≠ 0 := fun e => h1 (by subst e; rfl)
      have e : o = 2 := nI_inj h6 (by omega) (by omega)
      subst e
      exact ⟨rfl, rfl⟩
    · refine ok_step (ps := []) (L' := [some (.int (nI 2)), some (.int (nI o))]) (st' := [.int (nI 1), .int (nI o)]) (σ' := (α, μ)) (pc' := 11) kX12_isOf_9 rfl rfl rf_a0 ?_
      refine ok_icmp_ne bX12_isOf_11 (fun h11 => ?_) (fun h11 => ?_)
      · refine ok_step (ps := []) (L' := [some (.int (nI 2)), some (.int (nI o))]) (st' := [.int (nI 2), .int (nI o)]) (σ' := (α, μ)) (pc' := 22) kX12_isOf_20 rfl rfl rf_a0 ?_
        refine ok_icmp_ne bX12_isOf_22 (fun _ => ?_) (fun h22 => absurd h22 (h6))
        refine ok_step (ps := []) (L' := [some (.int (nI 2)), some (.int (nI o))]) (st' := [.int (nI 5), .int (nI o)]) (σ' := (α, μ)) (pc' := 37) kX12_isOf_35 rfl rfl rf_a0 ?_
        refine ok_icmp_ne bX12_isOf_37 (fun h37 => ?_) (fun h37 => ?_)
        · refine ok_step (ps := []) (L' := [some (.int (nI 2)), some (.int (nI o))]) (st' := [.int (nI 0)]) (σ' := (α, μ)) (pc' := 51) kX12_isOf_50 rfl rfl rf_a0 ?_
          refine ok_retz eX12_isOf_51 rfl (Or.inl rfl) ?_
          have e0 : o ≠ 0 := fun e => h1 (by subst e; rfl)
          have e2 : o ≠ 2 := fun e => h6 (by subst e; rfl)
          have e1 : o ≠ 1 := fun e => h11 (by subst e; rfl)
          have e5 : o ≠ 5 := fun e => h37 (by subst e; rfl)
          exact ⟨rz (by simp [und]; omega), rfl⟩
        · refine ok_step (ps := []) (L' := [some (.int (nI 2)), some (.int (nI o))]) (st' := [.int (nI 7), .int (nI 2)]) (σ' := (α, μ)) (pc' := 43) kX12_isOf_40 rfl rfl rf_a0 ?_
          refine ok_icmp_ne bX12_isOf_43 (fun _ => ?_) (fun h43 => absurd h43 ((by decide)))
          refine ok_step (ps := []) (L' := [some (.int (nI 2)), some (.int (nI o))]) (st' := [.int (nI 0)]) (σ' := (α, μ)) (pc' := 51) kX12_isOf_50 rfl rfl rf_a0 ?_
          refine ok_retz eX12_isOf_51 rfl (Or.inl rfl) ?_
          have e0 : o ≠ 0 := fun e => h1 (by subst e; rfl)
          have e2 : o ≠ 2 := fun e => h6 (by subst e; rfl)
          have e1 : o ≠ 1 := fun e => h11 (by subst e; rfl)
          have e : o = 5 := nI_inj h37 (by omega) (by omega)
          subst e
          exact ⟨rfl, rfl⟩
      · refine ok_step (ps := []) (L' := [some (.int (nI 2)), some (.int (nI o))]) (st' := [.int (nI 6), .int (nI 2)]) (σ' := (α, μ)) (pc' := 17) kX12_isOf_14 rfl rfl rf_a0 ?_
        refine ok_icmp_eq bX12_isOf_17 (fun h17 => absurd h17 ((by decide))) (fun _ => ?_)
        refine ok_step (ps := []) (L' := [some (.int (nI 2)), some (.int (nI o))]) (st' := [.int (nI 2), .int (nI o)]) (σ' := (α, μ)) (pc' := 22) kX12_isOf_20 rfl rfl rf_a0 ?_
        refine ok_icmp_ne bX12_isOf_22 (fun _ => ?_) (fun h22 => absurd h22 (h6))
        refine ok_step (ps := []) (L' := [some (.int (nI 2)), some (.int (nI o))]) (st' := [.int (nI 5), .int (nI o)]) (σ' := (α, μ)) (pc' := 37) kX12_isOf_35 rfl rfl rf_a0 ?_
        refine ok_icmp_ne bX12_isOf_37 (fun h37 => ?_) (fun h37 => ?_)
        · refine ok_step (ps := []) (L' := [some (.int (nI 2)), some (.int (nI o))]) (st' := [.int (nI 0)]) (σ' := (α, μ)) (pc' := 51) kX12_isOf_50 rfl rfl rf_a0 ?_
          refine ok_retz eX12_isOf_51 rfl (Or.inl rfl) ?_
          have e0 : o ≠ 0 := fun e => h1 (by subst e; rfl)
          have e2 : o ≠ 2 := fun e => h6 (by subst e; rfl)
          have e5 : o ≠ 5 := fun e => h37 (by subst e; rfl)
          have e : o = 1 := nI_inj h11 (by omega) (by omega)
          subst e
          exact ⟨rfl, rfl⟩
        · refine ok_step (ps := []) (L' := [some (.int (nI 2)), some (.int (nI o))]) (st' := [.int (nI 7), .int (nI 2)]) (σ' := (α, μ)) (pc' := 43) kX12_isOf_40 rfl rfl rf_a0 ?_
          refine ok_icmp_ne bX12_isOf_43 (fun _ => ?_) (fun h43 => absurd h43 ((by decide)))
          refine ok_step (ps := []) (L' := [some (.int (nI 2)), some (.int (nI o))]) (st' := [.int (nI 0)]) (σ' := (α, μ)) (pc' := 51) kX12_isOf_50 rfl rfl rf_a0 ?_
          refine ok_retz eX12_isOf_51 rfl (Or.inl rfl) ?_
          have e1 : o = 1 := nI_inj h11 (by omega) (by omega)
          have e2 : o = 5 := nI_inj h37 (by omega) (by omega)
          omega
theorem c_isUnder_3 {o : Nat} (ho : o < 8) : rf_At (rf_T Ln xs) MX11_isUnder 1 0 ([some (.int (nI 3)), some (.int (nI o)), none, none], [], 108, (α, μ)) (some (.int (bI (und 3 o)))) 108 (α, μ) := by
  refine rf_pa ?_
  refine ok_step (ps := []) (L' := [some (.int (nI 3)), some (.int (nI o)), some (.int (nI 3)), some (.int (nI 0))]) (st' := []) (σ' := (α, μ)) (pc' := 4) kX11_isUnder_0 rfl rfl rf_a0 ?_
  refine ok_step (ps := []) (L' := [some (.int (nI 3)), some (.int (nI o)), some (.int (nI 3)), some (.int (nI 0))]) (st' := [.int (nI 8), .int (nI 0)]) (σ' := (α, μ)) (pc' := 7) kX11_isUnder_4 rfl rfl rf_a0 ?_
  refine ok_icmp_ge bX11_isUnder_7 (fun h7 => absurd h7 ((by decide))) (fun _ => ?_)
  refine ok_step (ps := []) (L' := [some (.int (nI 3)), some (.int (nI o)), some (.int (nI 3)), some (.int (nI 0))]) (st' := [.int (nI o), .int (nI 3)]) (σ' := (α, μ)) (pc' := 12) kX11_isUnder_10 rfl rfl rf_a0 ?_
  refine ok_icmp_eq bX11_isUnder_12 (fun h12 => ?_) (fun h12 => ?_)
  · refine ok_step (ps := []) (L' := [some (.int (nI 3)), some (.int (nI o)), some (.int (nI 3)), some (.int (nI 0))]) (st' := [.int (nI o), .int (nI 3)]) (σ' := (α, μ)) (pc' := 33) kX11_isUnder_31 rfl rfl rf_a0 ?_
    refine ok_icmp_ne bX11_isUnder_33 (fun h33 => absurd (h12) h33) (fun _ => ?_)
    refine ok_step (ps := []) (L' := [some (.int (nI 3)), some (.int (nI o)), some (.int (nI 3)), some (.int (nI 0))]) (st' := [.int (nI 1)]) (σ' := (α, μ)) (pc' := 37) kX11_isUnder_36 rfl rfl rf_a0 ?_
    refine ok_goto bX11_isUnder_37 ?_
    refine ok_retz eX11_isUnder_41 rfl (Or.inr rfl) ?_
    have e : o = 3 := (nI_inj h12 (by omega) (by omega)).symm
    subst e
    exact ⟨rfl, rfl⟩
  · refine ok_step (ps := []) (L' := [some (.int (nI 3)), some (.int (nI o)), some (.int (nI 3)), some (.int (nI 0))]) (st' := [.int (nI 3)]) (σ' := (α, μ)) (pc' := 16) kX11_isUnder_15 rfl rfl rf_a0 ?_
    refine ok_if_eq bX11_isUnder_16 (fun h16 => absurd h16 ((by decide))) (fun _ => ?_)
    refine ok_step (ps := [rf_in (nI 3) 8]) (L' := [some (.int (nI 3)), some (.int (nI o)), some (.int (tAbove ((nI 3).toNatClampNeg))), some (.int ((nI 0) + (nI 1)))]) (st' := []) (σ' := (α, μ)) (pc' := 28) kX11_isUnder_19 rfl rfl (rf_a1 (rf_in_n (a := 3) rfl (by omega)) rf_a0) ?_
    try rw [(show (nI 3).toNatClampNeg = 3 from rf_cl_n rfl (by omega))]
    try rw [(show tAbove 3 = nI 2 from rfl)]
    try rw [(show ((nI 0) + (nI 1)) = nI 1 from rf_eq (rf_nadd (x := nI 0) (y := nI 1) rfl rfl) (by omega))]
    refine ok_goto bX11_isUnder_28 ?_
    refine ok_step (ps := []) (L' := [some (.int (nI 3)), some (.int (nI o)), some (.int (nI 2)), some (.int (nI 1))]) (st' := [.int (nI 8), .int (nI 1)]) (σ' := (α, μ)) (pc' := 7) kX11_isUnder_4 rfl rfl rf_a0 ?_
    refine ok_icmp_ge bX11_isUnder_7 (fun h7 => absurd h7 ((by decide))) (fun _ => ?_)
    refine ok_step (ps := []) (L' := [some (.int (nI 3)), some (.int (nI o)), some (.int (nI 2)), some (.int (nI 1))]) (st' := [.int (nI o), .int (nI 2)]) (σ' := (α, μ)) (pc' := 12) kX11_isUnder_10 rfl rfl rf_a0 ?_
    refine ok_icmp_eq bX11_isUnder_12 (fun h12_2 => ?_) (fun h12_2 => ?_)
    · refine ok_step (ps := []) (L' := [some (.int (nI 3)), some (.int (nI o)), some (.int (nI 2)), some (.int (nI 1))]) (st' := [.int (nI o), .int (nI 2)]) (σ' := (α, μ)) (pc' := 33) kX11_isUnder_31 rfl rfl rf_a0 ?_
      refine ok_icmp_ne bX11_isUnder_33 (fun h33 => absurd (h12_2) h33) (fun _ => ?_)
      refine ok_step (ps := []) (L' := [some (.int (nI 3)), some (.int (nI o)), some (.int (nI 2)), some (.int (nI 1))]) (st' := [.int (nI 1)]) (σ' := (α, μ)) (pc' := 37) kX11_isUnder_36 rfl rfl rf_a0 ?_
      refine ok_goto bX11_isUnder_37 ?_
      refine ok_retz eX11_isUnder_41 rfl (Or.inr rfl) ?_
      have e : o = 2 := (nI_inj h12_2 (by omega) (by omega)).symm
      subst e
      exact ⟨rfl, rfl⟩
    · refine ok_step (ps := []) (L' := [some (.int (nI 3)), some (.int (nI o)), some (.int (nI 2)), some (.int (nI 1))]) (st' := [.int (nI 2)]) (σ' := (α, μ)) (pc' := 16) kX11_isUnder_15 rfl rfl rf_a0 ?_
      refine ok_if_eq bX11_isUnder_16 (fun h16 => absurd h16 ((by decide))) (fun _ => ?_)
      refine ok_step (ps := [rf_in (nI 2) 8]) (L' := [some (.int (nI 3)), some (.int (nI o)), some (.int (tAbove ((nI 2).toNatClampNeg))), some (.int ((nI 1) + (nI 1)))]) (st' := []) (σ' := (α, μ)) (pc' := 28) kX11_isUnder_19 rfl rfl (rf_a1 (rf_in_n (a := 2) rfl (by omega)) rf_a0) ?_
      try rw [(show (nI 2).toNatClampNeg = 2 from rf_cl_n rfl (by omega))]
      try rw [(show tAbove 2 = nI 0 from rfl)]
      try rw [(show ((nI 1) + (nI 1)) = nI 2 from rf_eq (rf_nadd (x := nI 1) (y := nI 1) rfl rfl) (by omega))]
      refine ok_goto bX11_isUnder_28 ?_
      refine ok_step (ps := []) (L' := [some (.int (nI 3)), some (.int (nI o)), some (.int (nI 0)), some (.int (nI 2))]) (st' := [.int (nI 8), .int (nI 2)]) (σ' := (α, μ)) (pc' := 7) kX11_isUnder_4 rfl rfl rf_a0 ?_
      refine ok_icmp_ge bX11_isUnder_7 (fun h7 => absurd h7 ((by decide))) (fun _ => ?_)
      refine ok_step (ps := []) (L' := [some (.int (nI 3)), some (.int (nI o)), some (.int (nI 0)), some (.int (nI 2))]) (st' := [.int (nI o), .int (nI 0)]) (σ' := (α, μ)) (pc' := 12) kX11_isUnder_10 rfl rfl rf_a0 ?_
      refine ok_icmp_eq bX11_isUnder_12 (fun h12_3 => ?_) (fun h12_3 => ?_)
      · refine ok_step (ps := []) (L' := [some (.int (nI 3)), some (.int (nI o)), some (.int (nI 0)), some (.int (nI 2))]) (st' := [.int (nI o), .int (nI 0)]) (σ' := (α, μ)) (pc' := 33) kX11_isUnder_31 rfl rfl rf_a0 ?_
        refine ok_icmp_ne bX11_isUnder_33 (fun h33 => absurd (h12_3) h33) (fun _ => ?_)
        refine ok_step (ps := []) (L' := [some (.int (nI 3)), some (.int (nI o)), some (.int (nI 0)), some (.int (nI 2))]) (st' := [.int (nI 1)]) (σ' := (α, μ)) (pc' := 37) kX11_isUnder_36 rfl rfl rf_a0 ?_
        refine ok_goto bX11_isUnder_37 ?_
        refine ok_retz eX11_isUnder_41 rfl (Or.inr rfl) ?_
        have e : o = 0 := (nI_inj h12_3 (by omega) (by omega)).symm
        subst e
        exact ⟨rfl, rfl⟩
      · refine ok_step (ps := []) (L' := [some (.int (nI 3)), some (.int (nI o)), some (.int (nI 0)), some (.int (nI 2))]) (st' := [.int (nI 0)]) (σ' := (α, μ)) (pc' := 16) kX11_isUnder_15 rfl rfl rf_a0 ?_
        refine ok_if_eq bX11_isUnder_16 (fun _ => ?_) (fun h16 => absurd ((by decide)) h16)
        refine ok_step (ps := []) (L' := [some (.int (nI 3)), some (.int (nI o)), some (.int (nI 0)), some (.int (nI 2))]) (st' := [.int (nI o), .int (nI 0)]) (σ' := (α, μ)) (pc' := 33) kX11_isUnder_31 rfl rfl rf_a0 ?_
        refine ok_icmp_ne bX11_isUnder_33 (fun _ => ?_) (fun h33 => absurd h33 (h12_3))
        refine ok_step (ps := []) (L' := [some (.int (nI 3)), some (.int (nI o)), some (.int (nI 0)), some (.int (nI 2))]) (st' := [.int (nI 0)]) (σ' := (α, μ)) (pc' := 41) kX11_isUnder_40 rfl rfl rf_a0 ?_
        refine ok_retz eX11_isUnder_41 rfl (Or.inl rfl) ?_
        have e3 : o ≠ 3 := fun e => h12 (by subst e; rfl)
        have e2 : o ≠ 2 := fun e => h12_2 (by subst e; rfl)
        have e0 : o ≠ 0 := fun e => h12_3 (by subst e; rfl)
        exact ⟨rz (by simp [und]; omega), rfl⟩
theorem m_isOf_3 {o : Nat} (ho : o < 8) : rf_At (rf_T Ln xs) MX12_isOf 1 0 ([some (.int (nI 3)), some (.int (nI o))], [], 108, (α, μ)) (some (.int (bI (und 3 o)))) 108 (α, μ) := by
  refine rf_pa ?_
  refine ok_step (ps := []) (L' := [some (.int (nI 3)), some (.int (nI o))]) (st' := [.int (nI o)]) (σ' := (α, μ)) (pc' := 1) kX12_isOf_0 rfl rfl rf_a0 ?_
  refine ok_if_eq bX12_isOf_1 (fun h1 => ?_) (fun h1 => ?_)
  · refine ok_step (ps := []) (L' := [some (.int (nI 3)), some (.int (nI o))]) (st' := [.int (nI 1)]) (σ' := (α, μ)) (pc' := 47) kX12_isOf_46 rfl rfl rf_a0 ?_
    refine ok_goto bX12_isOf_47 ?_
    refine ok_retz eX12_isOf_51 rfl (Or.inr rfl) ?_
    have e : o = 0 := nI_inj h1 (by omega) (by omega)
    subst e
    exact ⟨rfl, rfl⟩
  · refine ok_step (ps := []) (L' := [some (.int (nI 3)), some (.int (nI o))]) (st' := [.int (nI 3), .int (nI o)]) (σ' := (α, μ)) (pc' := 6) kX12_isOf_4 rfl rfl rf_a0 ?_
    refine ok_icmp_eq bX12_isOf_6 (fun h6 => ?_) (fun h6 => ?_)
    · refine ok_step (ps := []) (L' := [some (.int (nI 3)), some (.int (nI o))]) (st' := [.int (nI 1)]) (σ' := (α, μ)) (pc' := 47) kX12_isOf_46 rfl rfl rf_a0 ?_
      refine ok_goto bX12_isOf_47 ?_
      refine ok_retz eX12_isOf_51 rfl (Or.inr rfl) ?_
      have e0 : o ≠ 0 := fun e => h1 (by subst e; rfl)
      have e : o = 3 := nI_inj h6 (by omega) (by omega)
      subst e
      exact ⟨rfl, rfl⟩
    · refine ok_step (ps := []) (L' := [some (.int (nI 3)), some (.int (nI o))]) (st' := [.int (nI 1), .int (nI o)]) (σ' := (α, μ)) (pc' := 11) kX12_isOf_9 rfl rfl rf_a0 ?_
      refine ok_icmp_ne bX12_isOf_11 (fun h11 => ?_) (fun h11 => ?_)
      · refine ok_step (ps := []) (L' := [some (.int (nI 3)), some (.int (nI o))]) (st' := [.int (nI 2), .int (nI o)]) (σ' := (α, μ)) (pc' := 22) kX12_isOf_20 rfl rfl rf_a0 ?_
        refine ok_icmp_ne bX12_isOf_22 (fun h22 => ?_) (fun h22 => ?_)
        · refine ok_step (ps := []) (L' := [some (.int (nI 3)), some (.int (nI o))]) (st' := [.int (nI 5), .int (nI o)]) (σ' := (α, μ)) (pc' := 37) kX12_isOf_35 rfl rfl rf_a0 ?_
          refine ok_icmp_ne bX12_isOf_37 (fun h37 => ?_) (fun h37 => ?_)
          · refine ok_step (ps := []) (L' := [some (.int (nI 3)), some (.int (nI o))]) (st' := [.int (nI 0)]) (σ' := (α, μ)) (pc' := 51) kX12_isOf_50 rfl rfl rf_a0 ?_
            refine ok_retz eX12_isOf_51 rfl (Or.inl rfl) ?_
            have e0 : o ≠ 0 := fun e => h1 (by subst e; rfl)
            have e3 : o ≠ 3 := fun e => h6 (by subst e; rfl)
            have e1 : o ≠ 1 := fun e => h11 (by subst e; rfl)
            have e2 : o ≠ 2 := fun e => h22 (by subst e; rfl)
            have e5 : o ≠ 5 := fun e => h37 (by subst e; rfl)
            exact ⟨rz (by simp [und]; omega), rfl⟩
          · refine ok_step (ps := []) (L' := [some (.int (nI 3)), some (.int (nI o))]) (st' := [.int (nI 7), .int (nI 3)]) (σ' := (α, μ)) (pc' := 43) kX12_isOf_40 rfl rfl rf_a0 ?_
            refine ok_icmp_ne bX12_isOf_43 (fun _ => ?_) (fun h43 => absurd h43 ((by decide)))
            refine ok_step (ps := []) (L' := [some (.int (nI 3)), some (.int (nI o))]) (st' := [.int (nI 0)]) (σ' := (α, μ)) (pc' := 51) kX12_isOf_50 rfl rfl rf_a0 ?_
            refine ok_retz eX12_isOf_51 rfl (Or.inl rfl) ?_
            have e0 : o ≠ 0 := fun e => h1 (by subst e; rfl)
            have e3 : o ≠ 3 := fun e => h6 (by subst e; rfl)
            have e1 : o ≠ 1 := fun e => h11 (by subst e; rfl)
            have e2 : o ≠ 2 := fun e => h22 (by subst e; rfl)
            have e : o = 5 := nI_inj h37 (by omega) (by omega)
            subst e
            exact ⟨rfl, rfl⟩
        · refine ok_step (ps := []) (L' := [some (.int (nI 3)), some (.int (nI o))]) (st' := [.int (nI 3), .int (nI 3)]) (σ' := (α, μ)) (pc' := 27) kX12_isOf_25 rfl rfl rf_a0 ?_
          refine ok_icmp_eq bX12_isOf_27 (fun _ => ?_) (fun h27 => absurd ((by decide)) h27)
          refine ok_step (ps := []) (L' := [some (.int (nI 3)), some (.int (nI o))]) (st' := [.int (nI 1)]) (σ' := (α, μ)) (pc' := 47) kX12_isOf_46 rfl rfl rf_a0 ?_
          refine ok_goto bX12_isOf_47 ?_
          refine ok_retz eX12_isOf_51 rfl (Or.inr rfl) ?_
          have e0 : o ≠ 0 := fun e => h1 (by subst e; rfl)
          have e3 : o ≠ 3 := fun e => h6 (by subst e; rfl)
          have e1 : o ≠ 1 := fun e => h11 (by subst e; rfl)
          have e : o = 2 := nI_inj h22 (by omega) (by omega)
          subst e
          exact ⟨rfl, rfl⟩
      · refine ok_step (ps := []) (L' := [some (.int (nI 3)), some (.int (nI o))]) (st' := [.int (nI 6), .int (nI 3)]) (σ' := (α, μ)) (pc' := 17) kX12_isOf_14 rfl rfl rf_a0 ?_
        refine ok_icmp_eq bX12_isOf_17 (fun h17 => absurd h17 ((by decide))) (fun _ => ?_)
        refine ok_step (ps := []) (L' := [some (.int (nI 3)), some (.int (nI o))]) (st' := [.int (nI 2), .int (nI o)]) (σ' := (α, μ)) (pc' := 22) kX12_isOf_20 rfl rfl rf_a0 ?_
        refine ok_icmp_ne bX12_isOf_22 (fun h22 => ?_) (fun h22 => ?_)
        · refine ok_step (ps := []) (L' := [some (.int (nI 3)), some (.int (nI o))]) (st' := [.int (nI 5), .int (nI o)]) (σ' := (α, μ)) (pc' := 37) kX12_isOf_35 rfl rfl rf_a0 ?_
          refine ok_icmp_ne bX12_isOf_37 (fun h37 => ?_) (fun h37 => ?_)
          · refine ok_step (ps := []) (L' := [some (.int (nI 3)), some (.int (nI o))]) (st' := [.int (nI 0)]) (σ' := (α, μ)) (pc' := 51) kX12_isOf_50 rfl rfl rf_a0 ?_
            refine ok_retz eX12_isOf_51 rfl (Or.inl rfl) ?_
            have e0 : o ≠ 0 := fun e => h1 (by subst e; rfl)
            have e3 : o ≠ 3 := fun e => h6 (by subst e; rfl)
            have e2 : o ≠ 2 := fun e => h22 (by subst e; rfl)
            have e5 : o ≠ 5 := fun e => h37 (by subst e; rfl)
            have e : o = 1 := nI_inj h11 (by omega) (by omega)
            subst e
            exact ⟨rfl, rfl⟩
          · refine ok_step (ps := []) (L' := [some (.int (nI 3)), some (.int (nI o))]) (st' := [.int (nI 7), .int (nI 3)]) (σ' := (α, μ)) (pc' := 43) kX12_isOf_40 rfl rfl rf_a0 ?_
            refine ok_icmp_ne bX12_isOf_43 (fun _ => ?_) (fun h43 => absurd h43 ((by decide)))
            refine ok_step (ps := []) (L' := [some (.int (nI 3)), some (.int (nI o))]) (st' := [.int (nI 0)]) (σ' := (α, μ)) (pc' := 51) kX12_isOf_50 rfl rfl rf_a0 ?_
            refine ok_retz eX12_isOf_51 rfl (Or.inl rfl) ?_
            have e1 : o = 1 := nI_inj h11 (by omega) (by omega)
            have e2 : o = 5 := nI_inj h37 (by omega) (by omega)
            omega
        · refine ok_step (ps := []) (L' := [some (.int (nI 3)), some (.int (nI o))]) (st' := [.int (nI 3), .int (nI 3)]) (σ' := (α, μ)) (pc' := 27) kX12_isOf_25 rfl rfl rf_a0 ?_
          refine ok_icmp_eq bX12_isOf_27 (fun _ => ?_) (fun h27 => absurd ((by decide)) h27)
          refine ok_step (ps := []) (L' := [some (.int (nI 3)), some (.int (nI o))]) (st' := [.int (nI 1)]) (σ' := (α, μ)) (pc' := 47) kX12_isOf_46 rfl rfl rf_a0 ?_
          refine ok_goto bX12_isOf_47 ?_
          refine ok_retz eX12_isOf_51 rfl (Or.inr rfl) ?_
          have e1 : o = 1 := nI_inj h11 (by omega) (by omega)
          have e2 : o = 2 := nI_inj h22 (by omega) (by omega)
          omega
theorem c_isUnder_4 {o : Nat} (ho : o < 8) : rf_At (rf_T Ln xs) MX11_isUnder 1 0 ([some (.int (nI 4)), some (.int (nI o)), none, none], [], 108, (α, μ)) (some (.int (bI (und 4 o)))) 108 (α, μ) := by
  refine rf_pa ?_
  refine ok_step (ps := []) (L' := [some (.int (nI 4)), some (.int (nI o)), some (.int (nI 4)), some (.int (nI 0))]) (st' := []) (σ' := (α, μ)) (pc' := 4) kX11_isUnder_0 rfl rfl rf_a0 ?_
  refine ok_step (ps := []) (L' := [some (.int (nI 4)), some (.int (nI o)), some (.int (nI 4)), some (.int (nI 0))]) (st' := [.int (nI 8), .int (nI 0)]) (σ' := (α, μ)) (pc' := 7) kX11_isUnder_4 rfl rfl rf_a0 ?_
  refine ok_icmp_ge bX11_isUnder_7 (fun h7 => absurd h7 ((by decide))) (fun _ => ?_)
  refine ok_step (ps := []) (L' := [some (.int (nI 4)), some (.int (nI o)), some (.int (nI 4)), some (.int (nI 0))]) (st' := [.int (nI o), .int (nI 4)]) (σ' := (α, μ)) (pc' := 12) kX11_isUnder_10 rfl rfl rf_a0 ?_
  refine ok_icmp_eq bX11_isUnder_12 (fun h12 => ?_) (fun h12 => ?_)
  · refine ok_step (ps := []) (L' := [some (.int (nI 4)), some (.int (nI o)), some (.int (nI 4)), some (.int (nI 0))]) (st' := [.int (nI o), .int (nI 4)]) (σ' := (α, μ)) (pc' := 33) kX11_isUnder_31 rfl rfl rf_a0 ?_
    refine ok_icmp_ne bX11_isUnder_33 (fun h33 => absurd (h12) h33) (fun _ => ?_)
    refine ok_step (ps := []) (L' := [some (.int (nI 4)), some (.int (nI o)), some (.int (nI 4)), some (.int (nI 0))]) (st' := [.int (nI 1)]) (σ' := (α, μ)) (pc' := 37) kX11_isUnder_36 rfl rfl rf_a0 ?_
    refine ok_goto bX11_isUnder_37 ?_
    refine ok_retz eX11_isUnder_41 rfl (Or.inr rfl) ?_
    have e : o = 4 := (nI_inj h12 (by omega) (by omega)).symm
    subst e
    exact ⟨rfl, rfl⟩
  · refine ok_step (ps := []) (L' := [some (.int (nI 4)), some (.int (nI o)), some (.int (nI 4)), some (.int (nI 0))]) (st' := [.int (nI 4)]) (σ' := (α, μ)) (pc' := 16) kX11_isUnder_15 rfl rfl rf_a0 ?_
    refine ok_if_eq bX11_isUnder_16 (fun h16 => absurd h16 ((by decide))) (fun _ => ?_)
    refine ok_step (ps := [rf_in (nI 4) 8]) (L' := [some (.int (nI 4)), some (.int (nI o)), some (.int (tAbove ((nI 4).toNatClampNeg))), some (.int ((nI 0) + (nI 1)))]) (st' := []) (σ' := (α, μ)) (pc' := 28) kX11_isUnder_19 rfl rfl (rf_a1 (rf_in_n (a := 4) rfl (by omega)) rf_a0) ?_
    try rw [(show (nI 4).toNatClampNeg = 4 from rf_cl_n rfl (by omega))]
    try rw [(show tAbove 4 = nI 2 from rfl)]
    try rw [(show ((nI 0) + (nI 1)) = nI 1 from rf_eq (rf_nadd (x := nI 0) (y := nI 1) rfl rfl) (by omega))]
    refine ok_goto bX11_isUnder_28 ?_
    refine ok_step (ps := []) (L' := [some (.int (nI 4)), some (.int (nI o)), some (.int (nI 2)), some (.int (nI 1))]) (st' := [.int (nI 8), .int (nI 1)]) (σ' := (α, μ)) (pc' := 7) kX11_isUnder_4 rfl rfl rf_a0 ?_
    refine ok_icmp_ge bX11_isUnder_7 (fun h7 => absurd h7 ((by decide))) (fun _ => ?_)
    refine ok_step (ps := []) (L' := [some (.int (nI 4)), some (.int (nI o)), some (.int (nI 2)), some (.int (nI 1))]) (st' := [.int (nI o), .int (nI 2)]) (σ' := (α, μ)) (pc' := 12) kX11_isUnder_10 rfl rfl rf_a0 ?_
    refine ok_icmp_eq bX11_isUnder_12 (fun h12_2 => ?_) (fun h12_2 => ?_)
    · refine ok_step (ps := []) (L' := [some (.int (nI 4)), some (.int (nI o)), some (.int (nI 2)), some (.int (nI 1))]) (st' := [.int (nI o), .int (nI 2)]) (σ' := (α, μ)) (pc' := 33) kX11_isUnder_31 rfl rfl rf_a0 ?_
      refine ok_icmp_ne bX11_isUnder_33 (fun h33 => absurd (h12_2) h33) (fun _ => ?_)
      refine ok_step (ps := []) (L' := [some (.int (nI 4)), some (.int (nI o)), some (.int (nI 2)), some (.int (nI 1))]) (st' := [.int (nI 1)]) (σ' := (α, μ)) (pc' := 37) kX11_isUnder_36 rfl rfl rf_a0 ?_
      refine ok_goto bX11_isUnder_37 ?_
      refine ok_retz eX11_isUnder_41 rfl (Or.inr rfl) ?_
      have e : o = 2 := (nI_inj h12_2 (by omega) (by omega)).symm
      subst e
      exact ⟨rfl, rfl⟩
    · refine ok_step (ps := []) (L' := [some (.int (nI 4)), some (.int (nI o)), some (.int (nI 2)), some (.int (nI 1))]) (st' := [.int (nI 2)]) (σ' := (α, μ)) (pc' := 16) kX11_isUnder_15 rfl rfl rf_a0 ?_
      refine ok_if_eq bX11_isUnder_16 (fun h16 => absurd h16 ((by decide))) (fun _ => ?_)
      refine ok_step (ps := [rf_in (nI 2) 8]) (L' := [some (.int (nI 4)), some (.int (nI o)), some (.int (tAbove ((nI 2).toNatClampNeg))), some (.int ((nI 1) + (nI 1)))]) (st' := []) (σ' := (α, μ)) (pc' := 28) kX11_isUnder_19 rfl rfl (rf_a1 (rf_in_n (a := 2) rfl (by omega)) rf_a0) ?_
      try rw [(show (nI 2).toNatClampNeg = 2 from rf_cl_n rfl (by omega))]
      try rw [(show tAbove 2 = nI 0 from rfl)]
      try rw [(show ((nI 1) + (nI 1)) = nI 2 from rf_eq (rf_nadd (x := nI 1) (y := nI 1) rfl rfl) (by omega))]
      refine ok_goto bX11_isUnder_28 ?_
      refine ok_step (ps := []) (L' := [some (.int (nI 4)), some (.int (nI o)), some (.int (nI 0)), some (.int (nI 2))]) (st' := [.int (nI 8), .int (nI 2)]) (σ' := (α, μ)) (pc' := 7) kX11_isUnder_4 rfl rfl rf_a0 ?_
      refine ok_icmp_ge bX11_isUnder_7 (fun h7 => absurd h7 ((by decide))) (fun _ => ?_)
      refine ok_step (ps := []) (L' := [some (.int (nI 4)), some (.int (nI o)), some (.int (nI 0)), some (.int (nI 2))]) (st' := [.int (nI o), .int (nI 0)]) (σ' := (α, μ)) (pc' := 12) kX11_isUnder_10 rfl rfl rf_a0 ?_
      refine ok_icmp_eq bX11_isUnder_12 (fun h12_3 => ?_) (fun h12_3 => ?_)
      · refine ok_step (ps := []) (L' := [some (.int (nI 4)), some (.int (nI o)), some (.int (nI 0)), some (.int (nI 2))]) (st' := [.int (nI o), .int (nI 0)]) (σ' := (α, μ)) (pc' := 33) kX11_isUnder_31 rfl rfl rf_a0 ?_
        refine ok_icmp_ne bX11_isUnder_33 (fun h33 => absurd (h12_3) h33) (fun _ => ?_)
        refine ok_step (ps := []) (L' := [some (.int (nI 4)), some (.int (nI o)), some (.int (nI 0)), some (.int (nI 2))]) (st' := [.int (nI 1)]) (σ' := (α, μ)) (pc' := 37) kX11_isUnder_36 rfl rfl rf_a0 ?_
        refine ok_goto bX11_isUnder_37 ?_
        refine ok_retz eX11_isUnder_41 rfl (Or.inr rfl) ?_
        have e : o = 0 := (nI_inj h12_3 (by omega) (by omega)).symm
        subst e
        exact ⟨rfl, rfl⟩
      · refine ok_step (ps := []) (L' := [some (.int (nI 4)), some (.int (nI o)), some (.int (nI 0)), some (.int (nI 2))]) (st' := [.int (nI 0)]) (σ' := (α, μ)) (pc' := 16) kX11_isUnder_15 rfl rfl rf_a0 ?_
        refine ok_if_eq bX11_isUnder_16 (fun _ => ?_) (fun h16 => absurd ((by decide)) h16)
        refine ok_step (ps := []) (L' := [some (.int (nI 4)), some (.int (nI o)), some (.int (nI 0)), some (.int (nI 2))]) (st' := [.int (nI o), .int (nI 0)]) (σ' := (α, μ)) (pc' := 33) kX11_isUnder_31 rfl rfl rf_a0 ?_
        refine ok_icmp_ne bX11_isUnder_33 (fun _ => ?_) (fun h33 => absurd h33 (h12_3))
        refine ok_step (ps := []) (L' := [some (.int (nI 4)), some (.int (nI o)), some (.int (nI 0)), some (.int (nI 2))]) (st' := [.int (nI 0)]) (σ' := (α, μ)) (pc' := 41) kX11_isUnder_40 rfl rfl rf_a0 ?_
        refine ok_retz eX11_isUnder_41 rfl (Or.inl rfl) ?_
        have e4 : o ≠ 4 := fun e => h12 (by subst e; rfl)
        have e2 : o ≠ 2 := fun e => h12_2 (by subst e; rfl)
        have e0 : o ≠ 0 := fun e => h12_3 (by subst e; rfl)
        exact ⟨rz (by simp [und]; omega), rfl⟩
theorem m_isOf_4 {o : Nat} (ho : o < 8) : rf_At (rf_T Ln xs) MX12_isOf 1 0 ([some (.int (nI 4)), some (.int (nI o))], [], 108, (α, μ)) (some (.int (bI (und 4 o)))) 108 (α, μ) := by
  refine rf_pa ?_
  refine ok_step (ps := []) (L' := [some (.int (nI 4)), some (.int (nI o))]) (st' := [.int (nI o)]) (σ' := (α, μ)) (pc' := 1) kX12_isOf_0 rfl rfl rf_a0 ?_
  refine ok_if_eq bX12_isOf_1 (fun h1 => ?_) (fun h1 => ?_)
  · refine ok_step (ps := []) (L' := [some (.int (nI 4)), some (.int (nI o))]) (st' := [.int (nI 1)]) (σ' := (α, μ)) (pc' := 47) kX12_isOf_46 rfl rfl rf_a0 ?_
    refine ok_goto bX12_isOf_47 ?_
    refine ok_retz eX12_isOf_51 rfl (Or.inr rfl) ?_
    have e : o = 0 := nI_inj h1 (by omega) (by omega)
    subst e
    exact ⟨rfl, rfl⟩
  · refine ok_step (ps := []) (L' := [some (.int (nI 4)), some (.int (nI o))]) (st' := [.int (nI 4), .int (nI o)]) (σ' := (α, μ)) (pc' := 6) kX12_isOf_4 rfl rfl rf_a0 ?_
    refine ok_icmp_eq bX12_isOf_6 (fun h6 => ?_) (fun h6 => ?_)
    · refine ok_step (ps := []) (L' := [some (.int (nI 4)), some (.int (nI o))]) (st' := [.int (nI 1)]) (σ' := (α, μ)) (pc' := 47) kX12_isOf_46 rfl rfl rf_a0 ?_
      refine ok_goto bX12_isOf_47 ?_
      refine ok_retz eX12_isOf_51 rfl (Or.inr rfl) ?_
      have e0 : o ≠ 0 := fun e => h1 (by subst e; rfl)
      have e : o = 4 := nI_inj h6 (by omega) (by omega)
      subst e
      exact ⟨rfl, rfl⟩
    · refine ok_step (ps := []) (L' := [some (.int (nI 4)), some (.int (nI o))]) (st' := [.int (nI 1), .int (nI o)]) (σ' := (α, μ)) (pc' := 11) kX12_isOf_9 rfl rfl rf_a0 ?_
      refine ok_icmp_ne bX12_isOf_11 (fun h11 => ?_) (fun h11 => ?_)
      · refine ok_step (ps := []) (L' := [some (.int (nI 4)), some (.int (nI o))]) (st' := [.int (nI 2), .int (nI o)]) (σ' := (α, μ)) (pc' := 22) kX12_isOf_20 rfl rfl rf_a0 ?_
        refine ok_icmp_ne bX12_isOf_22 (fun h22 => ?_) (fun h22 => ?_)
        · refine ok_step (ps := []) (L' := [some (.int (nI 4)), some (.int (nI o))]) (st' := [.int (nI 5), .int (nI o)]) (σ' := (α, μ)) (pc' := 37) kX12_isOf_35 rfl rfl rf_a0 ?_
          refine ok_icmp_ne bX12_isOf_37 (fun h37 => ?_) (fun h37 => ?_)
          · refine ok_step (ps := []) (L' := [some (.int (nI 4)), some (.int (nI o))]) (st' := [.int (nI 0)]) (σ' := (α, μ)) (pc' := 51) kX12_isOf_50 rfl rfl rf_a0 ?_
            refine ok_retz eX12_isOf_51 rfl (Or.inl rfl) ?_
            have e0 : o ≠ 0 := fun e => h1 (by subst e; rfl)
            have e4 : o ≠ 4 := fun e => h6 (by subst e; rfl)
            have e1 : o ≠ 1 := fun e => h11 (by subst e; rfl)
            have e2 : o ≠ 2 := fun e => h22 (by subst e; rfl)
            have e5 : o ≠ 5 := fun e => h37 (by subst e; rfl)
            exact ⟨rz (by simp [und]; omega), rfl⟩
          · refine ok_step (ps := []) (L' := [some (.int (nI 4)), some (.int (nI o))]) (st' := [.int (nI 7), .int (nI 4)]) (σ' := (α, μ)) (pc' := 43) kX12_isOf_40 rfl rfl rf_a0 ?_
            refine ok_icmp_ne bX12_isOf_43 (fun _ => ?_) (fun h43 => absurd h43 ((by decide)))
            refine ok_step (ps := []) (L' := [some (.int (nI 4)), some (.int (nI o))]) (st' := [.int (nI 0)]) (σ' := (α, μ)) (pc' := 51) kX12_isOf_50 rfl rfl rf_a0 ?_
            refine ok_retz eX12_isOf_51 rfl (Or.inl rfl) ?_
            have e0 : o ≠ 0 := fun e => h1 (by subst e; rfl)
            have e4 : o ≠ 4 := fun e => h6 (by subst e; rfl)
            have e1 : o ≠ 1 := fun e => h11 (by subst e; rfl)
            have e2 : o ≠ 2 := fun e => h22 (by subst e; rfl)
            have e : o = 5 := nI_inj h37 (by omega) (by omega)
            subst e
            exact ⟨rfl, rfl⟩
        · refine ok_step (ps := []) (L' := [some (.int (nI 4)), some (.int (nI o))]) (st' := [.int (nI 3), .int (nI 4)]) (σ' := (α, μ)) (pc' := 27) kX12_isOf_25 rfl rfl rf_a0 ?_
          refine ok_icmp_eq bX12_isOf_27 (fun h27 => absurd h27 ((by decide))) (fun _ => ?_)
          refine ok_step (ps := []) (L' := [some (.int (nI 4)), some (.int (nI o))]) (st' := [.int (nI 4), .int (nI 4)]) (σ' := (α, μ)) (pc' := 32) kX12_isOf_30 rfl rfl rf_a0 ?_
          refine ok_icmp_eq bX12_isOf_32 (fun _ => ?_) (fun h32 => absurd ((by decide)) h32)
          refine ok_step (ps := []) (L' := [some (.int (nI 4)), some (.int (nI o))]) (st' := [.int (nI 1)]) (σ' := (α, μ)) (pc' := 47) kX12_isOf_46 rfl rfl rf_a0 ?_
          refine ok_goto bX12_isOf_47 ?_
          refine ok_retz eX12_isOf_51 rfl (Or.inr rfl) ?_
          have e0 : o ≠ 0 := fun e => h1 (by subst e; rfl)
          have e4 : o ≠ 4 := fun e => h6 (by subst e; rfl)
          have e1 : o ≠ 1 := fun e => h11 (by subst e; rfl)
          have e : o = 2 := nI_inj h22 (by omega) (by omega)
          subst e
          exact ⟨rfl, rfl⟩
      · refine ok_step (ps := []) (L' := [some (.int (nI 4)), some (.int (nI o))]) (st' := [.int (nI 6), .int (nI 4)]) (σ' := (α, μ)) (pc' := 17) kX12_isOf_14 rfl rfl rf_a0 ?_
        refine ok_icmp_eq bX12_isOf_17 (fun h17 => absurd h17 ((by decide))) (fun _ => ?_)
        refine ok_step (ps := []) (L' := [some (.int (nI 4)), some (.int (nI o))]) (st' := [.int (nI 2), .int (nI o)]) (σ' := (α, μ)) (pc' := 22) kX12_isOf_20 rfl rfl rf_a0 ?_
        refine ok_icmp_ne bX12_isOf_22 (fun h22 => ?_) (fun h22 => ?_)
        · refine ok_step (ps := []) (L' := [some (.int (nI 4)), some (.int (nI o))]) (st' := [.int (nI 5), .int (nI o)]) (σ' := (α, μ)) (pc' := 37) kX12_isOf_35 rfl rfl rf_a0 ?_
          refine ok_icmp_ne bX12_isOf_37 (fun h37 => ?_) (fun h37 => ?_)
          · refine ok_step (ps := []) (L' := [some (.int (nI 4)), some (.int (nI o))]) (st' := [.int (nI 0)]) (σ' := (α, μ)) (pc' := 51) kX12_isOf_50 rfl rfl rf_a0 ?_
            refine ok_retz eX12_isOf_51 rfl (Or.inl rfl) ?_
            have e0 : o ≠ 0 := fun e => h1 (by subst e; rfl)
            have e4 : o ≠ 4 := fun e => h6 (by subst e; rfl)
            have e2 : o ≠ 2 := fun e => h22 (by subst e; rfl)
            have e5 : o ≠ 5 := fun e => h37 (by subst e; rfl)
            have e : o = 1 := nI_inj h11 (by omega) (by omega)
            subst e
            exact ⟨rfl, rfl⟩
          · refine ok_step (ps := []) (L' := [some (.int (nI 4)), some (.int (nI o))]) (st' := [.int (nI 7), .int (nI 4)]) (σ' := (α, μ)) (pc' := 43) kX12_isOf_40 rfl rfl rf_a0 ?_
            refine ok_icmp_ne bX12_isOf_43 (fun _ => ?_) (fun h43 => absurd h43 ((by decide)))
            refine ok_step (ps := []) (L' := [some (.int (nI 4)), some (.int (nI o))]) (st' := [.int (nI 0)]) (σ' := (α, μ)) (pc' := 51) kX12_isOf_50 rfl rfl rf_a0 ?_
            refine ok_retz eX12_isOf_51 rfl (Or.inl rfl) ?_
            have e1 : o = 1 := nI_inj h11 (by omega) (by omega)
            have e2 : o = 5 := nI_inj h37 (by omega) (by omega)
            omega
        · refine ok_step (ps := []) (L' := [some (.int (nI 4)), some (.int (nI o))]) (st' := [.int (nI 3), .int (nI 4)]) (σ' := (α, μ)) (pc' := 27) kX12_isOf_25 rfl rfl rf_a0 ?_
          refine ok_icmp_eq bX12_isOf_27 (fun h27 => absurd h27 ((by decide))) (fun _ => ?_)
          refine ok_step (ps := []) (L' := [some (.int (nI 4)), some (.int (nI o))]) (st' := [.int (nI 4), .int (nI 4)]) (σ' := (α, μ)) (pc' := 32) kX12_isOf_30 rfl rfl rf_a0 ?_
          refine ok_icmp_eq bX12_isOf_32 (fun _ => ?_) (fun h32 => absurd ((by decide)) h32)
          refine ok_step (ps := []) (L' := [some (.int (nI 4)), some (.int (nI o))]) (st' := [.int (nI 1)]) (σ' := (α, μ)) (pc' := 47) kX12_isOf_46 rfl rfl rf_a0 ?_
          refine ok_goto bX12_isOf_47 ?_
          refine ok_retz eX12_isOf_51 rfl (Or.inr rfl) ?_
          have e1 : o = 1 := nI_inj h11 (by omega) (by omega)
          have e2 : o = 2 := nI_inj h22 (by omega) (by omega)
          omega
theorem c_isUnder_5 {o : Nat} (ho : o < 8) : rf_At (rf_T Ln xs) MX11_isUnder 1 0 ([some (.int (nI 5)), some (.int (nI o)), none, none], [], 108, (α, μ)) (some (.int (bI (und 5 o)))) 108 (α, μ) := by
  refine rf_pa ?_
  refine ok_step (ps := []) (L' := [some (.int (nI 5)), some (.int (nI o)), some (.int (nI 5)), some (.int (nI 0))]) (st' := []) (σ' := (α, μ)) (pc' := 4) kX11_isUnder_0 rfl rfl rf_a0 ?_
  refine ok_step (ps := []) (L' := [some (.int (nI 5)), some (.int (nI o)), some (.int (nI 5)), some (.int (nI 0))]) (st' := [.int (nI 8), .int (nI 0)]) (σ' := (α, μ)) (pc' := 7) kX11_isUnder_4 rfl rfl rf_a0 ?_
  refine ok_icmp_ge bX11_isUnder_7 (fun h7 => absurd h7 ((by decide))) (fun _ => ?_)
  refine ok_step (ps := []) (L' := [some (.int (nI 5)), some (.int (nI o)), some (.int (nI 5)), some (.int (nI 0))]) (st' := [.int (nI o), .int (nI 5)]) (σ' := (α, μ)) (pc' := 12) kX11_isUnder_10 rfl rfl rf_a0 ?_
  refine ok_icmp_eq bX11_isUnder_12 (fun h12 => ?_) (fun h12 => ?_)
  · refine ok_step (ps := []) (L' := [some (.int (nI 5)), some (.int (nI o)), some (.int (nI 5)), some (.int (nI 0))]) (st' := [.int (nI o), .int (nI 5)]) (σ' := (α, μ)) (pc' := 33) kX11_isUnder_31 rfl rfl rf_a0 ?_
    refine ok_icmp_ne bX11_isUnder_33 (fun h33 => absurd (h12) h33) (fun _ => ?_)
    refine ok_step (ps := []) (L' := [some (.int (nI 5)), some (.int (nI o)), some (.int (nI 5)), some (.int (nI 0))]) (st' := [.int (nI 1)]) (σ' := (α, μ)) (pc' := 37) kX11_isUnder_36 rfl rfl rf_a0 ?_
    refine ok_goto bX11_isUnder_37 ?_
    refine ok_retz eX11_isUnder_41 rfl (Or.inr rfl) ?_
    have e : o = 5 := (nI_inj h12 (by omega) (by omega)).symm
    subst e
    exact ⟨rfl, rfl⟩
  · refine ok_step (ps := []) (L' := [some (.int (nI 5)), some (.int (nI o)), some (.int (nI 5)), some (.int (nI 0))]) (st' := [.int (nI 5)]) (σ' := (α, μ)) (pc' := 16) kX11_isUnder_15 rfl rfl rf_a0 ?_
    refine ok_if_eq bX11_isUnder_16 (fun h16 => absurd h16 ((by decide))) (fun _ => ?_)
    refine ok_step (ps := [rf_in (nI 5) 8]) (L' := [some (.int (nI 5)), some (.int (nI o)), some (.int (tAbove ((nI 5).toNatClampNeg))), some (.int ((nI 0) + (nI 1)))]) (st' := []) (σ' := (α, μ)) (pc' := 28) kX11_isUnder_19 rfl rfl (rf_a1 (rf_in_n (a := 5) rfl (by omega)) rf_a0) ?_
    try rw [(show (nI 5).toNatClampNeg = 5 from rf_cl_n rfl (by omega))]
    try rw [(show tAbove 5 = nI 0 from rfl)]
    try rw [(show ((nI 0) + (nI 1)) = nI 1 from rf_eq (rf_nadd (x := nI 0) (y := nI 1) rfl rfl) (by omega))]
    refine ok_goto bX11_isUnder_28 ?_
    refine ok_step (ps := []) (L' := [some (.int (nI 5)), some (.int (nI o)), some (.int (nI 0)), some (.int (nI 1))]) (st' := [.int (nI 8), .int (nI 1)]) (σ' := (α, μ)) (pc' := 7) kX11_isUnder_4 rfl rfl rf_a0 ?_
    refine ok_icmp_ge bX11_isUnder_7 (fun h7 => absurd h7 ((by decide))) (fun _ => ?_)
    refine ok_step (ps := []) (L' := [some (.int (nI 5)), some (.int (nI o)), some (.int (nI 0)), some (.int (nI 1))]) (st' := [.int (nI o), .int (nI 0)]) (σ' := (α, μ)) (pc' := 12) kX11_isUnder_10 rfl rfl rf_a0 ?_
    refine ok_icmp_eq bX11_isUnder_12 (fun h12_2 => ?_) (fun h12_2 => ?_)
    · refine ok_step (ps := []) (L' := [some (.int (nI 5)), some (.int (nI o)), some (.int (nI 0)), some (.int (nI 1))]) (st' := [.int (nI o), .int (nI 0)]) (σ' := (α, μ)) (pc' := 33) kX11_isUnder_31 rfl rfl rf_a0 ?_
      refine ok_icmp_ne bX11_isUnder_33 (fun h33 => absurd (h12_2) h33) (fun _ => ?_)
      refine ok_step (ps := []) (L' := [some (.int (nI 5)), some (.int (nI o)), some (.int (nI 0)), some (.int (nI 1))]) (st' := [.int (nI 1)]) (σ' := (α, μ)) (pc' := 37) kX11_isUnder_36 rfl rfl rf_a0 ?_
      refine ok_goto bX11_isUnder_37 ?_
      refine ok_retz eX11_isUnder_41 rfl (Or.inr rfl) ?_
      have e : o = 0 := (nI_inj h12_2 (by omega) (by omega)).symm
      subst e
      exact ⟨rfl, rfl⟩
    · refine ok_step (ps := []) (L' := [some (.int (nI 5)), some (.int (nI o)), some (.int (nI 0)), some (.int (nI 1))]) (st' := [.int (nI 0)]) (σ' := (α, μ)) (pc' := 16) kX11_isUnder_15 rfl rfl rf_a0 ?_
      refine ok_if_eq bX11_isUnder_16 (fun _ => ?_) (fun h16 => absurd ((by decide)) h16)
      refine ok_step (ps := []) (L' := [some (.int (nI 5)), some (.int (nI o)), some (.int (nI 0)), some (.int (nI 1))]) (st' := [.int (nI o), .int (nI 0)]) (σ' := (α, μ)) (pc' := 33) kX11_isUnder_31 rfl rfl rf_a0 ?_
      refine ok_icmp_ne bX11_isUnder_33 (fun _ => ?_) (fun h33 => absurd h33 (h12_2))
      refine ok_step (ps := []) (L' := [some (.int (nI 5)), some (.int (nI o)), some (.int (nI 0)), some (.int (nI 1))]) (st' := [.int (nI 0)]) (σ' := (α, μ)) (pc' := 41) kX11_isUnder_40 rfl rfl rf_a0 ?_
      refine ok_retz eX11_isUnder_41 rfl (Or.inl rfl) ?_
      have e5 : o ≠ 5 := fun e => h12 (by subst e; rfl)
      have e0 : o ≠ 0 := fun e => h12_2 (by subst e; rfl)
      exact ⟨rz (by simp [und]; omega), rfl⟩
theorem m_isOf_5 {o : Nat} (ho : o < 8) : rf_At (rf_T Ln xs) MX12_isOf 1 0 ([some (.int (nI 5)), some (.int (nI o))], [], 108, (α, μ)) (some (.int (bI (und 5 o)))) 108 (α, μ) := by
  refine rf_pa ?_
  refine ok_step (ps := []) (L' := [some (.int (nI 5)), some (.int (nI o))]) (st' := [.int (nI o)]) (σ' := (α, μ)) (pc' := 1) kX12_isOf_0 rfl rfl rf_a0 ?_
  refine ok_if_eq bX12_isOf_1 (fun h1 => ?_) (fun h1 => ?_)
  · refine ok_step (ps := []) (L' := [some (.int (nI 5)), some (.int (nI o))]) (st' := [.int (nI 1)]) (σ' := (α, μ)) (pc' := 47) kX12_isOf_46 rfl rfl rf_a0 ?_
    refine ok_goto bX12_isOf_47 ?_
    refine ok_retz eX12_isOf_51 rfl (Or.inr rfl) ?_
    have e : o = 0 := nI_inj h1 (by omega) (by omega)
    subst e
    exact ⟨rfl, rfl⟩
  · refine ok_step (ps := []) (L' := [some (.int (nI 5)), some (.int (nI o))]) (st' := [.int (nI 5), .int (nI o)]) (σ' := (α, μ)) (pc' := 6) kX12_isOf_4 rfl rfl rf_a0 ?_
    refine ok_icmp_eq bX12_isOf_6 (fun h6 => ?_) (fun h6 => ?_)
    · refine ok_step (ps := []) (L' := [some (.int (nI 5)), some (.int (nI o))]) (st' := [.int (nI 1)]) (σ' := (α, μ)) (pc' := 47) kX12_isOf_46 rfl rfl rf_a0 ?_
      refine ok_goto bX12_isOf_47 ?_
      refine ok_retz eX12_isOf_51 rfl (Or.inr rfl) ?_
      have e0 : o ≠ 0 := fun e => h1 (by subst e; rfl)
      have e : o = 5 := nI_inj h6 (by omega) (by omega)
      subst e
      exact ⟨rfl, rfl⟩
    · refine ok_step (ps := []) (L' := [some (.int (nI 5)), some (.int (nI o))]) (st' := [.int (nI 1), .int (nI o)]) (σ' := (α, μ)) (pc' := 11) kX12_isOf_9 rfl rfl rf_a0 ?_
      refine ok_icmp_ne bX12_isOf_11 (fun h11 => ?_) (fun h11 => ?_)
      · refine ok_step (ps := []) (L' := [some (.int (nI 5)), some (.int (nI o))]) (st' := [.int (nI 2), .int (nI o)]) (σ' := (α, μ)) (pc' := 22) kX12_isOf_20 rfl rfl rf_a0 ?_
        refine ok_icmp_ne bX12_isOf_22 (fun h22 => ?_) (fun h22 => ?_)
        · refine ok_step (ps := []) (L' := [some (.int (nI 5)), some (.int (nI o))]) (st' := [.int (nI 5), .int (nI o)]) (σ' := (α, μ)) (pc' := 37) kX12_isOf_35 rfl rfl rf_a0 ?_
          refine ok_icmp_ne bX12_isOf_37 (fun _ => ?_) (fun h37 => absurd h37 (h6))
          refine ok_step (ps := []) (L' := [some (.int (nI 5)), some (.int (nI o))]) (st' := [.int (nI 0)]) (σ' := (α, μ)) (pc' := 51) kX12_isOf_50 rfl rfl rf_a0 ?_
          refine ok_retz eX12_isOf_51 rfl (Or.inl rfl) ?_
          have e0 : o ≠ 0 := fun e => h1 (by subst e; rfl)
          have e5 : o ≠ 5 := fun e => h6 (by subst e; rfl)
          have e1 : o ≠ 1 := fun e => h11 (by subst e; rfl)
          have e2 : o ≠ 2 := fun e => h22 (by subst e; rfl)
          exact ⟨rz (by simp [und]; omega), rfl⟩
        · refine ok_step (ps := []) (L' := [some (.int (nI 5)), some (.int (nI o))]) (st' := [.int (nI 3), .int (nI 5)]) (σ' := (α, μ)) (pc' := 27) kX12_isOf_25 rfl rfl rf_a0 ?_
          refine ok_icmp_eq bX12_isOf_27 (fun h27 => absurd h27 ((by decide))) (fun _ => ?_)
          refine ok_step (ps := []) (L' := [some (.int (nI 5)), some (.int (nI o))]) (st' := [.int (nI 4), .int (nI 5)]) (σ' := (α, μ)) (pc' := 32) kX12_isOf_30 rfl rfl rf_a0 ?_
          refine ok_icmp_eq bX12_isOf_32 (fun h32 => absurd h32 ((by decide))) (fun _ => ?_)
          refine ok_step (ps := []) (L' := [some (.int (nI 5)), some (.int (nI o))]) (st' := [.int (nI 5), .int (nI o)]) (σ' := (α, μ)) (pc' := 37) kX12_isOf_35 rfl rfl rf_a0 ?_
          refine ok_icmp_ne bX12_isOf_37 (fun _ => ?_) (fun h37 => absurd h37 (h6))
          refine ok_step (ps := []) (L' := [some (.int (nI 5)), some (.int (nI o))]) (st' := [.int (nI 0)]) (σ' := (α, μ)) (pc' := 51) kX12_isOf_50 rfl rfl rf_a0 ?_
          refine ok_retz eX12_isOf_51 rfl (Or.inl rfl) ?_
          have e0 : o ≠ 0 := fun e => h1 (by subst e; rfl)
          have e5 : o ≠ 5 := fun e => h6 (by subst e; rfl)
          have e1 : o ≠ 1 := fun e => h11 (by subst e; rfl)
          have e : o = 2 := nI_inj h22 (by omega) (by omega)
          subst e
          exact ⟨rfl, rfl⟩
      · refine ok_step (ps := []) (L' := [some (.int (nI 5)), some (.int (nI o))]) (st' := [.int (nI 6), .int (nI 5)]) (σ' := (α, μ)) (pc' := 17) kX12_isOf_14 rfl rfl rf_a0 ?_
        refine ok_icmp_eq bX12_isOf_17 (fun h17 => absurd h17 ((by decide))) (fun _ => ?_)
        refine ok_step (ps := []) (L' := [some (.int (nI 5)), some (.int (nI o))]) (st' := [.int (nI 2), .int (nI o)]) (σ' := (α, μ)) (pc' := 22) kX12_isOf_20 rfl rfl rf_a0 ?_
        refine ok_icmp_ne bX12_isOf_22 (fun h22 => ?_) (fun h22 => ?_)
        · refine ok_step (ps := []) (L' := [some (.int (nI 5)), some (.int (nI o))]) (st' := [.int (nI 5), .int (nI o)]) (σ' := (α, μ)) (pc' := 37) kX12_isOf_35 rfl rfl rf_a0 ?_
          refine ok_icmp_ne bX12_isOf_37 (fun _ => ?_) (fun h37 => absurd h37 (h6))
          refine ok_step (ps := []) (L' := [some (.int (nI 5)), some (.int (nI o))]) (st' := [.int (nI 0)]) (σ' := (α, μ)) (pc' := 51) kX12_isOf_50 rfl rfl rf_a0 ?_
          refine ok_retz eX12_isOf_51 rfl (Or.inl rfl) ?_
          have e0 : o ≠ 0 := fun e => h1 (by subst e; rfl)
          have e5 : o ≠ 5 := fun e => h6 (by subst e; rfl)
          have e2 : o ≠ 2 := fun e => h22 (by subst e; rfl)
          have e : o = 1 := nI_inj h11 (by omega) (by omega)
          subst e
          exact ⟨rfl, rfl⟩
        · refine ok_step (ps := []) (L' := [some (.int (nI 5)), some (.int (nI o))]) (st' := [.int (nI 3), .int (nI 5)]) (σ' := (α, μ)) (pc' := 27) kX12_isOf_25 rfl rfl rf_a0 ?_
          refine ok_icmp_eq bX12_isOf_27 (fun h27 => absurd h27 ((by decide))) (fun _ => ?_)
          refine ok_step (ps := []) (L' := [some (.int (nI 5)), some (.int (nI o))]) (st' := [.int (nI 4), .int (nI 5)]) (σ' := (α, μ)) (pc' := 32) kX12_isOf_30 rfl rfl rf_a0 ?_
          refine ok_icmp_eq bX12_isOf_32 (fun h32 => absurd h32 ((by decide))) (fun _ => ?_)
          refine ok_step (ps := []) (L' := [some (.int (nI 5)), some (.int (nI o))]) (st' := [.int (nI 5), .int (nI o)]) (σ' := (α, μ)) (pc' := 37) kX12_isOf_35 rfl rfl rf_a0 ?_
          refine ok_icmp_ne bX12_isOf_37 (fun _ => ?_) (fun h37 => absurd h37 (h6))
          refine ok_step (ps := []) (L' := [some (.int (nI 5)), some (.int (nI o))]) (st' := [.int (nI 0)]) (σ' := (α, μ)) (pc' := 51) kX12_isOf_50 rfl rfl rf_a0 ?_
          refine ok_retz eX12_isOf_51 rfl (Or.inl rfl) ?_
          have e1 : o = 1 := nI_inj h11 (by omega) (by omega)
          have e2 : o = 2 := nI_inj h22 (by omega) (by omega)
          omega
theorem c_isUnder_6 {o : Nat} (ho : o < 8) : rf_At (rf_T Ln xs) MX11_isUnder 1 0 ([some (.int (nI 6)), some (.int (nI o)), none, none], [], 108, (α, μ)) (some (.int (bI (und 6 o)))) 108 (α, μ) := by
  refine rf_pa ?_
  refine ok_step (ps := []) (L' := [some (.int (nI 6)), some (.int (nI o)), some (.int (nI 6)), some (.int (nI 0))]) (st' := []) (σ' := (α, μ)) (pc' := 4) kX11_isUnder_0 rfl rfl rf_a0 ?_
  refine ok_step (ps := []) (L' := [some (.int (nI 6)), some (.int (nI o)), some (.int (nI 6)), some (.int (nI 0))]) (st' := [.int (nI 8), .int (nI 0)]) (σ' := (α, μ)) (pc' := 7) kX11_isUnder_4 rfl rfl rf_a0 ?_
  refine ok_icmp_ge bX11_isUnder_7 (fun h7 => absurd h7 ((by decide))) (fun _ => ?_)
  refine ok_step (ps := []) (L' := [some (.int (nI 6)), some (.int (nI o)), some (.int (nI 6)), some (.int (nI 0))]) (st' := [.int (nI o), .int (nI 6)]) (σ' := (α, μ)) (pc' := 12) kX11_isUnder_10 rfl rfl rf_a0 ?_
  refine ok_icmp_eq bX11_isUnder_12 (fun h12 => ?_) (fun h12 => ?_)
  · refine ok_step (ps := []) (L' := [some (.int (nI 6)), some (.int (nI o)), some (.int (nI 6)), some (.int (nI 0))]) (st' := [.int (nI o), .int (nI 6)]) (σ' := (α, μ)) (pc' := 33) kX11_isUnder_31 rfl rfl rf_a0 ?_
    refine ok_icmp_ne bX11_isUnder_33 (fun h33 => absurd (h12) h33) (fun _ => ?_)
    refine ok_step (ps := []) (L' := [some (.int (nI 6)), some (.int (nI o)), some (.int (nI 6)), some (.int (nI 0))]) (st' := [.int (nI 1)]) (σ' := (α, μ)) (pc' := 37) kX11_isUnder_36 rfl rfl rf_a0 ?_
    refine ok_goto bX11_isUnder_37 ?_
    refine ok_retz eX11_isUnder_41 rfl (Or.inr rfl) ?_
    have e : o = 6 := (nI_inj h12 (by omega) (by omega)).symm
    subst e
    exact ⟨rfl, rfl⟩
  · refine ok_step (ps := []) (L' := [some (.int (nI 6)), some (.int (nI o)), some (.int (nI 6)), some (.int (nI 0))]) (st' := [.int (nI 6)]) (σ' := (α, μ)) (pc' := 16) kX11_isUnder_15 rfl rfl rf_a0 ?_
    refine ok_if_eq bX11_isUnder_16 (fun h16 => absurd h16 ((by decide))) (fun _ => ?_)
    refine ok_step (ps := [rf_in (nI 6) 8]) (L' := [some (.int (nI 6)), some (.int (nI o)), some (.int (tAbove ((nI 6).toNatClampNeg))), some (.int ((nI 0) + (nI 1)))]) (st' := []) (σ' := (α, μ)) (pc' := 28) kX11_isUnder_19 rfl rfl (rf_a1 (rf_in_n (a := 6) rfl (by omega)) rf_a0) ?_
    try rw [(show (nI 6).toNatClampNeg = 6 from rf_cl_n rfl (by omega))]
    try rw [(show tAbove 6 = nI 1 from rfl)]
    try rw [(show ((nI 0) + (nI 1)) = nI 1 from rf_eq (rf_nadd (x := nI 0) (y := nI 1) rfl rfl) (by omega))]
    refine ok_goto bX11_isUnder_28 ?_
    refine ok_step (ps := []) (L' := [some (.int (nI 6)), some (.int (nI o)), some (.int (nI 1)), some (.int (nI 1))]) (st' := [.int (nI 8), .int (nI 1)]) (σ' := (α, μ)) (pc' := 7) kX11_isUnder_4 rfl rfl rf_a0 ?_
    refine ok_icmp_ge bX11_isUnder_7 (fun h7 => absurd h7 ((by decide))) (fun _ => ?_)
    refine ok_step (ps := []) (L' := [some (.int (nI 6)), some (.int (nI o)), some (.int (nI 1)), some (.int (nI 1))]) (st' := [.int (nI o), .int (nI 1)]) (σ' := (α, μ)) (pc' := 12) kX11_isUnder_10 rfl rfl rf_a0 ?_
    refine ok_icmp_eq bX11_isUnder_12 (fun h12_2 => ?_) (fun h12_2 => ?_)
    · refine ok_step (ps := []) (L' := [some (.int (nI 6)), some (.int (nI o)), some (.int (nI 1)), some (.int (nI 1))]) (st' := [.int (nI o), .int (nI 1)]) (σ' := (α, μ)) (pc' := 33) kX11_isUnder_31 rfl rfl rf_a0 ?_
      refine ok_icmp_ne bX11_isUnder_33 (fun h33 => absurd (h12_2) h33) (fun _ => ?_)
      refine ok_step (ps := []) (L' := [some (.int (nI 6)), some (.int (nI o)), some (.int (nI 1)), some (.int (nI 1))]) (st' := [.int (nI 1)]) (σ' := (α, μ)) (pc' := 37) kX11_isUnder_36 rfl rfl rf_a0 ?_
      refine ok_goto bX11_isUnder_37 ?_
      refine ok_retz eX11_isUnder_41 rfl (Or.inr rfl) ?_
      have e : o = 1 := (nI_inj h12_2 (by omega) (by omega)).symm
      subst e
      exact ⟨rfl, rfl⟩
    · refine ok_step (ps := []) (L' := [some (.int (nI 6)), some (.int (nI o)), some (.int (nI 1)), some (.int (nI 1))]) (st' := [.int (nI 1)]) (σ' := (α, μ)) (pc' := 16) kX11_isUnder_15 rfl rfl rf_a0 ?_
      refine ok_if_eq bX11_isUnder_16 (fun h16 => absurd h16 ((by decide))) (fun _ => ?_)
      refine ok_step (ps := [rf_in (nI 1) 8]) (L' := [some (.int (nI 6)), some (.int (nI o)), some (.int (tAbove ((nI 1).toNatClampNeg))), some (.int ((nI 1) + (nI 1)))]) (st' := []) (σ' := (α, μ)) (pc' := 28) kX11_isUnder_19 rfl rfl (rf_a1 (rf_in_n (a := 1) rfl (by omega)) rf_a0) ?_
      try rw [(show (nI 1).toNatClampNeg = 1 from rf_cl_n rfl (by omega))]
      try rw [(show tAbove 1 = nI 0 from rfl)]
      try rw [(show ((nI 1) + (nI 1)) = nI 2 from rf_eq (rf_nadd (x := nI 1) (y := nI 1) rfl rfl) (by omega))]
      refine ok_goto bX11_isUnder_28 ?_
      refine ok_step (ps := []) (L' := [some (.int (nI 6)), some (.int (nI o)), some (.int (nI 0)), some (.int (nI 2))]) (st' := [.int (nI 8), .int (nI 2)]) (σ' := (α, μ)) (pc' := 7) kX11_isUnder_4 rfl rfl rf_a0 ?_
      refine ok_icmp_ge bX11_isUnder_7 (fun h7 => absurd h7 ((by decide))) (fun _ => ?_)
      refine ok_step (ps := []) (L' := [some (.int (nI 6)), some (.int (nI o)), some (.int (nI 0)), some (.int (nI 2))]) (st' := [.int (nI o), .int (nI 0)]) (σ' := (α, μ)) (pc' := 12) kX11_isUnder_10 rfl rfl rf_a0 ?_
      refine ok_icmp_eq bX11_isUnder_12 (fun h12_3 => ?_) (fun h12_3 => ?_)
      · refine ok_step (ps := []) (L' := [some (.int (nI 6)), some (.int (nI o)), some (.int (nI 0)), some (.int (nI 2))]) (st' := [.int (nI o), .int (nI 0)]) (σ' := (α, μ)) (pc' := 33) kX11_isUnder_31 rfl rfl rf_a0 ?_
        refine ok_icmp_ne bX11_isUnder_33 (fun h33 => absurd (h12_3) h33) (fun _ => ?_)
        refine ok_step (ps := []) (L' := [some (.int (nI 6)), some (.int (nI o)), some (.int (nI 0)), some (.int (nI 2))]) (st' := [.int (nI 1)]) (σ' := (α, μ)) (pc' := 37) kX11_isUnder_36 rfl rfl rf_a0 ?_
        refine ok_goto bX11_isUnder_37 ?_
        refine ok_retz eX11_isUnder_41 rfl (Or.inr rfl) ?_
        have e : o = 0 := (nI_inj h12_3 (by omega) (by omega)).symm
        subst e
        exact ⟨rfl, rfl⟩
      · refine ok_step (ps := []) (L' := [some (.int (nI 6)), some (.int (nI o)), some (.int (nI 0)), some (.int (nI 2))]) (st' := [.int (nI 0)]) (σ' := (α, μ)) (pc' := 16) kX11_isUnder_15 rfl rfl rf_a0 ?_
        refine ok_if_eq bX11_isUnder_16 (fun _ => ?_) (fun h16 => absurd ((by decide)) h16)
        refine ok_step (ps := []) (L' := [some (.int (nI 6)), some (.int (nI o)), some (.int (nI 0)), some (.int (nI 2))]) (st' := [.int (nI o), .int (nI 0)]) (σ' := (α, μ)) (pc' := 33) kX11_isUnder_31 rfl rfl rf_a0 ?_
        refine ok_icmp_ne bX11_isUnder_33 (fun _ => ?_) (fun h33 => absurd h33 (h12_3))
        refine ok_step (ps := []) (L' := [some (.int (nI 6)), some (.int (nI o)), some (.int (nI 0)), some (.int (nI 2))]) (st' := [.int (nI 0)]) (σ' := (α, μ)) (pc' := 41) kX11_isUnder_40 rfl rfl rf_a0 ?_
        refine ok_retz eX11_isUnder_41 rfl (Or.inl rfl) ?_
        have e6 : o ≠ 6 := fun e => h12 (by subst e; rfl)
        have e1 : o ≠ 1 := fun e => h12_2 (by subst e; rfl)
        have e0 : o ≠ 0 := fun e => h12_3 (by subst e; rfl)
        exact ⟨rz (by simp [und]; omega), rfl⟩
theorem m_isOf_6 {o : Nat} (ho : o < 8) : rf_At (rf_T Ln xs) MX12_isOf 1 0 ([some (.int (nI 6)), some (.int (nI o))], [], 108, (α, μ)) (some (.int (bI (und 6 o)))) 108 (α, μ) := by
  refine rf_pa ?_
  refine ok_step (ps := []) (L' := [some (.int (nI 6)), some (.int (nI o))]) (st' := [.int (nI o)]) (σ' := (α, μ)) (pc' := 1) kX12_isOf_0 rfl rfl rf_a0 ?_
  refine ok_if_eq bX12_isOf_1 (fun h1 => ?_) (fun h1 => ?_)
  · refine ok_step (ps := []) (L' := [some (.int (nI 6)), some (.int (nI o))]) (st' := [.int (nI 1)]) (σ' := (α, μ)) (pc' := 47) kX12_isOf_46 rfl rfl rf_a0 ?_
    refine ok_goto bX12_isOf_47 ?_
    refine ok_retz eX12_isOf_51 rfl (Or.inr rfl) ?_
    have e : o = 0 := nI_inj h1 (by omega) (by omega)
    subst e
    exact ⟨rfl, rfl⟩
  · refine ok_step (ps := []) (L' := [some (.int (nI 6)), some (.int (nI o))]) (st' := [.int (nI 6), .int (nI o)]) (σ' := (α, μ)) (pc' := 6) kX12_isOf_4 rfl rfl rf_a0 ?_
    refine ok_icmp_eq bX12_isOf_6 (fun h6 => ?_) (fun h6 => ?_)
    · refine ok_step (ps := []) (L' := [some (.int (nI 6)), some (.int (nI o))]) (st' := [.int (nI 1)]) (σ' := (α, μ)) (pc' := 47) kX12_isOf_46 rfl rfl rf_a0 ?_
      refine ok_goto bX12_isOf_47 ?_
      refine ok_retz eX12_isOf_51 rfl (Or.inr rfl) ?_
      have e0 : o ≠ 0 := fun e => h1 (by subst e; rfl)
      have e : o = 6 := nI_inj h6 (by omega) (by omega)
      subst e
      exact ⟨rfl, rfl⟩
    · refine ok_step (ps := []) (L' := [some (.int (nI 6)), some (.int (nI o))]) (st' := [.int (nI 1), .int (nI o)]) (σ' := (α, μ)) (pc' := 11) kX12_isOf_9 rfl rfl rf_a0 ?_
      refine ok_icmp_ne bX12_isOf_11 (fun h11 => ?_) (fun h11 => ?_)
      · refine ok_step (ps := []) (L' := [some (.int (nI 6)), some (.int (nI o))]) (st' := [.int (nI 2), .int (nI o)]) (σ' := (α, μ)) (pc' := 22) kX12_isOf_20 rfl rfl rf_a0 ?_
        refine ok_icmp_ne bX12_isOf_22 (fun h22 => ?_) (fun h22 => ?_)
        · refine ok_step (ps := []) (L' := [some (.int (nI 6)), some (.int (nI o))]) (st' := [.int (nI 5), .int (nI o)]) (σ' := (α, μ)) (pc' := 37) kX12_isOf_35 rfl rfl rf_a0 ?_
          refine ok_icmp_ne bX12_isOf_37 (fun h37 => ?_) (fun h37 => ?_)
          · refine ok_step (ps := []) (L' := [some (.int (nI 6)), some (.int (nI o))]) (st' := [.int (nI 0)]) (σ' := (α, μ)) (pc' := 51) kX12_isOf_50 rfl rfl rf_a0 ?_
            refine ok_retz eX12_isOf_51 rfl (Or.inl rfl) ?_
            have e0 : o ≠ 0 := fun e => h1 (by subst e; rfl)
            have e6 : o ≠ 6 := fun e => h6 (by subst e; rfl)
            have e1 : o ≠ 1 := fun e => h11 (by subst e; rfl)
            have e2 : o ≠ 2 := fun e => h22 (by subst e; rfl)
            have e5 : o ≠ 5 := fun e => h37 (by subst e; rfl)
            exact ⟨rz (by simp [und]; omega), rfl⟩
          · refine ok_step (ps := []) (L' := [some (.int (nI 6)), some (.int (nI o))]) (st' := [.int (nI 7), .int (nI 6)]) (σ' := (α, μ)) (pc' := 43) kX12_isOf_40 rfl rfl rf_a0 ?_
            refine ok_icmp_ne bX12_isOf_43 (fun _ => ?_) (fun h43 => absurd h43 ((by decide)))
            refine ok_step (ps := []) (L' := [some (.int (nI 6)), some (.int (nI o))]) (st' := [.int (nI 0)]) (σ' := (α, μ)) (pc' := 51) kX12_isOf_50 rfl rfl rf_a0 ?_
            refine ok_retz eX12_isOf_51 rfl (Or.inl rfl) ?_
            have e0 : o ≠ 0 := fun e => h1 (by subst e; rfl)
            have e6 : o ≠ 6 := fun e => h6 (by subst e; rfl)
            have e1 : o ≠ 1 := fun e => h11 (by subst e; rfl)
            have e2 : o ≠ 2 := fun e => h22 (by subst e; rfl)
            have e : o = 5 := nI_inj h37 (by omega) (by omega)
            subst e
            exact ⟨rfl, rfl⟩
        · refine ok_step (ps := []) (L' := [some (.int (nI 6)), some (.int (nI o))]) (st' := [.int (nI 3), .int (nI 6)]) (σ' := (α, μ)) (pc' := 27) kX12_isOf_25 rfl rfl rf_a0 ?_
          refine ok_icmp_eq bX12_isOf_27 (fun h27 => absurd h27 ((by decide))) (fun _ => ?_)
          refine ok_step (ps := []) (L' := [some (.int (nI 6)), some (.int (nI o))]) (st' := [.int (nI 4), .int (nI 6)]) (σ' := (α, μ)) (pc' := 32) kX12_isOf_30 rfl rfl rf_a0 ?_
          refine ok_icmp_eq bX12_isOf_32 (fun h32 => absurd h32 ((by decide))) (fun _ => ?_)
          refine ok_step (ps := []) (L' := [some (.int (nI 6)), some (.int (nI o))]) (st' := [.int (nI 5), .int (nI o)]) (σ' := (α, μ)) (pc' := 37) kX12_isOf_35 rfl rfl rf_a0 ?_
          refine ok_icmp_ne bX12_isOf_37 (fun h37 => ?_) (fun h37 => ?_)
          · refine ok_step (ps := []) (L' := [some (.int (nI 6)), some (.int (nI o))]) (st' := [.int (nI 0)]) (σ' := (α, μ)) (pc' := 51) kX12_isOf_50 rfl rfl rf_a0 ?_
            refine ok_retz eX12_isOf_51 rfl (Or.inl rfl) ?_
            have e0 : o ≠ 0 := fun e => h1 (by subst e; rfl)
            have e6 : o ≠ 6 := fun e => h6 (by subst e; rfl)
            have e1 : o ≠ 1 := fun e => h11 (by subst e; rfl)
            have e5 : o ≠ 5 := fun e => h37 (by subst e; rfl)
            have e : o = 2 := nI_inj h22 (by omega) (by omega)
            subst e
            exact ⟨rfl, rfl⟩
          · refine ok_step (ps := []) (L' := [some (.int (nI 6)), some (.int (nI o))]) (st' := [.int (nI 7), .int (nI 6)]) (σ' := (α, μ)) (pc' := 43) kX12_isOf_40 rfl rfl rf_a0 ?_
            refine ok_icmp_ne bX12_isOf_43 (fun _ => ?_) (fun h43 => absurd h43 ((by decide)))
            refine ok_step (ps := []) (L' := [some (.int (nI 6)), some (.int (nI o))]) (st' := [.int (nI 0)]) (σ' := (α, μ)) (pc' := 51) kX12_isOf_50 rfl rfl rf_a0 ?_
            refine ok_retz eX12_isOf_51 rfl (Or.inl rfl) ?_
            have e1 : o = 2 := nI_inj h22 (by omega) (by omega)
            have e2 : o = 5 := nI_inj h37 (by omega) (by omega)
            omega
      · refine ok_step (ps := []) (L' := [some (.int (nI 6)), some (.int (nI o))]) (st' := [.int (nI 6), .int (nI 6)]) (σ' := (α, μ)) (pc' := 17) kX12_isOf_14 rfl rfl rf_a0 ?_
        refine ok_icmp_eq bX12_isOf_17 (fun _ => ?_) (fun h17 => absurd ((by decide)) h17)
        refine ok_step (ps := []) (L' := [some (.int (nI 6)), some (.int (nI o))]) (st' := [.int (nI 1)]) (σ' := (α, μ)) (pc' := 47) kX12_isOf_46 rfl rfl rf_a0 ?_
        refine ok_goto bX12_isOf_47 ?_
        refine ok_retz eX12_isOf_51 rfl (Or.inr rfl) ?_
        have e0 : o ≠ 0 := fun e => h1 (by subst e; rfl)
        have e6 : o ≠ 6 := fun e => h6 (by subst e; rfl)
        have e : o = 1 := nI_inj h11 (by omega) (by omega)
        subst e
        exact ⟨rfl, rfl⟩
theorem c_isUnder_7 {o : Nat} (ho : o < 8) : rf_At (rf_T Ln xs) MX11_isUnder 1 0 ([some (.int (nI 7)), some (.int (nI o)), none, none], [], 108, (α, μ)) (some (.int (bI (und 7 o)))) 108 (α, μ) := by
  refine rf_pa ?_
  refine ok_step (ps := []) (L' := [some (.int (nI 7)), some (.int (nI o)), some (.int (nI 7)), some (.int (nI 0))]) (st' := []) (σ' := (α, μ)) (pc' := 4) kX11_isUnder_0 rfl rfl rf_a0 ?_
  refine ok_step (ps := []) (L' := [some (.int (nI 7)), some (.int (nI o)), some (.int (nI 7)), some (.int (nI 0))]) (st' := [.int (nI 8), .int (nI 0)]) (σ' := (α, μ)) (pc' := 7) kX11_isUnder_4 rfl rfl rf_a0 ?_
  refine ok_icmp_ge bX11_isUnder_7 (fun h7 => absurd h7 ((by decide))) (fun _ => ?_)
  refine ok_step (ps := []) (L' := [some (.int (nI 7)), some (.int (nI o)), some (.int (nI 7)), some (.int (nI 0))]) (st' := [.int (nI o), .int (nI 7)]) (σ' := (α, μ)) (pc' := 12) kX11_isUnder_10 rfl rfl rf_a0 ?_
  refine ok_icmp_eq bX11_isUnder_12 (fun h12 => ?_) (fun h12 => ?_)
  · refine ok_step (ps := []) (L' := [some (.int (nI 7)), some (.int (nI o)), some (.int (nI 7)), some (.int (nI 0))]) (st' := [.int (nI o), .int (nI 7)]) (σ' := (α, μ)) (pc' := 33) kX11_isUnder_31 rfl rfl rf_a0 ?_
    refine ok_icmp_ne bX11_isUnder_33 (fun h33 => absurd (h12) h33) (fun _ => ?_)
    refine ok_step (ps := []) (L' := [some (.int (nI 7)), some (.int (nI o)), some (.int (nI 7)), some (.int (nI 0))]) (st' := [.int (nI 1)]) (σ' := (α, μ)) (pc' := 37) kX11_isUnder_36 rfl rfl rf_a0 ?_
    refine ok_goto bX11_isUnder_37 ?_
    refine ok_retz eX11_isUnder_41 rfl (Or.inr rfl) ?_
    have e : o = 7 := (nI_inj h12 (by omega) (by omega)).symm
    subst e
    exact ⟨rfl, rfl⟩
  · refine ok_step (ps := []) (L' := [some (.int (nI 7)), some (.int (nI o)), some (.int (nI 7)), some (.int (nI 0))]) (st' := [.int (nI 7)]) (σ' := (α, μ)) (pc' := 16) kX11_isUnder_15 rfl rfl rf_a0 ?_
    refine ok_if_eq bX11_isUnder_16 (fun h16 => absurd h16 ((by decide))) (fun _ => ?_)
    refine ok_step (ps := [rf_in (nI 7) 8]) (L' := [some (.int (nI 7)), some (.int (nI o)), some (.int (tAbove ((nI 7).toNatClampNeg))), some (.int ((nI 0) + (nI 1)))]) (st' := []) (σ' := (α, μ)) (pc' := 28) kX11_isUnder_19 rfl rfl (rf_a1 (rf_in_n (a := 7) rfl (by omega)) rf_a0) ?_
    try rw [(show (nI 7).toNatClampNeg = 7 from rf_cl_n rfl (by omega))]
    try rw [(show tAbove 7 = nI 5 from rfl)]
    try rw [(show ((nI 0) + (nI 1)) = nI 1 from rf_eq (rf_nadd (x := nI 0) (y := nI 1) rfl rfl) (by omega))]
    refine ok_goto bX11_isUnder_28 ?_
    refine ok_step (ps := []) (L' := [some (.int (nI 7)), some (.int (nI o)), some (.int (nI 5)), some (.int (nI 1))]) (st' := [.int (nI 8), .int (nI 1)]) (σ' := (α, μ)) (pc' := 7) kX11_isUnder_4 rfl rfl rf_a0 ?_
    refine ok_icmp_ge bX11_isUnder_7 (fun h7 => absurd h7 ((by decide))) (fun _ => ?_)
    refine ok_step (ps := []) (L' := [some (.int (nI 7)), some (.int (nI o)), some (.int (nI 5)), some (.int (nI 1))]) (st' := [.int (nI o), .int (nI 5)]) (σ' := (α, μ)) (pc' := 12) kX11_isUnder_10 rfl rfl rf_a0 ?_
    refine ok_icmp_eq bX11_isUnder_12 (fun h12_2 => ?_) (fun h12_2 => ?_)
    · refine ok_step (ps := []) (L' := [some (.int (nI 7)), some (.int (nI o)), some (.int (nI 5)), some (.int (nI 1))]) (st' := [.int (nI o), .int (nI 5)]) (σ' := (α, μ)) (pc' := 33) kX11_isUnder_31 rfl rfl rf_a0 ?_
      refine ok_icmp_ne bX11_isUnder_33 (fun h33 => absurd (h12_2) h33) (fun _ => ?_)
      refine ok_step (ps := []) (L' := [some (.int (nI 7)), some (.int (nI o)), some (.int (nI 5)), some (.int (nI 1))]) (st' := [.int (nI 1)]) (σ' := (α, μ)) (pc' := 37) kX11_isUnder_36 rfl rfl rf_a0 ?_
      refine ok_goto bX11_isUnder_37 ?_
      refine ok_retz eX11_isUnder_41 rfl (Or.inr rfl) ?_
      have e : o = 5 := (nI_inj h12_2 (by omega) (by omega)).symm
      subst e
      exact ⟨rfl, rfl⟩
    · refine ok_step (ps := []) (L' := [some (.int (nI 7)), some (.int (nI o)), some (.int (nI 5)), some (.int (nI 1))]) (st' := [.int (nI 5)]) (σ' := (α, μ)) (pc' := 16) kX11_isUnder_15 rfl rfl rf_a0 ?_
      refine ok_if_eq bX11_isUnder_16 (fun h16 => absurd h16 ((by decide))) (fun _ => ?_)
      refine ok_step (ps := [rf_in (nI 5) 8]) (L' := [some (.int (nI 7)), some (.int (nI o)), some (.int (tAbove ((nI 5).toNatClampNeg))), some (.int ((nI 1) + (nI 1)))]) (st' := []) (σ' := (α, μ)) (pc' := 28) kX11_isUnder_19 rfl rfl (rf_a1 (rf_in_n (a := 5) rfl (by omega)) rf_a0) ?_
      try rw [(show (nI 5).toNatClampNeg = 5 from rf_cl_n rfl (by omega))]
      try rw [(show tAbove 5 = nI 0 from rfl)]
      try rw [(show ((nI 1) + (nI 1)) = nI 2 from rf_eq (rf_nadd (x := nI 1) (y := nI 1) rfl rfl) (by omega))]
      refine ok_goto bX11_isUnder_28 ?_
      refine ok_step (ps := []) (L' := [some (.int (nI 7)), some (.int (nI o)), some (.int (nI 0)), some (.int (nI 2))]) (st' := [.int (nI 8), .int (nI 2)]) (σ' := (α, μ)) (pc' := 7) kX11_isUnder_4 rfl rfl rf_a0 ?_
      refine ok_icmp_ge bX11_isUnder_7 (fun h7 => absurd h7 ((by decide))) (fun _ => ?_)
      refine ok_step (ps := []) (L' := [some (.int (nI 7)), some (.int (nI o)), some (.int (nI 0)), some (.int (nI 2))]) (st' := [.int (nI o), .int (nI 0)]) (σ' := (α, μ)) (pc' := 12) kX11_isUnder_10 rfl rfl rf_a0 ?_
      refine ok_icmp_eq bX11_isUnder_12 (fun h12_3 => ?_) (fun h12_3 => ?_)
      · refine ok_step (ps := []) (L' := [some (.int (nI 7)), some (.int (nI o)), some (.int (nI 0)), some (.int (nI 2))]) (st' := [.int (nI o), .int (nI 0)]) (σ' := (α, μ)) (pc' := 33) kX11_isUnder_31 rfl rfl rf_a0 ?_
        refine ok_icmp_ne bX11_isUnder_33 (fun h33 => absurd (h12_3) h33) (fun _ => ?_)
        refine ok_step (ps := []) (L' := [some (.int (nI 7)), some (.int (nI o)), some (.int (nI 0)), some (.int (nI 2))]) (st' := [.int (nI 1)]) (σ' := (α, μ)) (pc' := 37) kX11_isUnder_36 rfl rfl rf_a0 ?_
        refine ok_goto bX11_isUnder_37 ?_
        refine ok_retz eX11_isUnder_41 rfl (Or.inr rfl) ?_
        have e : o = 0 := (nI_inj h12_3 (by omega) (by omega)).symm
        subst e
        exact ⟨rfl, rfl⟩
      · refine ok_step (ps := []) (L' := [some (.int (nI 7)), some (.int (nI o)), some (.int (nI 0)), some (.int (nI 2))]) (st' := [.int (nI 0)]) (σ' := (α, μ)) (pc' := 16) kX11_isUnder_15 rfl rfl rf_a0 ?_
        refine ok_if_eq bX11_isUnder_16 (fun _ => ?_) (fun h16 => absurd ((by decide)) h16)
        refine ok_step (ps := []) (L' := [some (.int (nI 7)), some (.int (nI o)), some (.int (nI 0)), some (.int (nI 2))]) (st' := [.int (nI o), .int (nI 0)]) (σ' := (α, μ)) (pc' := 33) kX11_isUnder_31 rfl rfl rf_a0 ?_
        refine ok_icmp_ne bX11_isUnder_33 (fun _ => ?_) (fun h33 => absurd h33 (h12_3))
        refine ok_step (ps := []) (L' := [some (.int (nI 7)), some (.int (nI o)), some (.int (nI 0)), some (.int (nI 2))]) (st' := [.int (nI 0)]) (σ' := (α, μ)) (pc' := 41) kX11_isUnder_40 rfl rfl rf_a0 ?_
        refine ok_retz eX11_isUnder_41 rfl (Or.inl rfl) ?_
        have e7 : o ≠ 7 := fun e => h12 (by subst e; rfl)
        have e5 : o ≠ 5 := fun e => h12_2 (by subst e; rfl)
        have e0 : o ≠ 0 := fun e => h12_3 (by subst e; rfl)
        exact ⟨rz (by simp [und]; omega), rfl⟩
theorem m_isOf_7 {o : Nat} (ho : o < 8) : rf_At (rf_T Ln xs) MX12_isOf 1 0 ([some (.int (nI 7)), some (.int (nI o))], [], 108, (α, μ)) (some (.int (bI (und 7 o)))) 108 (α, μ) := by
  refine rf_pa ?_
  refine ok_step (ps := []) (L' := [some (.int (nI 7)), some (.int (nI o))]) (st' := [.int (nI o)]) (σ' := (α, μ)) (pc' := 1) kX12_isOf_0 rfl rfl rf_a0 ?_
  refine ok_if_eq bX12_isOf_1 (fun h1 => ?_) (fun h1 => ?_)
  · refine ok_step (ps := []) (L' := [some (.int (nI 7)), some (.int (nI o))]) (st' := [.int (nI 1)]) (σ' := (α, μ)) (pc' := 47) kX12_isOf_46 rfl rfl rf_a0 ?_
    refine ok_goto bX12_isOf_47 ?_
    refine ok_retz eX12_isOf_51 rfl (Or.inr rfl) ?_
    have e : o = 0 := nI_inj h1 (by omega) (by omega)
    subst e
    exact ⟨rfl, rfl⟩
  · refine ok_step (ps := []) (L' := [some (.int (nI 7)), some (.int (nI o))]) (st' := [.int (nI 7), .int (nI o)]) (σ' := (α, μ)) (pc' := 6) kX12_isOf_4 rfl rfl rf_a0 ?_
    refine ok_icmp_eq bX12_isOf_6 (fun h6 => ?_) (fun h6 => ?_)
    · refine ok_step (ps := []) (L' := [some (.int (nI 7)), some (.int (nI o))]) (st' := [.int (nI 1)]) (σ' := (α, μ)) (pc' := 47) kX12_isOf_46 rfl rfl rf_a0 ?_
      refine ok_goto bX12_isOf_47 ?_
      refine ok_retz eX12_isOf_51 rfl (Or.inr rfl) ?_
      have e0 : o ≠ 0 := fun e => h1 (by subst e; rfl)
      have e : o = 7 := nI_inj h6 (by omega) (by omega)
      subst e
      exact ⟨rfl, rfl⟩
    · refine ok_step (ps := []) (L' := [some (.int (nI 7)), some (.int (nI o))]) (st' := [.int (nI 1), .int (nI o)]) (σ' := (α, μ)) (pc' := 11) kX12_isOf_9 rfl rfl rf_a0 ?_
      refine ok_icmp_ne bX12_isOf_11 (fun h11 => ?_) (fun h11 => ?_)
      · refine ok_step (ps := []) (L' := [some (.int (nI 7)), some (.int (nI o))]) (st' := [.int (nI 2), .int (nI o)]) (σ' := (α, μ)) (pc' := 22) kX12_isOf_20 rfl rfl rf_a0 ?_
        refine ok_icmp_ne bX12_isOf_22 (fun h22 => ?_) (fun h22 => ?_)
        · refine ok_step (ps := []) (L' := [some (.int (nI 7)), some (.int (nI o))]) (st' := [.int (nI 5), .int (nI o)]) (σ' := (α, μ)) (pc' := 37) kX12_isOf_35 rfl rfl rf_a0 ?_
          refine ok_icmp_ne bX12_isOf_37 (fun h37 => ?_) (fun h37 => ?_)
          · refine ok_step (ps := []) (L' := [some (.int (nI 7)), some (.int (nI o))]) (st' := [.int (nI 0)]) (σ' := (α, μ)) (pc' := 51) kX12_isOf_50 rfl rfl rf_a0 ?_
            refine ok_retz eX12_isOf_51 rfl (Or.inl rfl) ?_
            have e0 : o ≠ 0 := fun e => h1 (by subst e; rfl)
            have e7 : o ≠ 7 := fun e => h6 (by subst e; rfl)
            have e1 : o ≠ 1 := fun e => h11 (by subst e; rfl)
            have e2 : o ≠ 2 := fun e => h22 (by subst e; rfl)
            have e5 : o ≠ 5 := fun e => h37 (by subst e; rfl)
            exact ⟨rz (by simp [und]; omega), rfl⟩
          · refine ok_step (ps := []) (L' := [some (.int (nI 7)), some (.int (nI o))]) (st' := [.int (nI 7), .int (nI 7)]) (σ' := (α, μ)) (pc' := 43) kX12_isOf_40 rfl rfl rf_a0 ?_
            refine ok_icmp_ne bX12_isOf_43 (fun h43 => absurd ((by decide)) h43) (fun _ => ?_)
            refine ok_step (ps := []) (L' := [some (.int (nI 7)), some (.int (nI o))]) (st' := [.int (nI 1)]) (σ' := (α, μ)) (pc' := 47) kX12_isOf_46 rfl rfl rf_a0 ?_
            refine ok_goto bX12_isOf_47 ?_
            refine ok_retz eX12_isOf_51 rfl (Or.inr rfl) ?_
            have e0 : o ≠ 0 := fun e => h1 (by subst e; rfl)
            have e7 : o ≠ 7 := fun e => h6 (by subst e; rfl)
            have e1 : o ≠ 1 := fun e => h11 (by subst e; rfl)
            have e2 : o ≠ 2 := fun e => h22 (by subst e; rfl)
            have e : o = 5 := nI_inj h37 (by omega) (by omega)
            subst e
            exact ⟨rfl, rfl⟩
        · refine ok_step (ps := []) (L' := [some (.int (nI 7)), some (.int (nI o))]) (st' := [.int (nI 3), .int (nI 7)]) (σ' := (α, μ)) (pc' := 27) kX12_isOf_25 rfl rfl rf_a0 ?_
          refine ok_icmp_eq bX12_isOf_27 (fun h27 => absurd h27 ((by decide))) (fun _ => ?_)
          refine ok_step (ps := []) (L' := [some (.int (nI 7)), some (.int (nI o))]) (st' := [.int (nI 4), .int (nI 7)]) (σ' := (α, μ)) (pc' := 32) kX12_isOf_30 rfl rfl rf_a0 ?_
          refine ok_icmp_eq bX12_isOf_32 (fun h32 => absurd h32 ((by decide))) (fun _ => ?_)
          refine ok_step (ps := []) (L' := [some (.int (nI 7)), some (.int (nI o))]) (st' := [.int (nI 5), .int (nI o)]) (σ' := (α, μ)) (pc' := 37) kX12_isOf_35 rfl rfl rf_a0 ?_
          refine ok_icmp_ne bX12_isOf_37 (fun h37 => ?_) (fun h37 => ?_)
          · refine ok_step (ps := []) (L' := [some (.int (nI 7)), some (.int (nI o))]) (st' := [.int (nI 0)]) (σ' := (α, μ)) (pc' := 51) kX12_isOf_50 rfl rfl rf_a0 ?_
            refine ok_retz eX12_isOf_51 rfl (Or.inl rfl) ?_
            have e0 : o ≠ 0 := fun e => h1 (by subst e; rfl)
            have e7 : o ≠ 7 := fun e => h6 (by subst e; rfl)
            have e1 : o ≠ 1 := fun e => h11 (by subst e; rfl)
            have e5 : o ≠ 5 := fun e => h37 (by subst e; rfl)
            have e : o = 2 := nI_inj h22 (by omega) (by omega)
            subst e
            exact ⟨rfl, rfl⟩
          · refine ok_step (ps := []) (L' := [some (.int (nI 7)), some (.int (nI o))]) (st' := [.int (nI 7), .int (nI 7)]) (σ' := (α, μ)) (pc' := 43) kX12_isOf_40 rfl rfl rf_a0 ?_
            refine ok_icmp_ne bX12_isOf_43 (fun h43 => absurd ((by decide)) h43) (fun _ => ?_)
            refine ok_step (ps := []) (L' := [some (.int (nI 7)), some (.int (nI o))]) (st' := [.int (nI 1)]) (σ' := (α, μ)) (pc' := 47) kX12_isOf_46 rfl rfl rf_a0 ?_
            refine ok_goto bX12_isOf_47 ?_
            refine ok_retz eX12_isOf_51 rfl (Or.inr rfl) ?_
            have e1 : o = 2 := nI_inj h22 (by omega) (by omega)
            have e2 : o = 5 := nI_inj h37 (by omega) (by omega)
            omega
      · refine ok_step (ps := []) (L' := [some (.int (nI 7)), some (.int (nI o))]) (st' := [.int (nI 6), .int (nI 7)]) (σ' := (α, μ)) (pc' := 17) kX12_isOf_14 rfl rfl rf_a0 ?_
        refine ok_icmp_eq bX12_isOf_17 (fun h17 => absurd h17 ((by decide))) (fun _ => ?_)
        refine ok_step (ps := []) (L' := [some (.int (nI 7)), some (.int (nI o))]) (st' := [.int (nI 2), .int (nI o)]) (σ' := (α, μ)) (pc' := 22) kX12_isOf_20 rfl rfl rf_a0 ?_
        refine ok_icmp_ne bX12_isOf_22 (fun h22 => ?_) (fun h22 => ?_)
        · refine ok_step (ps := []) (L' := [some (.int (nI 7)), some (.int (nI o))]) (st' := [.int (nI 5), .int (nI o)]) (σ' := (α, μ)) (pc' := 37) kX12_isOf_35 rfl rfl rf_a0 ?_
          refine ok_icmp_ne bX12_isOf_37 (fun h37 => ?_) (fun h37 => ?_)
          · refine ok_step (ps := []) (L' := [some (.int (nI 7)), some (.int (nI o))]) (st' := [.int (nI 0)]) (σ' := (α, μ)) (pc' := 51) kX12_isOf_50 rfl rfl rf_a0 ?_
            refine ok_retz eX12_isOf_51 rfl (Or.inl rfl) ?_
            have e0 : o ≠ 0 := fun e => h1 (by subst e; rfl)
            have e7 : o ≠ 7 := fun e => h6 (by subst e; rfl)
            have e2 : o ≠ 2 := fun e => h22 (by subst e; rfl)
            have e5 : o ≠ 5 := fun e => h37 (by subst e; rfl)
            have e : o = 1 := nI_inj h11 (by omega) (by omega)
            subst e
            exact ⟨rfl, rfl⟩
          · refine ok_step (ps := []) (L' := [some (.int (nI 7)), some (.int (nI o))]) (st' := [.int (nI 7), .int (nI 7)]) (σ' := (α, μ)) (pc' := 43) kX12_isOf_40 rfl rfl rf_a0 ?_
            refine ok_icmp_ne bX12_isOf_43 (fun h43 => absurd ((by decide)) h43) (fun _ => ?_)
            refine ok_step (ps := []) (L' := [some (.int (nI 7)), some (.int (nI o))]) (st' := [.int (nI 1)]) (σ' := (α, μ)) (pc' := 47) kX12_isOf_46 rfl rfl rf_a0 ?_
            refine ok_goto bX12_isOf_47 ?_
            refine ok_retz eX12_isOf_51 rfl (Or.inr rfl) ?_
            have e1 : o = 1 := nI_inj h11 (by omega) (by omega)
            have e2 : o = 5 := nI_inj h37 (by omega) (by omega)
            omega
        · refine ok_step (ps := []) (L' := [some (.int (nI 7)), some (.int (nI o))]) (st' := [.int (nI 3), .int (nI 7)]) (σ' := (α, μ)) (pc' := 27) kX12_isOf_25 rfl rfl rf_a0 ?_
          refine ok_icmp_eq bX12_isOf_27 (fun h27 => absurd h27 ((by decide))) (fun _ => ?_)
          refine ok_step (ps := []) (L' := [some (.int (nI 7)), some (.int (nI o))]) (st' := [.int (nI 4), .int (nI 7)]) (σ' := (α, μ)) (pc' := 32) kX12_isOf_30 rfl rfl rf_a0 ?_
          refine ok_icmp_eq bX12_isOf_32 (fun h32 => absurd h32 ((by decide))) (fun _ => ?_)
          refine ok_step (ps := []) (L' := [some (.int (nI 7)), some (.int (nI o))]) (st' := [.int (nI 5), .int (nI o)]) (σ' := (α, μ)) (pc' := 37) kX12_isOf_35 rfl rfl rf_a0 ?_
          refine ok_icmp_ne bX12_isOf_37 (fun h37 => ?_) (fun h37 => ?_)
          · refine ok_step (ps := []) (L' := [some (.int (nI 7)), some (.int (nI o))]) (st' := [.int (nI 0)]) (σ' := (α, μ)) (pc' := 51) kX12_isOf_50 rfl rfl rf_a0 ?_
            refine ok_retz eX12_isOf_51 rfl (Or.inl rfl) ?_
            have e1 : o = 1 := nI_inj h11 (by omega) (by omega)
            have e2 : o = 2 := nI_inj h22 (by omega) (by omega)
            omega
          · refine ok_step (ps := []) (L' := [some (.int (nI 7)), some (.int (nI o))]) (st' := [.int (nI 7), .int (nI 7)]) (σ' := (α, μ)) (pc' := 43) kX12_isOf_40 rfl rfl rf_a0 ?_
            refine ok_icmp_ne bX12_isOf_43 (fun h43 => absurd ((by decide)) h43) (fun _ => ?_)
            refine ok_step (ps := []) (L' := [some (.int (nI 7)), some (.int (nI o))]) (st' := [.int (nI 1)]) (σ' := (α, μ)) (pc' := 47) kX12_isOf_46 rfl rfl rf_a0 ?_
            refine ok_goto bX12_isOf_47 ?_
            refine ok_retz eX12_isOf_51 rfl (Or.inr rfl) ?_
            have e1 : o = 1 := nI_inj h11 (by omega) (by omega)
            have e2 : o = 2 := nI_inj h22 (by omega) (by omega)
            omega
theorem c_isUnder : ∀ {k o : Nat}, k < 8 → o < 8 → rf_At (rf_T Ln xs) MX11_isUnder 1 0 ([some (.int (nI k)), some (.int (nI o)), none, none], [], 108, (α, μ)) (some (.int (bI (und k o)))) 108 (α, μ)
  | 0, _, _, ho => c_isUnder_0 ho
  | 1, _, _, ho => c_isUnder_1 ho
  | 2, _, _, ho => c_isUnder_2 ho
  | 3, _, _, ho => c_isUnder_3 ho
  | 4, _, _, ho => c_isUnder_4 ho
  | 5, _, _, ho => c_isUnder_5 ho
  | 6, _, _, ho => c_isUnder_6 ho
  | 7, _, _, ho => c_isUnder_7 ho
  | k + 8, _, hk, _ => absurd hk (by omega)
theorem m_isOf : ∀ {k o : Nat}, k < 8 → o < 8 → rf_At (rf_T Ln xs) MX12_isOf 1 0 ([some (.int (nI k)), some (.int (nI o))], [], 108, (α, μ)) (some (.int (bI (und k o)))) 108 (α, μ)
  | 0, _, _, ho => m_isOf_0 ho
  | 1, _, _, ho => m_isOf_1 ho
  | 2, _, _, ho => m_isOf_2 ho
  | 3, _, _, ho => m_isOf_3 ho
  | 4, _, _, ho => m_isOf_4 ho
  | 5, _, _, ho => m_isOf_5 ho
  | 6, _, _, ho => m_isOf_6 ho
  | 7, _, _, ho => m_isOf_7 ho
  | k + 8, _, hk, _ => absurd hk (by omega)
theorem op_as {group : Int32} {kind : Int32} (hJ : J α μ)  : Op (rf_T Ln xs) MX11_as MX12_as [some (.ref 0), some (.int group), some (.int kind)] [some (.ref 94), some (.int group), some (.int kind)] α μ := by
  have hR := hJ.1.1.1
  have hI := hJ.2
  have b0 := hI.le0
  have b1 := hI.le1
  have b2 := hI.le2
  have b3 := hI.le3
  have b4 := hI.le4
  have b5 := hI.le5
  have b6 := hI.le6
  have b8 := hI.le8
  have b9 := hI.le9
  have b11 := hI.le11
  have b12 := hI.le12
  refine ok_step (ps := []) (L' := [some (.ref 0), some (.int group), some (.int kind)]) (st' := [.int group, .ref 0]) (σ' := (α, μ)) (pc' := 2) kX11_as_0 rfl rfl rf_a0 ?_
  refine ok_V (As := [.int group]) (b := 0) (st := []) mkX11_isGroup qX11_as_2 rfl (rc_0) rfl rfl rfl rfl (Nat.le_of_ble_eq_true rfl) (c_isGroup hR) ?_
  refine ok_if_eq bX11_as_5 (fun h5 => ?_) (fun h5 => ?_)
  · refine ok_step (ps := []) (L' := [some (.ref 0), some (.int group), some (.int kind)]) (st' := [.int (-1000000001), .ref 0]) (σ' := (α, μ)) (pc' := 21) kX11_as_18 rfl rfl rf_a0 ?_
    refine ok_V (As := [.int (-1000000001)]) (b := 0) (st := []) mkX11_error qX11_as_21 rfl (rc_0) rfl rfl rfl rfl (Nat.le_of_ble_eq_true rfl) (c_error (k := 1) (by decide) (by decide) (by decide)) ?_
    refine ok_reti eX11_as_24 rfl ?_
    refine ⟨rfl, _, rfl, ?_⟩
    refine ok_step (ps := []) (L' := [some (.ref 94), some (.int group), some (.int kind)]) (st' := [.int group, .ref 94]) (σ' := (rf_w α 93 1 (α 93 1 + nI 1), μ)) (pc' := 2) kX12_as_0 rfl rfl rf_a0 ?_
    refine ok_V (As := [.int group]) (b := 94) (st := []) mkX12_isGroup qX12_as_2 rfl (rc_94) rfl rfl rfl rfl (Nat.le_of_ble_eq_true rfl) (m_isGroup) ?_
    refine ok_if_eq bX12_as_5 (fun _ => ?_) (fun g5 => absurd (h5) g5)
    refine ok_step (ps := []) (L' := [some (.ref 94), some (.int group), some (.int kind)]) (st' := [.int (nI 1), .ref 94]) (σ' := (rf_w α 93 1 (α 93 1 + nI 1), μ)) (pc' := 22) kX12_as_20 rfl rfl rf_a0 ?_
    refine ok_V (As := [.int (nI 1)]) (b := 94) (st := []) mkX12_finds qX12_as_22 rfl (rc_94) rfl rfl rfl rfl (Nat.le_of_ble_eq_true rfl) (m_finds (k := 1) (by decide)) ?_
    refine ok_reti eX12_as_25 rfl ?_
    exact ⟨rfl, _, rfl, hJ.err (k := 1) (by decide)⟩
  · obtain ⟨g, hg, rfl⟩ := wi_lt (bI_n0.mp h5) hI.at4 (by omega)
    have g7 := hI.leb (k := 190 + 8 * g) (b := 7) (bd_190 (i := g) (by omega) rfl) (by decide)
    refine ok_step (ps := []) (L' := [some (.ref 0), some (.int (nI g)), some (.int kind)]) (st' := [.int (nI 7), .int (nI 0), .int kind]) (σ' := (α, μ)) (pc' := 12) kX11_as_8 rfl rfl rf_a0 ?_
    refine ok_S (As := [.int kind, .int (nI 0), .int (nI 7)]) (st := []) mkX11_within qX11_as_12 rfl rfl rfl rfl rfl (Nat.le_of_ble_eq_true rfl) (c_within) ?_
    refine ok_if_ne bX11_as_15 (fun h15 => ?_) (fun h15 => ?_)
    · obtain ⟨o, ho1, ho2, rfl⟩ := wi_of (bI_n0.mp h15) (by decide) (by decide)
      refine ok_step (ps := [rf_in (nI g) 16]) (L' := [some (.ref 0), some (.int (nI g)), some (.int (nI o))]) (st' := [.int (nI o), .int (α 11 ((nI g).toNatClampNeg))]) (σ' := (α, μ)) (pc' := 38) kX11_as_25 rfl rfl (rf_a1 (rf_in_n (a := g) rfl (by omega)) rf_a0) ?_
      try rw [(show (nI g).toNatClampNeg = g from rf_cl_n rfl (by omega))]
      try rw [(show α 11 g = μ 95 (190 + 8 * g) from rl_10 hR (i := g) (by omega) (by omega))]
      rw [show μ 95 (190 + 8 * g) = nI (cn (μ 95) (190 + 8 * g)) from (hI.atb (k := (190 + 8 * g)) (bd_190 (i := g) (by omega) (by omega)) (by decide))]
      refine ok_S (As := [.int (nI (cn (μ 95) (190 + 8 * g))), .int (nI o)]) (st := []) mkX11_isUnder qX11_as_38 rfl rfl rfl rfl rfl (Nat.le_of_ble_eq_true rfl) (c_isUnder (by omega) (by omega)) ?_
      refine ok_if_ne bX11_as_41 (fun h41 => ?_) (fun h41 => ?_)
      · refine ok_step (ps := [rf_in (nI g) 16]) (L' := [some (.ref 0), some (.int (nI g)), some (.int (nI o))]) (st' := [.int (α 15 ((nI g).toNatClampNeg))]) (σ' := (α, μ)) (pc' := 63) kX11_as_51 rfl rfl (rf_a1 (rf_in_n (a := g) rfl (by omega)) rf_a0) ?_
        try rw [(show (nI g).toNatClampNeg = g from rf_cl_n rfl (by omega))]
        try rw [(show α 15 g = μ 95 (194 + 8 * g) from rl_14 hR (i := g) (by omega) (by omega))]
        refine ok_reti eX11_as_63 rfl ?_
        refine ⟨rfl, _, rfl, ?_⟩
        refine ok_step (ps := []) (L' := [some (.ref 94), some (.int (nI g)), some (.int (nI o))]) (st' := [.int (nI g), .ref 94]) (σ' := (α, μ)) (pc' := 2) kX12_as_0 rfl rfl rf_a0 ?_
        refine ok_V (As := [.int (nI g)]) (b := 94) (st := []) mkX12_isGroup qX12_as_2 rfl (rc_94) rfl rfl rfl rfl (Nat.le_of_ble_eq_true rfl) (m_isGroup) ?_
        refine ok_if_eq bX12_as_5 (fun g5 => absurd g5 (h5)) (fun _ => ?_)
        refine ok_step (ps := []) (L' := [some (.ref 94), some (.int (nI g)), some (.int (nI o))]) (st' := [.long (lN 7), .long (lN 0), .long ((nI o).toInt64)]) (σ' := (α, μ)) (pc' := 14) kX12_as_8 rfl rfl rf_a0 ?_
        refine ok_S (As := [.long ((nI o).toInt64), .long (lN 0), .long (lN 7)]) (st := []) mkX12_in qX12_as_14 rfl rfl rfl rfl rfl (Nat.le_of_ble_eq_true rfl) (m_in) ?_
        rw [show wl ((nI o).toInt64) (lN 0) (lN 7) = wi (nI o) (nI 0) (nI 7) from wl_of rfl (nI_l (by decide)).symm (nI_l (by decide)).symm]
        refine ok_if_ne bX12_as_17 (fun _ => ?_) (fun g17 => absurd g17 (h15))
        refine ok_step (ps := []) (L' := [some (.ref 94), some (.int (nI g)), some (.int (nI o))]) (st' := [.int (nI 0), .int (nI g), .ref 94]) (σ' := (α, μ)) (pc' := 29) kX12_as_26 rfl rfl rf_a0 ?_
        have hc29 : rf_At (rf_T Ln xs) MX12_gr 50 0 ([some (.ref 94), some (.int (nI g)), some (.int (nI 0))], [], 108, (α, μ)) (some (.int (μ 95 (190 + 8 * g)))) 108 (α, μ) := by
          refine rf_pa ?_
          refine ok_step (ps := [rf_in (((nI 190) + ((nI 8) * (nI g))) + (nI 0)) 700]) (L' := [some (.ref 94), some (.int (nI g)), some (.int (nI 0))]) (st' := [.int (μ 95 ((((nI 190) + ((nI 8) * (nI g))) + (nI 0)).toNatClampNeg))]) (σ' := (α, μ)) (pc' := 15) kX12_gr_0 rfl rfl (rf_a1 (rf_in_n (a := (190 + 8 * g)) (by (try rw [(show ((nI 8) * (nI g)) = nI (8 * g) from rf_eq (rf_nmul (x := nI 8) (y := nI g) rfl rfl) (by omega))]); (try rw [(show ((nI 190) + (nI (8 * g))) = nI (190 + 8 * g) from rf_eq (rf_nadd (x := nI 190) (y := nI (8 * g)) rfl rfl) (by omega))]); (try rw [(show ((nI (190 + 8 * g)) + (nI 0)) = nI (190 + 8 * g) from rf_eq (rf_nadd (x := nI (190 + 8 * g)) (y := nI 0) rfl rfl) (by omega))]); all_goals exact rfl) (by omega)) rf_a0) ?_
          try rw [(show ((nI 8) * (nI g)) = nI (8 * g) from rf_eq (rf_nmul (x := nI 8) (y := nI g) rfl rfl) (by omega))]
          try rw [(show ((nI 190) + (nI (8 * g))) = nI (190 + 8 * g) from rf_eq (rf_nadd (x := nI 190) (y := nI (8 * g)) rfl rfl) (by omega))]
          try rw [(show ((nI (190 + 8 * g)) + (nI 0)) = nI (190 + 8 * g) from rf_eq (rf_nadd (x := nI (190 + 8 * g)) (y := nI 0) rfl rfl) (by omega))]
          try rw [(show (nI (190 + 8 * g)).toNatClampNeg = (190 + 8 * g) from rf_cl_n rfl (by omega))]
          refine ok_reti eX12_gr_15 rfl ?_
          exact ⟨rfl, rfl⟩
        refine ok_V (As := [.int (nI g), .int (nI 0)]) (b := 94) (st := []) mkX12_gr qX12_as_29 rfl (rc_94) rfl rfl rfl rfl (Nat.le_of_ble_eq_true rfl) (hc29) ?_
        refine ok_step (ps := []) (L' := [some (.ref 94), some (.int (nI g)), some (.int (nI o))]) (st' := [.int (nI o), .int (μ 95 (190 + 8 * g))]) (σ' := (α, μ)) (pc' := 33) kX12_as_32 rfl rfl rf_a0 ?_
        rw [show μ 95 (190 + 8 * g) = nI (cn (μ 95) (190 + 8 * g)) from (hI.atb (k := (190 + 8 * g)) (bd_190 (i := g) (by omega) (by omega)) (by decide))]
        refine ok_S (As := [.int (nI (cn (μ 95) (190 + 8 * g))), .int (nI o)]) (st := []) mkX12_isOf qX12_as_33 rfl rfl rfl rfl rfl (Nat.le_of_ble_eq_true rfl) (m_isOf (by omega) (by omega)) ?_
        refine ok_if_eq bX12_as_36 (fun g36 => absurd g36 (h41)) (fun _ => ?_)
        refine ok_step (ps := []) (L' := [some (.ref 94), some (.int (nI g)), some (.int (nI o))]) (st' := [.int (nI 4), .int (nI g), .ref 94]) (σ' := (α, μ)) (pc' := 42) kX12_as_39 rfl rfl rf_a0 ?_
        have hc42 : rf_At (rf_T Ln xs) MX12_gr 50 0 ([some (.ref 94), some (.int (nI g)), some (.int (nI 4))], [], 108, (α, μ)) (some (.int (μ 95 (194 + 8 * g)))) 108 (α, μ) := by
          refine rf_pa ?_
          refine ok_step (ps := [rf_in (((nI 190) + ((nI 8) * (nI g))) + (nI 4)) 700]) (L' := [some (.ref 94), some (.int (nI g)), some (.int (nI 4))]) (st' := [.int (μ 95 ((((nI 190) + ((nI 8) * (nI g))) + (nI 4)).toNatClampNeg))]) (σ' := (α, μ)) (pc' := 15) kX12_gr_0 rfl rfl (rf_a1 (rf_in_n (a := (194 + 8 * g)) (by (try rw [(show ((nI 8) * (nI g)) = nI (8 * g) from rf_eq (rf_nmul (x := nI 8) (y := nI g) rfl rfl) (by omega))]); (try rw [(show ((nI 190) + (nI (8 * g))) = nI (190 + 8 * g) from rf_eq (rf_nadd (x := nI 190) (y := nI (8 * g)) rfl rfl) (by omega))]); (try rw [(show ((nI (190 + 8 * g)) + (nI 4)) = nI (194 + 8 * g) from rf_eq (rf_nadd (x := nI (190 + 8 * g)) (y := nI 4) rfl rfl) (by omega))]); all_goals exact rfl) (by omega)) rf_a0) ?_
          try rw [(show ((nI 8) * (nI g)) = nI (8 * g) from rf_eq (rf_nmul (x := nI 8) (y := nI g) rfl rfl) (by omega))]
          try rw [(show ((nI 190) + (nI (8 * g))) = nI (190 + 8 * g) from rf_eq (rf_nadd (x := nI 190) (y := nI (8 * g)) rfl rfl) (by omega))]
          try rw [(show ((nI (190 + 8 * g)) + (nI 4)) = nI (194 + 8 * g) from rf_eq (rf_nadd (x := nI (190 + 8 * g)) (y := nI 4) rfl rfl) (by omega))]
          try rw [(show (nI (194 + 8 * g)).toNatClampNeg = (194 + 8 * g) from rf_cl_n rfl (by omega))]
          refine ok_reti eX12_gr_15 rfl ?_
          exact ⟨rfl, rfl⟩
        refine ok_V (As := [.int (nI g), .int (nI 4)]) (b := 94) (st := []) mkX12_gr qX12_as_42 rfl (rc_94) rfl rfl rfl rfl (Nat.le_of_ble_eq_true rfl) (hc42) ?_
        refine ok_goto bX12_as_45 ?_
        refine ok_reti eX12_as_53 rfl ?_
        exact ⟨rfl, _, rfl, hJ⟩
      · refine ok_step (ps := []) (L' := [some (.ref 0), some (.int (nI g)), some (.int (nI o))]) (st' := [.int (-1000000005), .ref 0]) (σ' := (α, μ)) (pc' := 47) kX11_as_44 rfl rfl rf_a0 ?_
        refine ok_V (As := [.int (-1000000005)]) (b := 0) (st := []) mkX11_error qX11_as_47 rfl (rc_0) rfl rfl rfl rfl (Nat.le_of_ble_eq_true rfl) (c_error (k := 5) (by decide) (by decide) (by decide)) ?_
        refine ok_reti eX11_as_50 rfl ?_
        refine ⟨rfl, _, rfl, ?_⟩
        refine ok_step (ps := []) (L' := [some (.ref 94), some (.int (nI g)), some (.int (nI o))]) (st' := [.int (nI g), .ref 94]) (σ' := (rf_w α 93 5 (α 93 5 + nI 1), μ)) (pc' := 2) kX12_as_0 rfl rfl rf_a0 ?_
        refine ok_V (As := [.int (nI g)]) (b := 94) (st := []) mkX12_isGroup qX12_as_2 rfl (rc_94) rfl rfl rfl rfl (Nat.le_of_ble_eq_true rfl) (m_isGroup) ?_
        refine ok_if_eq bX12_as_5 (fun g5 => absurd g5 (h5)) (fun _ => ?_)
        refine ok_step (ps := []) (L' := [some (.ref 94), some (.int (nI g)), some (.int (nI o))]) (st' := [.long (lN 7), .long (lN 0), .long ((nI o).toInt64)]) (σ' := (rf_w α 93 5 (α 93 5 + nI 1), μ)) (pc' := 14) kX12_as_8 rfl rfl rf_a0 ?_
        refine ok_S (As := [.long ((nI o).toInt64), .long (lN 0), .long (lN 7)]) (st := []) mkX12_in qX12_as_14 rfl rfl rfl rfl rfl (Nat.le_of_ble_eq_true rfl) (m_in) ?_
        rw [show wl ((nI o).toInt64) (lN 0) (lN 7) = wi (nI o) (nI 0) (nI 7) from wl_of rfl (nI_l (by decide)).symm (nI_l (by decide)).symm]
        refine ok_if_ne bX12_as_17 (fun _ => ?_) (fun g17 => absurd g17 (h15))
        refine ok_step (ps := []) (L' := [some (.ref 94), some (.int (nI g)), some (.int (nI o))]) (st' := [.int (nI 0), .int (nI g), .ref 94]) (σ' := (rf_w α 93 5 (α 93 5 + nI 1), μ)) (pc' := 29) kX12_as_26 rfl rfl rf_a0 ?_
        have hc29 : rf_At (rf_T Ln xs) MX12_gr 50 0 ([some (.ref 94), some (.int (nI g)), some (.int (nI 0))], [], 108, (rf_w α 93 5 (α 93 5 + nI 1), μ)) (some (.int (μ 95 (190 + 8 * g)))) 108 (rf_w α 93 5 (α 93 5 + nI 1), μ) := by
          refine rf_pa ?_
          refine ok_step (ps := [rf_in (((nI 190) + ((nI 8) * (nI g))) + (nI 0)) 700]) (L' := [some (.ref 94), some (.int (nI g)), some (.int (nI 0))]) (st' := [.int (μ 95 ((((nI 190) + ((nI 8) * (nI g))) + (nI 0)).toNatClampNeg))]) (σ' := (rf_w α 93 5 (α 93 5 + nI 1), μ)) (pc' := 15) kX12_gr_0 rfl rfl (rf_a1 (rf_in_n (a := (190 + 8 * g)) (by (try rw [(show ((nI 8) * (nI g)) = nI (8 * g) from rf_eq (rf_nmul (x := nI 8) (y := nI g) rfl rfl) (by omega))]); (try rw [(show ((nI 190) + (nI (8 * g))) = nI (190 + 8 * g) from rf_eq (rf_nadd (x := nI 190) (y := nI (8 * g)) rfl rfl) (by omega))]); (try rw [(show ((nI (190 + 8 * g)) + (nI 0)) = nI (190 + 8 * g) from rf_eq (rf_nadd (x := nI (190 + 8 * g)) (y := nI 0) rfl rfl) (by omega))]); all_goals exact rfl) (by omega)) rf_a0) ?_
          try rw [(show ((nI 8) * (nI g)) = nI (8 * g) from rf_eq (rf_nmul (x := nI 8) (y := nI g) rfl rfl) (by omega))]
          try rw [(show ((nI 190) + (nI (8 * g))) = nI (190 + 8 * g) from rf_eq (rf_nadd (x := nI 190) (y := nI (8 * g)) rfl rfl) (by omega))]
          try rw [(show ((nI (190 + 8 * g)) + (nI 0)) = nI (190 + 8 * g) from rf_eq (rf_nadd (x := nI (190 + 8 * g)) (y := nI 0) rfl rfl) (by omega))]
          try rw [(show (nI (190 + 8 * g)).toNatClampNeg = (190 + 8 * g) from rf_cl_n rfl (by omega))]
          refine ok_reti eX12_gr_15 rfl ?_
          exact ⟨rfl, rfl⟩
        refine ok_V (As := [.int (nI g), .int (nI 0)]) (b := 94) (st := []) mkX12_gr qX12_as_29 rfl (rc_94) rfl rfl rfl rfl (Nat.le_of_ble_eq_true rfl) (hc29) ?_
        refine ok_step (ps := []) (L' := [some (.ref 94), some (.int (nI g)), some (.int (nI o))]) (st' := [.int (nI o), .int (μ 95 (190 + 8 * g))]) (σ' := (rf_w α 93 5 (α 93 5 + nI 1), μ)) (pc' := 33) kX12_as_32 rfl rfl rf_a0 ?_
        rw [show μ 95 (190 + 8 * g) = nI (cn (μ 95) (190 + 8 * g)) from (hI.atb (k := (190 + 8 * g)) (bd_190 (i := g) (by omega) (by omega)) (by decide))]
        refine ok_S (As := [.int (nI (cn (μ 95) (190 + 8 * g))), .int (nI o)]) (st := []) mkX12_isOf qX12_as_33 rfl rfl rfl rfl rfl (Nat.le_of_ble_eq_true rfl) (m_isOf (by omega) (by omega)) ?_
        refine ok_if_eq bX12_as_36 (fun _ => ?_) (fun g36 => absurd (h41) g36)
        refine ok_step (ps := []) (L' := [some (.ref 94), some (.int (nI g)), some (.int (nI o))]) (st' := [.int (nI 5), .ref 94]) (σ' := (rf_w α 93 5 (α 93 5 + nI 1), μ)) (pc' := 50) kX12_as_48 rfl rfl rf_a0 ?_
        refine ok_V (As := [.int (nI 5)]) (b := 94) (st := []) mkX12_finds qX12_as_50 rfl (rc_94) rfl rfl rfl rfl (Nat.le_of_ble_eq_true rfl) (m_finds (k := 5) (by decide)) ?_
        refine ok_reti eX12_as_53 rfl ?_
        exact ⟨rfl, _, rfl, hJ.err (k := 5) (by decide)⟩
    · refine ok_step (ps := []) (L' := [some (.ref 0), some (.int (nI g)), some (.int kind)]) (st' := [.int (-1000000001), .ref 0]) (σ' := (α, μ)) (pc' := 21) kX11_as_18 rfl rfl rf_a0 ?_
      refine ok_V (As := [.int (-1000000001)]) (b := 0) (st := []) mkX11_error qX11_as_21 rfl (rc_0) rfl rfl rfl rfl (Nat.le_of_ble_eq_true rfl) (c_error (k := 1) (by decide) (by decide) (by decide)) ?_
      refine ok_reti eX11_as_24 rfl ?_
      refine ⟨rfl, _, rfl, ?_⟩
      refine ok_step (ps := []) (L' := [some (.ref 94), some (.int (nI g)), some (.int kind)]) (st' := [.int (nI g), .ref 94]) (σ' := (rf_w α 93 1 (α 93 1 + nI 1), μ)) (pc' := 2) kX12_as_0 rfl rfl rf_a0 ?_
      refine ok_V (As := [.int (nI g)]) (b := 94) (st := []) mkX12_isGroup qX12_as_2 rfl (rc_94) rfl rfl rfl rfl (Nat.le_of_ble_eq_true rfl) (m_isGroup) ?_
      refine ok_if_eq bX12_as_5 (fun g5 => absurd g5 (h5)) (fun _ => ?_)
      refine ok_step (ps := []) (L' := [some (.ref 94), some (.int (nI g)), some (.int kind)]) (st' := [.long (lN 7), .long (lN 0), .long kind.toInt64]) (σ' := (rf_w α 93 1 (α 93 1 + nI 1), μ)) (pc' := 14) kX12_as_8 rfl rfl rf_a0 ?_
      refine ok_S (As := [.long kind.toInt64, .long (lN 0), .long (lN 7)]) (st := []) mkX12_in qX12_as_14 rfl rfl rfl rfl rfl (Nat.le_of_ble_eq_true rfl) (m_in) ?_
      rw [show wl kind.toInt64 (lN 0) (lN 7) = wi kind (nI 0) (nI 7) from wl_of rfl (nI_l (by decide)).symm (nI_l (by decide)).symm]
      refine ok_if_ne bX12_as_17 (fun g17 => absurd (h15) g17) (fun _ => ?_)
      refine ok_step (ps := []) (L' := [some (.ref 94), some (.int (nI g)), some (.int kind)]) (st' := [.int (nI 1), .ref 94]) (σ' := (rf_w α 93 1 (α 93 1 + nI 1), μ)) (pc' := 22) kX12_as_20 rfl rfl rf_a0 ?_
      refine ok_V (As := [.int (nI 1)]) (b := 94) (st := []) mkX12_finds qX12_as_22 rfl (rc_94) rfl rfl rfl rfl (Nat.le_of_ble_eq_true rfl) (m_finds (k := 1) (by decide)) ?_
      refine ok_reti eX12_as_25 rfl ?_
      exact ⟨rfl, _, rfl, hJ.err (k := 1) (by decide)⟩
end H29
