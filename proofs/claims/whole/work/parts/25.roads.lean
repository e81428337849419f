theorem le_of {x : Int32} {a b : Nat} (h : x = nI a) (hab : a ≤ b) (hb : b < 2147483648) : x ≤ nI b := by
  subst h
  exact nI_le hab (by omega)
theorem nle_of {x : Int32} {a b : Nat} (h : x = nI a) (hab : b < a) (ha : a < 2147483648) : ¬ x ≤ nI b := by
  subst h
  exact nI_ge hab (by omega)
section SPEC
variable (d : Nat → Int32)
def s_stops (t : Nat) : Int32 := d (90 + 13 * cn d (150 + 3 * t))
def s_stAt (t i : Nat) : Int32 := if d (152 + 3 * t) = nI 0 then d (91 + 13 * cn d (150 + 3 * t) + i) else d (90 + 13 * cn d (150 + 3 * t) + cn d (90 + 13 * cn d (150 + 3 * t)) - i)
def s_leg (t k : Nat) : Int32 := if d (152 + 3 * t) = nI 0 then d (97 + 13 * cn d (150 + 3 * t) + k) else d (97 + 13 * cn d (150 + 3 * t) + cn d (90 + 13 * cn d (150 + 3 * t)) - 2 - k)
def s_min (t : Nat) : Nat → Int32
  | 0 => d (151 + 3 * t)
  | k + 1 => s_min t k + s_leg d t k
def s_end (t : Nat) : Int32 := s_min d t (cn d (90 + 13 * cn d (150 + 3 * t)) - 1)
def s_last (t : Nat) : Int32 := s_stAt d t (cn d (90 + 13 * cn d (150 + 3 * t)) - 1)
def s_all : Int32 := sumI (fun s => d (330 + s)) (cn d 5)
def f_with (t : Int32) : Nat → Int32 := fun s => if hb (d (320 + s)) t = true then d (330 + s) else nI 0
def s_with (t : Int32) : Int32 := sumI (f_with d t) (cn d 5)
end SPEC
section H25
variable {Ln : Nat} {xs : Nat → Int32} {α μ : Nat → Nat → Int32}
theorem c_all_l  (hR : Rl 1 α (μ 95)) (hI : Iv (μ 95)) : ∀ (j i : Nat), i + j = cn (μ 95) 5 → rf_Ok (rf_T Ln xs) MX7_all 1 4 [some (.ref 19), some (.int (sumI (fun s => μ 95 (330 + s)) i)), some (.int (nI i))] [] (α, μ) (fun r s => r = some (.int (s_all (μ 95))) ∧ s = (α, μ)) := by
  have b5 := hI.le5
  intro j
  induction j with
  | zero =>
    intro i hj
    have hj : i = cn (μ 95) 5 := by omega
    refine ok_step (ps := []) (L' := [some (.ref 19), some (.int (sumI (fun s => μ 95 (330 + s)) i)), some (.int (nI i))]) (st' := [.int (α 19 0), .int (nI i)]) (σ' := (α, μ)) (pc' := 9) kX7_all_4 rfl rfl rf_a0 ?_
    try rw [(show α 19 0 = μ 95 5 from hR 18 0 5 rfl)]
    refine ok_icmp_ge bX7_all_9 (fun _ => ?_) (fun h9 => absurd (le_of hI.at5 (by omega) (by omega)) h9)
    refine ok_step (ps := []) (L' := [some (.ref 19), some (.int (sumI (fun s => μ 95 (330 + s)) i)), some (.int (nI i))]) (st' := [.int (sumI (fun s => μ 95 (330 + s)) i)]) (σ' := (α, μ)) (pc' := 28) kX7_all_27 rfl rfl rf_a0 ?_
    refine ok_reti eX7_all_28 rfl ?_
    exact ⟨by rw [hj]; rfl, rfl⟩
  | succ j ih =>
    intro i hj
    refine ok_step (ps := []) (L' := [some (.ref 19), some (.int (sumI (fun s => μ 95 (330 + s)) i)), some (.int (nI i))]) (st' := [.int (α 19 0), .int (nI i)]) (σ' := (α, μ)) (pc' := 9) kX7_all_4 rfl rfl rf_a0 ?_
    try rw [(show α 19 0 = μ 95 5 from hR 18 0 5 rfl)]
    refine ok_icmp_ge bX7_all_9 (fun h9 => absurd h9 (nle_of hI.at5 (by omega) (by omega))) (fun _ => ?_)
    refine ok_step (ps := [rf_in (nI i) 8]) (L' := [some (.ref 19), some (.int ((sumI (fun s => μ 95 (330 + s)) i) + (α 21 ((nI i).toNatClampNeg)))), some (.int ((nI i) + (nI 1)))]) (st' := []) (σ' := (α, μ)) (pc' := 24) kX7_all_12 rfl rfl (rf_a1 (rf_in_n (a := i) rfl (by omega)) rf_a0) ?_
    try rw [(show (nI i).toNatClampNeg = i from rf_cl_n rfl (by omega))]
    try rw [(show α 21 i = μ 95 (330 + i) from rl_20 hR (i := i) (by omega) (by omega))]
    try rw [(show ((nI i) + (nI 1)) = nI (i + 1) from nI_add _ _)]
    refine ok_goto bX7_all_24 ?_
    exact ih (i + 1) (by omega)
theorem c_all  (hR : Rl 1 α (μ 95)) (hI : Iv (μ 95)) : rf_At (rf_T Ln xs) MX7_all 1 0 ([some (.ref 19), none, none], [], 108, (α, μ)) (some (.int (s_all (μ 95)))) 108 (α, μ) := by
  refine rf_pa ?_
  refine ok_step (ps := []) (L' := [some (.ref 19), some (.int (nI 0)), some (.int (nI 0))]) (st' := []) (σ' := (α, μ)) (pc' := 4) kX7_all_0 rfl rfl rf_a0 ?_
  exact c_all_l hR hI (cn (μ 95) 5) 0 (by omega)
theorem m_all_l  (hI : Iv (μ 95)) : ∀ (j i : Nat), i + j = cn (μ 95) 5 → rf_Ok (rf_T Ln xs) MX12_allLots 1 4 [some (.ref 94), some (.int (sumI (fun s => μ 95 (330 + s)) i)), some (.int (nI i))] [] (α, μ) (fun r s => r = some (.int (s_all (μ 95))) ∧ s = (α, μ)) := by
  have b5 := hI.le5
  intro j
  induction j with
  | zero =>
    intro i hj
    have hj : i = cn (μ 95) 5 := by omega
    refine ok_step (ps := [rf_in (nI 5) 700]) (L' := [some (.ref 94), some (.int (sumI (fun s => μ 95 (330 + s)) i)), some (.int (nI i))]) (st' := [.int (μ 95 ((nI 5).toNatClampNeg)), .int (nI i)]) (σ' := (α, μ)) (pc' := 11) kX12_allLots_4 rfl rfl (rf_a1 (rf_in_n (a := 5) rfl (by omega)) rf_a0) ?_
    try rw [(show (nI 5).toNatClampNeg = 5 from rf_cl_n rfl (by omega))]
    refine ok_icmp_ge bX12_allLots_11 (fun _ => ?_) (fun h11 => absurd (le_of hI.at5 (by omega) (by omega)) h11)
    refine ok_step (ps := []) (L' := [some (.ref 94), some (.int (sumI (fun s => μ 95 (330 + s)) i)), some (.int (nI i))]) (st' := [.int (sumI (fun s => μ 95 (330 + s)) i)]) (σ' := (α, μ)) (pc' := 34) kX12_allLots_33 rfl rfl rf_a0 ?_
    refine ok_reti eX12_allLots_34 rfl ?_
    exact ⟨by rw [hj]; rfl, rfl⟩
  | succ j ih =>
    intro i hj
    refine ok_step (ps := [rf_in (nI 5) 700]) (L' := [some (.ref 94), some (.int (sumI (fun s => μ 95 (330 + s)) i)), some (.int (nI i))]) (st' := [.int (μ 95 ((nI 5).toNatClampNeg)), .int (nI i)]) (σ' := (α, μ)) (pc' := 11) kX12_allLots_4 rfl rfl (rf_a1 (rf_in_n (a := 5) rfl (by omega)) rf_a0) ?_
    try rw [(show (nI 5).toNatClampNeg = 5 from rf_cl_n rfl (by omega))]
    refine ok_icmp_ge bX12_allLots_11 (fun h11 => absurd h11 (nle_of hI.at5 (by omega) (by omega))) (fun _ => ?_)
    refine ok_step (ps := [rf_in ((nI 330) + (nI i)) 700]) (L' := [some (.ref 94), some (.int ((sumI (fun s => μ 95 (330 + s)) i) + (μ 95 (((nI 330) + (nI i)).toNatClampNeg)))), some (.int ((nI i) + (nI 1)))]) (st' := []) (σ' := (α, μ)) (pc' := 30) kX12_allLots_14 rfl rfl (rf_a1 (rf_in_n (a := (330 + i)) (by (try rw [(show ((nI 330) + (nI i)) = nI (330 + i) from rf_eq (rf_nadd (x := nI 330) (y := nI i) rfl rfl) (by omega))]); all_goals exact rfl) (by omega)) rf_a0) ?_
    try rw [(show ((nI 330) + (nI i)) = nI (330 + i) from rf_eq (rf_nadd (x := nI 330) (y := nI i) rfl rfl) (by omega))]
    try rw [(show (nI (330 + i)).toNatClampNeg = (330 + i) from rf_cl_n rfl (by omega))]
    try rw [(show ((nI i) + (nI 1)) = nI (i + 1) from nI_add _ _)]
    refine ok_goto bX12_allLots_30 ?_
    exact ih (i + 1) (by omega)
theorem m_all  (hI : Iv (μ 95)) : rf_At (rf_T Ln xs) MX12_allLots 1 0 ([some (.ref 94), none, none], [], 108, (α, μ)) (some (.int (s_all (μ 95)))) 108 (α, μ) := by
  refine rf_pa ?_
  refine ok_step (ps := []) (L' := [some (.ref 94), some (.int (nI 0)), some (.int (nI 0))]) (st' := []) (σ' := (α, μ)) (pc' := 4) kX12_allLots_0 rfl rfl rf_a0 ?_
  exact m_all_l hI (cn (μ 95) 5) 0 (by omega)
theorem c_below  (hR : Rl 1 α (μ 95)) (hI : Iv (μ 95)) : rf_At (rf_T Ln xs) MX7_below 2 0 ([some (.ref 19)], [], 108, (α, μ)) (some (.int (rf_max (s_all (μ 95)) (nI 1)))) 108 (α, μ) := by
  refine rf_pa ?_
  refine ok_step (ps := []) (L' := [some (.ref 19)]) (st' := [.ref 19]) (σ' := (α, μ)) (pc' := 1) kX7_below_0 rfl rfl rf_a0 ?_
  refine ok_V (As := []) (b := 19) (st := []) mkX7_all qX7_below_1 rfl (rc_19) rfl rfl rfl rfl (Nat.le_of_ble_eq_true rfl) (c_all hR hI) ?_
  refine ok_step (ps := []) (L' := [some (.ref 19)]) (st' := [.int (rf_max (s_all (μ 95)) (nI 1))]) (σ' := (α, μ)) (pc' := 8) kX7_below_4 rfl rfl rf_a0 ?_
  refine ok_reti eX7_below_8 rfl ?_
  exact ⟨rfl, rfl⟩
theorem c_with_l {t : Int32} (hR : Rl 1 α (μ 95)) (hI : Iv (μ 95)) : ∀ (j i : Nat), i + j = cn (μ 95) 5 → rf_Ok (rf_T Ln xs) MX7_lotsWith 2 4 [some (.ref 19), some (.int t), some (.int (sumI (f_with (μ 95) t) i)), some (.int (nI i))] [] (α, μ) (fun r s => r = some (.int (s_with (μ 95) t)) ∧ s = (α, μ)) := by
  have b5 := hI.le5
  intro j
  induction j with
  | zero =>
    intro i hj
    have hj : i = cn (μ 95) 5 := by omega
    refine ok_step (ps := []) (L' := [some (.ref 19), some (.int t), some (.int (sumI (f_with (μ 95) t) i)), some (.int (nI i))]) (st' := [.int (α 19 0), .int (nI i)]) (σ' := (α, μ)) (pc' := 9) kX7_lotsWith_4 rfl rfl rf_a0 ?_
    try rw [(show α 19 0 = μ 95 5 from hR 18 0 5 rfl)]
    refine ok_icmp_ge bX7_lotsWith_9 (fun _ => ?_) (fun h9 => absurd (le_of hI.at5 (by omega) (by omega)) h9)
    refine ok_step (ps := []) (L' := [some (.ref 19), some (.int t), some (.int (sumI (f_with (μ 95) t) i)), some (.int (nI i))]) (st' := [.int (sumI (f_with (μ 95) t) i)]) (σ' := (α, μ)) (pc' := 41) kX7_lotsWith_40 rfl rfl rf_a0 ?_
    refine ok_reti eX7_lotsWith_41 rfl ?_
    exact ⟨by rw [hj]; rfl, rfl⟩
  | succ j ih =>
    intro i hj
    refine ok_step (ps := []) (L' := [some (.ref 19), some (.int t), some (.int (sumI (f_with (μ 95) t) i)), some (.int (nI i))]) (st' := [.int (α 19 0), .int (nI i)]) (σ' := (α, μ)) (pc' := 9) kX7_lotsWith_4 rfl rfl rf_a0 ?_
    try rw [(show α 19 0 = μ 95 5 from hR 18 0 5 rfl)]
    refine ok_icmp_ge bX7_lotsWith_9 (fun h9 => absurd h9 (nle_of hI.at5 (by omega) (by omega))) (fun _ => ?_)
    refine ok_step (ps := [rf_in (nI i) 8]) (L' := [some (.ref 19), some (.int t), some (.int (sumI (f_with (μ 95) t) i)), some (.int (nI i))]) (st' := [.int t, .int (α 20 ((nI i).toNatClampNeg))]) (σ' := (α, μ)) (pc' := 19) kX7_lotsWith_12 rfl rfl (rf_a1 (rf_in_n (a := i) rfl (by omega)) rf_a0) ?_
    try rw [(show (nI i).toNatClampNeg = i from rf_cl_n rfl (by omega))]
    try rw [(show α 20 i = μ 95 (320 + i) from rl_19 hR (i := i) (by omega) (by omega))]
    refine ok_S (As := [.int (μ 95 (320 + i)), .int t]) (st := []) mkX11_has qX7_lotsWith_19 rfl rfl rfl rfl rfl (Nat.le_of_ble_eq_true rfl) (c_has) ?_
    refine ok_if_eq bX7_lotsWith_22 (fun h22 => ?_) (fun h22 => ?_)
    · refine ok_step (ps := []) (L' := [some (.ref 19), some (.int t), some (.int (sumI (f_with (μ 95) t) i)), some (.int ((nI i) + (nI 1)))]) (st' := []) (σ' := (α, μ)) (pc' := 37) kX7_lotsWith_34 rfl rfl rf_a0 ?_
      try rw [(show ((nI i) + (nI 1)) = nI (i + 1) from nI_add _ _)]
      refine ok_goto bX7_lotsWith_37 ?_
      have e : sumI (f_with (μ 95) t) i = sumI (f_with (μ 95) t) (i + 1) := by simp_all [sumI, f_with, bI_0, hb, nI_0]
      rw [e]
      exact ih (i + 1) (by omega)
    · refine ok_step (ps := [rf_in (nI i) 8]) (L' := [some (.ref 19), some (.int t), some (.int ((sumI (f_with (μ 95) t) i) + (α 21 ((nI i).toNatClampNeg)))), some (.int (nI i))]) (st' := []) (σ' := (α, μ)) (pc' := 34) kX7_lotsWith_25 rfl rfl (rf_a1 (rf_in_n (a := i) rfl (by omega)) rf_a0) ?_
      try rw [(show (nI i).toNatClampNeg = i from rf_cl_n rfl (by omega))]
      try rw [(show α 21 i = μ 95 (330 + i) from rl_20 hR (i := i) (by omega) (by omega))]
      refine ok_step (ps := []) (L' := [some (.ref 19), some (.int t), some (.int ((sumI (f_with (μ 95) t) i) + (μ 95 (330 + i)))), some (.int ((nI i) + (nI 1)))]) (st' := []) (σ' := (α, μ)) (pc' := 37) kX7_lotsWith_34 rfl rfl rf_a0 ?_
      try rw [(show ((nI i) + (nI 1)) = nI (i + 1) from nI_add _ _)]
      refine ok_goto bX7_lotsWith_37 ?_
      have e : ((sumI (f_with (μ 95) t) i) + (μ 95 (330 + i))) = sumI (f_with (μ 95) t) (i + 1) := by simp_all [sumI, f_with, bI_0, hb, nI_0]
      rw [e]
      exact ih (i + 1) (by omega)
theorem c_with {t : Int32} (hR : Rl 1 α (μ 95)) (hI : Iv (μ 95)) : rf_At (rf_T Ln xs) MX7_lotsWith 2 0 ([some (.ref 19), some (.int t), none, none], [], 108, (α, μ)) (some (.int (s_with (μ 95) t))) 108 (α, μ) := by
  refine rf_pa ?_
  refine ok_step (ps := []) (L' := [some (.ref 19), some (.int t), some (.int (nI 0)), some (.int (nI 0))]) (st' := []) (σ' := (α, μ)) (pc' := 4) kX7_lotsWith_0 rfl rfl rf_a0 ?_
  exact c_with_l hR hI (cn (μ 95) 5) 0 (by omega)
theorem m_with_l {t : Int32} (hI : Iv (μ 95)) : ∀ (j i : Nat), i + j = cn (μ 95) 5 → rf_Ok (rf_T Ln xs) MX12_lotsWith 1 4 [some (.ref 94), some (.int t), some (.int (sumI (f_with (μ 95) t) i)), some (.int (nI i))] [] (α, μ) (fun r s => r = some (.int (s_with (μ 95) t)) ∧ s = (α, μ)) := by
  have b5 := hI.le5
  intro j
  induction j with
  | zero =>
    intro i hj
    have hj : i = cn (μ 95) 5 := by omega
    refine ok_step (ps := [rf_in (nI 5) 700]) (L' := [some (.ref 94), some (.int t), some (.int (sumI (f_with (μ 95) t) i)), some (.int (nI i))]) (st' := [.int (μ 95 ((nI 5).toNatClampNeg)), .int (nI i)]) (σ' := (α, μ)) (pc' := 11) kX12_lotsWith_4 rfl rfl (rf_a1 (rf_in_n (a := 5) rfl (by omega)) rf_a0) ?_
    try rw [(show (nI 5).toNatClampNeg = 5 from rf_cl_n rfl (by omega))]
    refine ok_icmp_ge bX12_lotsWith_11 (fun _ => ?_) (fun h11 => absurd (le_of hI.at5 (by omega) (by omega)) h11)
    refine ok_step (ps := []) (L' := [some (.ref 94), some (.int t), some (.int (sumI (f_with (μ 95) t) i)), some (.int (nI i))]) (st' := [.int (sumI (f_with (μ 95) t) i)]) (σ' := (α, μ)) (pc' := 56) kX12_lotsWith_55 rfl rfl rf_a0 ?_
    refine ok_reti eX12_lotsWith_56 rfl ?_
    exact ⟨by rw [hj]; rfl, rfl⟩
  | succ j ih =>
    intro i hj
    refine ok_step (ps := [rf_in (nI 5) 700]) (L' := [some (.ref 94), some (.int t), some (.int (sumI (f_with (μ 95) t) i)), some (.int (nI i))]) (st' := [.int (μ 95 ((nI 5).toNatClampNeg)), .int (nI i)]) (σ' := (α, μ)) (pc' := 11) kX12_lotsWith_4 rfl rfl (rf_a1 (rf_in_n (a := 5) rfl (by omega)) rf_a0) ?_
    try rw [(show (nI 5).toNatClampNeg = 5 from rf_cl_n rfl (by omega))]
    refine ok_icmp_ge bX12_lotsWith_11 (fun h11 => absurd h11 (nle_of hI.at5 (by omega) (by omega))) (fun _ => ?_)
    refine ok_step (ps := [rf_in ((nI 320) + (nI i)) 700]) (L' := [some (.ref 94), some (.int t), some (.int (sumI (f_with (μ 95) t) i)), some (.int (nI i))]) (st' := [.int (nI 1), .int (((μ 95 (((nI 320) + (nI i)).toNatClampNeg)) >>> (t &&& 31)) &&& (nI 1)), .int (sumI (f_with (μ 95) t) i)]) (σ' := (α, μ)) (pc' := 30) kX12_lotsWith_14 rfl rfl (rf_a1 (rf_in_n (a := (320 + i)) (by (try rw [(show ((nI 320) + (nI i)) = nI (320 + i) from rf_eq (rf_nadd (x := nI 320) (y := nI i) rfl rfl) (by omega))]); all_goals exact rfl) (by omega)) rf_a0) ?_
    try rw [(show ((nI 320) + (nI i)) = nI (320 + i) from rf_eq (rf_nadd (x := nI 320) (y := nI i) rfl rfl) (by omega))]
    try rw [(show (nI (320 + i)).toNatClampNeg = (320 + i) from rf_cl_n rfl (by omega))]
    refine ok_icmp_ne bX12_lotsWith_30 (fun h30 => ?_) (fun h30 => ?_)
    · refine ok_step (ps := []) (L' := [some (.ref 94), some (.int t), some (.int (sumI (f_with (μ 95) t) i)), some (.int (nI i))]) (st' := [.int (nI 0), .int (sumI (f_with (μ 95) t) i)]) (σ' := (α, μ)) (pc' := 47) kX12_lotsWith_46 rfl rfl rf_a0 ?_
      refine ok_step (ps := []) (L' := [some (.ref 94), some (.int t), some (.int ((sumI (f_with (μ 95) t) i) + (nI 0))), some (.int ((nI i) + (nI 1)))]) (st' := []) (σ' := (α, μ)) (pc' := 52) kX12_lotsWith_47 rfl rfl rf_a0 ?_
      try rw [(show ((nI i) + (nI 1)) = nI (i + 1) from nI_add _ _)]
      refine ok_goto bX12_lotsWith_52 ?_
      have e : ((sumI (f_with (μ 95) t) i) + (nI 0)) = sumI (f_with (μ 95) t) (i + 1) := by simp_all [sumI, f_with, bI_0, hb, nI_0]
      rw [e]
      exact ih (i + 1) (by omega)
    · refine ok_step (ps := [rf_in ((nI 330) + (nI i)) 700]) (L' := [some (.ref 94), some (.int t), some (.int (sumI (f_with (μ 95) t) i)), some (.int (nI i))]) (st' := [.int (μ 95 (((nI 330) + (nI i)).toNatClampNeg)), .int (sumI (f_with (μ 95) t) i)]) (σ' := (α, μ)) (pc' := 43) kX12_lotsWith_33 rfl rfl (rf_a1 (rf_in_n (a := (330 + i)) (by (try rw [(show ((nI 330) + (nI i)) = nI (330 + i) from rf_eq (rf_nadd (x := nI 330) (y := nI i) rfl rfl) (by omega))]); all_goals exact rfl) (by omega)) rf_a0) ?_
      try rw [(show ((nI 330) + (nI i)) = nI (330 + i) from rf_eq (rf_nadd (x := nI 330) (y := nI i) rfl rfl) (by omega))]
      try rw [(show (nI (330 + i)).toNatClampNeg = (330 + i) from rf_cl_n rfl (by omega))]
      refine ok_goto bX12_lotsWith_43 ?_
      refine ok_step (ps := []) (L' := [some (.ref 94), some (.int t), some (.int ((sumI (f_with (μ 95) t) i) + (μ 95 (330 + i)))), some (.int ((nI i) + (nI 1)))]) (st' := []) (σ' := (α, μ)) (pc' := 52) kX12_lotsWith_47 rfl rfl rf_a0 ?_
      try rw [(show ((nI i) + (nI 1)) = nI (i + 1) from nI_add _ _)]
      refine ok_goto bX12_lotsWith_52 ?_
      have e : ((sumI (f_with (μ 95) t) i) + (μ 95 (330 + i))) = sumI (f_with (μ 95) t) (i + 1) := by simp_all [sumI, f_with, bI_0, hb, nI_0]
      rw [e]
      exact ih (i + 1) (by omega)
theorem m_with {t : Int32} (hI : Iv (μ 95)) : rf_At (rf_T Ln xs) MX12_lotsWith 1 0 ([some (.ref 94), some (.int t), none, none], [], 108, (α, μ)) (some (.int (s_with (μ 95) t))) 108 (α, μ) := by
  refine rf_pa ?_
  refine ok_step (ps := []) (L' := [some (.ref 94), some (.int t), some (.int (nI 0)), some (.int (nI 0))]) (st' := []) (σ' := (α, μ)) (pc' := 4) kX12_lotsWith_0 rfl rfl rf_a0 ?_
  exact m_with_l hI (cn (μ 95) 5) 0 (by omega)
theorem m_lineOf {t : Nat} (ht : t < 12) : rf_At (rf_T Ln xs) MX12_lineOf 1 0 ([some (.ref 94), some (.int (nI t))], [], 108, (α, μ)) (some (.int (μ 95 (150 + 3 * t)))) 108 (α, μ) := by
  refine rf_pa ?_
  refine ok_step (ps := [rf_in ((nI 150) + ((nI 3) * (nI t))) 700]) (L' := [some (.ref 94), some (.int (nI t))]) (st' := [.int (μ 95 (((nI 150) + ((nI 3) * (nI t))).toNatClampNeg))]) (σ' := (α, μ)) (pc' := 12) kX12_lineOf_0 rfl rfl (rf_a1 (rf_in_n (a := (150 + 3 * t)) (by (try rw [(show ((nI 3) * (nI t)) = nI (3 * t) from rf_eq (rf_nmul (x := nI 3) (y := nI t) rfl rfl) (by omega))]); (try rw [(show ((nI 150) + (nI (3 * t))) = nI (150 + 3 * t) from rf_eq (rf_nadd (x := nI 150) (y := nI (3 * t)) rfl rfl) (by omega))]); all_goals exact rfl) (by omega)) rf_a0) ?_
  try rw [(show ((nI 3) * (nI t)) = nI (3 * t) from rf_eq (rf_nmul (x := nI 3) (y := nI t) rfl rfl) (by omega))]
  try rw [(show ((nI 150) + (nI (3 * t))) = nI (150 + 3 * t) from rf_eq (rf_nadd (x := nI 150) (y := nI (3 * t)) rfl rfl) (by omega))]
  try rw [(show (nI (150 + 3 * t)).toNatClampNeg = (150 + 3 * t) from rf_cl_n rfl (by omega))]
  refine ok_reti eX12_lineOf_12 rfl ?_
  exact ⟨rfl, rfl⟩
theorem m_startOf {t : Nat} (ht : t < 12) : rf_At (rf_T Ln xs) MX12_startOf 1 0 ([some (.ref 94), some (.int (nI t))], [], 108, (α, μ)) (some (.int (μ 95 (151 + 3 * t)))) 108 (α, μ) := by
  refine rf_pa ?_
  refine ok_step (ps := [rf_in (((nI 150) + ((nI 3) * (nI t))) + (nI 1)) 700]) (L' := [some (.ref 94), some (.int (nI t))]) (st' := [.int (μ 95 ((((nI 150) + ((nI 3) * (nI t))) + (nI 1)).toNatClampNeg))]) (σ' := (α, μ)) (pc' := 14) kX12_startOf_0 rfl rfl (rf_a1 (rf_in_n (a := (151 + 3 * t)) (by (try rw [(show ((nI 3) * (nI t)) = nI (3 * t) from rf_eq (rf_nmul (x := nI 3) (y := nI t) rfl rfl) (by omega))]); (try rw [(show ((nI 150) + (nI (3 * t))) = nI (150 + 3 * t) from rf_eq (rf_nadd (x := nI 150) (y := nI (3 * t)) rfl rfl) (by omega))]); (try rw [(show ((nI (150 + 3 * t)) + (nI 1)) = nI (151 + 3 * t) from rf_eq (rf_nadd (x := nI (150 + 3 * t)) (y := nI 1) rfl rfl) (by omega))]); all_goals exact rfl) (by omega)) rf_a0) ?_
  try rw [(show ((nI 3) * (nI t)) = nI (3 * t) from rf_eq (rf_nmul (x := nI 3) (y := nI t) rfl rfl) (by omega))]
  try rw [(show ((nI 150) + (nI (3 * t))) = nI (150 + 3 * t) from rf_eq (rf_nadd (x := nI 150) (y := nI (3 * t)) rfl rfl) (by omega))]
  try rw [(show ((nI (150 + 3 * t)) + (nI 1)) = nI (151 + 3 * t) from rf_eq (rf_nadd (x := nI (150 + 3 * t)) (y := nI 1) rfl rfl) (by omega))]
  try rw [(show (nI (151 + 3 * t)).toNatClampNeg = (151 + 3 * t) from rf_cl_n rfl (by omega))]
  refine ok_reti eX12_startOf_14 rfl ?_
  exact ⟨rfl, rfl⟩
theorem m_stopsOf {t : Nat} (hI : Iv (μ 95))(ht : t < 12) : rf_At (rf_T Ln xs) MX12_stopsOf 2 0 ([some (.ref 94), some (.int (nI t))], [], 108, (α, μ)) (some (.int (s_stops (μ 95) t))) 108 (α, μ) := by
  refine rf_pa ?_
  have b150 := hI.leb (k := 150 + 3 * t) (b := 3) (bd_150 ht rfl) (by decide)
  refine ok_step (ps := []) (L' := [some (.ref 94), some (.int (nI t))]) (st' := [.int (nI t), .ref 94, .int (nI 13), .int (nI 90), .ref 95]) (σ' := (α, μ)) (pc' := 10) kX12_stopsOf_0 rfl rfl rf_a0 ?_
  refine ok_V (As := [.int (nI t)]) (b := 94) (st := [.int (nI 13), .int (nI 90), .ref 95]) mkX12_lineOf qX12_stopsOf_10 rfl (rc_94) rfl rfl rfl rfl (Nat.le_of_ble_eq_true rfl) (m_lineOf (by omega)) ?_
  refine ok_step (ps := [rf_in ((nI 90) + ((nI 13) * (μ 95 (150 + 3 * t)))) 700]) (L' := [some (.ref 94), some (.int (nI t))]) (st' := [.int (μ 95 (((nI 90) + ((nI 13) * (μ 95 (150 + 3 * t)))).toNatClampNeg))]) (σ' := (α, μ)) (pc' := 16) kX12_stopsOf_13 rfl rfl (rf_a1 (rf_in_n (a := (90 + 13 * cn (μ 95) (150 + 3 * t))) (by (try rw [(show ((nI 13) * (μ 95 (150 + 3 * t))) = nI (13 * cn (μ 95) (150 + 3 * t)) from rf_eq (rf_nmul (x := nI 13) (y := μ 95 (150 + 3 * t)) rfl (hI.atb (k := (150 + 3 * t)) (bd_150 (i := t) (by omega) (by omega)) (by decide))) (by omega))]); (try rw [(show ((nI 90) + (nI (13 * cn (μ 95) (150 + 3 * t)))) = nI (90 + 13 * cn (μ 95) (150 + 3 * t)) from rf_eq (rf_nadd (x := nI 90) (y := nI (13 * cn (μ 95) (150 + 3 * t))) rfl rfl) (by omega))]); all_goals exact rfl) (by omega)) rf_a0) ?_
  try rw [(show ((nI 13) * (μ 95 (150 + 3 * t))) = nI (13 * cn (μ 95) (150 + 3 * t)) from rf_eq (rf_nmul (x := nI 13) (y := μ 95 (150 + 3 * t)) rfl (hI.atb (k := (150 + 3 * t)) (bd_150 (i := t) (by omega) (by omega)) (by decide))) (by omega))]
  try rw [(show ((nI 90) + (nI (13 * cn (μ 95) (150 + 3 * t)))) = nI (90 + 13 * cn (μ 95) (150 + 3 * t)) from rf_eq (rf_nadd (x := nI 90) (y := nI (13 * cn (μ 95) (150 + 3 * t))) rfl rfl) (by omega))]
  try rw [(show (nI (90 + 13 * cn (μ 95) (150 + 3 * t))).toNatClampNeg = (90 + 13 * cn (μ 95) (150 + 3 * t)) from rf_cl_n rfl (by omega))]
  refine ok_reti eX12_stopsOf_16 rfl ?_
  exact ⟨rfl, rfl⟩
theorem c_stopsOf {t : Nat} (hR : Rl 1 α (μ 95)) (hI : Iv (μ 95))(ht : t < 12) : rf_At (rf_T Ln xs) MX4_stopsOf 1 0 ([some (.ref 2), some (.int (nI t))], [], 108, (α, μ)) (some (.int (s_stops (μ 95) t))) 108 (α, μ) := by
  refine rf_pa ?_
  have b150 := hI.leb (k := 150 + 3 * t) (b := 3) (bd_150 ht rfl) (by decide)
  refine ok_step (ps := [rf_in (nI t) 12, rf_in (α 7 ((nI t).toNatClampNeg)) 4]) (L' := [some (.ref 2), some (.int (nI t))]) (st' := [.int (α 4 ((α 7 ((nI t).toNatClampNeg)).toNatClampNeg))]) (σ' := (α, μ)) (pc' := 11) kX4_stopsOf_0 rfl rfl (rf_a1 (rf_in_n (a := t) rfl (by omega)) (rf_a1 (rf_in_n (a := (cn (μ 95) (150 + 3 * t))) (by (try rw [(show (nI t).toNatClampNeg = t from rf_cl_n rfl (by omega))]); (try rw [(show α 7 t = μ 95 (150 + 3 * t) from rl_6 hR (i := t) (by omega) (by omega))]); all_goals exact (hI.atb (k := (150 + 3 * t)) (bd_150 (i := t) (by omega) (by omega)) (by decide))) (by omega)) rf_a0)) ?_
  try rw [(show (nI t).toNatClampNeg = t from rf_cl_n rfl (by omega))]
  try rw [(show α 7 t = μ 95 (150 + 3 * t) from rl_6 hR (i := t) (by omega) (by omega))]
  try rw [(show (μ 95 (150 + 3 * t)).toNatClampNeg = (cn (μ 95) (150 + 3 * t)) from rf_cl_n (hI.atb (k := (150 + 3 * t)) (bd_150 (i := t) (by omega) (by omega)) (by decide)) (by omega))]
  try rw [(show α 4 (cn (μ 95) (150 + 3 * t)) = μ 95 (90 + 13 * cn (μ 95) (150 + 3 * t)) from rl_3 hR (i := (cn (μ 95) (150 + 3 * t))) (by omega) (by omega))]
  refine ok_reti eX4_stopsOf_11 rfl ?_
  exact ⟨rfl, rfl⟩
theorem c_ofRow {l i : Nat} (hR : Rl 1 α (μ 95)) (hI : Iv (μ 95))(hl : l < 4) (hi : i < 6) : rf_At (rf_T Ln xs) MX4_ofRow 1 0 ([some (.ref 2), some (.int (nI l)), some (.int (nI i))], [], 108, (α, μ)) (some (.int (μ 95 (91 + 13 * l + i)))) 108 (α, μ) := by
  refine rf_pa ?_
  refine ok_step (ps := [rf_in (((nI l) * (nI 6)) + (nI i)) 24]) (L' := [some (.ref 2), some (.int (nI l)), some (.int (nI i))]) (st' := [.int (α 5 ((((nI l) * (nI 6)) + (nI i)).toNatClampNeg))]) (σ' := (α, μ)) (pc' := 11) kX4_ofRow_0 rfl rfl (rf_a1 (rf_in_n (a := (6 * l + i)) (by (try rw [(show ((nI l) * (nI 6)) = nI (6 * l) from rf_eq (rf_nmul (x := nI l) (y := nI 6) rfl rfl) (by omega))]); (try rw [(show ((nI (6 * l)) + (nI i)) = nI (6 * l + i) from rf_eq (rf_nadd (x := nI (6 * l)) (y := nI i) rfl rfl) (by omega))]); all_goals exact rfl) (by omega)) rf_a0) ?_
  try rw [(show ((nI l) * (nI 6)) = nI (6 * l) from rf_eq (rf_nmul (x := nI l) (y := nI 6) rfl rfl) (by omega))]
  try rw [(show ((nI (6 * l)) + (nI i)) = nI (6 * l + i) from rf_eq (rf_nadd (x := nI (6 * l)) (y := nI i) rfl rfl) (by omega))]
  try rw [(show (nI (6 * l + i)).toNatClampNeg = (6 * l + i) from rf_cl_n rfl (by omega))]
  try rw [(show α 5 (6 * l + i) = μ 95 (91 + 13 * l + i) from rl_4 hR (l := l) (i := i) (by omega) (by omega) (by omega) (by omega))]
  refine ok_reti eX4_ofRow_11 rfl ?_
  exact ⟨rfl, rfl⟩
theorem st_at {d : Nat → Int32} {t : Nat} (hI : Iv d) (ht : t < 12) : s_stops d t = nI (cn d (90 + 13 * cn d (150 + 3 * t))) := by
  have b150 := hI.leb (k := 150 + 3 * t) (b := 3) (bd_150 ht rfl) (by decide)
  exact hI.atb (k := 90 + 13 * cn d (150 + 3 * t)) (b := 6) (bd_90 (i := cn d (150 + 3 * t)) (by omega) rfl) (by decide)
theorem stAt_0 {d : Nat → Int32} {t i : Nat} (h : d (152 + 3 * t) = nI 0) : s_stAt d t i = d (91 + 13 * cn d (150 + 3 * t) + i) := if_pos h
theorem stAt_1 {d : Nat → Int32} {t i : Nat} (h : ¬ d (152 + 3 * t) = nI 0) : s_stAt d t i = d (90 + 13 * cn d (150 + 3 * t) + cn d (90 + 13 * cn d (150 + 3 * t)) - i) := if_neg h
theorem leg_0 {d : Nat → Int32} {t i : Nat} (h : d (152 + 3 * t) = nI 0) : s_leg d t i = d (97 + 13 * cn d (150 + 3 * t) + i) := if_pos h
theorem leg_1 {d : Nat → Int32} {t i : Nat} (h : ¬ d (152 + 3 * t) = nI 0) : s_leg d t i = d (97 + 13 * cn d (150 + 3 * t) + cn d (90 + 13 * cn d (150 + 3 * t)) - 2 - i) := if_neg h
theorem back_0 {d : Nat → Int32} {t : Nat} (hI : Iv d) (ht : t < 12) (h : ¬ d (152 + 3 * t) = nI 1) : d (152 + 3 * t) = nI 0 := by
  have e := hI.atb (k := 152 + 3 * t) (b := 1) (bd_152 ht rfl) (by decide)
  have b := hI.leb (k := 152 + 3 * t) (b := 1) (bd_152 ht rfl) (by decide)
  rcases (show cn d (152 + 3 * t) = 0 ∨ cn d (152 + 3 * t) = 1 by omega) with h1 | h1
  · rw [e, h1]
  · rw [h1] at e
    exact absurd e h
theorem back_1 {d : Nat → Int32} {t : Nat} (h : d (152 + 3 * t) = nI 1) : ¬ d (152 + 3 * t) = nI 0 := by
  rw [h]
  decide
theorem m_stAt {t i : Nat} (hI : Iv (μ 95))(ht : t < 12)(hi : i < cn (μ 95) (90 + 13 * cn (μ 95) (150 + 3 * t))) : rf_At (rf_T Ln xs) MX12_stationAt 2 0 ([some (.ref 94), some (.int (nI t)), some (.int (nI i)), none], [], 108, (α, μ)) (some (.int (s_stAt (μ 95) t i))) 108 (α, μ) := by
  refine rf_pa ?_
  have b150 := hI.leb (k := 150 + 3 * t) (b := 3) (bd_150 ht rfl) (by decide)
  have b90 := hI.leb (k := 90 + 13 * cn (μ 95) (150 + 3 * t)) (b := 6) (bd_90 (i := cn (μ 95) (150 + 3 * t)) (by omega) rfl) (by decide)
  refine ok_step (ps := []) (L' := [some (.ref 94), some (.int (nI t)), some (.int (nI i)), none]) (st' := [.int (nI t), .ref 94, .int (nI 13), .int (nI 90)]) (σ' := (α, μ)) (pc' := 6) kX12_stationAt_0 rfl rfl rf_a0 ?_
  refine ok_V (As := [.int (nI t)]) (b := 94) (st := [.int (nI 13), .int (nI 90)]) mkX12_lineOf qX12_stationAt_6 rfl (rc_94) rfl rfl rfl rfl (Nat.le_of_ble_eq_true rfl) (m_lineOf (by omega)) ?_
  refine ok_step (ps := [rf_in (((nI 150) + ((nI 3) * (nI t))) + (nI 2)) 700]) (L' := [some (.ref 94), some (.int (nI t)), some (.int (nI i)), some (.int ((nI 90) + ((nI 13) * (μ 95 (150 + 3 * t)))))]) (st' := [.int (μ 95 ((((nI 150) + ((nI 3) * (nI t))) + (nI 2)).toNatClampNeg))]) (σ' := (α, μ)) (pc' := 26) kX12_stationAt_9 rfl rfl (rf_a1 (rf_in_n (a := (152 + 3 * t)) (by (try rw [(show ((nI 13) * (μ 95 (150 + 3 * t))) = nI (13 * cn (μ 95) (150 + 3 * t)) from rf_eq (rf_nmul (x := nI 13) (y := μ 95 (150 + 3 * t)) rfl (hI.atb (k := (150 + 3 * t)) (bd_150 (i := t) (by omega) (by omega)) (by decide))) (by omega))]); (try rw [(show ((nI 90) + (nI (13 * cn (μ 95) (150 + 3 * t)))) = nI (90 + 13 * cn (μ 95) (150 + 3 * t)) from rf_eq (rf_nadd (x := nI 90) (y := nI (13 * cn (μ 95) (150 + 3 * t))) rfl rfl) (by omega))]); (try rw [(show ((nI 3) * (nI t)) = nI (3 * t) from rf_eq (rf_nmul (x := nI 3) (y := nI t) rfl rfl) (by omega))]); (try rw [(show ((nI 150) + (nI (3 * t))) = nI (150 + 3 * t) from rf_eq (rf_nadd (x := nI 150) (y := nI (3 * t)) rfl rfl) (by omega))]); (try rw [(show ((nI (150 + 3 * t)) + (nI 2)) = nI (152 + 3 * t) from rf_eq (rf_nadd (x := nI (150 + 3 * t)) (y := nI 2) rfl rfl) (by omega))]); all_goals exact rfl) (by omega)) rf_a0) ?_
  try rw [(show ((nI 13) * (μ 95 (150 + 3 * t))) = nI (13 * cn (μ 95) (150 + 3 * t)) from rf_eq (rf_nmul (x := nI 13) (y := μ 95 (150 + 3 * t)) rfl (hI.atb (k := (150 + 3 * t)) (bd_150 (i := t) (by omega) (by omega)) (by decide))) (by omega))]
  try rw [(show ((nI 90) + (nI (13 * cn (μ 95) (150 + 3 * t)))) = nI (90 + 13 * cn (μ 95) (150 + 3 * t)) from rf_eq (rf_nadd (x := nI 90) (y := nI (13 * cn (μ 95) (150 + 3 * t))) rfl rfl) (by omega))]
  try rw [(show ((nI 3) * (nI t)) = nI (3 * t) from rf_eq (rf_nmul (x := nI 3) (y := nI t) rfl rfl) (by omega))]
  try rw [(show ((nI 150) + (nI (3 * t))) = nI (150 + 3 * t) from rf_eq (rf_nadd (x := nI 150) (y := nI (3 * t)) rfl rfl) (by omega))]
  try rw [(show ((nI (150 + 3 * t)) + (nI 2)) = nI (152 + 3 * t) from rf_eq (rf_nadd (x := nI (150 + 3 * t)) (y := nI 2) rfl rfl) (by omega))]
  try rw [(show (nI (152 + 3 * t)).toNatClampNeg = (152 + 3 * t) from rf_cl_n rfl (by omega))]
  refine ok_if_ne bX12_stationAt_26 (fun h26 => ?_) (fun h26 => ?_)
  · refine ok_step (ps := [rf_in (nI (90 + 13 * cn (μ 95) (150 + 3 * t))) 700, rf_in (((nI (90 + 13 * cn (μ 95) (150 + 3 * t))) + (μ 95 ((nI (90 + 13 * cn (μ 95) (150 + 3 * t))).toNatClampNeg))) - (nI i)) 700]) (L' := [some (.ref 94), some (.int (nI t)), some (.int (nI i)), some (.int (nI (90 + 13 * cn (μ 95) (150 + 3 * t))))]) (st' := [.int (μ 95 ((((nI (90 + 13 * cn (μ 95) (150 + 3 * t))) + (μ 95 ((nI (90 + 13 * cn (μ 95) (150 + 3 * t))).toNatClampNeg))) - (nI i)).toNatClampNeg))]) (σ' := (α, μ)) (pc' := 57) kX12_stationAt_42 rfl rfl (rf_a1 (rf_in_n (a := (90 + 13 * cn (μ 95) (150 + 3 * t))) rfl (by omega)) (rf_a1 (rf_in_n (a := ((90 + 13 * cn (μ 95) (150 + 3 * t) + cn (μ 95) (90 + 13 * cn (μ 95) (150 + 3 * t)) - i))) (by (try rw [(show (nI (90 + 13 * cn (μ 95) (150 + 3 * t))).toNatClampNeg = (90 + 13 * cn (μ 95) (150 + 3 * t)) from rf_cl_n rfl (by omega))]); (try rw [(show ((nI (90 + 13 * cn (μ 95) (150 + 3 * t))) + (μ 95 (90 + 13 * cn (μ 95) (150 + 3 * t)))) = nI (90 + 13 * cn (μ 95) (150 + 3 * t) + cn (μ 95) (90 + 13 * cn (μ 95) (150 + 3 * t))) from rf_eq (rf_nadd (x := nI (90 + 13 * cn (μ 95) (150 + 3 * t))) (y := μ 95 (90 + 13 * cn (μ 95) (150 + 3 * t))) rfl (hI.atb (k := (90 + 13 * cn (μ 95) (150 + 3 * t))) (bd_90 (i := (cn (μ 95) (150 + 3 * t))) (by omega) (by omega)) (by decide))) (by omega))]); (try rw [(show ((nI (90 + 13 * cn (μ 95) (150 + 3 * t) + cn (μ 95) (90 + 13 * cn (μ 95) (150 + 3 * t)))) - (nI i)) = nI ((90 + 13 * cn (μ 95) (150 + 3 * t) + cn (μ 95) (90 + 13 * cn (μ 95) (150 + 3 * t)) - i)) from rf_eq (rf_nsub (x := nI (90 + 13 * cn (μ 95) (150 + 3 * t) + cn (μ 95) (90 + 13 * cn (μ 95) (150 + 3 * t)))) (y := nI i) rfl rfl (by omega)) (by omega))]); all_goals exact rfl) (by omega)) rf_a0)) ?_
    try rw [(show (nI (90 + 13 * cn (μ 95) (150 + 3 * t))).toNatClampNeg = (90 + 13 * cn (μ 95) (150 + 3 * t)) from rf_cl_n rfl (by omega))]
    try rw [(show ((nI (90 + 13 * cn (μ 95) (150 + 3 * t))) + (μ 95 (90 + 13 * cn (μ 95) (150 + 3 * t)))) = nI (90 + 13 * cn (μ 95) (150 + 3 * t) + cn (μ 95) (90 + 13 * cn (μ 95) (150 + 3 * t))) from rf_eq (rf_nadd (x := nI (90 + 13 * cn (μ 95) (150 + 3 * t))) (y := μ 95 (90 + 13 * cn (μ 95) (150 + 3 * t))) rfl (hI.atb (k := (90 + 13 * cn (μ 95) (150 + 3 * t))) (bd_90 (i := (cn (μ 95) (150 + 3 * t))) (by omega) (by omega)) (by decide))) (by omega))]
    try rw [(show ((nI (90 + 13 * cn (μ 95) (150 + 3 * t) + cn (μ 95) (90 + 13 * cn (μ 95) (150 + 3 * t)))) - (nI i)) = nI ((90 + 13 * cn (μ 95) (150 + 3 * t) + cn (μ 95) (90 + 13 * cn (μ 95) (150 + 3 * t)) - i)) from rf_eq (rf_nsub (x := nI (90 + 13 * cn (μ 95) (150 + 3 * t) + cn (μ 95) (90 + 13 * cn (μ 95) (150 + 3 * t)))) (y := nI i) rfl rfl (by omega)) (by omega))]
    try rw [(show (nI ((90 + 13 * cn (μ 95) (150 + 3 * t) + cn (μ 95) (90 + 13 * cn (μ 95) (150 + 3 * t)) - i))).toNatClampNeg = ((90 + 13 * cn (μ 95) (150 + 3 * t) + cn (μ 95) (90 + 13 * cn (μ 95) (150 + 3 * t)) - i)) from rf_cl_n rfl (by omega))]
    refine ok_reti eX12_stationAt_57 rfl ?_
    exact ⟨by first | rw [stAt_0 h26] | rw [stAt_1 h26], rfl⟩
  · refine ok_step (ps := [rf_in (((nI (90 + 13 * cn (μ 95) (150 + 3 * t))) + (nI 1)) + (nI i)) 700]) (L' := [some (.ref 94), some (.int (nI t)), some (.int (nI i)), some (.int (nI (90 + 13 * cn (μ 95) (150 + 3 * t))))]) (st' := [.int (μ 95 ((((nI (90 + 13 * cn (μ 95) (150 + 3 * t))) + (nI 1)) + (nI i)).toNatClampNeg))]) (σ' := (α, μ)) (pc' := 39) kX12_stationAt_29 rfl rfl (rf_a1 (rf_in_n (a := (91 + 13 * cn (μ 95) (150 + 3 * t) + i)) (by (try rw [(show ((nI (90 + 13 * cn (μ 95) (150 + 3 * t))) + (nI 1)) = nI (91 + 13 * cn (μ 95) (150 + 3 * t)) from rf_eq (rf_nadd (x := nI (90 + 13 * cn (μ 95) (150 + 3 * t))) (y := nI 1) rfl rfl) (by omega))]); (try rw [(show ((nI (91 + 13 * cn (μ 95) (150 + 3 * t))) + (nI i)) = nI (91 + 13 * cn (μ 95) (150 + 3 * t) + i) from rf_eq (rf_nadd (x := nI (91 + 13 * cn (μ 95) (150 + 3 * t))) (y := nI i) rfl rfl) (by omega))]); all_goals exact rfl) (by omega)) rf_a0) ?_
    try rw [(show ((nI (90 + 13 * cn (μ 95) (150 + 3 * t))) + (nI 1)) = nI (91 + 13 * cn (μ 95) (150 + 3 * t)) from rf_eq (rf_nadd (x := nI (90 + 13 * cn (μ 95) (150 + 3 * t))) (y := nI 1) rfl rfl) (by omega))]
    try rw [(show ((nI (91 + 13 * cn (μ 95) (150 + 3 * t))) + (nI i)) = nI (91 + 13 * cn (μ 95) (150 + 3 * t) + i) from rf_eq (rf_nadd (x := nI (91 + 13 * cn (μ 95) (150 + 3 * t))) (y := nI i) rfl rfl) (by omega))]
    try rw [(show (nI (91 + 13 * cn (μ 95) (150 + 3 * t) + i)).toNatClampNeg = (91 + 13 * cn (μ 95) (150 + 3 * t) + i) from rf_cl_n rfl (by omega))]
    refine ok_goto bX12_stationAt_39 ?_
    refine ok_reti eX12_stationAt_57 rfl ?_
    exact ⟨by first | rw [stAt_0 h26] | rw [stAt_1 h26], rfl⟩
theorem c_stAt {t i : Nat} (hR : Rl 1 α (μ 95)) (hI : Iv (μ 95))(ht : t < 12)(hi : i < cn (μ 95) (90 + 13 * cn (μ 95) (150 + 3 * t))) : rf_At (rf_T Ln xs) MX4_stationAt 2 0 ([some (.ref 2), some (.int (nI t)), some (.int (nI i)), none], [], 108, (α, μ)) (some (.int (s_stAt (μ 95) t i))) 108 (α, μ) := by
  refine rf_pa ?_
  have b150 := hI.leb (k := 150 + 3 * t) (b := 3) (bd_150 ht rfl) (by decide)
  have b90 := hI.leb (k := 90 + 13 * cn (μ 95) (150 + 3 * t)) (b := 6) (bd_90 (i := cn (μ 95) (150 + 3 * t)) (by omega) rfl) (by decide)
  refine ok_step (ps := [rf_in (nI t) 12, rf_in (nI t) 12]) (L' := [some (.ref 2), some (.int (nI t)), some (.int (nI i)), some (.int (α 7 ((nI t).toNatClampNeg)))]) (st' := [.int (nI 1), .int (α 9 ((nI t).toNatClampNeg)), .int (α 7 ((nI t).toNatClampNeg)), .ref 2]) (σ' := (α, μ)) (pc' := 16) kX4_stationAt_0 rfl rfl (rf_a1 (rf_in_n (a := t) rfl (by omega)) (rf_a1 (rf_in_n (a := t) rfl (by omega)) rf_a0)) ?_
  try rw [(show (nI t).toNatClampNeg = t from rf_cl_n rfl (by omega))]
  try rw [(show α 7 t = μ 95 (150 + 3 * t) from rl_6 hR (i := t) (by omega) (by omega))]
  try rw [(show α 9 t = μ 95 (152 + 3 * t) from rl_8 hR (i := t) (by omega) (by omega))]
  refine ok_icmp_ne bX4_stationAt_16 (fun h16 => ?_) (fun h16 => ?_)
  · refine ok_step (ps := []) (L' := [some (.ref 2), some (.int (nI t)), some (.int (nI i)), some (.int (μ 95 (150 + 3 * t)))]) (st' := [.int (nI i), .int (μ 95 (150 + 3 * t)), .ref 2]) (σ' := (α, μ)) (pc' := 33) kX4_stationAt_32 rfl rfl rf_a0 ?_
    rw [show μ 95 (150 + 3 * t) = nI (cn (μ 95) (150 + 3 * t)) from (hI.atb (k := (150 + 3 * t)) (bd_150 (i := t) (by omega) (by omega)) (by decide))]
    refine ok_V (As := [.int (nI (cn (μ 95) (150 + 3 * t))), .int (nI i)]) (b := 2) (st := []) mkX4_ofRow qX4_stationAt_33 rfl (rc_2) rfl rfl rfl rfl (Nat.le_of_ble_eq_true rfl) (c_ofRow hR hI (by omega) (by omega)) ?_
    refine ok_reti eX4_stationAt_36 rfl ?_
    exact ⟨by first | (rw [stAt_0 (back_0 hI ht h16)]; try (congr 3; omega)) | (rw [stAt_1 (back_1 h16)]; try (congr 3; omega)), rfl⟩
  · refine ok_step (ps := [rf_in (μ 95 (150 + 3 * t)) 4]) (L' := [some (.ref 2), some (.int (nI t)), some (.int (nI i)), some (.int (μ 95 (150 + 3 * t)))]) (st' := [.int (((α 4 ((μ 95 (150 + 3 * t)).toNatClampNeg)) - (nI 1)) - (nI i)), .int (μ 95 (150 + 3 * t)), .ref 2]) (σ' := (α, μ)) (pc' := 29) kX4_stationAt_19 rfl rfl (rf_a1 (rf_in_n (a := (cn (μ 95) (150 + 3 * t))) (hI.atb (k := (150 + 3 * t)) (bd_150 (i := t) (by omega) (by omega)) (by decide)) (by omega)) rf_a0) ?_
    try rw [(show (μ 95 (150 + 3 * t)).toNatClampNeg = (cn (μ 95) (150 + 3 * t)) from rf_cl_n (hI.atb (k := (150 + 3 * t)) (bd_150 (i := t) (by omega) (by omega)) (by decide)) (by omega))]
    try rw [(show α 4 (cn (μ 95) (150 + 3 * t)) = μ 95 (90 + 13 * cn (μ 95) (150 + 3 * t)) from rl_3 hR (i := (cn (μ 95) (150 + 3 * t))) (by omega) (by omega))]
    try rw [(show ((μ 95 (90 + 13 * cn (μ 95) (150 + 3 * t))) - (nI 1)) = nI ((cn (μ 95) (90 + 13 * cn (μ 95) (150 + 3 * t)) - 1)) from rf_eq (rf_nsub (x := μ 95 (90 + 13 * cn (μ 95) (150 + 3 * t))) (y := nI 1) (hI.atb (k := (90 + 13 * cn (μ 95) (150 + 3 * t))) (bd_90 (i := (cn (μ 95) (150 + 3 * t))) (by omega) (by omega)) (by decide)) rfl (by omega)) (by omega))]
    try rw [(show ((nI ((cn (μ 95) (90 + 13 * cn (μ 95) (150 + 3 * t)) - 1))) - (nI i)) = nI (((cn (μ 95) (90 + 13 * cn (μ 95) (150 + 3 * t)) - 1) - i)) from rf_eq (rf_nsub (x := nI ((cn (μ 95) (90 + 13 * cn (μ 95) (150 + 3 * t)) - 1))) (y := nI i) rfl rfl (by omega)) (by omega))]
    refine ok_goto bX4_stationAt_29 ?_
    rw [show μ 95 (150 + 3 * t) = nI (cn (μ 95) (150 + 3 * t)) from (hI.atb (k := (150 + 3 * t)) (bd_150 (i := t) (by omega) (by omega)) (by decide))]
    refine ok_V (As := [.int (nI (cn (μ 95) (150 + 3 * t))), .int (nI (((cn (μ 95) (90 + 13 * cn (μ 95) (150 + 3 * t)) - 1) - i)))]) (b := 2) (st := []) mkX4_ofRow qX4_stationAt_33 rfl (rc_2) rfl rfl rfl rfl (Nat.le_of_ble_eq_true rfl) (c_ofRow hR hI (by omega) (by omega)) ?_
    refine ok_reti eX4_stationAt_36 rfl ?_
    exact ⟨by first | (rw [stAt_0 (back_0 hI ht h16)]; try (congr 3; omega)) | (rw [stAt_1 (back_1 h16)]; try (congr 3; omega)), rfl⟩
theorem m_min_l {t i : Nat} (hI : Iv (μ 95))(ht : t < 12)(hi : i < cn (μ 95) (90 + 13 * cn (μ 95) (150 + 3 * t))) : ∀ (j k : Nat), k + j = i → rf_Ok (rf_T Ln xs) MX12_minuteAt 2 22 [some (.ref 94), some (.int (nI t)), some (.int (nI i)), some (.int (nI (90 + 13 * cn (μ 95) (150 + 3 * t)))), some (.int (s_min (μ 95) t k)), some (.int (nI k))] [] (α, μ) (fun r s => r = some (.int (s_min (μ 95) t i)) ∧ s = (α, μ)) := by
  have b150 := hI.leb (k := 150 + 3 * t) (b := 3) (bd_150 ht rfl) (by decide)
  have b90 := hI.leb (k := 90 + 13 * cn (μ 95) (150 + 3 * t)) (b := 6) (bd_90 (i := cn (μ 95) (150 + 3 * t)) (by omega) rfl) (by decide)
  intro j
  induction j with
  | zero =>
    intro k hj
    have hj : k = i := by omega
    refine ok_step (ps := []) (L' := [some (.ref 94), some (.int (nI t)), some (.int (nI i)), some (.int (nI (90 + 13 * cn (μ 95) (150 + 3 * t)))), some (.int (s_min (μ 95) t k)), some (.int (nI k))]) (st' := [.int (nI i), .int (nI k)]) (σ' := (α, μ)) (pc' := 25) kX12_minuteAt_22 rfl rfl rf_a0 ?_
    refine ok_icmp_ge bX12_minuteAt_25 (fun _ => ?_) (fun h25 => absurd (nI_le (by omega) (by omega)) h25)
    refine ok_step (ps := []) (L' := [some (.ref 94), some (.int (nI t)), some (.int (nI i)), some (.int (nI (90 + 13 * cn (μ 95) (150 + 3 * t)))), some (.int (s_min (μ 95) t k)), some (.int (nI k))]) (st' := [.int (s_min (μ 95) t k)]) (σ' := (α, μ)) (pc' := 94) kX12_minuteAt_92 rfl rfl rf_a0 ?_
    refine ok_reti eX12_minuteAt_94 rfl ?_
    exact ⟨by rw [hj], rfl⟩
  | succ j ih =>
    intro k hj
    refine ok_step (ps := []) (L' := [some (.ref 94), some (.int (nI t)), some (.int (nI i)), some (.int (nI (90 + 13 * cn (μ 95) (150 + 3 * t)))), some (.int (s_min (μ 95) t k)), some (.int (nI k))]) (st' := [.int (nI i), .int (nI k)]) (σ' := (α, μ)) (pc' := 25) kX12_minuteAt_22 rfl rfl rf_a0 ?_
    refine ok_icmp_ge bX12_minuteAt_25 (fun h25 => absurd h25 (nI_ge (by omega) (by omega))) (fun _ => ?_)
    refine ok_step (ps := [rf_in (((nI 150) + ((nI 3) * (nI t))) + (nI 2)) 700]) (L' := [some (.ref 94), some (.int (nI t)), some (.int (nI i)), some (.int (nI (90 + 13 * cn (μ 95) (150 + 3 * t)))), some (.int (s_min (μ 95) t k)), some (.int (nI k))]) (st' := [.int (μ 95 ((((nI 150) + ((nI 3) * (nI t))) + (nI 2)).toNatClampNeg)), .int (s_min (μ 95) t k)]) (σ' := (α, μ)) (pc' := 44) kX12_minuteAt_28 rfl rfl (rf_a1 (rf_in_n (a := (152 + 3 * t)) (by (try rw [(show ((nI 3) * (nI t)) = nI (3 * t) from rf_eq (rf_nmul (x := nI 3) (y := nI t) rfl rfl) (by omega))]); (try rw [(show ((nI 150) + (nI (3 * t))) = nI (150 + 3 * t) from rf_eq (rf_nadd (x := nI 150) (y := nI (3 * t)) rfl rfl) (by omega))]); (try rw [(show ((nI (150 + 3 * t)) + (nI 2)) = nI (152 + 3 * t) from rf_eq (rf_nadd (x := nI (150 + 3 * t)) (y := nI 2) rfl rfl) (by omega))]); all_goals exact rfl) (by omega)) rf_a0) ?_
    try rw [(show ((nI 3) * (nI t)) = nI (3 * t) from rf_eq (rf_nmul (x := nI 3) (y := nI t) rfl rfl) (by omega))]
    try rw [(show ((nI 150) + (nI (3 * t))) = nI (150 + 3 * t) from rf_eq (rf_nadd (x := nI 150) (y := nI (3 * t)) rfl rfl) (by omega))]
    try rw [(show ((nI (150 + 3 * t)) + (nI 2)) = nI (152 + 3 * t) from rf_eq (rf_nadd (x := nI (150 + 3 * t)) (y := nI 2) rfl rfl) (by omega))]
    try rw [(show (nI (152 + 3 * t)).toNatClampNeg = (152 + 3 * t) from rf_cl_n rfl (by omega))]
    refine ok_if_ne bX12_minuteAt_44 (fun h44 => ?_) (fun h44 => ?_)
    · refine ok_step (ps := [rf_in (nI (90 + 13 * cn (μ 95) (150 + 3 * t))) 700, rf_in (((((nI (90 + 13 * cn (μ 95) (150 + 3 * t))) + (nI 7)) + (μ 95 ((nI (90 + 13 * cn (μ 95) (150 + 3 * t))).toNatClampNeg))) - (nI 2)) - (nI k)) 700]) (L' := [some (.ref 94), some (.int (nI t)), some (.int (nI i)), some (.int (nI (90 + 13 * cn (μ 95) (150 + 3 * t)))), some (.int (s_min (μ 95) t k)), some (.int (nI k))]) (st' := [.int (μ 95 ((((((nI (90 + 13 * cn (μ 95) (150 + 3 * t))) + (nI 7)) + (μ 95 ((nI (90 + 13 * cn (μ 95) (150 + 3 * t))).toNatClampNeg))) - (nI 2)) - (nI k)).toNatClampNeg)), .int (s_min (μ 95) t k)]) (σ' := (α, μ)) (pc' := 83) kX12_minuteAt_62 rfl rfl (rf_a1 (rf_in_n (a := (90 + 13 * cn (μ 95) (150 + 3 * t))) rfl (by omega)) (rf_a1 (rf_in_n (a := (((97 + 13 * cn (μ 95) (150 + 3 * t) + cn (μ 95) (90 + 13 * cn (μ 95) (150 + 3 * t)) - 2) - k))) (by (try rw [(show ((nI (90 + 13 * cn (μ 95) (150 + 3 * t))) + (nI 7)) = nI (97 + 13 * cn (μ 95) (150 + 3 * t)) from rf_eq (rf_nadd (x := nI (90 + 13 * cn (μ 95) (150 + 3 * t))) (y := nI 7) rfl rfl) (by omega))]); (try rw [(show (nI (90 + 13 * cn (μ 95) (150 + 3 * t))).toNatClampNeg = (90 + 13 * cn (μ 95) (150 + 3 * t)) from rf_cl_n rfl (by omega))]); (try rw [(show ((nI (97 + 13 * cn (μ 95) (150 + 3 * t))) + (μ 95 (90 + 13 * cn (μ 95) (150 + 3 * t)))) = nI (97 + 13 * cn (μ 95) (150 + 3 * t) + cn (μ 95) (90 + 13 * cn (μ 95) (150 + 3 * t))) from rf_eq (rf_nadd (x := nI (97 + 13 * cn (μ 95) (150 + 3 * t))) (y := μ 95 (90 + 13 * cn (μ 95) (150 + 3 * t))) rfl (hI.atb (k := (90 + 13 * cn (μ 95) (150 + 3 * t))) (bd_90 (i := (cn (μ 95) (150 + 3 * t))) (by omega) (by omega)) (by decide))) (by omega))]); (try rw [(show ((nI (97 + 13 * cn (μ 95) (150 + 3 * t) + cn (μ 95) (90 + 13 * cn (μ 95) (150 + 3 * t)))) - (nI 2)) = nI ((97 + 13 * cn (μ 95) (150 + 3 * t) + cn (μ 95) (90 + 13 * cn (μ 95) (150 + 3 * t)) - 2)) from rf_eq (rf_nsub (x := nI (97 + 13 * cn (μ 95) (150 + 3 * t) + cn (μ 95) (90 + 13 * cn (μ 95) (150 + 3 * t)))) (y := nI 2) rfl rfl (by omega)) (by omega))]); (try rw [(show ((nI ((97 + 13 * cn (μ 95) (150 + 3 * t) + cn (μ 95) (90 + 13 * cn (μ 95) (150 + 3 * t)) - 2))) - (nI k)) = nI (((97 + 13 * cn (μ 95) (150 + 3 * t) + cn (μ 95) (90 + 13 * cn (μ 95) (150 + 3 * t)) - 2) - k)) from rf_eq (rf_nsub (x := nI ((97 + 13 * cn (μ 95) (150 + 3 * t) + cn (μ 95) (90 + 13 * cn (μ 95) (150 + 3 * t)) - 2))) (y := nI k) rfl rfl (by omega)) (by omega))]); all_goals exact rfl) (by omega)) rf_a0)) ?_
      try rw [(show ((nI (90 + 13 * cn (μ 95) (150 + 3 * t))) + (nI 7)) = nI (97 + 13 * cn (μ 95) (150 + 3 * t)) from rf_eq (rf_nadd (x := nI (90 + 13 * cn (μ 95) (150 + 3 * t))) (y := nI 7) rfl rfl) (by omega))]
      try rw [(show (nI (90 + 13 * cn (μ 95) (150 + 3 * t))).toNatClampNeg = (90 + 13 * cn (μ 95) (150 + 3 * t)) from rf_cl_n rfl (by omega))]
      try rw [(show ((nI (97 + 13 * cn (μ 95) (150 + 3 * t))) + (μ 95 (90 + 13 * cn (μ 95) (150 + 3 * t)))) = nI (97 + 13 * cn (μ 95) (150 + 3 * t) + cn (μ 95) (90 + 13 * cn (μ 95) (150 + 3 * t))) from rf_eq (rf_nadd (x := nI (97 + 13 * cn (μ 95) (150 + 3 * t))) (y := μ 95 (90 + 13 * cn (μ 95) (150 + 3 * t))) rfl (hI.atb (k := (90 + 13 * cn (μ 95) (150 + 3 * t))) (bd_90 (i := (cn (μ 95) (150 + 3 * t))) (by omega) (by omega)) (by decide))) (by omega))]
      try rw [(show ((nI (97 + 13 * cn (μ 95) (150 + 3 * t) + cn (μ 95) (90 + 13 * cn (μ 95) (150 + 3 * t)))) - (nI 2)) = nI ((97 + 13 * cn (μ 95) (150 + 3 * t) + cn (μ 95) (90 + 13 * cn (μ 95) (150 + 3 * t)) - 2)) from rf_eq (rf_nsub (x := nI (97 + 13 * cn (μ 95) (150 + 3 * t) + cn (μ 95) (90 + 13 * cn (μ 95) (150 + 3 * t)))) (y := nI 2) rfl rfl (by omega)) (by omega))]
      try rw [(show ((nI ((97 + 13 * cn (μ 95) (150 + 3 * t) + cn (μ 95) (90 + 13 * cn (μ 95) (150 + 3 * t)) - 2))) - (nI k)) = nI (((97 + 13 * cn (μ 95) (150 + 3 * t) + cn (μ 95) (90 + 13 * cn (μ 95) (150 + 3 * t)) - 2) - k)) from rf_eq (rf_nsub (x := nI ((97 + 13 * cn (μ 95) (150 + 3 * t) + cn (μ 95) (90 + 13 * cn (μ 95) (150 + 3 * t)) - 2))) (y := nI k) rfl rfl (by omega)) (by omega))]
      try rw [(show (nI (((97 + 13 * cn (μ 95) (150 + 3 * t) + cn (μ 95) (90 + 13 * cn (μ 95) (150 + 3 * t)) - 2) - k))).toNatClampNeg = (((97 + 13 * cn (μ 95) (150 + 3 * t) + cn (μ 95) (90 + 13 * cn (μ 95) (150 + 3 * t)) - 2) - k)) from rf_cl_n rfl (by omega))]
      refine ok_step (ps := []) (L' := [some (.ref 94), some (.int (nI t)), some (.int (nI i)), some (.int (nI (90 + 13 * cn (μ 95) (150 + 3 * t)))), some (.int ((s_min (μ 95) t k) + (μ 95 ((97 + 13 * cn (μ 95) (150 + 3 * t) + cn (μ 95) (90 + 13 * cn (μ 95) (150 + 3 * t)) - 2) - k)))), some (.int ((nI k) + (nI 1)))]) (st' := []) (σ' := (α, μ)) (pc' := 89) kX12_minuteAt_83 rfl rfl rf_a0 ?_
      try rw [(show ((nI k) + (nI 1)) = nI (k + 1) from nI_add _ _)]
      refine ok_goto bX12_minuteAt_89 ?_
      have e : ((s_min (μ 95) t k) + (μ 95 ((97 + 13 * cn (μ 95) (150 + 3 * t) + cn (μ 95) (90 + 13 * cn (μ 95) (150 + 3 * t)) - 2) - k))) = s_min (μ 95) t (k + 1) := by rw [s_min]; first | rw [leg_0 h44] | rw [leg_1 h44] | (rw [leg_0 h44]; try (congr 2; omega)) | (rw [leg_1 h44]; try (congr 2; omega))
      rw [e]
      exact ih (k + 1) (by omega)
    · refine ok_step (ps := [rf_in (((nI (90 + 13 * cn (μ 95) (150 + 3 * t))) + (nI 7)) + (nI k)) 700]) (L' := [some (.ref 94), some (.int (nI t)), some (.int (nI i)), some (.int (nI (90 + 13 * cn (μ 95) (150 + 3 * t)))), some (.int (s_min (μ 95) t k)), some (.int (nI k))]) (st' := [.int (μ 95 ((((nI (90 + 13 * cn (μ 95) (150 + 3 * t))) + (nI 7)) + (nI k)).toNatClampNeg)), .int (s_min (μ 95) t k)]) (σ' := (α, μ)) (pc' := 59) kX12_minuteAt_47 rfl rfl (rf_a1 (rf_in_n (a := (97 + 13 * cn (μ 95) (150 + 3 * t) + k)) (by (try rw [(show ((nI (90 + 13 * cn (μ 95) (150 + 3 * t))) + (nI 7)) = nI (97 + 13 * cn (μ 95) (150 + 3 * t)) from rf_eq (rf_nadd (x := nI (90 + 13 * cn (μ 95) (150 + 3 * t))) (y := nI 7) rfl rfl) (by omega))]); (try rw [(show ((nI (97 + 13 * cn (μ 95) (150 + 3 * t))) + (nI k)) = nI (97 + 13 * cn (μ 95) (150 + 3 * t) + k) from rf_eq (rf_nadd (x := nI (97 + 13 * cn (μ 95) (150 + 3 * t))) (y := nI k) rfl rfl) (by omega))]); all_goals exact rfl) (by omega)) rf_a0) ?_
      try rw [(show ((nI (90 + 13 * cn (μ 95) (150 + 3 * t))) + (nI 7)) = nI (97 + 13 * cn (μ 95) (150 + 3 * t)) from rf_eq (rf_nadd (x := nI (90 + 13 * cn (μ 95) (150 + 3 * t))) (y := nI 7) rfl rfl) (by omega))]
      try rw [(show ((nI (97 + 13 * cn (μ 95) (150 + 3 * t))) + (nI k)) = nI (97 + 13 * cn (μ 95) (150 + 3 * t) + k) from rf_eq (rf_nadd (x := nI (97 + 13 * cn (μ 95) (150 + 3 * t))) (y := nI k) rfl rfl) (by omega))]
      try rw [(show (nI (97 + 13 * cn (μ 95) (150 + 3 * t) + k)).toNatClampNeg = (97 + 13 * cn (μ 95) (150 + 3 * t) + k) from rf_cl_n rfl (by omega))]
      refine ok_goto bX12_minuteAt_59 ?_
      refine ok_step (ps := []) (L' := [some (.ref 94), some (.int (nI t)), some (.int (nI i)), some (.int (nI (90 + 13 * cn (μ 95) (150 + 3 * t)))), some (.int ((s_min (μ 95) t k) + (μ 95 (97 + 13 * cn (μ 95) (150 + 3 * t) + k)))), some (.int ((nI k) + (nI 1)))]) (st' := []) (σ' := (α, μ)) (pc' := 89) kX12_minuteAt_83 rfl rfl rf_a0 ?_
      try rw [(show ((nI k) + (nI 1)) = nI (k + 1) from nI_add _ _)]
      refine ok_goto bX12_minuteAt_89 ?_
      have e : ((s_min (μ 95) t k) + (μ 95 (97 + 13 * cn (μ 95) (150 + 3 * t) + k))) = s_min (μ 95) t (k + 1) := by rw [s_min]; first | rw [leg_0 h44] | rw [leg_1 h44] | (rw [leg_0 h44]; try (congr 2; omega)) | (rw [leg_1 h44]; try (congr 2; omega))
      rw [e]
      exact ih (k + 1) (by omega)
theorem m_min {t i : Nat} (hI : Iv (μ 95))(ht : t < 12)(hi : i < cn (μ 95) (90 + 13 * cn (μ 95) (150 + 3 * t))) : rf_At (rf_T Ln xs) MX12_minuteAt 2 0 ([some (.ref 94), some (.int (nI t)), some (.int (nI i)), none, none, none], [], 108, (α, μ)) (some (.int (s_min (μ 95) t i))) 108 (α, μ) := by
  refine rf_pa ?_
  have b150 := hI.leb (k := 150 + 3 * t) (b := 3) (bd_150 ht rfl) (by decide)
  refine ok_step (ps := []) (L' := [some (.ref 94), some (.int (nI t)), some (.int (nI i)), none, none, none]) (st' := [.int (nI t), .ref 94, .int (nI 13), .int (nI 90)]) (σ' := (α, μ)) (pc' := 6) kX12_minuteAt_0 rfl rfl rf_a0 ?_
  refine ok_V (As := [.int (nI t)]) (b := 94) (st := [.int (nI 13), .int (nI 90)]) mkX12_lineOf qX12_minuteAt_6 rfl (rc_94) rfl rfl rfl rfl (Nat.le_of_ble_eq_true rfl) (m_lineOf (by omega)) ?_
  refine ok_step (ps := []) (L' := [some (.ref 94), some (.int (nI t)), some (.int (nI i)), some (.int ((nI 90) + ((nI 13) * (μ 95 (150 + 3 * t))))), none, none]) (st' := [.int (nI t), .ref 94]) (σ' := (α, μ)) (pc' := 14) kX12_minuteAt_9 rfl rfl rf_a0 ?_
  try rw [(show ((nI 13) * (μ 95 (150 + 3 * t))) = nI (13 * cn (μ 95) (150 + 3 * t)) from rf_eq (rf_nmul (x := nI 13) (y := μ 95 (150 + 3 * t)) rfl (hI.atb (k := (150 + 3 * t)) (bd_150 (i := t) (by omega) (by omega)) (by decide))) (by omega))]
  try rw [(show ((nI 90) + (nI (13 * cn (μ 95) (150 + 3 * t)))) = nI (90 + 13 * cn (μ 95) (150 + 3 * t)) from rf_eq (rf_nadd (x := nI 90) (y := nI (13 * cn (μ 95) (150 + 3 * t))) rfl rfl) (by omega))]
  refine ok_V (As := [.int (nI t)]) (b := 94) (st := []) mkX12_startOf qX12_minuteAt_14 rfl (rc_94) rfl rfl rfl rfl (Nat.le_of_ble_eq_true rfl) (m_startOf (by omega)) ?_
  refine ok_step (ps := []) (L' := [some (.ref 94), some (.int (nI t)), some (.int (nI i)), some (.int (nI (90 + 13 * cn (μ 95) (150 + 3 * t)))), some (.int (μ 95 (151 + 3 * t))), some (.int (nI 0))]) (st' := []) (σ' := (α, μ)) (pc' := 22) kX12_minuteAt_17 rfl rfl rf_a0 ?_
  exact m_min_l hI ht hi i 0 (by omega)
theorem c_min_l {t i : Nat} (hR : Rl 1 α (μ 95)) (hI : Iv (μ 95))(ht : t < 12)(hi : i < cn (μ 95) (90 + 13 * cn (μ 95) (150 + 3 * t))) : ∀ (j k : Nat), k + j = i → rf_Ok (rf_T Ln xs) MX4_minuteAt 2 28 [some (.ref 2), some (.int (nI t)), some (.int (nI i)), some (.int (nI (6 * cn (μ 95) (150 + 3 * t)))), some (.int (s_stops (μ 95) t)), some (.int (s_min (μ 95) t k)), some (.int (nI (k + 1)))] [] (α, μ) (fun r s => r = some (.int (s_min (μ 95) t i)) ∧ s = (α, μ)) := by
  have b150 := hI.leb (k := 150 + 3 * t) (b := 3) (bd_150 ht rfl) (by decide)
  have b90 := hI.leb (k := 90 + 13 * cn (μ 95) (150 + 3 * t)) (b := 6) (bd_90 (i := cn (μ 95) (150 + 3 * t)) (by omega) rfl) (by decide)
  intro j
  induction j with
  | zero =>
    intro k hj
    have hj : k = i := by omega
    refine ok_step (ps := []) (L' := [some (.ref 2), some (.int (nI t)), some (.int (nI i)), some (.int (nI (6 * cn (μ 95) (150 + 3 * t)))), some (.int (s_stops (μ 95) t)), some (.int (s_min (μ 95) t k)), some (.int (nI (k + 1)))]) (st' := [.int (nI i), .int (nI (k + 1))]) (σ' := (α, μ)) (pc' := 31) kX4_minuteAt_28 rfl rfl rf_a0 ?_
    refine ok_icmp_gt bX4_minuteAt_31 (fun _ => ?_) (fun h31 => absurd (nI_lt (by omega) (by omega)) h31)
    refine ok_step (ps := []) (L' := [some (.ref 2), some (.int (nI t)), some (.int (nI i)), some (.int (nI (6 * cn (μ 95) (150 + 3 * t)))), some (.int (s_stops (μ 95) t)), some (.int (s_min (μ 95) t k)), some (.int (nI (k + 1)))]) (st' := [.int (s_min (μ 95) t k)]) (σ' := (α, μ)) (pc' := 74) kX4_minuteAt_72 rfl rfl rf_a0 ?_
    refine ok_reti eX4_minuteAt_74 rfl ?_
    exact ⟨by rw [hj], rfl⟩
  | succ j ih =>
    intro k hj
    refine ok_step (ps := []) (L' := [some (.ref 2), some (.int (nI t)), some (.int (nI i)), some (.int (nI (6 * cn (μ 95) (150 + 3 * t)))), some (.int (s_stops (μ 95) t)), some (.int (s_min (μ 95) t k)), some (.int (nI (k + 1)))]) (st' := [.int (nI i), .int (nI (k + 1))]) (σ' := (α, μ)) (pc' := 31) kX4_minuteAt_28 rfl rfl rf_a0 ?_
    refine ok_icmp_gt bX4_minuteAt_31 (fun h31 => absurd h31 (nI_nlt (by omega) (by omega))) (fun _ => ?_)
    refine ok_step (ps := [rf_in (nI t) 12]) (L' := [some (.ref 2), some (.int (nI t)), some (.int (nI i)), some (.int (nI (6 * cn (μ 95) (150 + 3 * t)))), some (.int (s_stops (μ 95) t)), some (.int (s_min (μ 95) t k)), some (.int (nI (k + 1)))]) (st' := [.int (nI 1), .int (α 9 ((nI t).toNatClampNeg)), .int (nI (6 * cn (μ 95) (150 + 3 * t))), .ref 6, .int (s_min (μ 95) t k)]) (σ' := (α, μ)) (pc' := 48) kX4_minuteAt_34 rfl rfl (rf_a1 (rf_in_n (a := t) rfl (by omega)) rf_a0) ?_
    try rw [(show (nI t).toNatClampNeg = t from rf_cl_n rfl (by omega))]
    try rw [(show α 9 t = μ 95 (152 + 3 * t) from rl_8 hR (i := t) (by omega) (by omega))]
    refine ok_icmp_ne bX4_minuteAt_48 (fun h48 => ?_) (fun h48 => ?_)
    · refine ok_step (ps := []) (L' := [some (.ref 2), some (.int (nI t)), some (.int (nI i)), some (.int (nI (6 * cn (μ 95) (150 + 3 * t)))), some (.int (s_stops (μ 95) t)), some (.int (s_min (μ 95) t k)), some (.int (nI (k + 1)))]) (st' := [.int (nI (k + 1)), .int (nI (6 * cn (μ 95) (150 + 3 * t))), .ref 6, .int (s_min (μ 95) t k)]) (σ' := (α, μ)) (pc' := 61) kX4_minuteAt_59 rfl rfl rf_a0 ?_
      refine ok_step (ps := [rf_in ((nI (6 * cn (μ 95) (150 + 3 * t))) + (nI (k + 1))) 24]) (L' := [some (.ref 2), some (.int (nI t)), some (.int (nI i)), some (.int (nI (6 * cn (μ 95) (150 + 3 * t)))), some (.int (s_stops (μ 95) t)), some (.int ((s_min (μ 95) t k) + (α 6 (((nI (6 * cn (μ 95) (150 + 3 * t))) + (nI (k + 1))).toNatClampNeg)))), some (.int ((nI (k + 1)) + (nI 1)))]) (st' := []) (σ' := (α, μ)) (pc' := 69) kX4_minuteAt_61 rfl rfl (rf_a1 (rf_in_n (a := (1 + 6 * cn (μ 95) (150 + 3 * t) + k)) (by (try rw [(show ((nI (6 * cn (μ 95) (150 + 3 * t))) + (nI (k + 1))) = nI (1 + 6 * cn (μ 95) (150 + 3 * t) + k) from rf_eq (rf_nadd (x := nI (6 * cn (μ 95) (150 + 3 * t))) (y := nI (k + 1)) rfl rfl) (by omega))]); all_goals exact rfl) (by omega)) rf_a0) ?_
      try rw [(show ((nI (6 * cn (μ 95) (150 + 3 * t))) + (nI (k + 1))) = nI (1 + 6 * cn (μ 95) (150 + 3 * t) + k) from rf_eq (rf_nadd (x := nI (6 * cn (μ 95) (150 + 3 * t))) (y := nI (k + 1)) rfl rfl) (by omega))]
      try rw [(show (nI (1 + 6 * cn (μ 95) (150 + 3 * t) + k)).toNatClampNeg = (1 + 6 * cn (μ 95) (150 + 3 * t) + k) from rf_cl_n rfl (by omega))]
      try rw [(show α 6 (1 + 6 * cn (μ 95) (150 + 3 * t) + k) = μ 95 (97 + 13 * cn (μ 95) (150 + 3 * t) + k) from rl_5 hR (l := (cn (μ 95) (150 + 3 * t))) (i := (1 + k)) (by omega) (by omega) (by omega) (by omega))]
      try rw [(show ((nI (k + 1)) + (nI 1)) = nI (2 + k) from rf_eq (rf_nadd (x := nI (k + 1)) (y := nI 1) rfl rfl) (by omega))]
      refine ok_goto bX4_minuteAt_69 ?_
      have e : ((s_min (μ 95) t k) + (μ 95 (97 + 13 * cn (μ 95) (150 + 3 * t) + k))) = s_min (μ 95) t (k + 1) := by rw [s_min]; first | (rw [leg_0 (back_0 hI ht h48)]; try (congr 2; omega)) | (rw [leg_1 (back_1 h48)]; try (congr 2; omega))
      rw [e, show 2 + k = k + 1 + 1 by omega]
      exact ih (k + 1) (by omega)
    · refine ok_step (ps := []) (L' := [some (.ref 2), some (.int (nI t)), some (.int (nI i)), some (.int (nI (6 * cn (μ 95) (150 + 3 * t)))), some (.int (s_stops (μ 95) t)), some (.int (s_min (μ 95) t k)), some (.int (nI (k + 1)))]) (st' := [.int ((s_stops (μ 95) t) - (nI (k + 1))), .int (nI (6 * cn (μ 95) (150 + 3 * t))), .ref 6, .int (s_min (μ 95) t k)]) (σ' := (α, μ)) (pc' := 56) kX4_minuteAt_51 rfl rfl rf_a0 ?_
      try rw [(show ((s_stops (μ 95) t) - (nI (k + 1))) = nI ((cn (μ 95) (90 + 13 * cn (μ 95) (150 + 3 * t)) - (1 + k))) from rf_eq (rf_nsub (x := s_stops (μ 95) t) (y := nI (k + 1)) (st_at hI ht) rfl (by omega)) (by omega))]
      refine ok_goto bX4_minuteAt_56 ?_
      refine ok_step (ps := [rf_in ((nI (6 * cn (μ 95) (150 + 3 * t))) + (nI ((cn (μ 95) (90 + 13 * cn (μ 95) (150 + 3 * t)) - (1 + k))))) 24]) (L' := [some (.ref 2), some (.int (nI t)), some (.int (nI i)), some (.int (nI (6 * cn (μ 95) (150 + 3 * t)))), some (.int (s_stops (μ 95) t)), some (.int ((s_min (μ 95) t k) + (α 6 (((nI (6 * cn (μ 95) (150 + 3 * t))) + (nI ((cn (μ 95) (90 + 13 * cn (μ 95) (150 + 3 * t)) - (1 + k))))).toNatClampNeg)))), some (.int ((nI (k + 1)) + (nI 1)))]) (st' := []) (σ' := (α, μ)) (pc' := 69) kX4_minuteAt_61 rfl rfl (rf_a1 (rf_in_n (a := (6 * cn (μ 95) (150 + 3 * t) + (cn (μ 95) (90 + 13 * cn (μ 95) (150 + 3 * t)) - (1 + k)))) (by (try rw [(show ((nI (6 * cn (μ 95) (150 + 3 * t))) + (nI ((cn (μ 95) (90 + 13 * cn (μ 95) (150 + 3 * t)) - (1 + k))))) = nI (6 * cn (μ 95) (150 + 3 * t) + (cn (μ 95) (90 + 13 * cn (μ 95) (150 + 3 * t)) - (1 + k))) from rf_eq (rf_nadd (x := nI (6 * cn (μ 95) (150 + 3 * t))) (y := nI ((cn (μ 95) (90 + 13 * cn (μ 95) (150 + 3 * t)) - (1 + k)))) rfl rfl) (by omega))]); all_goals exact rfl) (by omega)) rf_a0) ?_
      try rw [(show ((nI (6 * cn (μ 95) (150 + 3 * t))) + (nI ((cn (μ 95) (90 + 13 * cn (μ 95) (150 + 3 * t)) - (1 + k))))) = nI (6 * cn (μ 95) (150 + 3 * t) + (cn (μ 95) (90 + 13 * cn (μ 95) (150 + 3 * t)) - (1 + k))) from rf_eq (rf_nadd (x := nI (6 * cn (μ 95) (150 + 3 * t))) (y := nI ((cn (μ 95) (90 + 13 * cn (μ 95) (150 + 3 * t)) - (1 + k)))) rfl rfl) (by omega))]
      try rw [(show (nI (6 * cn (μ 95) (150 + 3 * t) + (cn (μ 95) (90 + 13 * cn (μ 95) (150 + 3 * t)) - (1 + k)))).toNatClampNeg = (6 * cn (μ 95) (150 + 3 * t) + (cn (μ 95) (90 + 13 * cn (μ 95) (150 + 3 * t)) - (1 + k))) from rf_cl_n rfl (by omega))]
      try rw [(show α 6 (6 * cn (μ 95) (150 + 3 * t) + (cn (μ 95) (90 + 13 * cn (μ 95) (150 + 3 * t)) - (1 + k))) = μ 95 (96 + 13 * cn (μ 95) (150 + 3 * t) + (cn (μ 95) (90 + 13 * cn (μ 95) (150 + 3 * t)) - (1 + k))) from rl_5 hR (l := (cn (μ 95) (150 + 3 * t))) (i := ((cn (μ 95) (90 + 13 * cn (μ 95) (150 + 3 * t)) - (1 + k)))) (by omega) (by omega) (by omega) (by omega))]
      try rw [(show ((nI (k + 1)) + (nI 1)) = nI (2 + k) from rf_eq (rf_nadd (x := nI (k + 1)) (y := nI 1) rfl rfl) (by omega))]
      refine ok_goto bX4_minuteAt_69 ?_
      have e : ((s_min (μ 95) t k) + (μ 95 (96 + 13 * cn (μ 95) (150 + 3 * t) + (cn (μ 95) (90 + 13 * cn (μ 95) (150 + 3 * t)) - (1 + k))))) = s_min (μ 95) t (k + 1) := by rw [s_min]; first | (rw [leg_0 (back_0 hI ht h48)]; try (congr 2; omega)) | (rw [leg_1 (back_1 h48)]; try (congr 2; omega))
      rw [e, show 2 + k = k + 1 + 1 by omega]
      exact ih (k + 1) (by omega)
theorem c_min {t i : Nat} (hR : Rl 1 α (μ 95)) (hI : Iv (μ 95))(ht : t < 12)(hi : i < cn (μ 95) (90 + 13 * cn (μ 95) (150 + 3 * t))) : rf_At (rf_T Ln xs) MX4_minuteAt 2 0 ([some (.ref 2), some (.int (nI t)), some (.int (nI i)), none, none, none, none], [], 108, (α, μ)) (some (.int (s_min (μ 95) t i))) 108 (α, μ) := by
  refine rf_pa ?_
  have b150 := hI.leb (k := 150 + 3 * t) (b := 3) (bd_150 ht rfl) (by decide)
  refine ok_step (ps := [rf_in (nI t) 12]) (L' := [some (.ref 2), some (.int (nI t)), some (.int (nI i)), some (.int ((α 7 ((nI t).toNatClampNeg)) * (nI 6))), none, none, none]) (st' := [.int (nI t), .ref 2]) (σ' := (α, μ)) (pc' := 12) kX4_minuteAt_0 rfl rfl (rf_a1 (rf_in_n (a := t) rfl (by omega)) rf_a0) ?_
  try rw [(show (nI t).toNatClampNeg = t from rf_cl_n rfl (by omega))]
  try rw [(show α 7 t = μ 95 (150 + 3 * t) from rl_6 hR (i := t) (by omega) (by omega))]
  try rw [(show ((μ 95 (150 + 3 * t)) * (nI 6)) = nI (6 * cn (μ 95) (150 + 3 * t)) from rf_eq (rf_nmul (x := μ 95 (150 + 3 * t)) (y := nI 6) (hI.atb (k := (150 + 3 * t)) (bd_150 (i := t) (by omega) (by omega)) (by decide)) rfl) (by omega))]
  refine ok_V (As := [.int (nI t)]) (b := 2) (st := []) mkX4_stopsOf qX4_minuteAt_12 rfl (rc_2) rfl rfl rfl rfl (Nat.le_of_ble_eq_true rfl) (c_stopsOf hR hI (by omega)) ?_
  refine ok_step (ps := [rf_in (nI t) 12]) (L' := [some (.ref 2), some (.int (nI t)), some (.int (nI i)), some (.int (nI (6 * cn (μ 95) (150 + 3 * t)))), some (.int (s_stops (μ 95) t)), some (.int (α 8 ((nI t).toNatClampNeg))), some (.int (nI 1))]) (st' := []) (σ' := (α, μ)) (pc' := 28) kX4_minuteAt_15 rfl rfl (rf_a1 (rf_in_n (a := t) rfl (by omega)) rf_a0) ?_
  try rw [(show (nI t).toNatClampNeg = t from rf_cl_n rfl (by omega))]
  try rw [(show α 8 t = μ 95 (151 + 3 * t) from rl_7 hR (i := t) (by omega) (by omega))]
  exact c_min_l hR hI ht hi i 0 (by omega)
theorem c_end {t : Nat} (hR : Rl 1 α (μ 95)) (hI : Iv (μ 95))(ht : t < 12)(hz : 2 ≤ cn (μ 95) (90 + 13 * cn (μ 95) (150 + 3 * t))) : rf_At (rf_T Ln xs) MX4_endOf 3 0 ([some (.ref 2), some (.int (nI t))], [], 108, (α, μ)) (some (.int (s_end (μ 95) t))) 108 (α, μ) := by
  refine rf_pa ?_
  have b150 := hI.leb (k := 150 + 3 * t) (b := 3) (bd_150 ht rfl) (by decide)
  have b90 := hI.leb (k := 90 + 13 * cn (μ 95) (150 + 3 * t)) (b := 6) (bd_90 (i := cn (μ 95) (150 + 3 * t)) (by omega) rfl) (by decide)
  refine ok_step (ps := []) (L' := [some (.ref 2), some (.int (nI t))]) (st' := [.int (nI t), .ref 2, .int (nI t), .ref 2]) (σ' := (α, μ)) (pc' := 4) kX4_endOf_0 rfl rfl rf_a0 ?_
  refine ok_V (As := [.int (nI t)]) (b := 2) (st := [.int (nI t), .ref 2]) mkX4_stopsOf qX4_endOf_4 rfl (rc_2) rfl rfl rfl rfl (Nat.le_of_ble_eq_true rfl) (c_stopsOf hR hI (by omega)) ?_
  refine ok_step (ps := []) (L' := [some (.ref 2), some (.int (nI t))]) (st' := [.int ((s_stops (μ 95) t) - (nI 1)), .int (nI t), .ref 2]) (σ' := (α, μ)) (pc' := 9) kX4_endOf_7 rfl rfl rf_a0 ?_
  try rw [(show ((s_stops (μ 95) t) - (nI 1)) = nI ((cn (μ 95) (90 + 13 * cn (μ 95) (150 + 3 * t)) - 1)) from rf_eq (rf_nsub (x := s_stops (μ 95) t) (y := nI 1) (st_at hI (by omega)) rfl (by omega)) (by omega))]
  refine ok_V (As := [.int (nI t), .int (nI ((cn (μ 95) (90 + 13 * cn (μ 95) (150 + 3 * t)) - 1)))]) (b := 2) (st := []) mkX4_minuteAt qX4_endOf_9 rfl (rc_2) rfl rfl rfl rfl (Nat.le_of_ble_eq_true rfl) (c_min hR hI (by omega) (by omega)) ?_
  refine ok_reti eX4_endOf_12 rfl ?_
  exact ⟨rfl, rfl⟩
theorem m_end {t : Nat} (hI : Iv (μ 95))(ht : t < 12)(hz : 2 ≤ cn (μ 95) (90 + 13 * cn (μ 95) (150 + 3 * t))) : rf_At (rf_T Ln xs) MX12_endOf 3 0 ([some (.ref 94), some (.int (nI t))], [], 108, (α, μ)) (some (.int (s_end (μ 95) t))) 108 (α, μ) := by
  refine rf_pa ?_
  have b150 := hI.leb (k := 150 + 3 * t) (b := 3) (bd_150 ht rfl) (by decide)
  have b90 := hI.leb (k := 90 + 13 * cn (μ 95) (150 + 3 * t)) (b := 6) (bd_90 (i := cn (μ 95) (150 + 3 * t)) (by omega) rfl) (by decide)
  refine ok_step (ps := []) (L' := [some (.ref 94), some (.int (nI t))]) (st' := [.int (nI t), .ref 94, .int (nI t), .ref 94]) (σ' := (α, μ)) (pc' := 4) kX12_endOf_0 rfl rfl rf_a0 ?_
  refine ok_V (As := [.int (nI t)]) (b := 94) (st := [.int (nI t), .ref 94]) mkX12_stopsOf qX12_endOf_4 rfl (rc_94) rfl rfl rfl rfl (Nat.le_of_ble_eq_true rfl) (m_stopsOf hI (by omega)) ?_
  refine ok_step (ps := []) (L' := [some (.ref 94), some (.int (nI t))]) (st' := [.int ((s_stops (μ 95) t) - (nI 1)), .int (nI t), .ref 94]) (σ' := (α, μ)) (pc' := 9) kX12_endOf_7 rfl rfl rf_a0 ?_
  try rw [(show ((s_stops (μ 95) t) - (nI 1)) = nI ((cn (μ 95) (90 + 13 * cn (μ 95) (150 + 3 * t)) - 1)) from rf_eq (rf_nsub (x := s_stops (μ 95) t) (y := nI 1) (st_at hI (by omega)) rfl (by omega)) (by omega))]
  refine ok_V (As := [.int (nI t), .int (nI ((cn (μ 95) (90 + 13 * cn (μ 95) (150 + 3 * t)) - 1)))]) (b := 94) (st := []) mkX12_minuteAt qX12_endOf_9 rfl (rc_94) rfl rfl rfl rfl (Nat.le_of_ble_eq_true rfl) (m_min hI (by omega) (by omega)) ?_
  refine ok_reti eX12_endOf_12 rfl ?_
  exact ⟨rfl, rfl⟩
theorem c_last {t : Nat} (hR : Rl 1 α (μ 95)) (hI : Iv (μ 95))(ht : t < 12)(hz : 2 ≤ cn (μ 95) (90 + 13 * cn (μ 95) (150 + 3 * t))) : rf_At (rf_T Ln xs) MX4_lastStation 3 0 ([some (.ref 2), some (.int (nI t))], [], 108, (α, μ)) (some (.int (s_last (μ 95) t))) 108 (α, μ) := by
  refine rf_pa ?_
  have b150 := hI.leb (k := 150 + 3 * t) (b := 3) (bd_150 ht rfl) (by decide)
  have b90 := hI.leb (k := 90 + 13 * cn (μ 95) (150 + 3 * t)) (b := 6) (bd_90 (i := cn (μ 95) (150 + 3 * t)) (by omega) rfl) (by decide)
  refine ok_step (ps := []) (L' := [some (.ref 2), some (.int (nI t))]) (st' := [.int (nI t), .ref 2, .int (nI t), .ref 2]) (σ' := (α, μ)) (pc' := 4) kX4_lastStation_0 rfl rfl rf_a0 ?_
  refine ok_V (As := [.int (nI t)]) (b := 2) (st := [.int (nI t), .ref 2]) mkX4_stopsOf qX4_lastStation_4 rfl (rc_2) rfl rfl rfl rfl (Nat.le_of_ble_eq_true rfl) (c_stopsOf hR hI (by omega)) ?_
  refine ok_step (ps := []) (L' := [some (.ref 2), some (.int (nI t))]) (st' := [.int ((s_stops (μ 95) t) - (nI 1)), .int (nI t), .ref 2]) (σ' := (α, μ)) (pc' := 9) kX4_lastStation_7 rfl rfl rf_a0 ?_
  try rw [(show ((s_stops (μ 95) t) - (nI 1)) = nI ((cn (μ 95) (90 + 13 * cn (μ 95) (150 + 3 * t)) - 1)) from rf_eq (rf_nsub (x := s_stops (μ 95) t) (y := nI 1) (st_at hI (by omega)) rfl (by omega)) (by omega))]
  refine ok_V (As := [.int (nI t), .int (nI ((cn (μ 95) (90 + 13 * cn (μ 95) (150 + 3 * t)) - 1)))]) (b := 2) (st := []) mkX4_stationAt qX4_lastStation_9 rfl (rc_2) rfl rfl rfl rfl (Nat.le_of_ble_eq_true rfl) (c_stAt hR hI (by omega) (by omega)) ?_
  refine ok_reti eX4_lastStation_12 rfl ?_
  exact ⟨rfl, rfl⟩
end H25
