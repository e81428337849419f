section H42a
variable {Ln : Nat} {xs : Nat → Int32} {α μ δ : Nat → Nat → Int32}
theorem c_isTrain_x {x : Int32} (hR : Rl 1 α (μ 95)) : rf_At (rf_T Ln xs) MX11_isTrain 2 0 ([some (.ref 0), some (.int x)], [], 108, (α, δ)) (some (.int (bI (wi x (nI 0) (μ 95 3 - nI 1))))) 108 (α, δ) := by
  refine rf_pa ?_
  refine ok_step (ps := []) (L' := [some (.ref 0), some (.int x)]) (st' := [.int ((α 2 2) - (nI 1)), .int (nI 0), .int x]) (σ' := (α, δ)) (pc' := 14) kX11_isTrain_0 rfl rfl rf_a0 ?_
  try rw [(show α 2 2 = μ 95 3 from hR 1 2 3 rfl)]
  refine ok_S (As := [.int x, .int (nI 0), .int ((μ 95 3) - (nI 1))]) (st := []) mkX11_within qX11_isTrain_14 rfl rfl rfl rfl rfl (Nat.le_of_ble_eq_true rfl) (c_within) ?_
  refine ok_retz eX11_isTrain_17 rfl (bI_or) ?_
  exact ⟨rfl, rfl⟩
theorem c_isShift_x {x : Int32} (hR : Rl 1 α (μ 95)) : rf_At (rf_T Ln xs) MX11_isShift 2 0 ([some (.ref 0), some (.int x)], [], 108, (α, δ)) (some (.int (bI (wi x (nI 0) (μ 95 5 - nI 1))))) 108 (α, δ) := by
  refine rf_pa ?_
  refine ok_step (ps := []) (L' := [some (.ref 0), some (.int x)]) (st' := [.int ((α 19 0) - (nI 1)), .int (nI 0), .int x]) (σ' := (α, δ)) (pc' := 14) kX11_isShift_0 rfl rfl rf_a0 ?_
  try rw [(show α 19 0 = μ 95 5 from hR 18 0 5 rfl)]
  refine ok_S (As := [.int x, .int (nI 0), .int ((μ 95 5) - (nI 1))]) (st := []) mkX11_within qX11_isShift_14 rfl rfl rfl rfl rfl (Nat.le_of_ble_eq_true rfl) (c_within) ?_
  refine ok_retz eX11_isShift_17 rfl (bI_or) ?_
  exact ⟨rfl, rfl⟩
theorem c_all_l_x  (hR : Rl 1 α (μ 95)) (hI : Iv (μ 95)) : ∀ (j i : Nat), i + j = cn (μ 95) 5 → rf_Ok (rf_T Ln xs) MX7_all 1 4 [some (.ref 19), some (.int (sumI (fun s => μ 95 (330 + s)) i)), some (.int (nI i))] [] (α, δ) (fun r s => r = some (.int (s_all (μ 95))) ∧ s = (α, δ)) := by
  have b5 := hI.le5
  intro j
  induction j with
  | zero =>
    intro i hj
    have hj : i = cn (μ 95) 5 := by omega
    refine ok_step (ps := []) (L' := [some (.ref 19), some (.int (sumI (fun s => μ 95 (330 + s)) i)), some (.int (nI i))]) (st' := [.int (α 19 0), .int (nI i)]) (σ' := (α, δ)) (pc' := 9) kX7_all_4 rfl rfl rf_a0 ?_
    try rw [(show α 19 0 = μ 95 5 from hR 18 0 5 rfl)]
    refine ok_icmp_ge bX7_all_9 (fun _ => ?_) (fun h9 => absurd (le_of hI.at5 (by omega) (by omega)) h9)
    refine ok_step (ps := []) (L' := [some (.ref 19), some (.int (sumI (fun s => μ 95 (330 + s)) i)), some (.int (nI i))]) (st' := [.int (sumI (fun s => μ 95 (330 + s)) i)]) (σ' := (α, δ)) (pc' := 28) kX7_all_27 rfl rfl rf_a0 ?_
    refine ok_reti eX7_all_28 rfl ?_
    exact ⟨by rw [hj]; rfl, rfl⟩
  | succ j ih =>
    intro i hj
    refine ok_step (ps := []) (L' := [some (.ref 19), some (.int (sumI (fun s => μ 95 (330 + s)) i)), some (.int (nI i))]) (st' := [.int (α 19 0), .int (nI i)]) (σ' := (α, δ)) (pc' := 9) kX7_all_4 rfl rfl rf_a0 ?_
    try rw [(show α 19 0 = μ 95 5 from hR 18 0 5 rfl)]
    refine ok_icmp_ge bX7_all_9 (fun h9 => absurd h9 (nle_of hI.at5 (by omega) (by omega))) (fun _ => ?_)
    refine ok_step (ps := [rf_in (nI i) 8]) (L' := [some (.ref 19), some (.int ((sumI (fun s => μ 95 (330 + s)) i) + (α 21 ((nI i).toNatClampNeg)))), some (.int ((nI i) + (nI 1)))]) (st' := []) (σ' := (α, δ)) (pc' := 24) kX7_all_12 rfl rfl (rf_a1 (rf_in_n (a := i) rfl (by omega)) rf_a0) ?_
    try rw [(show (nI i).toNatClampNeg = i from rf_cl_n rfl (by omega))]
    try rw [(show α 21 i = μ 95 (330 + i) from rl_20 hR (i := i) (by omega) (by omega))]
    try rw [(show ((nI i) + (nI 1)) = nI (i + 1) from nI_add _ _)]
    refine ok_goto bX7_all_24 ?_
    exact ih (i + 1) (by omega)
theorem c_all_x  (hR : Rl 1 α (μ 95)) (hI : Iv (μ 95)) : rf_At (rf_T Ln xs) MX7_all 1 0 ([some (.ref 19), none, none], [], 108, (α, δ)) (some (.int (s_all (μ 95)))) 108 (α, δ) := by
  refine rf_pa ?_
  refine ok_step (ps := []) (L' := [some (.ref 19), some (.int (nI 0)), some (.int (nI 0))]) (st' := []) (σ' := (α, δ)) (pc' := 4) kX7_all_0 rfl rfl rf_a0 ?_
  exact c_all_l_x hR hI (cn (μ 95) 5) 0 (by omega)
theorem c_below_x  (hR : Rl 1 α (μ 95)) (hI : Iv (μ 95)) : rf_At (rf_T Ln xs) MX7_below 2 0 ([some (.ref 19)], [], 108, (α, δ)) (some (.int (rf_max (s_all (μ 95)) (nI 1)))) 108 (α, δ) := by
  refine rf_pa ?_
  refine ok_step (ps := []) (L' := [some (.ref 19)]) (st' := [.ref 19]) (σ' := (α, δ)) (pc' := 1) kX7_below_0 rfl rfl rf_a0 ?_
  refine ok_V (As := []) (b := 19) (st := []) mkX7_all qX7_below_1 rfl (rc_19) rfl rfl rfl rfl (Nat.le_of_ble_eq_true rfl) (c_all_x hR hI) ?_
  refine ok_step (ps := []) (L' := [some (.ref 19)]) (st' := [.int (rf_max (s_all (μ 95)) (nI 1))]) (σ' := (α, δ)) (pc' := 8) kX7_below_4 rfl rfl rf_a0 ?_
  refine ok_reti eX7_below_8 rfl ?_
  exact ⟨rfl, rfl⟩
theorem c_with_l_x {t : Int32} (hR : Rl 1 α (μ 95)) (hI : Iv (μ 95)) : ∀ (j i : Nat), i + j = cn (μ 95) 5 → rf_Ok (rf_T Ln xs) MX7_lotsWith 2 4 [some (.ref 19), some (.int t), some (.int (sumI (f_with (μ 95) t) i)), some (.int (nI i))] [] (α, δ) (fun r s => r = some (.int (s_with (μ 95) t)) ∧ s = (α, δ)) := by
  have b5 := hI.le5
  intro j
  induction j with
  | zero =>
    intro i hj
    have hj : i = cn (μ 95) 5 := by omega
    refine ok_step (ps := []) (L' := [some (.ref 19), some (.int t), some (.int (sumI (f_with (μ 95) t) i)), some (.int (nI i))]) (st' := [.int (α 19 0), .int (nI i)]) (σ' := (α, δ)) (pc' := 9) kX7_lotsWith_4 rfl rfl rf_a0 ?_
    try rw [(show α 19 0 = μ 95 5 from hR 18 0 5 rfl)]
    refine ok_icmp_ge bX7_lotsWith_9 (fun _ => ?_) (fun h9 => absurd (le_of hI.at5 (by omega) (by omega)) h9)
    refine ok_step (ps := []) (L' := [some (.ref 19), some (.int t), some (.int (sumI (f_with (μ 95) t) i)), some (.int (nI i))]) (st' := [.int (sumI (f_with (μ 95) t) i)]) (σ' := (α, δ)) (pc' := 41) kX7_lotsWith_40 rfl rfl rf_a0 ?_
    refine ok_reti eX7_lotsWith_41 rfl ?_
    exact ⟨by rw [hj]; rfl, rfl⟩
  | succ j ih =>
    intro i hj
    refine ok_step (ps := []) (L' := [some (.ref 19), some (.int t), some (.int (sumI (f_with (μ 95) t) i)), some (.int (nI i))]) (st' := [.int (α 19 0), .int (nI i)]) (σ' := (α, δ)) (pc' := 9) kX7_lotsWith_4 rfl rfl rf_a0 ?_
    try rw [(show α 19 0 = μ 95 5 from hR 18 0 5 rfl)]
    refine ok_icmp_ge bX7_lotsWith_9 (fun h9 => absurd h9 (nle_of hI.at5 (by omega) (by omega))) (fun _ => ?_)
    refine ok_step (ps := [rf_in (nI i) 8]) (L' := [some (.ref 19), some (.int t), some (.int (sumI (f_with (μ 95) t) i)), some (.int (nI i))]) (st' := [.int t, .int (α 20 ((nI i).toNatClampNeg))]) (σ' := (α, δ)) (pc' := 19) kX7_lotsWith_12 rfl rfl (rf_a1 (rf_in_n (a := i) rfl (by omega)) rf_a0) ?_
    try rw [(show (nI i).toNatClampNeg = i from rf_cl_n rfl (by omega))]
    try rw [(show α 20 i = μ 95 (320 + i) from rl_19 hR (i := i) (by omega) (by omega))]
    refine ok_S (As := [.int (μ 95 (320 + i)), .int t]) (st := []) mkX11_has qX7_lotsWith_19 rfl rfl rfl rfl rfl (Nat.le_of_ble_eq_true rfl) (c_has) ?_
    refine ok_if_eq bX7_lotsWith_22 (fun h22 => ?_) (fun h22 => ?_)
    · refine ok_step (ps := []) (L' := [some (.ref 19), some (.int t), some (.int (sumI (f_with (μ 95) t) i)), some (.int ((nI i) + (nI 1)))]) (st' := []) (σ' := (α, δ)) (pc' := 37) kX7_lotsWith_34 rfl rfl rf_a0 ?_
      try rw [(show ((nI i) + (nI 1)) = nI (i + 1) from nI_add _ _)]
      refine ok_goto bX7_lotsWith_37 ?_
      have e : sumI (f_with (μ 95) t) i = sumI (f_with (μ 95) t) (i + 1) := by simp_all [sumI, f_with, bI_0, hb, nI_0]
      rw [e]
      exact ih (i + 1) (by omega)
    · refine ok_step (ps := [rf_in (nI i) 8]) (L' := [some (.ref 19), some (.int t), some (.int ((sumI (f_with (μ 95) t) i) + (α 21 ((nI i).toNatClampNeg)))), some (.int (nI i))]) (st' := []) (σ' := (α, δ)) (pc' := 34) kX7_lotsWith_25 rfl rfl (rf_a1 (rf_in_n (a := i) rfl (by omega)) rf_a0) ?_
      try rw [(show (nI i).toNatClampNeg = i from rf_cl_n rfl (by omega))]
      try rw [(show α 21 i = μ 95 (330 + i) from rl_20 hR (i := i) (by omega) (by omega))]
      refine ok_step (ps := []) (L' := [some (.ref 19), some (.int t), some (.int ((sumI (f_with (μ 95) t) i) + (μ 95 (330 + i)))), some (.int ((nI i) + (nI 1)))]) (st' := []) (σ' := (α, δ)) (pc' := 37) kX7_lotsWith_34 rfl rfl rf_a0 ?_
      try rw [(show ((nI i) + (nI 1)) = nI (i + 1) from nI_add _ _)]
      refine ok_goto bX7_lotsWith_37 ?_
      have e : ((sumI (f_with (μ 95) t) i) + (μ 95 (330 + i))) = sumI (f_with (μ 95) t) (i + 1) := by simp_all [sumI, f_with, bI_0, hb, nI_0]
      rw [e]
      exact ih (i + 1) (by omega)
theorem c_with_x {t : Int32} (hR : Rl 1 α (μ 95)) (hI : Iv (μ 95)) : rf_At (rf_T Ln xs) MX7_lotsWith 2 0 ([some (.ref 19), some (.int t), none, none], [], 108, (α, δ)) (some (.int (s_with (μ 95) t))) 108 (α, δ) := by
  refine rf_pa ?_
  refine ok_step (ps := []) (L' := [some (.ref 19), some (.int t), some (.int (nI 0)), some (.int (nI 0))]) (st' := []) (σ' := (α, δ)) (pc' := 4) kX7_lotsWith_0 rfl rfl rf_a0 ?_
  exact c_with_l_x hR hI (cn (μ 95) 5) 0 (by omega)
theorem c_stopsOf_x {t : Nat} (hR : Rl 1 α (μ 95)) (hI : Iv (μ 95))(ht : t < 12) : rf_At (rf_T Ln xs) MX4_stopsOf 1 0 ([some (.ref 2), some (.int (nI t))], [], 108, (α, δ)) (some (.int (s_stops (μ 95) t))) 108 (α, δ) := by
  refine rf_pa ?_
  have b150 := hI.leb (k := 150 + 3 * t) (b := 3) (bd_150 ht rfl) (by decide)
  refine ok_step (ps := [rf_in (nI t) 12, rf_in (α 7 ((nI t).toNatClampNeg)) 4]) (L' := [some (.ref 2), some (.int (nI t))]) (st' := [.int (α 4 ((α 7 ((nI t).toNatClampNeg)).toNatClampNeg))]) (σ' := (α, δ)) (pc' := 11) kX4_stopsOf_0 rfl rfl (rf_a1 (rf_in_n (a := t) rfl (by omega)) (rf_a1 (rf_in_n (a := (cn (μ 95) (150 + 3 * t))) (by (try rw [(show (nI t).toNatClampNeg = t from rf_cl_n rfl (by omega))]); (try rw [(show α 7 t = μ 95 (150 + 3 * t) from rl_6 hR (i := t) (by omega) (by omega))]); all_goals exact (hI.atb (k := (150 + 3 * t)) (bd_150 (i := t) (by omega) (by omega)) (by decide))) (by omega)) rf_a0)) ?_
  try rw [(show (nI t).toNatClampNeg = t from rf_cl_n rfl (by omega))]
  try rw [(show α 7 t = μ 95 (150 + 3 * t) from rl_6 hR (i := t) (by omega) (by omega))]
  try rw [(show (μ 95 (150 + 3 * t)).toNatClampNeg = (cn (μ 95) (150 + 3 * t)) from rf_cl_n (hI.atb (k := (150 + 3 * t)) (bd_150 (i := t) (by omega) (by omega)) (by decide)) (by omega))]
  try rw [(show α 4 (cn (μ 95) (150 + 3 * t)) = μ 95 (90 + 13 * cn (μ 95) (150 + 3 * t)) from rl_3 hR (i := (cn (μ 95) (150 + 3 * t))) (by omega) (by omega))]
  refine ok_reti eX4_stopsOf_11 rfl ?_
  exact ⟨rfl, rfl⟩
theorem c_ofRow_x {l i : Nat} (hR : Rl 1 α (μ 95)) (hI : Iv (μ 95))(hl : l < 4) (hi : i < 6) : rf_At (rf_T Ln xs) MX4_ofRow 1 0 ([some (.ref 2), some (.int (nI l)), some (.int (nI i))], [], 108, (α, δ)) (some (.int (μ 95 (91 + 13 * l + i)))) 108 (α, δ) := by
  refine rf_pa ?_
  refine ok_step (ps := [rf_in (((nI l) * (nI 6)) + (nI i)) 24]) (L' := [some (.ref 2), some (.int (nI l)), some (.int (nI i))]) (st' := [.int (α 5 ((((nI l) * (nI 6)) + (nI i)).toNatClampNeg))]) (σ' := (α, δ)) (pc' := 11) kX4_ofRow_0 rfl rfl (rf_a1 (rf_in_n (a := (6 * l + i)) (by (try rw [(show ((nI l) * (nI 6)) = nI (6 * l) from rf_eq (rf_nmul (x := nI l) (y := nI 6) rfl rfl) (by omega))]); (try rw [(show ((nI (6 * l)) + (nI i)) = nI (6 * l + i) from rf_eq (rf_nadd (x := nI (6 * l)) (y := nI i) rfl rfl) (by omega))]); all_goals exact rfl) (by omega)) rf_a0) ?_
  try rw [(show ((nI l) * (nI 6)) = nI (6 * l) from rf_eq (rf_nmul (x := nI l) (y := nI 6) rfl rfl) (by omega))]
  try rw [(show ((nI (6 * l)) + (nI i)) = nI (6 * l + i) from rf_eq (rf_nadd (x := nI (6 * l)) (y := nI i) rfl rfl) (by omega))]
  try rw [(show (nI (6 * l + i)).toNatClampNeg = (6 * l + i) from rf_cl_n rfl (by omega))]
  try rw [(show α 5 (6 * l + i) = μ 95 (91 + 13 * l + i) from rl_4 hR (l := l) (i := i) (by omega) (by omega) (by omega) (by omega))]
  refine ok_reti eX4_ofRow_11 rfl ?_
  exact ⟨rfl, rfl⟩
theorem c_stAt_x {t i : Nat} (hR : Rl 1 α (μ 95)) (hI : Iv (μ 95))(ht : t < 12)(hi : i < cn (μ 95) (90 + 13 * cn (μ 95) (150 + 3 * t))) : rf_At (rf_T Ln xs) MX4_stationAt 2 0 ([some (.ref 2), some (.int (nI t)), some (.int (nI i)), none], [], 108, (α, δ)) (some (.int (s_stAt (μ 95) t i))) 108 (α, δ) := by
  refine rf_pa ?_
  have b150 := hI.leb (k := 150 + 3 * t) (b := 3) (bd_150 ht rfl) (by decide)
  have b90 := hI.leb (k := 90 + 13 * cn (μ 95) (150 + 3 * t)) (b := 6) (bd_90 (i := cn (μ 95) (150 + 3 * t)) (by omega) rfl) (by decide)
  refine ok_step (ps := [rf_in (nI t) 12, rf_in (nI t) 12]) (L' := [some (.ref 2), some (.int (nI t)), some (.int (nI i)), some (.int (α 7 ((nI t).toNatClampNeg)))]) (st' := [.int (nI 1), .int (α 9 ((nI t).toNatClampNeg)), .int (α 7 ((nI t).toNatClampNeg)), .ref 2]) (σ' := (α, δ)) (pc' := 16) kX4_stationAt_0 rfl rfl (rf_a1 (rf_in_n (a := t) rfl (by omega)) (rf_a1 (rf_in_n (a := t) rfl (by omega)) rf_a0)) ?_
  try rw [(show (nI t).toNatClampNeg = t from rf_cl_n rfl (by omega))]
  try rw [(show α 7 t = μ 95 (150 + 3 * t) from rl_6 hR (i := t) (by omega) (by omega))]
  try rw [(show α 9 t = μ 95 (152 + 3 * t) from rl_8 hR (i := t) (by omega) (by omega))]
  refine ok_icmp_ne bX4_stationAt_16 (fun h16 => ?_) (fun h16 => ?_)
  · refine ok_step (ps := []) (L' := [some (.ref 2), some (.int (nI t)), some (.int (nI i)), some (.int (μ 95 (150 + 3 * t)))]) (st' := [.int (nI i), .int (μ 95 (150 + 3 * t)), .ref 2]) (σ' := (α, δ)) (pc' := 33) kX4_stationAt_32 rfl rfl rf_a0 ?_
    rw [show μ 95 (150 + 3 * t) = nI (cn (μ 95) (150 + 3 * t)) from (hI.atb (k := (150 + 3 * t)) (bd_150 (i := t) (by omega) (by omega)) (by decide))]
    refine ok_V (As := [.int (nI (cn (μ 95) (150 + 3 * t))), .int (nI i)]) (b := 2) (st := []) mkX4_ofRow qX4_stationAt_33 rfl (rc_2) rfl rfl rfl rfl (Nat.le_of_ble_eq_true rfl) (c_ofRow_x hR hI (by omega) (by omega)) ?_
    refine ok_reti eX4_stationAt_36 rfl ?_
    exact ⟨by first | (rw [stAt_0 (back_0 hI ht h16)]; try (congr 3; omega)) | (rw [stAt_1 (back_1 h16)]; try (congr 3; omega)), rfl⟩
  · refine ok_step (ps := [rf_in (μ 95 (150 + 3 * t)) 4]) (L' := [some (.ref 2), some (.int (nI t)), some (.int (nI i)), some (.int (μ 95 (150 + 3 * t)))]) (st' := [.int (((α 4 ((μ 95 (150 + 3 * t)).toNatClampNeg)) - (nI 1)) - (nI i)), .int (μ 95 (150 + 3 * t)), .ref 2]) (σ' := (α, δ)) (pc' := 29) kX4_stationAt_19 rfl rfl (rf_a1 (rf_in_n (a := (cn (μ 95) (150 + 3 * t))) (hI.atb (k := (150 + 3 * t)) (bd_150 (i := t) (by omega) (by omega)) (by decide)) (by omega)) rf_a0) ?_
    try rw [(show (μ 95 (150 + 3 * t)).toNatClampNeg = (cn (μ 95) (150 + 3 * t)) from rf_cl_n (hI.atb (k := (150 + 3 * t)) (bd_150 (i := t) (by omega) (by omega)) (by decide)) (by omega))]
    try rw [(show α 4 (cn (μ 95) (150 + 3 * t)) = μ 95 (90 + 13 * cn (μ 95) (150 + 3 * t)) from rl_3 hR (i := (cn (μ 95) (150 + 3 * t))) (by omega) (by omega))]
    try rw [(show ((μ 95 (90 + 13 * cn (μ 95) (150 + 3 * t))) - (nI 1)) = nI ((cn (μ 95) (90 + 13 * cn (μ 95) (150 + 3 * t)) - 1)) from rf_eq (rf_nsub (x := μ 95 (90 + 13 * cn (μ 95) (150 + 3 * t))) (y := nI 1) (hI.atb (k := (90 + 13 * cn (μ 95) (150 + 3 * t))) (bd_90 (i := (cn (μ 95) (150 + 3 * t))) (by omega) (by omega)) (by decide)) rfl (by omega)) (by omega))]
    try rw [(show ((nI ((cn (μ 95) (90 + 13 * cn (μ 95) (150 + 3 * t)) - 1))) - (nI i)) = nI (((cn (μ 95) (90 + 13 * cn (μ 95) (150 + 3 * t)) - 1) - i)) from rf_eq (rf_nsub (x := nI ((cn (μ 95) (90 + 13 * cn (μ 95) (150 + 3 * t)) - 1))) (y := nI i) rfl rfl (by omega)) (by omega))]
    refine ok_goto bX4_stationAt_29 ?_
    rw [show μ 95 (150 + 3 * t) = nI (cn (μ 95) (150 + 3 * t)) from (hI.atb (k := (150 + 3 * t)) (bd_150 (i := t) (by omega) (by omega)) (by decide))]
    refine ok_V (As := [.int (nI (cn (μ 95) (150 + 3 * t))), .int (nI (((cn (μ 95) (90 + 13 * cn (μ 95) (150 + 3 * t)) - 1) - i)))]) (b := 2) (st := []) mkX4_ofRow qX4_stationAt_33 rfl (rc_2) rfl rfl rfl rfl (Nat.le_of_ble_eq_true rfl) (c_ofRow_x hR hI (by omega) (by omega)) ?_
    refine ok_reti eX4_stationAt_36 rfl ?_
    exact ⟨by first | (rw [stAt_0 (back_0 hI ht h16)]; try (congr 3; omega)) | (rw [stAt_1 (back_1 h16)]; try (congr 3; omega)), rfl⟩
theorem c_gok_n_x {k f q : Nat} {many : Int32} (hR : Rl 1 α (μ 95))(hk : k < 2147483648) (hf : f < 2147483648) (hq : q < 2147483648) : rf_At (rf_T Ln xs) MX11_isGroupTold 3 0 ([some (.ref 0), some (.int (nI k)), some (.int (nI f)), some (.int many), some (.int (nI q)), none], [], 108, (α, δ)) (some (.int (bI (gokN (μ 95) k f many q)))) 108 (α, δ) := by
  refine rf_pa ?_
  refine ok_step (ps := []) (L' := [some (.ref 0), some (.int (nI k)), some (.int (nI f)), some (.int many), some (.int (nI q)), none]) (st' := [.int (nI 799), .int (nI 0), .int (nI k)]) (σ' := (α, δ)) (pc' := 5) kX11_isGroupTold_0 rfl rfl rf_a0 ?_
  refine ok_S (As := [.int (nI k), .int (nI 0), .int (nI 799)]) (st := []) mkX11_within qX11_isGroupTold_5 rfl rfl rfl rfl rfl (Nat.le_of_ble_eq_true rfl) (c_within) ?_
  refine ok_if_eq bX11_isGroupTold_8 (fun h8 => ?_) (fun h8 => ?_)
  · refine ok_step (ps := []) (L' := [some (.ref 0), some (.int (nI k)), some (.int (nI f)), some (.int many), some (.int (nI q)), none]) (st' := [.int (nI 0)]) (σ' := (α, δ)) (pc' := 23) kX11_isGroupTold_22 rfl rfl rf_a0 ?_
    refine ok_retz eX11_isGroupTold_23 rfl (Or.inl rfl) ?_
    have wk := wi_fl (bI_0.mp h8) (by omega)
    try rw [isBI_n (by omega)] at *
    refine ⟨rz ?_, rfl⟩
    simp only [gokN, Bool.and_eq_false_iff, decide_eq_false_iff_not]
    first | exact Or.inl (by omega) | exact Or.inr (Or.inl (by assumption)) | exact Or.inr (Or.inr (Or.inl (by omega))) | exact Or.inr (Or.inr (Or.inr (Or.inl (by omega)))) | exact Or.inr (Or.inr (Or.inr (Or.inr (Or.inl (by assumption))))) | exact Or.inr (Or.inr (Or.inr (Or.inr (Or.inr (by first | assumption | (rw [← isBI_n (n := q) (by omega)]; assumption))))))
  · refine ok_step (ps := [rf_nz (nI 100)]) (L' := [some (.ref 0), some (.int (nI k)), some (.int (nI f)), some (.int many), some (.int (nI q)), none]) (st' := [.int ((nI k) - (nI k) / (nI 100) * (nI 100)), .ref 0]) (σ' := (α, δ)) (pc' := 16) kX11_isGroupTold_11 rfl rfl (rf_a1 (by decide) rf_a0) ?_
    try rw [(show ((nI k) - (nI k) / (nI 100) * (nI 100)) = nI ((k % 100)) from rf_eq (pk_rem (a := k) (d := 100) (by omega) (by decide) (by decide)) (by omega))]
    refine ok_V (As := [.int (nI ((k % 100)))]) (b := 0) (st := []) mkX11_isTrain qX11_isGroupTold_16 rfl (rc_0) rfl rfl rfl rfl (Nat.le_of_ble_eq_true rfl) (c_isTrain_x hR) ?_
    refine ok_if_ne bX11_isGroupTold_19 (fun h19 => ?_) (fun h19 => ?_)
    · refine ok_step (ps := [rf_nz (nI 10)]) (L' := [some (.ref 0), some (.int (nI k)), some (.int (nI f)), some (.int many), some (.int (nI q)), some (.int ((nI f) - (nI f) / (nI 10) * (nI 10)))]) (st' := [.int (nI f)]) (σ' := (α, δ)) (pc' := 31) kX11_isGroupTold_24 rfl rfl (rf_a1 (by decide) rf_a0) ?_
      try rw [(show ((nI f) - (nI f) / (nI 10) * (nI 10)) = nI ((f % 10)) from rf_eq (pk_rem (a := f) (d := 10) (by omega) (by decide) (by decide)) (by omega))]
      refine ok_if_lt bX11_isGroupTold_31 (fun h31 => absurd h31 ((nI_pos (by omega)))) (fun _ => ?_)
      refine ok_step (ps := []) (L' := [some (.ref 0), some (.int (nI k)), some (.int (nI f)), some (.int many), some (.int (nI q)), some (.int (nI ((f % 10))))]) (st' := [.int (nI 6), .int (nI ((f % 10)))]) (σ' := (α, δ)) (pc' := 38) kX11_isGroupTold_34 rfl rfl rf_a0 ?_
      refine ok_icmp_ge bX11_isGroupTold_38 (fun h38 => ?_) (fun h38 => ?_)
      · refine ok_step (ps := []) (L' := [some (.ref 0), some (.int (nI k)), some (.int (nI f)), some (.int many), some (.int (nI q)), some (.int (nI ((f % 10))))]) (st' := [.int (nI 0)]) (σ' := (α, δ)) (pc' := 51) kX11_isGroupTold_50 rfl rfl rf_a0 ?_
        refine ok_retz eX11_isGroupTold_51 rfl (Or.inl rfl) ?_
        have wk := wi_tr (bI_n0.mp h8) (by omega)
        rw [nI_leI (by omega) (by omega)] at h38
        have e0 := bI_n0.mp h19
        try rw [isBI_n (by omega)] at *
        refine ⟨rz ?_, rfl⟩
        simp only [gokN, Bool.and_eq_false_iff, decide_eq_false_iff_not]
        first | exact Or.inl (by omega) | exact Or.inr (Or.inl (by assumption)) | exact Or.inr (Or.inr (Or.inl (by omega))) | exact Or.inr (Or.inr (Or.inr (Or.inl (by omega)))) | exact Or.inr (Or.inr (Or.inr (Or.inr (Or.inl (by assumption))))) | exact Or.inr (Or.inr (Or.inr (Or.inr (Or.inr (by first | assumption | (rw [← isBI_n (n := q) (by omega)]; assumption))))))
      · refine ok_step (ps := [rf_nz (nI 10)]) (L' := [some (.ref 0), some (.int (nI k)), some (.int (nI f)), some (.int many), some (.int (nI q)), some (.int (nI ((f % 10))))]) (st' := [.int (nI ((f % 10))), .int ((nI f) / (nI 10))]) (σ' := (α, δ)) (pc' := 47) kX11_isGroupTold_41 rfl rfl (rf_a1 (by decide) rf_a0) ?_
        try rw [(show ((nI f) / (nI 10)) = nI ((f / 10)) from rf_eq (pk_div (a := f) (d := 10) (by omega) (by decide) (by decide)) (by omega))]
        refine ok_icmp_lt bX11_isGroupTold_47 (fun h47 => ?_) (fun h47 => ?_)
        · refine ok_step (ps := []) (L' := [some (.ref 0), some (.int (nI k)), some (.int (nI f)), some (.int many), some (.int (nI q)), some (.int (nI ((f % 10))))]) (st' := [.int (nI 999), .int (nI 1), .int many]) (σ' := (α, δ)) (pc' := 57) kX11_isGroupTold_52 rfl rfl rf_a0 ?_
          refine ok_S (As := [.int many, .int (nI 1), .int (nI 999)]) (st := []) mkX11_within qX11_isGroupTold_57 rfl rfl rfl rfl rfl (Nat.le_of_ble_eq_true rfl) (c_within) ?_
          refine ok_if_eq bX11_isGroupTold_60 (fun h60 => ?_) (fun h60 => ?_)
          · refine ok_step (ps := []) (L' := [some (.ref 0), some (.int (nI k)), some (.int (nI f)), some (.int many), some (.int (nI q)), some (.int (nI ((f % 10))))]) (st' := [.int (nI 0)]) (σ' := (α, δ)) (pc' := 76) kX11_isGroupTold_75 rfl rfl rf_a0 ?_
            refine ok_retz eX11_isGroupTold_76 rfl (Or.inl rfl) ?_
            have wk := wi_tr (bI_n0.mp h8) (by omega)
            rw [nI_leI (by omega) (by omega)] at h38
            rw [nI_ltI (by omega) (by omega)] at h47
            have e0 := bI_n0.mp h19
            have e1 := bI_0.mp h60
            try rw [isBI_n (by omega)] at *
            refine ⟨rz ?_, rfl⟩
            simp only [gokN, Bool.and_eq_false_iff, decide_eq_false_iff_not]
            first | exact Or.inl (by omega) | exact Or.inr (Or.inl (by assumption)) | exact Or.inr (Or.inr (Or.inl (by omega))) | exact Or.inr (Or.inr (Or.inr (Or.inl (by omega)))) | exact Or.inr (Or.inr (Or.inr (Or.inr (Or.inl (by assumption))))) | exact Or.inr (Or.inr (Or.inr (Or.inr (Or.inr (by first | assumption | (rw [← isBI_n (n := q) (by omega)]; assumption))))))
          · refine ok_step (ps := []) (L' := [some (.ref 0), some (.int (nI k)), some (.int (nI f)), some (.int many), some (.int (nI q)), some (.int (nI ((f % 10))))]) (st' := [.int (nI q)]) (σ' := (α, δ)) (pc' := 65) kX11_isGroupTold_63 rfl rfl rf_a0 ?_
            refine ok_S (As := [.int (nI q)]) (st := []) mkX11_isBelief qX11_isGroupTold_65 rfl rfl rfl rfl rfl (Nat.le_of_ble_eq_true rfl) (c_isB) ?_
            refine ok_if_eq bX11_isGroupTold_68 (fun h68 => ?_) (fun h68 => ?_)
            · refine ok_step (ps := []) (L' := [some (.ref 0), some (.int (nI k)), some (.int (nI f)), some (.int many), some (.int (nI q)), some (.int (nI ((f % 10))))]) (st' := [.int (nI 0)]) (σ' := (α, δ)) (pc' := 76) kX11_isGroupTold_75 rfl rfl rf_a0 ?_
              refine ok_retz eX11_isGroupTold_76 rfl (Or.inl rfl) ?_
              have wk := wi_tr (bI_n0.mp h8) (by omega)
              rw [nI_leI (by omega) (by omega)] at h38
              rw [nI_ltI (by omega) (by omega)] at h47
              have e0 := bI_n0.mp h19
              have e1 := bI_n0.mp h60
              have e2 := bI_0.mp h68
              try rw [isBI_n (by omega)] at *
              refine ⟨rz ?_, rfl⟩
              simp only [gokN, Bool.and_eq_false_iff, decide_eq_false_iff_not]
              first | exact Or.inl (by omega) | exact Or.inr (Or.inl (by assumption)) | exact Or.inr (Or.inr (Or.inl (by omega))) | exact Or.inr (Or.inr (Or.inr (Or.inl (by omega)))) | exact Or.inr (Or.inr (Or.inr (Or.inr (Or.inl (by assumption))))) | exact Or.inr (Or.inr (Or.inr (Or.inr (Or.inr (by first | assumption | (rw [← isBI_n (n := q) (by omega)]; assumption))))))
            · refine ok_step (ps := []) (L' := [some (.ref 0), some (.int (nI k)), some (.int (nI f)), some (.int many), some (.int (nI q)), some (.int (nI ((f % 10))))]) (st' := [.int (nI 1)]) (σ' := (α, δ)) (pc' := 72) kX11_isGroupTold_71 rfl rfl rf_a0 ?_
              refine ok_goto bX11_isGroupTold_72 ?_
              refine ok_retz eX11_isGroupTold_76 rfl (Or.inr rfl) ?_
              have wk := wi_tr (bI_n0.mp h8) (by omega)
              rw [nI_leI (by omega) (by omega)] at h38
              rw [nI_ltI (by omega) (by omega)] at h47
              have e0 := bI_n0.mp h19
              have e1 := bI_n0.mp h60
              have e2 := bI_n0.mp h68
              try rw [isBI_n (by omega)] at *
              refine ⟨ro ?_, rfl⟩
              simp only [gokN, Bool.and_eq_true, decide_eq_true_eq]
              refine ⟨by omega, by assumption, by omega, by omega, by assumption, by first | assumption | (rw [← isBI_n (n := q) (by omega)]; assumption)⟩
        · refine ok_step (ps := []) (L' := [some (.ref 0), some (.int (nI k)), some (.int (nI f)), some (.int many), some (.int (nI q)), some (.int (nI ((f % 10))))]) (st' := [.int (nI 0)]) (σ' := (α, δ)) (pc' := 51) kX11_isGroupTold_50 rfl rfl rf_a0 ?_
          refine ok_retz eX11_isGroupTold_51 rfl (Or.inl rfl) ?_
          have wk := wi_tr (bI_n0.mp h8) (by omega)
          rw [nI_leI (by omega) (by omega)] at h38
          rw [nI_ltI (by omega) (by omega)] at h47
          have e0 := bI_n0.mp h19
          try rw [isBI_n (by omega)] at *
          refine ⟨rz ?_, rfl⟩
          simp only [gokN, Bool.and_eq_false_iff, decide_eq_false_iff_not]
          first | exact Or.inl (by omega) | exact Or.inr (Or.inl (by assumption)) | exact Or.inr (Or.inr (Or.inl (by omega))) | exact Or.inr (Or.inr (Or.inr (Or.inl (by omega)))) | exact Or.inr (Or.inr (Or.inr (Or.inr (Or.inl (by assumption))))) | exact Or.inr (Or.inr (Or.inr (Or.inr (Or.inr (by first | assumption | (rw [← isBI_n (n := q) (by omega)]; assumption))))))
    · refine ok_step (ps := []) (L' := [some (.ref 0), some (.int (nI k)), some (.int (nI f)), some (.int many), some (.int (nI q)), none]) (st' := [.int (nI 0)]) (σ' := (α, δ)) (pc' := 23) kX11_isGroupTold_22 rfl rfl rf_a0 ?_
      refine ok_retz eX11_isGroupTold_23 rfl (Or.inl rfl) ?_
      have wk := wi_tr (bI_n0.mp h8) (by omega)
      have e0 := bI_0.mp h19
      try rw [isBI_n (by omega)] at *
      refine ⟨rz ?_, rfl⟩
      simp only [gokN, Bool.and_eq_false_iff, decide_eq_false_iff_not]
      first | exact Or.inl (by omega) | exact Or.inr (Or.inl (by assumption)) | exact Or.inr (Or.inr (Or.inl (by omega))) | exact Or.inr (Or.inr (Or.inr (Or.inl (by omega)))) | exact Or.inr (Or.inr (Or.inr (Or.inr (Or.inl (by assumption))))) | exact Or.inr (Or.inr (Or.inr (Or.inr (Or.inr (by first | assumption | (rw [← isBI_n (n := q) (by omega)]; assumption))))))
theorem c_gok_1_x {x f0 q0 many : Int32} (hR : Rl 1 α (μ 95))(hx : x < 0) : rf_At (rf_T Ln xs) MX11_isGroupTold 3 0 ([some (.ref 0), some (.int x), some (.int f0), some (.int many), some (.int q0), none], [], 108, (α, δ)) (some (.int (nI 0))) 108 (α, δ) := by
  refine rf_pa ?_
  refine ok_step (ps := []) (L' := [some (.ref 0), some (.int x), some (.int f0), some (.int many), some (.int q0), none]) (st' := [.int (nI 799), .int (nI 0), .int x]) (σ' := (α, δ)) (pc' := 5) kX11_isGroupTold_0 rfl rfl rf_a0 ?_
  refine ok_S (As := [.int x, .int (nI 0), .int (nI 799)]) (st := []) mkX11_within qX11_isGroupTold_5 rfl rfl rfl rfl rfl (Nat.le_of_ble_eq_true rfl) (c_within) ?_
  refine ok_if_eq bX11_isGroupTold_8 (fun _ => ?_) (fun h8 => absurd ((bI_0.mpr (wi_neg hx))) h8)
  refine ok_step (ps := []) (L' := [some (.ref 0), some (.int x), some (.int f0), some (.int many), some (.int q0), none]) (st' := [.int (nI 0)]) (σ' := (α, δ)) (pc' := 23) kX11_isGroupTold_22 rfl rfl rf_a0 ?_
  refine ok_retz eX11_isGroupTold_23 rfl (Or.inl rfl) ?_
  exact ⟨rfl, rfl⟩
theorem c_gok_2_x {k : Nat} {x q0 many : Int32} (hR : Rl 1 α (μ 95))(hk : k < 2147483648) (hx : x < 0) : rf_At (rf_T Ln xs) MX11_isGroupTold 3 0 ([some (.ref 0), some (.int (nI k)), some (.int x), some (.int many), some (.int q0), none], [], 108, (α, δ)) (some (.int (nI 0))) 108 (α, δ) := by
  refine rf_pa ?_
  refine ok_step (ps := []) (L' := [some (.ref 0), some (.int (nI k)), some (.int x), some (.int many), some (.int q0), none]) (st' := [.int (nI 799), .int (nI 0), .int (nI k)]) (σ' := (α, δ)) (pc' := 5) kX11_isGroupTold_0 rfl rfl rf_a0 ?_
  refine ok_S (As := [.int (nI k), .int (nI 0), .int (nI 799)]) (st := []) mkX11_within qX11_isGroupTold_5 rfl rfl rfl rfl rfl (Nat.le_of_ble_eq_true rfl) (c_within) ?_
  refine ok_if_eq bX11_isGroupTold_8 (fun h8 => ?_) (fun h8 => ?_)
  · refine ok_step (ps := []) (L' := [some (.ref 0), some (.int (nI k)), some (.int x), some (.int many), some (.int q0), none]) (st' := [.int (nI 0)]) (σ' := (α, δ)) (pc' := 23) kX11_isGroupTold_22 rfl rfl rf_a0 ?_
    refine ok_retz eX11_isGroupTold_23 rfl (Or.inl rfl) ?_
    exact ⟨rfl, rfl⟩
  · refine ok_step (ps := [rf_nz (nI 100)]) (L' := [some (.ref 0), some (.int (nI k)), some (.int x), some (.int many), some (.int q0), none]) (st' := [.int ((nI k) - (nI k) / (nI 100) * (nI 100)), .ref 0]) (σ' := (α, δ)) (pc' := 16) kX11_isGroupTold_11 rfl rfl (rf_a1 (by decide) rf_a0) ?_
    try rw [(show ((nI k) - (nI k) / (nI 100) * (nI 100)) = nI ((k % 100)) from rf_eq (pk_rem (a := k) (d := 100) (by omega) (by decide) (by decide)) (by omega))]
    refine ok_V (As := [.int (nI ((k % 100)))]) (b := 0) (st := []) mkX11_isTrain qX11_isGroupTold_16 rfl (rc_0) rfl rfl rfl rfl (Nat.le_of_ble_eq_true rfl) (c_isTrain_x hR) ?_
    refine ok_if_ne bX11_isGroupTold_19 (fun h19 => ?_) (fun h19 => ?_)
    · refine ok_step (ps := [rf_nz (nI 10)]) (L' := [some (.ref 0), some (.int (nI k)), some (.int x), some (.int many), some (.int q0), some (.int (x - x / (nI 10) * (nI 10)))]) (st' := [.int x]) (σ' := (α, δ)) (pc' := 31) kX11_isGroupTold_24 rfl rfl (rf_a1 (by decide) rf_a0) ?_
      refine ok_if_lt bX11_isGroupTold_31 (fun _ => ?_) (fun h31 => absurd (hx) h31)
      refine ok_step (ps := []) (L' := [some (.ref 0), some (.int (nI k)), some (.int x), some (.int many), some (.int q0), some (.int (x - x / (nI 10) * (nI 10)))]) (st' := [.int (nI 0)]) (σ' := (α, δ)) (pc' := 51) kX11_isGroupTold_50 rfl rfl rf_a0 ?_
      refine ok_retz eX11_isGroupTold_51 rfl (Or.inl rfl) ?_
      exact ⟨rfl, rfl⟩
    · refine ok_step (ps := []) (L' := [some (.ref 0), some (.int (nI k)), some (.int x), some (.int many), some (.int q0), none]) (st' := [.int (nI 0)]) (σ' := (α, δ)) (pc' := 23) kX11_isGroupTold_22 rfl rfl rf_a0 ?_
      refine ok_retz eX11_isGroupTold_23 rfl (Or.inl rfl) ?_
      exact ⟨rfl, rfl⟩
theorem c_gok_3_x {k f : Nat} {x many : Int32} (hR : Rl 1 α (μ 95))(hk : k < 2147483648) (hf : f < 2147483648) (hx : x < 0) : rf_At (rf_T Ln xs) MX11_isGroupTold 3 0 ([some (.ref 0), some (.int (nI k)), some (.int (nI f)), some (.int many), some (.int x), none], [], 108, (α, δ)) (some (.int (nI 0))) 108 (α, δ) := by
  refine rf_pa ?_
  refine ok_step (ps := []) (L' := [some (.ref 0), some (.int (nI k)), some (.int (nI f)), some (.int many), some (.int x), none]) (st' := [.int (nI 799), .int (nI 0), .int (nI k)]) (σ' := (α, δ)) (pc' := 5) kX11_isGroupTold_0 rfl rfl rf_a0 ?_
  refine ok_S (As := [.int (nI k), .int (nI 0), .int (nI 799)]) (st := []) mkX11_within qX11_isGroupTold_5 rfl rfl rfl rfl rfl (Nat.le_of_ble_eq_true rfl) (c_within) ?_
  refine ok_if_eq bX11_isGroupTold_8 (fun h8 => ?_) (fun h8 => ?_)
  · refine ok_step (ps := []) (L' := [some (.ref 0), some (.int (nI k)), some (.int (nI f)), some (.int many), some (.int x), none]) (st' := [.int (nI 0)]) (σ' := (α, δ)) (pc' := 23) kX11_isGroupTold_22 rfl rfl rf_a0 ?_
    refine ok_retz eX11_isGroupTold_23 rfl (Or.inl rfl) ?_
    exact ⟨rfl, rfl⟩
  · refine ok_step (ps := [rf_nz (nI 100)]) (L' := [some (.ref 0), some (.int (nI k)), some (.int (nI f)), some (.int many), some (.int x), none]) (st' := [.int ((nI k) - (nI k) / (nI 100) * (nI 100)), .ref 0]) (σ' := (α, δ)) (pc' := 16) kX11_isGroupTold_11 rfl rfl (rf_a1 (by decide) rf_a0) ?_
    try rw [(show ((nI k) - (nI k) / (nI 100) * (nI 100)) = nI ((k % 100)) from rf_eq (pk_rem (a := k) (d := 100) (by omega) (by decide) (by decide)) (by omega))]
    refine ok_V (As := [.int (nI ((k % 100)))]) (b := 0) (st := []) mkX11_isTrain qX11_isGroupTold_16 rfl (rc_0) rfl rfl rfl rfl (Nat.le_of_ble_eq_true rfl) (c_isTrain_x hR) ?_
    refine ok_if_ne bX11_isGroupTold_19 (fun h19 => ?_) (fun h19 => ?_)
    · refine ok_step (ps := [rf_nz (nI 10)]) (L' := [some (.ref 0), some (.int (nI k)), some (.int (nI f)), some (.int many), some (.int x), some (.int ((nI f) - (nI f) / (nI 10) * (nI 10)))]) (st' := [.int (nI f)]) (σ' := (α, δ)) (pc' := 31) kX11_isGroupTold_24 rfl rfl (rf_a1 (by decide) rf_a0) ?_
      try rw [(show ((nI f) - (nI f) / (nI 10) * (nI 10)) = nI ((f % 10)) from rf_eq (pk_rem (a := f) (d := 10) (by omega) (by decide) (by decide)) (by omega))]
      refine ok_if_lt bX11_isGroupTold_31 (fun h31 => absurd h31 ((nI_pos (by omega)))) (fun _ => ?_)
      refine ok_step (ps := []) (L' := [some (.ref 0), some (.int (nI k)), some (.int (nI f)), some (.int many), some (.int x), some (.int (nI ((f % 10))))]) (st' := [.int (nI 6), .int (nI ((f % 10)))]) (σ' := (α, δ)) (pc' := 38) kX11_isGroupTold_34 rfl rfl rf_a0 ?_
      refine ok_icmp_ge bX11_isGroupTold_38 (fun h38 => ?_) (fun h38 => ?_)
      · refine ok_step (ps := []) (L' := [some (.ref 0), some (.int (nI k)), some (.int (nI f)), some (.int many), some (.int x), some (.int (nI ((f % 10))))]) (st' := [.int (nI 0)]) (σ' := (α, δ)) (pc' := 51) kX11_isGroupTold_50 rfl rfl rf_a0 ?_
        refine ok_retz eX11_isGroupTold_51 rfl (Or.inl rfl) ?_
        exact ⟨rfl, rfl⟩
      · refine ok_step (ps := [rf_nz (nI 10)]) (L' := [some (.ref 0), some (.int (nI k)), some (.int (nI f)), some (.int many), some (.int x), some (.int (nI ((f % 10))))]) (st' := [.int (nI ((f % 10))), .int ((nI f) / (nI 10))]) (σ' := (α, δ)) (pc' := 47) kX11_isGroupTold_41 rfl rfl (rf_a1 (by decide) rf_a0) ?_
        try rw [(show ((nI f) / (nI 10)) = nI ((f / 10)) from rf_eq (pk_div (a := f) (d := 10) (by omega) (by decide) (by decide)) (by omega))]
        refine ok_icmp_lt bX11_isGroupTold_47 (fun h47 => ?_) (fun h47 => ?_)
        · refine ok_step (ps := []) (L' := [some (.ref 0), some (.int (nI k)), some (.int (nI f)), some (.int many), some (.int x), some (.int (nI ((f % 10))))]) (st' := [.int (nI 999), .int (nI 1), .int many]) (σ' := (α, δ)) (pc' := 57) kX11_isGroupTold_52 rfl rfl rf_a0 ?_
          refine ok_S (As := [.int many, .int (nI 1), .int (nI 999)]) (st := []) mkX11_within qX11_isGroupTold_57 rfl rfl rfl rfl rfl (Nat.le_of_ble_eq_true rfl) (c_within) ?_
          refine ok_if_eq bX11_isGroupTold_60 (fun h60 => ?_) (fun h60 => ?_)
          · refine ok_step (ps := []) (L' := [some (.ref 0), some (.int (nI k)), some (.int (nI f)), some (.int many), some (.int x), some (.int (nI ((f % 10))))]) (st' := [.int (nI 0)]) (σ' := (α, δ)) (pc' := 76) kX11_isGroupTold_75 rfl rfl rf_a0 ?_
            refine ok_retz eX11_isGroupTold_76 rfl (Or.inl rfl) ?_
            exact ⟨rfl, rfl⟩
          · refine ok_step (ps := []) (L' := [some (.ref 0), some (.int (nI k)), some (.int (nI f)), some (.int many), some (.int x), some (.int (nI ((f % 10))))]) (st' := [.int x]) (σ' := (α, δ)) (pc' := 65) kX11_isGroupTold_63 rfl rfl rf_a0 ?_
            refine ok_S (As := [.int x]) (st := []) mkX11_isBelief qX11_isGroupTold_65 rfl rfl rfl rfl rfl (Nat.le_of_ble_eq_true rfl) (c_isB) ?_
            refine ok_if_eq bX11_isGroupTold_68 (fun _ => ?_) (fun h68 => absurd ((bI_0.mpr (if_pos hx))) h68)
            refine ok_step (ps := []) (L' := [some (.ref 0), some (.int (nI k)), some (.int (nI f)), some (.int many), some (.int x), some (.int (nI ((f % 10))))]) (st' := [.int (nI 0)]) (σ' := (α, δ)) (pc' := 76) kX11_isGroupTold_75 rfl rfl rf_a0 ?_
            refine ok_retz eX11_isGroupTold_76 rfl (Or.inl rfl) ?_
            exact ⟨rfl, rfl⟩
        · refine ok_step (ps := []) (L' := [some (.ref 0), some (.int (nI k)), some (.int (nI f)), some (.int many), some (.int x), some (.int (nI ((f % 10))))]) (st' := [.int (nI 0)]) (σ' := (α, δ)) (pc' := 51) kX11_isGroupTold_50 rfl rfl rf_a0 ?_
          refine ok_retz eX11_isGroupTold_51 rfl (Or.inl rfl) ?_
          exact ⟨rfl, rfl⟩
    · refine ok_step (ps := []) (L' := [some (.ref 0), some (.int (nI k)), some (.int (nI f)), some (.int many), some (.int x), none]) (st' := [.int (nI 0)]) (σ' := (α, δ)) (pc' := 23) kX11_isGroupTold_22 rfl rfl rf_a0 ?_
      refine ok_retz eX11_isGroupTold_23 rfl (Or.inl rfl) ?_
      exact ⟨rfl, rfl⟩
theorem c_gok_x {kt ft many pq : Int32} (hR : Rl 1 α (μ 95)) : rf_At (rf_T Ln xs) MX11_isGroupTold 3 0 ([some (.ref 0), some (.int kt), some (.int ft), some (.int many), some (.int pq), none], [], 108, (α, δ)) (some (.int (bI (gok (μ 95) kt ft many pq)))) 108 (α, δ) := by
  rcases neg_or kt with h | ⟨k, hk, rfl⟩
  · rw [show gok (μ 95) kt ft many pq = false from if_pos (Or.inl h)]
    exact c_gok_1_x hR h
  · rcases neg_or ft with h | ⟨f, hf, rfl⟩
    · rw [show gok (μ 95) (nI k) ft many pq = false from if_pos (Or.inr (Or.inl h))]
      exact c_gok_2_x hR hk h
    · rcases neg_or pq with h | ⟨q, hq, rfl⟩
      · rw [show gok (μ 95) (nI k) (nI f) many pq = false from if_pos (Or.inr (Or.inr h))]
        exact c_gok_3_x hR hk hf h
      · rw [gok_n hk hf hq]
        exact c_gok_n_x hR hk hf hq
end H42a
