theorem bd_t {k : Nat} (h : 530 ≤ k ∧ k < 680) : bd k = some 255 := bd_630 h.1 h.2
theorem Iv.tx {d d' : Nat → Int32} {u n : Nat} (h : Iv d) (hu : u ≤ 1) (hn : n ≤ 50) (hd : ∀ j, j ≠ 520 + u → ¬ (530 + 50 * u ≤ j ∧ j < 580 + 50 * u) → d' j = d j) (h5 : d' (520 + u) = nI n) (hb : ∀ i, i < 50 → ∃ m, m ≤ 255 ∧ d' (530 + 50 * u + i) = nI m) : Iv d' := by
  have b2 := h.le2
  have b3 := h.le3
  have b4 := h.le4
  have b5 := h.le5
  have q : ∀ k, k < 520 → cn d' k = cn d k := fun k hk => by unfold cn; rw [hd k (by omega) (by omega)]
  refine ⟨fun k b hk => ?_, fun l hl => ?_, fun t ht => ?_, fun g hg => ?_, fun s hs => ?_, fun s hs hs8 => ?_⟩
  · by_cases e1 : k = 520 + u
    · subst e1
      have e : u = 0 ∨ u = 1 := by omega
      have hbd : bd (520 + u) = some 50 := by rcases e with rfl | rfl <;> rfl
      rw [hbd] at hk
      cases hk
      exact ⟨n, hn, h5⟩
    · by_cases e2 : 530 + 50 * u ≤ k ∧ k < 580 + 50 * u
      · obtain ⟨m, m1, m2⟩ := hb (k - (530 + 50 * u)) (by omega)
        rw [show 530 + 50 * u + (k - (530 + 50 * u)) = k by omega] at m2
        have hbd : bd k = some 255 := bd_t (by omega)
        rw [hbd] at hk
        cases hk
        exact ⟨m, m1, m2⟩
      · rw [hd k e1 e2]
        exact h.1 k b hk
  · rw [q 2 (by omega)] at hl
    rw [q _ (by omega)]
    exact h.2.1 l hl
  · rw [q 3 (by omega)] at ht
    rw [q _ (by omega), q 2 (by omega)]
    exact h.2.2.1 t ht
  · rw [q 4 (by omega)] at hg
    rw [q _ (by omega), q 3 (by omega), q _ (by omega), q _ (by omega)]
    exact h.2.2.2.1 g hg
  · rw [q 5 (by omega)] at hs
    rw [q _ (by omega), q 3 (by omega)]
    exact h.2.2.2.2.1 s hs
  · rw [q 5 (by omega)] at hs
    rw [q _ (by omega)]
    exact h.2.2.2.2.2 s hs hs8
theorem dec_tx {j : Nat} (h : (dec j).isSome = true) : j < 520 ∨ 630 ≤ j := by
  rcases Nat.lt_or_ge j 520 with h1 | h1
  · exact Or.inl h1
  · rcases Nat.lt_or_ge j 630 with h2 | h2
    · exfalso
      unfold dec at h
      rw [if_neg (by omega), if_neg (by omega), if_neg (by omega), if_neg (by omega), if_neg (by omega), if_neg (by omega), if_neg (by omega), if_neg (by omega), if_neg (by omega), if_neg (by omega), if_neg (by omega), if_neg (by omega), if_neg (by omega), if_neg (by omega), if_neg (by omega), if_neg (by omega), if_neg (by omega), if_neg (by omega), if_neg (by omega), if_neg (by omega), if_neg (by omega), if_neg (by omega), if_neg (by omega), if_neg (by omega), if_neg (by omega), if_pos (by omega)] at h
      cases h
    · exact Or.inr h2
theorem J.w11 {α μ : Nat → Nat → Int32} (hJ : J α μ) : J (rf_w α 26 0 (nI 0)) (rf_w μ 95 11 (nI 0)) := by
  refine ⟨hJ.1.put (c := 25) (i := 0) (j := 11) rfl _, ?_⟩
  rw [rf_w_self]
  exact hJ.2.put (fun bb hb => ⟨0, by cases hb; omega, rfl⟩) (by unfold nst; omega)
theorem J.tx0 {α α' μ μ' : Nat → Nat → Int32} (h : J α μ) (ha : ∀ k, k ≠ 29 → k ≠ 30 → α' k = α k) (hm : ∀ k, k ≠ 95 → μ' k = μ k) (hd : ∀ j, j ≠ 520 → ¬ (530 ≤ j ∧ j < 580) → μ' 95 j = μ 95 j) (hT : Tx 0 (α' 29 0) (α' 30) (μ' 95 520) (fun i => μ' 95 (530 + i))) (hI : Iv (μ' 95)) : J α' μ' := by
  obtain ⟨⟨⟨r1, t1, t2⟩, h2, h3, h4, ⟨v1, v2, v3⟩, h6⟩, -⟩ := h
  refine ⟨⟨⟨?_, hT, ?_⟩, fun h0 => ?_, ?_, fun k hk => ?_, ⟨?_, ?_, fun i hi => ?_⟩, fun s hs => ?_⟩, hI⟩
  · exact r1.same (fun c hc i => by rw [ha (1 + c) (by omega) (by omega)]) (fun j hj => by have := dec_tx hj; exact hd j (by omega) (by omega))
  · rw [ha 32 (by decide) (by decide), ha 33 (by decide) (by decide), hd 521 (by decide) (by decide)]
    exact t2.same (fun i hi => hd _ (by omega) (by omega)) (fun _ _ => rfl)
  · rw [hm 94 (by decide)] at h0
    obtain ⟨q1, q2, q3, q4⟩ := h2 h0
    rw [hm 96 (by decide)]
    refine ⟨q1.same (fun c hc i => by rw [ha (38 + c) (by omega) (by omega)]) (fun _ _ => rfl), q2, ?_, ?_⟩
    · rw [ha (38 + 28) (by decide) (by decide), ha (38 + 29) (by decide) (by decide)]; exact q3
    · rw [ha (38 + 31) (by decide) (by decide), ha (38 + 32) (by decide) (by decide)]; exact q4
  · rw [ha 0 (by decide) (by decide), hm 94 (by decide)]; exact h3
  · rw [ha 93 (by decide) (by decide), hm 97 (by decide)]; exact h4 k hk
  · rw [ha 83 (by decide) (by decide), hm 94 (by decide)]; exact v1
  · rw [hm 94 (by decide)]; exact v2
  · rw [ha 84 (by decide) (by decide), hm 103 (by decide)]; exact v3 i hi
  · obtain ⟨s1, s2, s3, s4, s5⟩ := h6 s hs
    rw [ha 86 (by decide) (by decide), ha 87 (by decide) (by decide), hm 104 (by decide), hm 105 (by decide), hm 106 (by decide), ha (89 + s) (by omega) (by omega)]
    exact ⟨s1, s2, s3, s4, s5⟩
theorem J.tx1 {α α' μ μ' : Nat → Nat → Int32} (h : J α μ) (ha : ∀ k, k ≠ 32 → k ≠ 33 → α' k = α k) (hm : ∀ k, k ≠ 95 → μ' k = μ k) (hd : ∀ j, j ≠ 521 → ¬ (580 ≤ j ∧ j < 630) → μ' 95 j = μ 95 j) (hT : Tx 1 (α' 32 0) (α' 33) (μ' 95 521) (fun i => μ' 95 (580 + i))) (hI : Iv (μ' 95)) : J α' μ' := by
  obtain ⟨⟨⟨r1, t1, t2⟩, h2, h3, h4, ⟨v1, v2, v3⟩, h6⟩, -⟩ := h
  refine ⟨⟨⟨?_, ?_, hT⟩, fun h0 => ?_, ?_, fun k hk => ?_, ⟨?_, ?_, fun i hi => ?_⟩, fun s hs => ?_⟩, hI⟩
  · exact r1.same (fun c hc i => by rw [ha (1 + c) (by omega) (by omega)]) (fun j hj => by have := dec_tx hj; exact hd j (by omega) (by omega))
  · rw [ha 29 (by decide) (by decide), ha 30 (by decide) (by decide), hd 520 (by decide) (by decide)]
    exact t1.same (fun i hi => hd _ (by omega) (by omega)) (fun _ _ => rfl)
  · rw [hm 94 (by decide)] at h0
    obtain ⟨q1, q2, q3, q4⟩ := h2 h0
    rw [hm 96 (by decide)]
    refine ⟨q1.same (fun c hc i => by rw [ha (38 + c) (by omega) (by omega)]) (fun _ _ => rfl), q2, ?_, ?_⟩
    · rw [ha (38 + 28) (by decide) (by decide), ha (38 + 29) (by decide) (by decide)]; exact q3
    · rw [ha (38 + 31) (by decide) (by decide), ha (38 + 32) (by decide) (by decide)]; exact q4
  · rw [ha 0 (by decide) (by decide), hm 94 (by decide)]; exact h3
  · rw [ha 93 (by decide) (by decide), hm 97 (by decide)]; exact h4 k hk
  · rw [ha 83 (by decide) (by decide), hm 94 (by decide)]; exact v1
  · rw [hm 94 (by decide)]; exact v2
  · rw [ha 84 (by decide) (by decide), hm 103 (by decide)]; exact v3 i hi
  · obtain ⟨s1, s2, s3, s4, s5⟩ := h6 s hs
    rw [ha 86 (by decide) (by decide), ha 87 (by decide) (by decide), hm 104 (by decide), hm 105 (by decide), hm 106 (by decide), ha (89 + s) (by omega) (by omega)]
    exact ⟨s1, s2, s3, s4, s5⟩
section H58
variable {Ln : Nat} {xs : Nat → Int32} {α μ γ : Nat → Nat → Int32}
theorem c_textOf0 : rf_At (rf_T Ln xs) MX10_textOf 1 0 ([some (.ref 1), some (.int (nI 0))], [], 108, (α, μ)) (some (.ref 29)) 108 (α, μ) := by
  refine rf_pa ?_
  refine ok_step (ps := []) (L' := [some (.ref 1), some (.int (nI 0))]) (st' := [.int (nI 0)]) (σ' := (α, μ)) (pc' := 1) kX10_textOf_0 rfl rfl rf_a0 ?_
  refine ok_if_ne bX10_textOf_1 (fun h1 => absurd ((by decide)) h1) (fun _ => ?_)
  refine ok_step (ps := []) (L' := [some (.ref 1), some (.int (nI 0))]) (st' := [.ref 29]) (σ' := (α, μ)) (pc' := 8) kX10_textOf_4 rfl rfl rf_a0 ?_
  refine ok_goto bX10_textOf_8 ?_
  refine ok_reta eX10_textOf_15 rfl ?_
  exact ⟨rfl, rfl⟩
theorem c_textOf1 : rf_At (rf_T Ln xs) MX10_textOf 1 0 ([some (.ref 1), some (.int (nI 1))], [], 108, (α, μ)) (some (.ref 32)) 108 (α, μ) := by
  refine rf_pa ?_
  refine ok_step (ps := []) (L' := [some (.ref 1), some (.int (nI 1))]) (st' := [.int (nI 1)]) (σ' := (α, μ)) (pc' := 1) kX10_textOf_0 rfl rfl rf_a0 ?_
  refine ok_if_ne bX10_textOf_1 (fun _ => ?_) (fun h1 => absurd h1 ((by decide)))
  refine ok_step (ps := []) (L' := [some (.ref 1), some (.int (nI 1))]) (st' := [.ref 32]) (σ' := (α, μ)) (pc' := 15) kX10_textOf_11 rfl rfl rf_a0 ?_
  refine ok_reta eX10_textOf_15 rfl ?_
  exact ⟨rfl, rfl⟩
theorem cr_77_30 : rf_Ok (rf_T Ln xs) MX11_copyRow 1 0 [some (.ref 77), some (.ref 30)] [] (α, μ) (fun r s => r = none ∧ ∃ α' : Nat → Nat → Int32, s = (α', μ) ∧ (∀ i, i < 50 → α' 30 i = α 77 i) ∧ ∀ k, k ≠ 30 → α' k = α k) := by
  refine ok_step (ps := [rf_cp (nI 0) (nI 0) (rf_min (nI 50) (nI 50)) 50 50]) (L' := [some (.ref 77), some (.ref 30)]) (st' := []) (σ' := (rf_r α 30 (va_cpy (α 77) (α 30) ((nI 0).toNatClampNeg) ((nI 0).toNatClampNeg) ((rf_min (nI 50) (nI 50)).toNatClampNeg)), μ)) (pc' := 14) kX11_copyRow_0 rfl rfl (rf_a1 (by decide) rf_a0) ?_
  try rw [(show (rf_min (nI 50) (nI 50)) = nI 50 from rfl)]
  try rw [(show (nI 0).toNatClampNeg = 0 from rf_cl_n rfl (by omega))]
  try rw [(show (nI 50).toNatClampNeg = 50 from rf_cl_n rfl (by omega))]
  refine ok_retv eX11_copyRow_14 rfl ?_
  refine ⟨rfl, _, rfl, fun i hi => ?_, fun k hk => ?_⟩
  · show (if 30 = 30 then va_cpy (α 77) (α 30) 0 0 50 else α 30) i = _
    rw [if_pos rfl]
    unfold va_cpy
    rw [if_pos (by omega)]
    exact congrArg (α 77) (by omega)
  · exact if_neg hk
theorem cw_t29 : rf_Ok (rf_T Ln xs) MX8_copyFrom 2 0 [some (.ref 29), some (.ref 76)] [] (α, μ) (fun r s => r = none ∧ ∃ α' : Nat → Nat → Int32, s = (α', μ) ∧ α' 29 0 = α 76 0 ∧ (∀ i, i < 50 → α' 30 i = α 77 i) ∧ ∀ k, k ≠ 29 → k ≠ 30 → α' k = α k) := by
  refine ok_step (ps := []) (L' := [some (.ref 29), some (.ref 76)]) (st' := [.ref 30, .ref 77]) (σ' := (rf_w α 29 0 (α 76 0), μ)) (pc' := 16) kX8_copyFrom_0 rfl rfl rf_a0 ?_
  refine ok_Sx (As := [.ref 77, .ref 30]) (st := []) mkX11_copyRow qX8_copyFrom_16 rfl rfl rfl rfl rfl (Nat.le_of_ble_eq_true rfl) (cr_77_30) (fun r1 σ1 hq => ?_)
  obtain ⟨rfl, α1, rfl, a1, b1⟩ := hq
  refine ok_retv eX8_copyFrom_19 rfl ?_
  exact ⟨rfl, _, rfl, by rw [b1 29 (by decide), rf_w_at, if_pos ⟨rfl, rfl⟩], fun i hi => by rw [a1 i hi, rf_w_row (by decide)], fun k k1 k2 => by rw [b1 k k2, rf_w_row k1]⟩
theorem cr_77_33 : rf_Ok (rf_T Ln xs) MX11_copyRow 1 0 [some (.ref 77), some (.ref 33)] [] (α, μ) (fun r s => r = none ∧ ∃ α' : Nat → Nat → Int32, s = (α', μ) ∧ (∀ i, i < 50 → α' 33 i = α 77 i) ∧ ∀ k, k ≠ 33 → α' k = α k) := by
  refine ok_step (ps := [rf_cp (nI 0) (nI 0) (rf_min (nI 50) (nI 50)) 50 50]) (L' := [some (.ref 77), some (.ref 33)]) (st' := []) (σ' := (rf_r α 33 (va_cpy (α 77) (α 33) ((nI 0).toNatClampNeg) ((nI 0).toNatClampNeg) ((rf_min (nI 50) (nI 50)).toNatClampNeg)), μ)) (pc' := 14) kX11_copyRow_0 rfl rfl (rf_a1 (by decide) rf_a0) ?_
  try rw [(show (rf_min (nI 50) (nI 50)) = nI 50 from rfl)]
  try rw [(show (nI 0).toNatClampNeg = 0 from rf_cl_n rfl (by omega))]
  try rw [(show (nI 50).toNatClampNeg = 50 from rf_cl_n rfl (by omega))]
  refine ok_retv eX11_copyRow_14 rfl ?_
  refine ⟨rfl, _, rfl, fun i hi => ?_, fun k hk => ?_⟩
  · show (if 33 = 33 then va_cpy (α 77) (α 33) 0 0 50 else α 33) i = _
    rw [if_pos rfl]
    unfold va_cpy
    rw [if_pos (by omega)]
    exact congrArg (α 77) (by omega)
  · exact if_neg hk
theorem cw_t32 : rf_Ok (rf_T Ln xs) MX8_copyFrom 2 0 [some (.ref 32), some (.ref 76)] [] (α, μ) (fun r s => r = none ∧ ∃ α' : Nat → Nat → Int32, s = (α', μ) ∧ α' 32 0 = α 76 0 ∧ (∀ i, i < 50 → α' 33 i = α 77 i) ∧ ∀ k, k ≠ 32 → k ≠ 33 → α' k = α k) := by
  refine ok_step (ps := []) (L' := [some (.ref 32), some (.ref 76)]) (st' := [.ref 33, .ref 77]) (σ' := (rf_w α 32 0 (α 76 0), μ)) (pc' := 16) kX8_copyFrom_0 rfl rfl rf_a0 ?_
  refine ok_Sx (As := [.ref 77, .ref 33]) (st := []) mkX11_copyRow qX8_copyFrom_16 rfl rfl rfl rfl rfl (Nat.le_of_ble_eq_true rfl) (cr_77_33) (fun r1 σ1 hq => ?_)
  obtain ⟨rfl, α1, rfl, a1, b1⟩ := hq
  refine ok_retv eX8_copyFrom_19 rfl ?_
  exact ⟨rfl, _, rfl, by rw [b1 32 (by decide), rf_w_at, if_pos ⟨rfl, rfl⟩], fun i hi => by rw [a1 i hi, rf_w_row (by decide)], fun k k1 k2 => by rw [b1 k k2, rf_w_row k1]⟩
theorem m_tx0 {ρ : Nat → Nat → Int32} {n : Nat} (hn : n ≤ 50) : ∀ (q k : Nat), k + q = n → rf_Ok (rf_T Ln xs) MX12_text 60 71 [some (.ref 94), some (.int (nI 0)), some (.int (nI n)), none, some (.int (nI k))] [] (γ, rf_r ρ 95 (cps 530 k (fun i => ρ 95 (630 + i)) (ρ 95))) (fun r t => r = some (.int (nI 1)) ∧ t = (γ, rf_r ρ 95 (cps 530 n (fun i => ρ 95 (630 + i)) (ρ 95)))) := by
  intro q
  induction q with
  | zero =>
    intro k hk
    obtain rfl : k = n := by omega
    refine ok_step (ps := []) (L' := [some (.ref 94), some (.int (nI 0)), some (.int (nI k)), none, some (.int (nI k))]) (st' := [.int (nI k), .int (nI k)]) (σ' := (γ, rf_r ρ 95 (cps 530 k (fun i => ρ 95 (630 + i)) (ρ 95)))) (pc' := 74) kX12_text_71 rfl rfl rf_a0 ?_
    refine ok_icmp_ge bX12_text_74 (fun _ => ?_) (fun h74 => absurd (nI_le (by omega) (by omega)) h74)
    refine ok_step (ps := []) (L' := [some (.ref 94), some (.int (nI 0)), some (.int (nI k)), none, some (.int (nI k))]) (st' := [.int (nI 1)]) (σ' := (γ, rf_r ρ 95 (cps 530 k (fun i => ρ 95 (630 + i)) (ρ 95)))) (pc' := 111) kX12_text_110 rfl rfl rf_a0 ?_
    refine ok_reti eX12_text_111 rfl ?_
    exact ⟨rfl, rfl⟩
  | succ q ih =>
    intro k hk
    refine ok_step (ps := []) (L' := [some (.ref 94), some (.int (nI 0)), some (.int (nI n)), none, some (.int (nI k))]) (st' := [.int (nI n), .int (nI k)]) (σ' := (γ, rf_r ρ 95 (cps 530 k (fun i => ρ 95 (630 + i)) (ρ 95)))) (pc' := 74) kX12_text_71 rfl rfl rf_a0 ?_
    refine ok_icmp_ge bX12_text_74 (fun h74 => absurd h74 (nI_ge (by omega) (by omega))) (fun _ => ?_)
    refine ok_step (ps := [rf_in ((nI 630) + (nI k)) 700, rf_in (((nI 530) + ((nI 50) * (nI 0))) + (nI k)) 700]) (L' := [some (.ref 94), some (.int (nI 0)), some (.int (nI n)), none, some (.int ((nI k) + (nI 1)))]) (st' := []) (σ' := (γ, rf_w (rf_r ρ 95 (cps 530 k (fun i => ρ 95 (630 + i)) (ρ 95))) 95 ((((nI 530) + ((nI 50) * (nI 0))) + (nI k)).toNatClampNeg) ((rf_r ρ 95 (cps 530 k (fun i => ρ 95 (630 + i)) (ρ 95))) 95 (((nI 630) + (nI k)).toNatClampNeg)))) (pc' := 107) kX12_text_77 rfl rfl (rf_a1 (rf_in_n (a := (630 + k)) (by (try rw [(show ((nI 50) * (nI 0)) = nI 0 from rf_eq (rf_nmul (x := nI 50) (y := nI 0) rfl rfl) (by omega))]); (try rw [(show ((nI 530) + (nI 0)) = nI 530 from rf_eq (rf_nadd (x := nI 530) (y := nI 0) rfl rfl) (by omega))]); (try rw [(show ((nI 530) + (nI k)) = nI (530 + k) from rf_eq (rf_nadd (x := nI 530) (y := nI k) rfl rfl) (by omega))]); (try rw [(show ((nI 630) + (nI k)) = nI (630 + k) from rf_eq (rf_nadd (x := nI 630) (y := nI k) rfl rfl) (by omega))]); all_goals exact rfl) (by omega)) (rf_a1 (rf_in_n (a := (530 + k)) (by (try rw [(show ((nI 50) * (nI 0)) = nI 0 from rf_eq (rf_nmul (x := nI 50) (y := nI 0) rfl rfl) (by omega))]); (try rw [(show ((nI 530) + (nI 0)) = nI 530 from rf_eq (rf_nadd (x := nI 530) (y := nI 0) rfl rfl) (by omega))]); (try rw [(show ((nI 530) + (nI k)) = nI (530 + k) from rf_eq (rf_nadd (x := nI 530) (y := nI k) rfl rfl) (by omega))]); (try rw [(show ((nI 630) + (nI k)) = nI (630 + k) from rf_eq (rf_nadd (x := nI 630) (y := nI k) rfl rfl) (by omega))]); (try rw [(show (nI (630 + k)).toNatClampNeg = (630 + k) from rf_cl_n rfl (by omega))]); (try rw [(show (rf_r ρ 95 (cps 530 k (fun i => ρ 95 (630 + i)) (ρ 95))) 95 (630 + k) = ρ 95 (630 + k) from by rw [rfr_self]; exact if_neg (by omega))]); all_goals exact rfl) (by omega)) rf_a0)) ?_
    try rw [(show ((nI 50) * (nI 0)) = nI 0 from rf_eq (rf_nmul (x := nI 50) (y := nI 0) rfl rfl) (by omega))]
    try rw [(show ((nI 530) + (nI 0)) = nI 530 from rf_eq (rf_nadd (x := nI 530) (y := nI 0) rfl rfl) (by omega))]
    try rw [(show ((nI 530) + (nI k)) = nI (530 + k) from rf_eq (rf_nadd (x := nI 530) (y := nI k) rfl rfl) (by omega))]
    try rw [(show ((nI 630) + (nI k)) = nI (630 + k) from rf_eq (rf_nadd (x := nI 630) (y := nI k) rfl rfl) (by omega))]
    try rw [(show (nI (630 + k)).toNatClampNeg = (630 + k) from rf_cl_n rfl (by omega))]
    try rw [(show (rf_r ρ 95 (cps 530 k (fun i => ρ 95 (630 + i)) (ρ 95))) 95 (630 + k) = ρ 95 (630 + k) from by rw [rfr_self]; exact if_neg (by omega))]
    try rw [(show (nI (530 + k)).toNatClampNeg = (530 + k) from rf_cl_n rfl (by omega))]
    try rw [(show ((nI k) + (nI 1)) = nI (k + 1) from nI_add _ _)]
    refine ok_goto bX12_text_107 ?_
    rw [rfw_cps (g := fun i => ρ 95 (630 + i)) rfl (by omega)]
    exact ih (k + 1) (by omega)
theorem m_tx1 {ρ : Nat → Nat → Int32} {n : Nat} (hn : n ≤ 50) : ∀ (q k : Nat), k + q = n → rf_Ok (rf_T Ln xs) MX12_text 60 71 [some (.ref 94), some (.int (nI 1)), some (.int (nI n)), none, some (.int (nI k))] [] (γ, rf_r ρ 95 (cps 580 k (fun i => ρ 95 (630 + i)) (ρ 95))) (fun r t => r = some (.int (nI 1)) ∧ t = (γ, rf_r ρ 95 (cps 580 n (fun i => ρ 95 (630 + i)) (ρ 95)))) := by
  intro q
  induction q with
  | zero =>
    intro k hk
    obtain rfl : k = n := by omega
    refine ok_step (ps := []) (L' := [some (.ref 94), some (.int (nI 1)), some (.int (nI k)), none, some (.int (nI k))]) (st' := [.int (nI k), .int (nI k)]) (σ' := (γ, rf_r ρ 95 (cps 580 k (fun i => ρ 95 (630 + i)) (ρ 95)))) (pc' := 74) kX12_text_71 rfl rfl rf_a0 ?_
    refine ok_icmp_ge bX12_text_74 (fun _ => ?_) (fun h74 => absurd (nI_le (by omega) (by omega)) h74)
    refine ok_step (ps := []) (L' := [some (.ref 94), some (.int (nI 1)), some (.int (nI k)), none, some (.int (nI k))]) (st' := [.int (nI 1)]) (σ' := (γ, rf_r ρ 95 (cps 580 k (fun i => ρ 95 (630 + i)) (ρ 95)))) (pc' := 111) kX12_text_110 rfl rfl rf_a0 ?_
    refine ok_reti eX12_text_111 rfl ?_
    exact ⟨rfl, rfl⟩
  | succ q ih =>
    intro k hk
    refine ok_step (ps := []) (L' := [some (.ref 94), some (.int (nI 1)), some (.int (nI n)), none, some (.int (nI k))]) (st' := [.int (nI n), .int (nI k)]) (σ' := (γ, rf_r ρ 95 (cps 580 k (fun i => ρ 95 (630 + i)) (ρ 95)))) (pc' := 74) kX12_text_71 rfl rfl rf_a0 ?_
    refine ok_icmp_ge bX12_text_74 (fun h74 => absurd h74 (nI_ge (by omega) (by omega))) (fun _ => ?_)
    refine ok_step (ps := [rf_in ((nI 630) + (nI k)) 700, rf_in (((nI 530) + ((nI 50) * (nI 1))) + (nI k)) 700]) (L' := [some (.ref 94), some (.int (nI 1)), some (.int (nI n)), none, some (.int ((nI k) + (nI 1)))]) (st' := []) (σ' := (γ, rf_w (rf_r ρ 95 (cps 580 k (fun i => ρ 95 (630 + i)) (ρ 95))) 95 ((((nI 530) + ((nI 50) * (nI 1))) + (nI k)).toNatClampNeg) ((rf_r ρ 95 (cps 580 k (fun i => ρ 95 (630 + i)) (ρ 95))) 95 (((nI 630) + (nI k)).toNatClampNeg)))) (pc' := 107) kX12_text_77 rfl rfl (rf_a1 (rf_in_n (a := (630 + k)) (by (try rw [(show ((nI 50) * (nI 1)) = nI 50 from rf_eq (rf_nmul (x := nI 50) (y := nI 1) rfl rfl) (by omega))]); (try rw [(show ((nI 530) + (nI 50)) = nI 580 from rf_eq (rf_nadd (x := nI 530) (y := nI 50) rfl rfl) (by omega))]); (try rw [(show ((nI 580) + (nI k)) = nI (580 + k) from rf_eq (rf_nadd (x := nI 580) (y := nI k) rfl rfl) (by omega))]); (try rw [(show ((nI 630) + (nI k)) = nI (630 + k) from rf_eq (rf_nadd (x := nI 630) (y := nI k) rfl rfl) (by omega))]); all_goals exact rfl) (by omega)) (rf_a1 (rf_in_n (a := (580 + k)) (by (try rw [(show ((nI 50) * (nI 1)) = nI 50 from rf_eq (rf_nmul (x := nI 50) (y := nI 1) rfl rfl) (by omega))]); (try rw [(show ((nI 530) + (nI 50)) = nI 580 from rf_eq (rf_nadd (x := nI 530) (y := nI 50) rfl rfl) (by omega))]); (try rw [(show ((nI 580) + (nI k)) = nI (580 + k) from rf_eq (rf_nadd (x := nI 580) (y := nI k) rfl rfl) (by omega))]); (try rw [(show ((nI 630) + (nI k)) = nI (630 + k) from rf_eq (rf_nadd (x := nI 630) (y := nI k) rfl rfl) (by omega))]); (try rw [(show (nI (630 + k)).toNatClampNeg = (630 + k) from rf_cl_n rfl (by omega))]); (try rw [(show (rf_r ρ 95 (cps 580 k (fun i => ρ 95 (630 + i)) (ρ 95))) 95 (630 + k) = ρ 95 (630 + k) from by rw [rfr_self]; exact if_neg (by omega))]); all_goals exact rfl) (by omega)) rf_a0)) ?_
    try rw [(show ((nI 50) * (nI 1)) = nI 50 from rf_eq (rf_nmul (x := nI 50) (y := nI 1) rfl rfl) (by omega))]
    try rw [(show ((nI 530) + (nI 50)) = nI 580 from rf_eq (rf_nadd (x := nI 530) (y := nI 50) rfl rfl) (by omega))]
    try rw [(show ((nI 580) + (nI k)) = nI (580 + k) from rf_eq (rf_nadd (x := nI 580) (y := nI k) rfl rfl) (by omega))]
    try rw [(show ((nI 630) + (nI k)) = nI (630 + k) from rf_eq (rf_nadd (x := nI 630) (y := nI k) rfl rfl) (by omega))]
    try rw [(show (nI (630 + k)).toNatClampNeg = (630 + k) from rf_cl_n rfl (by omega))]
    try rw [(show (rf_r ρ 95 (cps 580 k (fun i => ρ 95 (630 + i)) (ρ 95))) 95 (630 + k) = ρ 95 (630 + k) from by rw [rfr_self]; exact if_neg (by omega))]
    try rw [(show (nI (580 + k)).toNatClampNeg = (580 + k) from rf_cl_n rfl (by omega))]
    try rw [(show ((nI k) + (nI 1)) = nI (k + 1) from nI_add _ _)]
    refine ok_goto bX12_text_107 ?_
    rw [rfw_cps (g := fun i => ρ 95 (630 + i)) rfl (by omega)]
    exact ih (k + 1) (by omega)
theorem J.tp {n : Nat} (hJ : J α μ) (e : n = cn (μ 95) 11) : Tp α n := by
  have hI := hJ.2
  have b := hI.le11
  subst e
  refine ⟨b, (hJ.1.1.1 25 0 11 rfl).trans hI.at11, fun i hi => ?_⟩
  have hb := bd_t (k := 630 + i) (by omega)
  exact ⟨cn (μ 95) (630 + i), hI.leb hb (by decide), (rl_26 hJ.1.1.1 (i := i) (by omega) rfl).trans (hI.atb hb (by decide))⟩
theorem op_text0 (hJ : J α μ) : Op (rf_T Ln xs) MX11_text MX12_text [some (.ref 0), some (.int (nI 0)), none] [some (.ref 94), some (.int (nI 0)), none, none, none] α μ := by
  have hR := hJ.1.1.1
  have hI := hJ.2
  obtain ⟨n, en⟩ : ∃ n, n = cn (μ 95) 11 := ⟨_, rfl⟩
  have hT := hJ.tp en
  have hn := hT.1
  have e11 : μ 95 11 = nI n := by rw [en]; exact hI.at11
  have hk := pr_ok (u := 0) (n := n) (x := nxb (α 27) n) (by decide) nxb_x 60 0 0 0 (by omega)
  change PK 0 n 0 (prt 0 (α 27) n) at hk
  have hJ1 := hJ.w11
  have ep : prt 0 (fun i => rf_w μ 95 11 (nI 0) 95 (630 + i)) n = prt 0 (α 27) n := prt_congr (fun i hi => by
    rw [rf_w_at, if_neg (by omega)]
    exact (rl_26 hR (i := i) (by omega) rfl).symm)
  have hmw := fun γ => m_worked (Ln := Ln) (xs := xs) (α := γ) (u := 0) (b := 630) (n := n) (ν := rf_w μ 95 11 (nI 0)) (by decide) (by omega) hn
  simp only [ep] at hmw
  refine ok_step (ps := []) (L' := [some (.ref 0), some (.int (nI 0)), none]) (st' := [.int (nI 1), .int (nI 0), .int (nI 0)]) (σ' := (α, μ)) (pc' := 3) kX11_text_0 rfl rfl rf_a0 ?_
  refine ok_S (As := [.int (nI 0), .int (nI 0), .int (nI 1)]) (st := []) mkX11_within qX11_text_3 rfl rfl rfl rfl rfl (Nat.le_of_ble_eq_true rfl) (c_within) ?_
  rw [show bI (wi (nI 0) (nI 0) (nI 1)) = nI 1 from rfl]
  refine ok_if_ne bX11_text_6 (fun _ => ?_) (fun h6 => absurd h6 ((by decide)))
  refine ok_step (ps := []) (L' := [some (.ref 0), some (.int (nI 0)), none]) (st' := [.int (nI 0), .ref 26, .ref 75]) (σ' := (α, μ)) (pc' := 28) kX11_text_16 rfl rfl rf_a0 ?_
  refine ok_Vx (As := [.ref 26, .int (nI 0)]) (b := 75) (st := []) mkX2_read qX11_text_28 rfl (rc_75) rfl rfl rfl rfl (Nat.le_of_ble_eq_true rfl) (c_read0 hT) (fun r1 σ1 hq => ?_)
  obtain ⟨rfl, β, c, rfl, hr, hc⟩ := hq
  have hJ2 : ∀ ν, sB (rf_w μ 95 11 (nI 0)) ν → J (rf_w β 26 0 (nI 0)) ν := fun ν hB => hJ1.same (fun k i hk => by
    by_cases e : k = 26
    · subst e
      rw [rf_w_at, rf_w_at, hr.1 26 (by decide) (by decide) (by decide)]
    · rw [rf_w_row e, rf_w_row e, hr.1 k (by unfold jA at hk; omega) (by unfold jA at hk; omega) (by unfold jA at hk; omega)]) (fun k i hk => by
    unfold jB at hk
    by_cases e : k = 94
    · subst e
      exact hB.2 i (by omega)
    · rw [hB.1 k e (by omega)])
  obtain ⟨Pp, ePp⟩ : ∃ Pp, prt 0 (α 27) n = Pp := ⟨_, rfl⟩
  rw [ePp] at hk hr hc ⊢
  simp only [ePp] at hmw
  obtain ⟨bb, a2, c2⟩ := Pp
  obtain ⟨k1, k2, k3, k4, k5⟩ := hk
  simp only at k1 k2 k3 k4
  change Rd α β 0 n a2 c at hr
  by_cases hg : bb = true ∧ a2 = n
  · obtain ⟨rfl, rfl⟩ := hg
    rw [if_pos ⟨rfl, rfl⟩]
    have hc2 : c = c2 := hc rfl
    subst hc2
    refine ok_step (ps := []) (L' := [some (.ref 0), some (.int (nI 0)), some (.int (-1))]) (st' := [.int (-1)]) (σ' := (rf_w β 26 0 (nI 0), μ)) (pc' := 44) kX11_text_31 rfl rfl rf_a0 ?_
    refine ok_if_lt bX11_text_44 (fun _ => ?_) (fun h44 => absurd (by decide) h44)
    refine ok_step (ps := []) (L' := [some (.ref 0), some (.int (nI 0)), some (.int (-1))]) (st' := [.int (nI 0), .ref 1]) (σ' := (rf_w β 26 0 (nI 0), μ)) (pc' := 57) kX11_text_52 rfl rfl rf_a0 ?_
    refine ok_V (As := [.int (nI 0)]) (b := 1) (st := []) mkX10_textOf qX11_text_57 rfl (rc_1) rfl rfl rfl rfl (Nat.le_of_ble_eq_true rfl) (c_textOf0) ?_
    refine ok_step (ps := []) (L' := [some (.ref 0), some (.int (nI 0)), some (.int (-1))]) (st' := [.ref 76, .ref 29]) (σ' := (rf_w β 26 0 (nI 0), μ)) (pc' := 67) kX11_text_60 rfl rfl rf_a0 ?_
    refine ok_Vx (As := [.ref 76]) (b := 29) (st := []) mkX8_copyFrom qX11_text_67 rfl (rc_29) rfl rfl rfl rfl (Nat.le_of_ble_eq_true rfl) (cw_t29) (fun r1 σ1 hq => ?_)
    obtain ⟨rfl, α2, rfl, x1, x2, x3⟩ := hq
    refine ok_step (ps := []) (L' := [some (.ref 0), some (.int (nI 0)), some (.int (-1))]) (st' := [.int (nI 1)]) (σ' := (α2, μ)) (pc' := 71) kX11_text_70 rfl rfl rf_a0 ?_
    refine ok_reti eX11_text_71 rfl ?_
    refine ⟨rfl, _, rfl, ?_⟩
    refine ok_step (ps := []) (L' := [some (.ref 94), some (.int (nI 0)), none, none, none]) (st' := [.long (lN 1), .long (lN 0), .long ((nI 0).toInt64)]) (σ' := (α2, μ)) (pc' := 4) kX12_text_0 rfl rfl rf_a0 ?_
    refine ok_S (As := [.long ((nI 0).toInt64), .long (lN 0), .long (lN 1)]) (st := []) mkX12_in qX12_text_4 rfl rfl rfl rfl rfl (Nat.le_of_ble_eq_true rfl) (m_in) ?_
    rw [show wl ((nI 0).toInt64) (lN 0) (lN 1) = wi (nI 0) (nI 0) (nI 1) from wl_of rfl (nI_l (by decide)).symm (nI_l (by decide)).symm, show bI (wi (nI 0) (nI 0) (nI 1)) = nI 1 from rfl]
    refine ok_if_ne bX12_text_7 (fun _ => ?_) (fun g7 => absurd g7 ((by decide)))
    refine ok_step (ps := [rf_in (nI 11) 700, rf_in (nI 11) 700]) (L' := [some (.ref 94), some (.int (nI 0)), some (.int (μ 95 ((nI 11).toNatClampNeg))), none, none]) (st' := [.int (nI 0), .int (μ 95 ((nI 11).toNatClampNeg)), .int (nI 630), .ref 94]) (σ' := (α2, rf_w μ 95 ((nI 11).toNatClampNeg) (nI 0))) (pc' := 38) kX12_text_16 rfl rfl (rf_a1 (rf_in_n (a := 11) rfl (by omega)) (rf_a1 (rf_in_n (a := 11) rfl (by omega)) rf_a0)) ?_
    try rw [(show (nI 11).toNatClampNeg = 11 from rf_cl_n rfl (by omega))]
    rw [show μ 95 11 = nI a2 from e11]
    refine ok_Vx (As := [.int (nI 630), .int (nI a2), .int (nI 0)]) (b := 94) (st := []) mkX12_worked qX12_text_38 rfl (rc_94) rfl rfl rfl rfl (Nat.le_of_ble_eq_true rfl) (hmw _) (fun r1 σ1 hq => ?_)
    obtain ⟨ν, rfl, hB, h98, hq | hq⟩ := hq
    rotate_left
    · exact absurd ⟨rfl, rfl⟩ hq.1
    obtain ⟨-, -, hr1, h7⟩ := hq
    obtain ⟨v0, rfl⟩ : ∃ v0, r1 = some (.int v0) := ⟨_, hr1⟩
    refine ok_step (ps := []) (L' := [some (.ref 94), some (.int (nI 0)), some (.int (nI a2)), some (.int v0), none]) (st' := [.int (ν 94 7)]) (σ' := (α2, ν)) (pc' := 46) kX12_text_41 rfl rfl rf_a0 ?_
    try rw [(show ν 94 7 = (-1) from h7)]
    refine ok_if_lt bX12_text_46 (fun _ => ?_) (fun g46 => absurd (by decide) g46)
    refine ok_step (ps := [rf_in ((nI 520) + (nI 0)) 700]) (L' := [some (.ref 94), some (.int (nI 0)), some (.int (nI a2)), some (.int v0), some (.int (nI 0))]) (st' := []) (σ' := (α2, rf_w ν 95 (((nI 520) + (nI 0)).toNatClampNeg) (nI a2))) (pc' := 71) kX12_text_57 rfl rfl (rf_a1 (rf_in_n (a := 520) (by (try rw [(show ((nI 520) + (nI 0)) = nI 520 from rf_eq (rf_nadd (x := nI 520) (y := nI 0) rfl rfl) (by omega))]); all_goals exact rfl) (by omega)) rf_a0) ?_
    try rw [(show ((nI 520) + (nI 0)) = nI 520 from rf_eq (rf_nadd (x := nI 520) (y := nI 0) rfl rfl) (by omega))]
    try rw [(show (nI 520).toNatClampNeg = 520 from rf_cl_n rfl (by omega))]
    have hm := m_tx0 (Ln := Ln) (xs := xs) (γ := α2) (ρ := rf_w ν 95 520 (nI a2)) (n := a2) hn a2 0 (by omega)
    rw [rfr_s0] at hm
    refine ok_kill (x := 3) ?_
    refine hm.mono (fun r t hq => ?_)
    obtain ⟨rfl, rfl⟩ := hq
    have h95 : ∀ j, j ≠ 11 → ν 95 j = μ 95 j := fun j hj => by rw [hB.1 95 (by decide) (by decide), rf_w_at, if_neg (by omega)]
    have htp : ∀ i, i < 50 → ν 95 (630 + i) = μ 95 (630 + i) := fun i _ => h95 _ (by omega)
    have hro : ∀ j, (rf_r (rf_w ν 95 520 (nI a2)) 95 (cps 530 a2 (fun i => rf_w ν 95 520 (nI a2) 95 (630 + i)) (rf_w ν 95 520 (nI a2) 95))) 95 j = if 530 ≤ j ∧ j < 530 + a2 then ν 95 (630 + (j - 530)) else if j = 520 then nI a2 else ν 95 j := fun j => by
      rw [rfr_self]
      unfold cps
      by_cases e : 530 ≤ j ∧ j < 530 + a2
      · rw [if_pos e, if_pos e]
        show rf_w ν 95 520 (nI a2) 95 (630 + (j - 530)) = _
        rw [rf_w_at, if_neg (by omega)]
      · rw [if_neg e, if_neg e, rf_w_at]
        by_cases e2 : j = 520
        · rw [if_pos ⟨rfl, e2⟩, if_pos e2]
        · rw [if_neg (fun h => e2 h.2), if_neg e2]
    have hIn : Iv (ν 95) := (hJ2 ν hB).2
    refine ⟨rfl, _, rfl, (hJ2 ν hB).tx0 (fun k q1 q2 => x3 k q1 q2) (fun k q1 => by rw [rfr_row q1, rf_w_row q1]) (fun j q1 q2 => by rw [hro j, if_neg (by omega), if_neg q1]) ?_ ?_⟩
    · have q1 : 1 ≤ c.length := k5 rfl
      have q2 : 1 ≤ a2 := by omega
      have q3 : c.length ≤ 50 := by omega
      refine Or.inr ⟨a2, c, q2, hn, ?_, ?_, q1, q3, ?_, fun i hi => ?_⟩
      · rw [hro, if_neg (by omega), if_pos rfl]
      · rw [← ePp]
        refine prt_congr (fun i hi => ?_)
        rw [hro, if_pos (by omega), show 630 + (530 + i - 530) = 630 + i by omega, htp i (by omega)]
        exact (rl_26 hR (i := i) (by omega) rfl).symm
      · rw [x1, rf_w_row (by decide)]
        exact hr.2.2.2.2.1
      · rw [x2 i (by omega), rf_w_row (by decide)]
        exact hr.2.2.2.2.2.1 i hi
    · refine hIn.tx (u := 0) (n := a2) (by decide) hn (fun j q1 q2 => by rw [hro j, if_neg (by omega), if_neg q1]) (by rw [hro, if_neg (by omega), if_pos rfl]) (fun i hi => ?_)
      rw [show 530 + 50 * 0 + i = 530 + i by omega, hro]
      by_cases e : i < a2
      · rw [if_pos (by omega), show 630 + (530 + i - 530) = 630 + i by omega]
        have hb := bd_t (k := 630 + i) (by omega)
        exact ⟨_, hIn.leb hb (by decide), hIn.atb hb (by decide)⟩
      · rw [if_neg (by omega), if_neg (by omega)]
        have hb := bd_t (k := 530 + i) (by omega)
        exact ⟨_, hIn.leb hb (by decide), hIn.atb hb (by decide)⟩
  · rw [if_neg (show ¬ ((bb, a2, c2).1 = true ∧ (bb, a2, c2).2.1 = n) from hg)]
    refine ok_step (ps := []) (L' := [some (.ref 0), some (.int (nI 0)), some (.int (nI a2))]) (st' := [.int (nI a2)]) (σ' := (rf_w β 26 0 (nI 0), μ)) (pc' := 44) kX11_text_31 rfl rfl rf_a0 ?_
    refine ok_if_lt bX11_text_44 (fun h44 => absurd h44 (nI_pos (by omega))) (fun _ => ?_)
    refine ok_step (ps := []) (L' := [some (.ref 0), some (.int (nI 0)), some (.int (nI a2))]) (st' := [.int ((-10) - (nI a2))]) (σ' := (rf_w β 26 0 (nI 0), μ)) (pc' := 51) kX11_text_47 rfl rfl rf_a0 ?_
    refine ok_reti eX11_text_51 rfl ?_
    refine ⟨rfl, _, rfl, ?_⟩
    refine ok_step (ps := []) (L' := [some (.ref 94), some (.int (nI 0)), none, none, none]) (st' := [.long (lN 1), .long (lN 0), .long ((nI 0).toInt64)]) (σ' := (rf_w β 26 0 (nI 0), μ)) (pc' := 4) kX12_text_0 rfl rfl rf_a0 ?_
    refine ok_S (As := [.long ((nI 0).toInt64), .long (lN 0), .long (lN 1)]) (st := []) mkX12_in qX12_text_4 rfl rfl rfl rfl rfl (Nat.le_of_ble_eq_true rfl) (m_in) ?_
    rw [show wl ((nI 0).toInt64) (lN 0) (lN 1) = wi (nI 0) (nI 0) (nI 1) from wl_of rfl (nI_l (by decide)).symm (nI_l (by decide)).symm, show bI (wi (nI 0) (nI 0) (nI 1)) = nI 1 from rfl]
    refine ok_if_ne bX12_text_7 (fun _ => ?_) (fun g7 => absurd g7 ((by decide)))
    refine ok_step (ps := [rf_in (nI 11) 700, rf_in (nI 11) 700]) (L' := [some (.ref 94), some (.int (nI 0)), some (.int (μ 95 ((nI 11).toNatClampNeg))), none, none]) (st' := [.int (nI 0), .int (μ 95 ((nI 11).toNatClampNeg)), .int (nI 630), .ref 94]) (σ' := (rf_w β 26 0 (nI 0), rf_w μ 95 ((nI 11).toNatClampNeg) (nI 0))) (pc' := 38) kX12_text_16 rfl rfl (rf_a1 (rf_in_n (a := 11) rfl (by omega)) (rf_a1 (rf_in_n (a := 11) rfl (by omega)) rf_a0)) ?_
    try rw [(show (nI 11).toNatClampNeg = 11 from rf_cl_n rfl (by omega))]
    rw [show μ 95 11 = nI n from e11]
    refine ok_Vx (As := [.int (nI 630), .int (nI n), .int (nI 0)]) (b := 94) (st := []) mkX12_worked qX12_text_38 rfl (rc_94) rfl rfl rfl rfl (Nat.le_of_ble_eq_true rfl) (hmw _) (fun r1 σ1 hq => ?_)
    obtain ⟨ν, rfl, hB, h98, hq | hq⟩ := hq
    · exact absurd ⟨hq.1, hq.2.1⟩ hg
    obtain ⟨-, h7, v0, rfl⟩ := hq
    replace h7 : ν 94 7 = nI a2 := h7
    refine ok_step (ps := []) (L' := [some (.ref 94), some (.int (nI 0)), some (.int (nI n)), some (.int v0), none]) (st' := [.int (ν 94 7)]) (σ' := (rf_w β 26 0 (nI 0), ν)) (pc' := 46) kX12_text_41 rfl rfl rf_a0 ?_
    try rw [(show ν 94 7 = nI a2 from h7)]
    refine ok_if_lt bX12_text_46 (fun g46 => absurd g46 (nI_pos (by omega))) (fun _ => ?_)
    refine ok_step (ps := []) (L' := [some (.ref 94), some (.int (nI 0)), some (.int (nI n)), some (.int v0), none]) (st' := [.int ((-10) - (ν 94 7))]) (σ' := (rf_w β 26 0 (nI 0), ν)) (pc' := 56) kX12_text_49 rfl rfl rf_a0 ?_
    try rw [(show ν 94 7 = nI a2 from h7)]
    refine ok_reti eX12_text_56 rfl ?_
    exact ⟨rfl, _, rfl, hJ2 ν hB⟩
theorem op_text1 (hJ : J α μ) : Op (rf_T Ln xs) MX11_text MX12_text [some (.ref 0), some (.int (nI 1)), none] [some (.ref 94), some (.int (nI 1)), none, none, none] α μ := by
  have hR := hJ.1.1.1
  have hI := hJ.2
  obtain ⟨n, en⟩ : ∃ n, n = cn (μ 95) 11 := ⟨_, rfl⟩
  have hT := hJ.tp en
  have hn := hT.1
  have e11 : μ 95 11 = nI n := by rw [en]; exact hI.at11
  have hk := pr_ok (u := 1) (n := n) (x := nxb (α 27) n) (by decide) nxb_x 60 0 0 0 (by omega)
  change PK 1 n 0 (prt 1 (α 27) n) at hk
  have hJ1 := hJ.w11
  have ep : prt 1 (fun i => rf_w μ 95 11 (nI 0) 95 (630 + i)) n = prt 1 (α 27) n := prt_congr (fun i hi => by
    rw [rf_w_at, if_neg (by omega)]
    exact (rl_26 hR (i := i) (by omega) rfl).symm)
  have hmw := fun γ => m_worked (Ln := Ln) (xs := xs) (α := γ) (u := 1) (b := 630) (n := n) (ν := rf_w μ 95 11 (nI 0)) (by decide) (by omega) hn
  simp only [ep] at hmw
  refine ok_step (ps := []) (L' := [some (.ref 0), some (.int (nI 1)), none]) (st' := [.int (nI 1), .int (nI 0), .int (nI 1)]) (σ' := (α, μ)) (pc' := 3) kX11_text_0 rfl rfl rf_a0 ?_
  refine ok_S (As := [.int (nI 1), .int (nI 0), .int (nI 1)]) (st := []) mkX11_within qX11_text_3 rfl rfl rfl rfl rfl (Nat.le_of_ble_eq_true rfl) (c_within) ?_
  rw [show bI (wi (nI 1) (nI 0) (nI 1)) = nI 1 from rfl]
  refine ok_if_ne bX11_text_6 (fun _ => ?_) (fun h6 => absurd h6 ((by decide)))
  refine ok_step (ps := []) (L' := [some (.ref 0), some (.int (nI 1)), none]) (st' := [.int (nI 1), .ref 26, .ref 75]) (σ' := (α, μ)) (pc' := 28) kX11_text_16 rfl rfl rf_a0 ?_
  refine ok_Vx (As := [.ref 26, .int (nI 1)]) (b := 75) (st := []) mkX2_read qX11_text_28 rfl (rc_75) rfl rfl rfl rfl (Nat.le_of_ble_eq_true rfl) (c_read1 hT) (fun r1 σ1 hq => ?_)
  obtain ⟨rfl, β, c, rfl, hr, hc⟩ := hq
  have hJ2 : ∀ ν, sB (rf_w μ 95 11 (nI 0)) ν → J (rf_w β 26 0 (nI 0)) ν := fun ν hB => hJ1.same (fun k i hk => by
    by_cases e : k = 26
    · subst e
      rw [rf_w_at, rf_w_at, hr.1 26 (by decide) (by decide) (by decide)]
    · rw [rf_w_row e, rf_w_row e, hr.1 k (by unfold jA at hk; omega) (by unfold jA at hk; omega) (by unfold jA at hk; omega)]) (fun k i hk => by
    unfold jB at hk
    by_cases e : k = 94
    · subst e
      exact hB.2 i (by omega)
    · rw [hB.1 k e (by omega)])
  obtain ⟨Pp, ePp⟩ : ∃ Pp, prt 1 (α 27) n = Pp := ⟨_, rfl⟩
  rw [ePp] at hk hr hc ⊢
  simp only [ePp] at hmw
  obtain ⟨bb, a2, c2⟩ := Pp
  obtain ⟨k1, k2, k3, k4, k5⟩ := hk
  simp only at k1 k2 k3 k4
  change Rd α β 1 n a2 c at hr
  by_cases hg : bb = true ∧ a2 = n
  · obtain ⟨rfl, rfl⟩ := hg
    rw [if_pos ⟨rfl, rfl⟩]
    have hc2 : c = c2 := hc rfl
    subst hc2
    refine ok_step (ps := []) (L' := [some (.ref 0), some (.int (nI 1)), some (.int (-1))]) (st' := [.int (-1)]) (σ' := (rf_w β 26 0 (nI 0), μ)) (pc' := 44) kX11_text_31 rfl rfl rf_a0 ?_
    refine ok_if_lt bX11_text_44 (fun _ => ?_) (fun h44 => absurd (by decide) h44)
    refine ok_step (ps := []) (L' := [some (.ref 0), some (.int (nI 1)), some (.int (-1))]) (st' := [.int (nI 1), .ref 1]) (σ' := (rf_w β 26 0 (nI 0), μ)) (pc' := 57) kX11_text_52 rfl rfl rf_a0 ?_
    refine ok_V (As := [.int (nI 1)]) (b := 1) (st := []) mkX10_textOf qX11_text_57 rfl (rc_1) rfl rfl rfl rfl (Nat.le_of_ble_eq_true rfl) (c_textOf1) ?_
    refine ok_step (ps := []) (L' := [some (.ref 0), some (.int (nI 1)), some (.int (-1))]) (st' := [.ref 76, .ref 32]) (σ' := (rf_w β 26 0 (nI 0), μ)) (pc' := 67) kX11_text_60 rfl rfl rf_a0 ?_
    refine ok_Vx (As := [.ref 76]) (b := 32) (st := []) mkX8_copyFrom qX11_text_67 rfl (rc_32) rfl rfl rfl rfl (Nat.le_of_ble_eq_true rfl) (cw_t32) (fun r1 σ1 hq => ?_)
    obtain ⟨rfl, α2, rfl, x1, x2, x3⟩ := hq
    refine ok_step (ps := []) (L' := [some (.ref 0), some (.int (nI 1)), some (.int (-1))]) (st' := [.int (nI 1)]) (σ' := (α2, μ)) (pc' := 71) kX11_text_70 rfl rfl rf_a0 ?_
    refine ok_reti eX11_text_71 rfl ?_
    refine ⟨rfl, _, rfl, ?_⟩
    refine ok_step (ps := []) (L' := [some (.ref 94), some (.int (nI 1)), none, none, none]) (st' := [.long (lN 1), .long (lN 0), .long ((nI 1).toInt64)]) (σ' := (α2, μ)) (pc' := 4) kX12_text_0 rfl rfl rf_a0 ?_
    refine ok_S (As := [.long ((nI 1).toInt64), .long (lN 0), .long (lN 1)]) (st := []) mkX12_in qX12_text_4 rfl rfl rfl rfl rfl (Nat.le_of_ble_eq_true rfl) (m_in) ?_
    rw [show wl ((nI 1).toInt64) (lN 0) (lN 1) = wi (nI 1) (nI 0) (nI 1) from wl_of rfl (nI_l (by decide)).symm (nI_l (by decide)).symm, show bI (wi (nI 1) (nI 0) (nI 1)) = nI 1 from rfl]
    refine ok_if_ne bX12_text_7 (fun _ => ?_) (fun g7 => absurd g7 ((by decide)))
    refine ok_step (ps := [rf_in (nI 11) 700, rf_in (nI 11) 700]) (L' := [some (.ref 94), some (.int (nI 1)), some (.int (μ 95 ((nI 11).toNatClampNeg))), none, none]) (st' := [.int (nI 1), .int (μ 95 ((nI 11).toNatClampNeg)), .int (nI 630), .ref 94]) (σ' := (α2, rf_w μ 95 ((nI 11).toNatClampNeg) (nI 0))) (pc' := 38) kX12_text_16 rfl rfl (rf_a1 (rf_in_n (a := 11) rfl (by omega)) (rf_a1 (rf_in_n (a := 11) rfl (by omega)) rf_a0)) ?_
    try rw [(show (nI 11).toNatClampNeg = 11 from rf_cl_n rfl (by omega))]
    rw [show μ 95 11 = nI a2 from e11]
    refine ok_Vx (As := [.int (nI 630), .int (nI a2), .int (nI 1)]) (b := 94) (st := []) mkX12_worked qX12_text_38 rfl (rc_94) rfl rfl rfl rfl (Nat.le_of_ble_eq_true rfl) (hmw _) (fun r1 σ1 hq => ?_)
    obtain ⟨ν, rfl, hB, h98, hq | hq⟩ := hq
    rotate_left
    · exact absurd ⟨rfl, rfl⟩ hq.1
    obtain ⟨-, -, hr1, h7⟩ := hq
    obtain ⟨v0, rfl⟩ : ∃ v0, r1 = some (.int v0) := ⟨_, hr1⟩
    refine ok_step (ps := []) (L' := [some (.ref 94), some (.int (nI 1)), some (.int (nI a2)), some (.int v0), none]) (st' := [.int (ν 94 7)]) (σ' := (α2, ν)) (pc' := 46) kX12_text_41 rfl rfl rf_a0 ?_
    try rw [(show ν 94 7 = (-1) from h7)]
    refine ok_if_lt bX12_text_46 (fun _ => ?_) (fun g46 => absurd (by decide) g46)
    refine ok_step (ps := [rf_in ((nI 520) + (nI 1)) 700]) (L' := [some (.ref 94), some (.int (nI 1)), some (.int (nI a2)), some (.int v0), some (.int (nI 0))]) (st' := []) (σ' := (α2, rf_w ν 95 (((nI 520) + (nI 1)).toNatClampNeg) (nI a2))) (pc' := 71) kX12_text_57 rfl rfl (rf_a1 (rf_in_n (a := 521) (by (try rw [(show ((nI 520) + (nI 1)) = nI 521 from rf_eq (rf_nadd (x := nI 520) (y := nI 1) rfl rfl) (by omega))]); all_goals exact rfl) (by omega)) rf_a0) ?_
    try rw [(show ((nI 520) + (nI 1)) = nI 521 from rf_eq (rf_nadd (x := nI 520) (y := nI 1) rfl rfl) (by omega))]
    try rw [(show (nI 521).toNatClampNeg = 521 from rf_cl_n rfl (by omega))]
    have hm := m_tx1 (Ln := Ln) (xs := xs) (γ := α2) (ρ := rf_w ν 95 521 (nI a2)) (n := a2) hn a2 0 (by omega)
    rw [rfr_s0] at hm
    refine ok_kill (x := 3) ?_
    refine hm.mono (fun r t hq => ?_)
    obtain ⟨rfl, rfl⟩ := hq
    have h95 : ∀ j, j ≠ 11 → ν 95 j = μ 95 j := fun j hj => by rw [hB.1 95 (by decide) (by decide), rf_w_at, if_neg (by omega)]
    have htp : ∀ i, i < 50 → ν 95 (630 + i) = μ 95 (630 + i) := fun i _ => h95 _ (by omega)
    have hro : ∀ j, (rf_r (rf_w ν 95 521 (nI a2)) 95 (cps 580 a2 (fun i => rf_w ν 95 521 (nI a2) 95 (630 + i)) (rf_w ν 95 521 (nI a2) 95))) 95 j = if 580 ≤ j ∧ j < 580 + a2 then ν 95 (630 + (j - 580)) else if j = 521 then nI a2 else ν 95 j := fun j => by
      rw [rfr_self]
      unfold cps
      by_cases e : 580 ≤ j ∧ j < 580 + a2
      · rw [if_pos e, if_pos e]
        show rf_w ν 95 521 (nI a2) 95 (630 + (j - 580)) = _
        rw [rf_w_at, if_neg (by omega)]
      · rw [if_neg e, if_neg e, rf_w_at]
        by_cases e2 : j = 521
        · rw [if_pos ⟨rfl, e2⟩, if_pos e2]
        · rw [if_neg (fun h => e2 h.2), if_neg e2]
    have hIn : Iv (ν 95) := (hJ2 ν hB).2
    refine ⟨rfl, _, rfl, (hJ2 ν hB).tx1 (fun k q1 q2 => x3 k q1 q2) (fun k q1 => by rw [rfr_row q1, rf_w_row q1]) (fun j q1 q2 => by rw [hro j, if_neg (by omega), if_neg q1]) ?_ ?_⟩
    · have q1 : 1 ≤ c.length := k5 rfl
      have q2 : 1 ≤ a2 := by omega
      have q3 : c.length ≤ 50 := by omega
      refine Or.inr ⟨a2, c, q2, hn, ?_, ?_, q1, q3, ?_, fun i hi => ?_⟩
      · rw [hro, if_neg (by omega), if_pos rfl]
      · rw [← ePp]
        refine prt_congr (fun i hi => ?_)
        rw [hro, if_pos (by omega), show 630 + (580 + i - 580) = 630 + i by omega, htp i (by omega)]
        exact (rl_26 hR (i := i) (by omega) rfl).symm
      · rw [x1, rf_w_row (by decide)]
        exact hr.2.2.2.2.1
      · rw [x2 i (by omega), rf_w_row (by decide)]
        exact hr.2.2.2.2.2.1 i hi
    · refine hIn.tx (u := 1) (n := a2) (by decide) hn (fun j q1 q2 => by rw [hro j, if_neg (by omega), if_neg q1]) (by rw [hro, if_neg (by omega), if_pos rfl]) (fun i hi => ?_)
      rw [show 530 + 50 * 1 + i = 580 + i by omega, hro]
      by_cases e : i < a2
      · rw [if_pos (by omega), show 630 + (580 + i - 580) = 630 + i by omega]
        have hb := bd_t (k := 630 + i) (by omega)
        exact ⟨_, hIn.leb hb (by decide), hIn.atb hb (by decide)⟩
      · rw [if_neg (by omega), if_neg (by omega)]
        have hb := bd_t (k := 580 + i) (by omega)
        exact ⟨_, hIn.leb hb (by decide), hIn.atb hb (by decide)⟩
  · rw [if_neg (show ¬ ((bb, a2, c2).1 = true ∧ (bb, a2, c2).2.1 = n) from hg)]
    refine ok_step (ps := []) (L' := [some (.ref 0), some (.int (nI 1)), some (.int (nI a2))]) (st' := [.int (nI a2)]) (σ' := (rf_w β 26 0 (nI 0), μ)) (pc' := 44) kX11_text_31 rfl rfl rf_a0 ?_
    refine ok_if_lt bX11_text_44 (fun h44 => absurd h44 (nI_pos (by omega))) (fun _ => ?_)
    refine ok_step (ps := []) (L' := [some (.ref 0), some (.int (nI 1)), some (.int (nI a2))]) (st' := [.int ((-10) - (nI a2))]) (σ' := (rf_w β 26 0 (nI 0), μ)) (pc' := 51) kX11_text_47 rfl rfl rf_a0 ?_
    refine ok_reti eX11_text_51 rfl ?_
    refine ⟨rfl, _, rfl, ?_⟩
    refine ok_step (ps := []) (L' := [some (.ref 94), some (.int (nI 1)), none, none, none]) (st' := [.long (lN 1), .long (lN 0), .long ((nI 1).toInt64)]) (σ' := (rf_w β 26 0 (nI 0), μ)) (pc' := 4) kX12_text_0 rfl rfl rf_a0 ?_
    refine ok_S (As := [.long ((nI 1).toInt64), .long (lN 0), .long (lN 1)]) (st := []) mkX12_in qX12_text_4 rfl rfl rfl rfl rfl (Nat.le_of_ble_eq_true rfl) (m_in) ?_
    rw [show wl ((nI 1).toInt64) (lN 0) (lN 1) = wi (nI 1) (nI 0) (nI 1) from wl_of rfl (nI_l (by decide)).symm (nI_l (by decide)).symm, show bI (wi (nI 1) (nI 0) (nI 1)) = nI 1 from rfl]
    refine ok_if_ne bX12_text_7 (fun _ => ?_) (fun g7 => absurd g7 ((by decide)))
    refine ok_step (ps := [rf_in (nI 11) 700, rf_in (nI 11) 700]) (L' := [some (.ref 94), some (.int (nI 1)), some (.int (μ 95 ((nI 11).toNatClampNeg))), none, none]) (st' := [.int (nI 1), .int (μ 95 ((nI 11).toNatClampNeg)), .int (nI 630), .ref 94]) (σ' := (rf_w β 26 0 (nI 0), rf_w μ 95 ((nI 11).toNatClampNeg) (nI 0))) (pc' := 38) kX12_text_16 rfl rfl (rf_a1 (rf_in_n (a := 11) rfl (by omega)) (rf_a1 (rf_in_n (a := 11) rfl (by omega)) rf_a0)) ?_
    try rw [(show (nI 11).toNatClampNeg = 11 from rf_cl_n rfl (by omega))]
    rw [show μ 95 11 = nI n from e11]
    refine ok_Vx (As := [.int (nI 630), .int (nI n), .int (nI 1)]) (b := 94) (st := []) mkX12_worked qX12_text_38 rfl (rc_94) rfl rfl rfl rfl (Nat.le_of_ble_eq_true rfl) (hmw _) (fun r1 σ1 hq => ?_)
    obtain ⟨ν, rfl, hB, h98, hq | hq⟩ := hq
    · exact absurd ⟨hq.1, hq.2.1⟩ hg
    obtain ⟨-, h7, v0, rfl⟩ := hq
    replace h7 : ν 94 7 = nI a2 := h7
    refine ok_step (ps := []) (L' := [some (.ref 94), some (.int (nI 1)), some (.int (nI n)), some (.int v0), none]) (st' := [.int (ν 94 7)]) (σ' := (rf_w β 26 0 (nI 0), ν)) (pc' := 46) kX12_text_41 rfl rfl rf_a0 ?_
    try rw [(show ν 94 7 = nI a2 from h7)]
    refine ok_if_lt bX12_text_46 (fun g46 => absurd g46 (nI_pos (by omega))) (fun _ => ?_)
    refine ok_step (ps := []) (L' := [some (.ref 94), some (.int (nI 1)), some (.int (nI n)), some (.int v0), none]) (st' := [.int ((-10) - (ν 94 7))]) (σ' := (rf_w β 26 0 (nI 0), ν)) (pc' := 56) kX12_text_49 rfl rfl rf_a0 ?_
    try rw [(show ν 94 7 = nI a2 from h7)]
    refine ok_reti eX12_text_56 rfl ?_
    exact ⟨rfl, _, rfl, hJ2 ν hB⟩
theorem op_textx {use : Int32} (hJ : J α μ) (hx : bI (wi use (nI 0) (nI 1)) = 0) : Op (rf_T Ln xs) MX11_text MX12_text [some (.ref 0), some (.int use), none] [some (.ref 94), some (.int use), none, none, none] α μ := by
  have hR := hJ.1.1.1
  have hI := hJ.2
  have b0 := hI.le0
  have b1 := hI.le1
  have b2 := hI.le2
  have b3 := hI.le3
  have b4 := hI.le4
  have b5 := hI.le5
  have b6 := hI.le6
  have b8 := hI.le8
  have b9 := hI.le9
  have b11 := hI.le11
  have b12 := hI.le12
  refine ok_step (ps := []) (L' := [some (.ref 0), some (.int use), none]) (st' := [.int (nI 1), .int (nI 0), .int use]) (σ' := (α, μ)) (pc' := 3) kX11_text_0 rfl rfl rf_a0 ?_
  refine ok_S (As := [.int use, .int (nI 0), .int (nI 1)]) (st := []) mkX11_within qX11_text_3 rfl rfl rfl rfl rfl (Nat.le_of_ble_eq_true rfl) (c_within) ?_
  refine ok_if_ne bX11_text_6 (fun h6 => absurd (hx) h6) (fun _ => ?_)
  refine ok_step (ps := []) (L' := [some (.ref 0), some (.int use), none]) (st' := [.int (-1000000001), .ref 0]) (σ' := (α, μ)) (pc' := 12) kX11_text_9 rfl rfl rf_a0 ?_
  refine ok_V (As := [.int (-1000000001)]) (b := 0) (st := []) mkX11_error qX11_text_12 rfl (rc_0) rfl rfl rfl rfl (Nat.le_of_ble_eq_true rfl) (c_error (k := 1) (by decide) (by decide) (by decide)) ?_
  refine ok_reti eX11_text_15 rfl ?_
  refine ⟨rfl, _, rfl, ?_⟩
  refine ok_step (ps := []) (L' := [some (.ref 94), some (.int use), none, none, none]) (st' := [.long (lN 1), .long (lN 0), .long use.toInt64]) (σ' := (rf_w α 93 1 (α 93 1 + nI 1), μ)) (pc' := 4) kX12_text_0 rfl rfl rf_a0 ?_
  refine ok_S (As := [.long use.toInt64, .long (lN 0), .long (lN 1)]) (st := []) mkX12_in qX12_text_4 rfl rfl rfl rfl rfl (Nat.le_of_ble_eq_true rfl) (m_in) ?_
  rw [show wl use.toInt64 (lN 0) (lN 1) = wi use (nI 0) (nI 1) from wl_of rfl (nI_l (by decide)).symm (nI_l (by decide)).symm]
  refine ok_if_ne bX12_text_7 (fun g7 => absurd (hx) g7) (fun _ => ?_)
  refine ok_step (ps := []) (L' := [some (.ref 94), some (.int use), none, none, none]) (st' := [.int (nI 1), .ref 94]) (σ' := (rf_w α 93 1 (α 93 1 + nI 1), μ)) (pc' := 12) kX12_text_10 rfl rfl rf_a0 ?_
  refine ok_V (As := [.int (nI 1)]) (b := 94) (st := []) mkX12_finds qX12_text_12 rfl (rc_94) rfl rfl rfl rfl (Nat.le_of_ble_eq_true rfl) (m_finds (k := 1) (by decide)) ?_
  refine ok_reti eX12_text_15 rfl ?_
  exact ⟨rfl, _, rfl, hJ.err (k := 1) (by decide)⟩
theorem op_text {use : Int32} (hJ : J α μ) : Op (rf_T Ln xs) MX11_text MX12_text [some (.ref 0), some (.int use), none] [some (.ref 94), some (.int use), none, none, none] α μ := by
  by_cases h : bI (wi use (nI 0) (nI 1)) = 0
  · exact op_textx hJ h
  · by_cases h0 : use = nI 0
    · subst h0
      exact op_text0 hJ
    · obtain rfl := wi01' (bI_n0.mp h) h0
      exact op_text1 hJ
end H58
