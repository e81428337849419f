section H69
variable {Ln : Nat} {xs : Nat → Int32} {α μ δ : Nat → Nat → Int32} {n : Nat} {q r : Nat → Nat}
theorem Rw.put {α : Nat → Nat → Int32} {f : Nat → Nat} {k v : Nat} (h : Rw α f) : Rw (rf_w α 81 k (nI v)) (updN f k v) := fun i hi => by
  rw [rf_w_at]
  unfold updN
  by_cases e : i = k
  · rw [if_pos ⟨rfl, e⟩, if_pos e]
  · rw [if_neg (by omega), if_neg e]
    exact h i hi
theorem Tb.row {d : Nat → Int32} {n : Nat} {α β : Nat → Nat → Int32} (h : Tb d n α) (e : β 82 = α 82) : Tb d n β := fun t ht p hp => by rw [e]; exact h t ht p hp
theorem c_try (hn : n ≤ 5) : ∀ (m k left : Nat) (α : Nat → Nat → Int32) (f : Nat → Nat) (b : Option (Nat → Nat)), k + m + 1 = cn (μ 95) 5 → left ≤ 5 → J α μ → Tb (μ 95) n α → Rw α f → Ks (μ 95) n α b → (∀ q, q ∈ rowsL m k left f → Gd (cn (μ 95) 5) n q) → rf_Ok (rf_T Ln xs) MX5_tryRows (20 + m) 0 [some (.ref 79), some (.ref 1), some (.int (nI k)), some (.int (nI left)), none] [] (α, δ) (fun o s => o = none ∧ ∃ (α' : Nat → Nat → Int32) (f' : Nat → Nat), s = (α', δ) ∧ sF α α' ∧ Tb (μ 95) n α' ∧ Rw α' f' ∧ (∀ x, x < k ∨ k + m < x → f' x = f x) ∧ Ks (μ 95) n α' ((rowsL m k left f).foldl (bstep (sU (μ 95) n) (sV (μ 95) n)) b)) := by
  intro m
  induction m with
  | zero =>
    intro k left α f b hM hl hJ ht hw hb hG
    have hR := hJ.1.1.1
    have hI := hJ.2
    have b5 := hI.le5
    have hq : Gd (cn (μ 95) 5) n (updN f k left) := hG _ (by rw [rowsL]; exact List.mem_singleton.mpr rfl)
    refine ok_step (ps := []) (L' := [some (.ref 79), some (.ref 1), some (.int (nI k)), some (.int (nI left)), none]) (st' := [.int ((α 19 0) - (nI 1)), .int (nI k)]) (σ' := (α, δ)) (pc' := 10) kX5_tryRows_0 rfl rfl rf_a0 ?_
    try rw [(show α 19 0 = μ 95 5 from hR 18 0 5 rfl)]
    try rw [(show ((μ 95 5) - (nI 1)) = nI (cn (μ 95) 5 - 1) from rf_eq (rf_nsub (x := μ 95 5) (y := nI 1) (hI.at5) rfl (by omega)) (by omega))]
    refine ok_icmp_ge bX5_tryRows_10 (fun _ => ?_) (fun h10 => absurd (le_of rfl (by omega) (by omega)) h10)
    refine ok_step (ps := [rf_in (nI k) 8]) (L' := [some (.ref 79), some (.ref 1), some (.int (nI k)), some (.int (nI left)), none]) (st' := [.ref 1, .ref 79]) (σ' := (rf_w α 81 ((nI k).toNatClampNeg) (nI left), δ)) (pc' := 28) kX5_tryRows_19 rfl rfl (rf_a1 (rf_in_n (a := k) rfl (by omega)) rf_a0) ?_
    try rw [(show (nI k).toNatClampNeg = k from rf_cl_n rfl (by omega))]
    have hJ1 : J (rf_w α 81 k (nI left)) μ := hJ.sF (sF.w (by omega))
    refine ok_Vx (As := [.ref 1]) (b := 79) (st := []) mkX5_compareRow qX5_tryRows_28 rfl (rc_79) rfl rfl rfl rfl (by omega) (c_cmp hJ1 hw.put (ht.row (rf_w_row (by decide))) hq hn (hb.same (rf_w_row (by decide)) (rf_w_row (by decide)))) (fun r1 σ1 hq1 => ?_)
    obtain ⟨rfl, α', rfl, a1, a2, a3, a4⟩ := hq1
    refine ok_retv eX5_tryRows_31 rfl ?_
    refine ⟨rfl, α', updN f k left, rfl, (sF.w (by omega)).tr a1, ht.row (a3.trans (rf_w_row (by decide))), fun i hi => ?_, fun x hx => ?_, a4⟩
    · rw [a2]
      exact hw.put i hi
    · unfold updN
      rw [if_neg (by omega)]
  | succ m ih =>
    intro k left α f b hM hl hJ ht hw hb hG
    have hR := hJ.1.1.1
    have hI := hJ.2
    have b5 := hI.le5
    have key : ∀ (j v : Nat) (β : Nat → Nat → Int32) (g : Nat → Nat), v + j = left + 1 → J β μ → Tb (μ 95) n β → Rw β g → (∀ x, x < k ∨ k + (m + 1) < x → g x = f x) → Ks (μ 95) n β (((List.range v).flatMap (fun v => rowsL m (k + 1) (left - v) (updN f k v))).foldl (bstep (sU (μ 95) n) (sV (μ 95) n)) b) → rf_Ok (rf_T Ln xs) MX5_tryRows (20 + (m + 1)) 35 [some (.ref 79), some (.ref 1), some (.int (nI k)), some (.int (nI left)), some (.int (nI v))] [] (β, δ) (fun o s => o = none ∧ ∃ (α' : Nat → Nat → Int32) (f' : Nat → Nat), s = (α', δ) ∧ sF β α' ∧ Tb (μ 95) n α' ∧ Rw α' f' ∧ (∀ x, x < k ∨ k + (m + 1) < x → f' x = f x) ∧ Ks (μ 95) n α' (((List.range (left + 1)).flatMap (fun v => rowsL m (k + 1) (left - v) (updN f k v))).foldl (bstep (sU (μ 95) n) (sV (μ 95) n)) b)) := by
      intro j
      induction j with
      | zero =>
        intro v β g hj hJ ht hw hg hb
        have hR := hJ.1.1.1
        obtain rfl : v = left + 1 := by omega
        refine ok_step (ps := []) (L' := [some (.ref 79), some (.ref 1), some (.int (nI k)), some (.int (nI left)), some (.int (nI (left + 1)))]) (st' := [.int (nI left), .int (nI (left + 1))]) (σ' := (β, δ)) (pc' := 38) kX5_tryRows_35 rfl rfl rf_a0 ?_
        refine ok_icmp_gt bX5_tryRows_38 (fun _ => ?_) (fun h38 => absurd (lt_of_n (by omega) (by omega)) h38)
        refine ok_retv eX5_tryRows_67 rfl ?_
        exact ⟨rfl, β, g, rfl, sF.rfl β, ht, hw, hg, hb⟩
      | succ j ihj =>
        intro v β g hj hJ ht hw hg hb
        have hR := hJ.1.1.1
        have hv : v ≤ left := by omega
        have eR : rowsL m (k + 1) (left - v) (updN g k v) = rowsL m (k + 1) (left - v) (updN f k v) := rows_congr _ _ _ _ _ (fun x hx => by
          unfold updN
          by_cases e : x = k
          · rw [if_pos e, if_pos e]
          · rw [if_neg e, if_neg e]
            exact hg x (by omega))
        refine ok_step (ps := []) (L' := [some (.ref 79), some (.ref 1), some (.int (nI k)), some (.int (nI left)), some (.int (nI v))]) (st' := [.int (nI left), .int (nI v)]) (σ' := (β, δ)) (pc' := 38) kX5_tryRows_35 rfl rfl rf_a0 ?_
        refine ok_icmp_gt bX5_tryRows_38 (fun h38 => absurd h38 (nlt_of_n (by omega) (by omega))) (fun _ => ?_)
        refine ok_step (ps := [rf_in (nI k) 8]) (L' := [some (.ref 79), some (.ref 1), some (.int (nI k)), some (.int (nI left)), some (.int (nI v))]) (st' := [.int ((nI left) - (nI v)), .int ((nI k) + (nI 1)), .ref 1, .ref 79]) (σ' := (rf_w β 81 ((nI k).toNatClampNeg) (nI v), δ)) (pc' := 58) kX5_tryRows_41 rfl rfl (rf_a1 (rf_in_n (a := k) rfl (by omega)) rf_a0) ?_
        try rw [(show (nI k).toNatClampNeg = k from rf_cl_n rfl (by omega))]
        try rw [(show ((nI k) + (nI 1)) = nI (1 + k) from rf_eq (rf_nadd (x := nI k) (y := nI 1) rfl rfl) (by omega))]
        try rw [(show ((nI left) - (nI v)) = nI (left - v) from rf_eq (rf_nsub (x := nI left) (y := nI v) rfl rfl (by omega)) (by omega))]
        rw [show 1 + k = k + 1 from Nat.add_comm 1 k]
        refine ok_Vx (As := [.ref 1, .int (nI (k + 1)), .int (nI (left - v))]) (b := 79) (st := []) mkX5_tryRows qX5_tryRows_58 rfl (rc_79) rfl rfl rfl rfl (Nat.le_refl _) (ih (k + 1) (left - v) (rf_w β 81 k (nI v)) (updN g k v) _ (by omega) (by omega) (hJ.sF (sF.w (by omega))) (ht.row (rf_w_row (by decide))) hw.put (hb.same (rf_w_row (by decide)) (rf_w_row (by decide))) (fun q hq => hG q (by rw [eR] at hq; rw [rowsL]; exact List.mem_flatMap.mpr ⟨v, List.mem_range.mpr (by omega), hq⟩))) (fun r1 σ1 hq1 => ?_)
        obtain ⟨rfl, β1, g1, rfl, a1, a2, a3, a4, a5⟩ := hq1
        rw [eR] at a5
        refine ok_step (ps := []) (L' := [some (.ref 79), some (.ref 1), some (.int (nI k)), some (.int (nI left)), some (.int ((nI v) + (nI 1)))]) (st' := []) (σ' := (β1, δ)) (pc' := 64) kX5_tryRows_61 rfl rfl rf_a0 ?_
        try rw [(show ((nI v) + (nI 1)) = nI (v + 1) from nI_add _ _)]
        refine ok_goto bX5_tryRows_64 ?_
        refine rf_Ok.mono (ihj (v + 1) β1 g1 (by omega) (hJ.sF ((sF.w (by omega)).tr a1)) a2 a3 (fun x hx => ?_) ?_) ?_
        · rw [a4 x (by omega)]
          unfold updN
          rw [if_neg (by omega)]
          exact hg x hx
        · rw [List.range_succ, List.flatMap_append, List.foldl_append]
          simp only [List.flatMap_cons, List.flatMap_nil, List.append_nil]
          exact a5
        · rintro o s ⟨h1, α', f', h2, h3, h4⟩
          exact ⟨h1, α', f', h2, ((sF.w (by omega)).tr a1).tr h3, h4⟩
    refine ok_step (ps := []) (L' := [some (.ref 79), some (.ref 1), some (.int (nI k)), some (.int (nI left)), none]) (st' := [.int ((α 19 0) - (nI 1)), .int (nI k)]) (σ' := (α, δ)) (pc' := 10) kX5_tryRows_0 rfl rfl rf_a0 ?_
    try rw [(show α 19 0 = μ 95 5 from hR 18 0 5 rfl)]
    try rw [(show ((μ 95 5) - (nI 1)) = nI (cn (μ 95) 5 - 1) from rf_eq (rf_nsub (x := μ 95 5) (y := nI 1) (hI.at5) rfl (by omega)) (by omega))]
    refine ok_icmp_ge bX5_tryRows_10 (fun h10 => absurd h10 (nle_of rfl (by omega) (by omega))) (fun _ => ?_)
    refine ok_step (ps := []) (L' := [some (.ref 79), some (.ref 1), some (.int (nI k)), some (.int (nI left)), none]) (st' := [.int (nI 7), .int (nI k)]) (σ' := (α, δ)) (pc' := 16) kX5_tryRows_13 rfl rfl rf_a0 ?_
    refine ok_icmp_lt bX5_tryRows_16 (fun _ => ?_) (fun h16 => absurd (lt_of_n (by omega) (by omega)) h16)
    refine ok_step (ps := []) (L' := [some (.ref 79), some (.ref 1), some (.int (nI k)), some (.int (nI left)), some (.int (nI 0))]) (st' := []) (σ' := (α, δ)) (pc' := 35) kX5_tryRows_32 rfl rfl rf_a0 ?_
    exact key (left + 1) 0 α f (by omega) hJ ht hw (fun _ _ => rfl) hb
theorem c_fu_p {Q : Option Value → rf_Mem → Prop} {α0 : Nat → Nat → Int32} {i : Nat} (hn : n ≤ 5) (hi : i < cn (μ 95) 4) (k : ∀ α : Nat → Nat → Int32, J α μ → sF α0 α → α 79 = α0 79 → α 80 = α0 80 → α 81 = α0 81 → (∀ t, t < 12 → ∀ p, p ≤ n → α 82 (6 * t + p) = nI (ub (μ 95) n (i + 1) t p)) → rf_Ok (rf_T Ln xs) MX5_fillUnpaid 8 84 [some (.ref 79), some (.ref 1), some (.int (nI n)), some (.ref 10), some (.int (nI i)), none] [] (α, δ) Q) : ∀ (j e : Nat) (α : Nat → Nat → Int32), e + j = n + 1 → J α μ → sF α0 α → α 79 = α0 79 → α 80 = α0 80 → α 81 = α0 81 → (∀ t, t < 12 → ∀ p, p ≤ n → α 82 (6 * t + p) = nI (if p < e then ub (μ 95) n (i + 1) t p else ub (μ 95) n i t p)) → rf_Ok (rf_T Ln xs) MX5_fillUnpaid 8 28 [some (.ref 79), some (.ref 1), some (.int (nI n)), some (.ref 10), some (.int (nI i)), some (.int (nI e))] [] (α, δ) Q := by
  intro j
  induction j with
  | zero =>
    intro e α hj hJ hs e1 e2 e3 ht
    have hR := hJ.1.1.1
    have hI := hJ.2
    have b4 := hI.le4
    have b3 := hI.le3
    have hT := tr_lt hI hi
    obtain rfl : e = n + 1 := by omega
    refine ok_step (ps := []) (L' := [some (.ref 79), some (.ref 1), some (.int (nI n)), some (.ref 10), some (.int (nI i)), some (.int (nI (n + 1)))]) (st' := [.int (nI n), .int (nI (n + 1))]) (σ' := (α, δ)) (pc' := 31) kX5_fillUnpaid_28 rfl rfl rf_a0 ?_
    refine ok_icmp_gt bX5_fillUnpaid_31 (fun _ => ?_) (fun h31 => absurd (lt_of_n (by omega) (by omega)) h31)
    refine ok_kill (x := 5) ?_
    exact k α hJ hs e1 e2 e3 (fun t h1 p h2 => by rw [ht t h1 p h2, if_pos (by omega)])
  | succ j ih =>
    intro e α hj hJ hs e1 e2 e3 ht
    have hR := hJ.1.1.1
    have hI := hJ.2
    have b4 := hI.le4
    have b3 := hI.le3
    have hT := tr_lt hI hi
    refine ok_step (ps := []) (L' := [some (.ref 79), some (.ref 1), some (.int (nI n)), some (.ref 10), some (.int (nI i)), some (.int (nI e))]) (st' := [.int (nI n), .int (nI e)]) (σ' := (α, δ)) (pc' := 31) kX5_fillUnpaid_28 rfl rfl rf_a0 ?_
    refine ok_icmp_gt bX5_fillUnpaid_31 (fun h31 => absurd h31 (nlt_of_n (by omega) (by omega))) (fun _ => ?_)
    refine ok_step (ps := []) (L' := [some (.ref 79), some (.ref 1), some (.int (nI n)), some (.ref 10), some (.int (nI i)), some (.int (nI e))]) (st' := [.int (nI n), .int (nI e), .int (α 10 2), .int (nI i), .ref 1]) (σ' := (α, δ)) (pc' := 44) kX5_fillUnpaid_34 rfl rfl rf_a0 ?_
    try rw [(show α 10 2 = μ 95 9 from hR 9 2 9 rfl)]
    refine ok_Vx (As := [.int (nI i), .int (μ 95 9), .int (nI e), .int (nI n)]) (b := 1) (st := []) mkX10_pays qX5_fillUnpaid_44 rfl (rc_1) rfl rfl rfl rfl (Nat.le_of_ble_eq_true rfl) (c_pays hJ hi) (fun r1 σ1 hq => ?_)
    obtain ⟨rfl, α, rfl, hA⟩ := hq
    have hJ := hJ.sA hA
    have hR := hJ.1.1.1
    have hs := hs.tr hA.sF
    have e1 := (hA 79 (by decide) (by decide) (by decide)).trans e1
    have e2 := (hA 80 (by decide) (by decide) (by decide)).trans e2
    have e3 := (hA 81 (by decide) (by decide) (by decide)).trans e3
    replace ht : (∀ t, t < 12 → ∀ p, p ≤ n → α 82 (6 * t + p) = nI (if p < e then ub (μ 95) n (i + 1) t p else ub (μ 95) n i t p)) := by rw [hA 82 (by decide) (by decide) (by decide)]; exact ht
    refine ok_if_ne bX5_fillUnpaid_47 (fun h47 => ?_) (fun h47 => ?_)
    · refine ok_step (ps := []) (L' := [some (.ref 79), some (.ref 1), some (.int (nI n)), some (.ref 10), some (.int (nI i)), some (.int ((nI e) + (nI 1)))]) (st' := []) (σ' := (α, δ)) (pc' := 81) kX5_fillUnpaid_78 rfl rfl rf_a0 ?_
      try rw [(show ((nI e) + (nI 1)) = nI (e + 1) from nI_add _ _)]
      refine ok_goto bX5_fillUnpaid_81 ?_
      refine ih (e + 1) α (by omega) hJ hs e1 e2 e3 (fun t h1 p h2 => ?_)
      rw [ht t h1 p h2]
      congr 1
      by_cases e4 : p < e
      · rw [if_pos e4, if_pos (by omega)]
      · rw [if_neg e4]
        by_cases e5 : p < e + 1
        · obtain rfl : p = e := by omega
          rw [if_pos e5, ub_s]
          unfold aU
          rw [if_pos (bI_n0.mp h47)]
          split <;> rfl
        · rw [if_neg e5]
    · refine ok_step (ps := [rf_in (nI i) 16, rf_in (((α 12 ((nI i).toNatClampNeg)) * (nI 6)) + (nI e)) 72, rf_in (nI i) 16, rf_in (((α 12 ((nI i).toNatClampNeg)) * (nI 6)) + (nI e)) 72]) (L' := [some (.ref 79), some (.ref 1), some (.int (nI n)), some (.ref 10), some (.int (nI i)), some (.int (nI e))]) (st' := []) (σ' := (rf_w α 82 ((((α 12 ((nI i).toNatClampNeg)) * (nI 6)) + (nI e)).toNatClampNeg) ((α 82 ((((α 12 ((nI i).toNatClampNeg)) * (nI 6)) + (nI e)).toNatClampNeg)) + (α 15 ((nI i).toNatClampNeg))), δ)) (pc' := 78) kX5_fillUnpaid_50 rfl rfl (rf_a1 (rf_in_n (a := i) rfl (by omega)) (rf_a1 (rf_in_n (a := (6 * cn (μ 95) (191 + 8 * i) + e)) (by (try rw [(show (nI i).toNatClampNeg = i from rf_cl_n rfl (by omega))]); (try rw [(show α 12 i = μ 95 (191 + 8 * i) from rl_11 hR (i := i) (by omega) (by omega))]); (try rw [(show ((μ 95 (191 + 8 * i)) * (nI 6)) = nI (6 * cn (μ 95) (191 + 8 * i)) from rf_eq (rf_nmul (x := μ 95 (191 + 8 * i)) (y := nI 6) (hI.atb (k := (191 + 8 * i)) (bd_191 (i := i) (by omega) (by omega)) (by decide)) rfl) (by omega))]); (try rw [(show ((nI (6 * cn (μ 95) (191 + 8 * i))) + (nI e)) = nI (6 * cn (μ 95) (191 + 8 * i) + e) from rf_eq (rf_nadd (x := nI (6 * cn (μ 95) (191 + 8 * i))) (y := nI e) rfl rfl) (by omega))]); all_goals exact rfl) (by omega)) (rf_a1 (rf_in_n (a := i) rfl (by omega)) (rf_a1 (rf_in_n (a := (6 * cn (μ 95) (191 + 8 * i) + e)) (by (try rw [(show (nI i).toNatClampNeg = i from rf_cl_n rfl (by omega))]); (try rw [(show α 12 i = μ 95 (191 + 8 * i) from rl_11 hR (i := i) (by omega) (by omega))]); (try rw [(show ((μ 95 (191 + 8 * i)) * (nI 6)) = nI (6 * cn (μ 95) (191 + 8 * i)) from rf_eq (rf_nmul (x := μ 95 (191 + 8 * i)) (y := nI 6) (hI.atb (k := (191 + 8 * i)) (bd_191 (i := i) (by omega) (by omega)) (by decide)) rfl) (by omega))]); (try rw [(show ((nI (6 * cn (μ 95) (191 + 8 * i))) + (nI e)) = nI (6 * cn (μ 95) (191 + 8 * i) + e) from rf_eq (rf_nadd (x := nI (6 * cn (μ 95) (191 + 8 * i))) (y := nI e) rfl rfl) (by omega))]); (try rw [(show (nI (6 * cn (μ 95) (191 + 8 * i) + e)).toNatClampNeg = (6 * cn (μ 95) (191 + 8 * i) + e) from rf_cl_n rfl (by omega))]); (try rw [(show (nI i).toNatClampNeg = i from rf_cl_n rfl (by omega))]); (try rw [(show α 15 i = μ 95 (194 + 8 * i) from rl_14 hR (i := i) (by omega) (by omega))]); all_goals exact rfl) (by omega)) rf_a0)))) ?_
      try rw [(show (nI i).toNatClampNeg = i from rf_cl_n rfl (by omega))]
      try rw [(show α 12 i = μ 95 (191 + 8 * i) from rl_11 hR (i := i) (by omega) (by omega))]
      try rw [(show ((μ 95 (191 + 8 * i)) * (nI 6)) = nI (6 * cn (μ 95) (191 + 8 * i)) from rf_eq (rf_nmul (x := μ 95 (191 + 8 * i)) (y := nI 6) (hI.atb (k := (191 + 8 * i)) (bd_191 (i := i) (by omega) (by omega)) (by decide)) rfl) (by omega))]
      try rw [(show ((nI (6 * cn (μ 95) (191 + 8 * i))) + (nI e)) = nI (6 * cn (μ 95) (191 + 8 * i) + e) from rf_eq (rf_nadd (x := nI (6 * cn (μ 95) (191 + 8 * i))) (y := nI e) rfl rfl) (by omega))]
      try rw [(show (nI (6 * cn (μ 95) (191 + 8 * i) + e)).toNatClampNeg = (6 * cn (μ 95) (191 + 8 * i) + e) from rf_cl_n rfl (by omega))]
      try rw [(show (nI i).toNatClampNeg = i from rf_cl_n rfl (by omega))]
      try rw [(show α 15 i = μ 95 (194 + 8 * i) from rl_14 hR (i := i) (by omega) (by omega))]
      try rw [(show (nI (6 * cn (μ 95) (191 + 8 * i) + e)).toNatClampNeg = (6 * cn (μ 95) (191 + 8 * i) + e) from rf_cl_n rfl (by omega))]
      refine ok_step (ps := []) (L' := [some (.ref 79), some (.ref 1), some (.int (nI n)), some (.ref 10), some (.int (nI i)), some (.int ((nI e) + (nI 1)))]) (st' := []) (σ' := (rf_w α 82 (6 * cn (μ 95) (191 + 8 * i) + e) ((α 82 (6 * cn (μ 95) (191 + 8 * i) + e)) + (μ 95 (194 + 8 * i))), δ)) (pc' := 81) kX5_fillUnpaid_78 rfl rfl rf_a0 ?_
      try rw [(show ((nI e) + (nI 1)) = nI (e + 1) from nI_add _ _)]
      refine ok_goto bX5_fillUnpaid_81 ?_
      refine ih (e + 1) _ (by omega) (hJ.sF (sF.w (by omega))) (hs.tr (sF.w (by omega))) ((rf_w_row (by decide)).trans e1) ((rf_w_row (by decide)).trans e2) ((rf_w_row (by decide)).trans e3) (fun t h1 p h2 => ?_)
      rw [rf_w_at]
      by_cases e4 : p = e ∧ t = cn (μ 95) (191 + 8 * i)
      · obtain ⟨rfl, rfl⟩ := e4
        have e6 := ht _ h1 p h2
        rw [if_neg (by omega)] at e6
        rw [if_pos ⟨rfl, by omega⟩, if_pos (by omega), ub_s, if_pos rfl, ← nI_add, ← e6]
        congr 1
        unfold aU
        rw [if_neg (by rw [bI_0.mp h47]; decide)]
        exact (m194 hI (by omega)).2
      · rw [if_neg (by omega), ht t h1 p h2]
        congr 1
        by_cases e5 : p < e
        · rw [if_pos e5, if_pos (by omega)]
        · rw [if_neg e5]
          by_cases e6 : p < e + 1
          · rw [if_pos e6, ub_s, if_neg (by omega), Nat.add_zero]
          · rw [if_neg e6]
theorem c_fu_g {Q : Option Value → rf_Mem → Prop} {α0 : Nat → Nat → Int32} (hn : n ≤ 5) (k : ∀ α : Nat → Nat → Int32, J α μ → sF α0 α → α 79 = α0 79 → α 80 = α0 80 → α 81 = α0 81 → Tb (μ 95) n α → Q none (α, δ)) : ∀ (j i : Nat) (α : Nat → Nat → Int32), i + j = cn (μ 95) 4 → J α μ → sF α0 α → α 79 = α0 79 → α 80 = α0 80 → α 81 = α0 81 → (∀ t, t < 12 → ∀ p, p ≤ n → α 82 (6 * t + p) = nI (ub (μ 95) n i t p)) → rf_Ok (rf_T Ln xs) MX5_fillUnpaid 8 16 [some (.ref 79), some (.ref 1), some (.int (nI n)), some (.ref 10), some (.int (nI i)), none] [] (α, δ) Q := by
  intro j
  induction j with
  | zero =>
    intro i α hj hJ hs e1 e2 e3 ht
    have hR := hJ.1.1.1
    have hI := hJ.2
    have b4 := hI.le4
    obtain rfl : i = cn (μ 95) 4 := by omega
    refine ok_step (ps := []) (L' := [some (.ref 79), some (.ref 1), some (.int (nI n)), some (.ref 10), some (.int (nI (cn (μ 95) 4))), none]) (st' := [.int (α 10 0), .int (nI (cn (μ 95) 4))]) (σ' := (α, δ)) (pc' := 22) kX5_fillUnpaid_16 rfl rfl rf_a0 ?_
    try rw [(show α 10 0 = μ 95 4 from hR 9 0 4 rfl)]
    refine ok_icmp_ge bX5_fillUnpaid_22 (fun _ => ?_) (fun h22 => absurd (le_of hI.at4 (by omega) (by omega)) h22)
    refine ok_retv eX5_fillUnpaid_90 rfl ?_
    exact k α hJ hs e1 e2 e3 ht
  | succ j ih =>
    intro i α hj hJ hs e1 e2 e3 ht
    have hR := hJ.1.1.1
    have hI := hJ.2
    have b4 := hI.le4
    refine ok_step (ps := []) (L' := [some (.ref 79), some (.ref 1), some (.int (nI n)), some (.ref 10), some (.int (nI i)), none]) (st' := [.int (α 10 0), .int (nI i)]) (σ' := (α, δ)) (pc' := 22) kX5_fillUnpaid_16 rfl rfl rf_a0 ?_
    try rw [(show α 10 0 = μ 95 4 from hR 9 0 4 rfl)]
    refine ok_icmp_ge bX5_fillUnpaid_22 (fun h22 => absurd h22 (nle_of hI.at4 (by omega) (by omega))) (fun _ => ?_)
    refine ok_step (ps := []) (L' := [some (.ref 79), some (.ref 1), some (.int (nI n)), some (.ref 10), some (.int (nI i)), some (.int (nI 0))]) (st' := []) (σ' := (α, δ)) (pc' := 28) kX5_fillUnpaid_25 rfl rfl rf_a0 ?_
    refine c_fu_p (α0 := α0) hn (by omega) (fun α hJ hs e1 e2 e3 ht => ?_) (n + 1) 0 α (by omega) hJ hs e1 e2 e3 (fun t h1 p h2 => by rw [ht t h1 p h2, if_neg (by omega)])
    refine ok_step (ps := []) (L' := [some (.ref 79), some (.ref 1), some (.int (nI n)), some (.ref 10), some (.int ((nI i) + (nI 1))), none]) (st' := []) (σ' := (α, δ)) (pc' := 87) kX5_fillUnpaid_84 rfl rfl rf_a0 ?_
    try rw [(show ((nI i) + (nI 1)) = nI (i + 1) from nI_add _ _)]
    refine ok_goto bX5_fillUnpaid_87 ?_
    exact ih (i + 1) α (by omega) hJ hs e1 e2 e3 ht
theorem c_fu (hn : n ≤ 5) (hJ : J α μ) : rf_Ok (rf_T Ln xs) MX5_fillUnpaid 8 0 [some (.ref 79), some (.ref 1), some (.int (nI n)), none, none, none] [] (α, δ) (fun o s => o = none ∧ ∃ α' : Nat → Nat → Int32, s = (α', δ) ∧ sF α α' ∧ α' 79 = α 79 ∧ α' 80 = α 80 ∧ α' 81 = α 81 ∧ Tb (μ 95) n α') := by
  refine ok_step (ps := []) (L' := [some (.ref 79), some (.ref 1), some (.int (nI n)), none, none, none]) (st' := [.int (nI 0), .ref 82]) (σ' := (α, δ)) (pc' := 5) kX5_fillUnpaid_0 rfl rfl rf_a0 ?_
  refine ok_S (As := [.ref 82, .int (nI 0)]) (st := []) mkJ7_fill_53178 qX5_fillUnpaid_5 rfl rfl rfl rfl rfl (Nat.le_of_ble_eq_true rfl) (fill82) ?_
  refine ok_step (ps := []) (L' := [some (.ref 79), some (.ref 1), some (.int (nI n)), some (.ref 10), some (.int (nI 0)), none]) (st' := []) (σ' := (rf_r α 82 (fl 0 72 (nI 0) (α 82)), δ)) (pc' := 16) kX5_fillUnpaid_8 rfl rfl rf_a0 ?_
  refine c_fu_g (α0 := α) hn (fun α' hJ' hs e1 e2 e3 ht => ⟨rfl, α', rfl, hs, e1, e2, e3, ht⟩) (cn (μ 95) 4) 0 _ (by omega) (hJ.sF (sF.r (by omega))) (sF.r (by omega)) (by unfold rf_r; rw [if_neg (by decide)]) (by unfold rf_r; rw [if_neg (by decide)]) (by unfold rf_r; rw [if_neg (by decide)]) (fun t h1 p h2 => ?_)
  unfold rf_r fl
  rw [if_pos rfl]
  rw [if_pos (by omega)]
  rfl
theorem c_run (hn : n ≤ 5) (hn1 : 1 ≤ n) (h5 : 1 ≤ cn (μ 95) 5) (hJ : J α μ) : rf_Ok (rf_T Ln xs) MX5_run 40 0 [some (.ref 79), some (.ref 1), some (.int (nI n))] [] (α, δ) (fun o s => o = none ∧ ∃ (α' : Nat → Nat → Int32), s = (α', δ) ∧ sF α α' ∧ Ks (μ 95) n α' ((rowsL (cn (μ 95) 5 - 1) 0 n (fun _ => 0)).foldl (bstep (sU (μ 95) n) (sV (μ 95) n)) none)) := by
  have b5 := hJ.2.le5
  refine ok_step (ps := [rf_bb (nI 1)]) (L' := [some (.ref 79), some (.ref 1), some (.int (nI n))]) (st' := [.int (nI 0), .ref 81]) (σ' := (rf_w α 79 3 (nI 1), δ)) (pc' := 10) kX5_run_0 rfl rfl (rf_a1 (rfl) rf_a0) ?_
  refine ok_S (As := [.ref 81, .int (nI 0)]) (st := []) mkJ7_fill_53178 qX5_run_10 rfl rfl rfl rfl rfl (by omega) (fill81) ?_
  refine ok_step (ps := []) (L' := [some (.ref 79), some (.ref 1), some (.int (nI n))]) (st' := [.int (nI n), .ref 1, .ref 79]) (σ' := (rf_r (rf_w α 79 3 (nI 1)) 81 (fl 0 8 (nI 0) (rf_w α 79 3 (nI 1) 81)), δ)) (pc' := 16) kX5_run_13 rfl rfl rf_a0 ?_
  have hJ1 : J (rf_r (rf_w α 79 3 (nI 1)) 81 (fl 0 8 (nI 0) (rf_w α 79 3 (nI 1) 81))) μ := hJ.sF ((sF.w (by omega)).tr (sF.r (by omega)))
  refine ok_Vx (As := [.ref 1, .int (nI n)]) (b := 79) (st := []) mkX5_fillUnpaid qX5_run_16 rfl (rc_79) rfl rfl rfl rfl (by omega) (c_fu hn hJ1) (fun r1 σ1 hq => ?_)
  obtain ⟨rfl, α1, rfl, g1, g2, g3, g4, g5⟩ := hq
  refine ok_step (ps := []) (L' := [some (.ref 79), some (.ref 1), some (.int (nI n))]) (st' := [.int (nI n), .int (nI 0), .ref 1, .ref 79]) (σ' := (α1, δ)) (pc' := 23) kX5_run_19 rfl rfl rf_a0 ?_
  have hJ2 := hJ1.sF g1
  have hw : Rw α1 (fun _ => 0) := fun i hi => by
    rw [g4]
    unfold rf_r fl
    rw [if_pos rfl]
    dsimp only
    rw [if_pos (by omega)]
  have hb : Ks (μ 95) n α1 none := by
    show α1 79 3 = nI 1
    rw [g2]
    unfold rf_r
    rw [if_neg (by decide), rf_w_at, if_pos ⟨rfl, rfl⟩]
  refine ok_Vx (As := [.ref 1, .int (nI 0), .int (nI n)]) (b := 79) (st := []) mkX5_tryRows qX5_run_23 rfl (rc_79) rfl rfl rfl rfl (by omega) (c_try hn (cn (μ 95) 5 - 1) 0 n α1 (fun _ => 0) none (by omega) hn hJ2 g5 hw hb (fun q hq => rows_gd h5 hq)) (fun r1 σ1 hq => ?_)
  obtain ⟨rfl, α2, f2, rfl, i1, i2, i3, i4, i5⟩ := hq
  refine ok_retv eX5_run_26 rfl ?_
  exact ⟨rfl, α2, rfl, (((sF.w (by omega)).tr (sF.r (by omega))).tr g1).tr i1, i5⟩
end H69
