theorem sD.rfl (μ : Nat → Nat → Int32) : sD μ μ := ⟨fun _ _ _ _ _ => Eq.refl _, fun _ _ => Eq.refl _⟩
theorem sD.b {μ ν ρ : Nat → Nat → Int32} (h : sD μ ν) (g : sB ν ρ) : sD μ ρ := ⟨fun k h1 h2 h3 h4 => by rw [g.1 k h1 h3]; exact h.1 k h1 h2 h3 h4, fun i hi => by rw [g.2 i hi]; exact h.2 i hi⟩
theorem sD.w {μ ν : Nat → Nat → Int32} (h : sD μ ν) {k i : Nat} {v : Int32} (hk : k = 95 ∨ k = 102) : sD μ (rf_w ν k i v) := ⟨fun k' h1 h2 h3 h4 => by rw [rf_w_row (by omega)]; exact h.1 k' h1 h2 h3 h4, fun i hi => by rw [rf_w_row (by omega)]; exact h.2 i hi⟩
theorem J.w102 {α ν : Nat → Nat → Int32} (h : J α ν) {i : Nat} {v : Int32} : J α (rf_w ν 102 i v) := h.same (fun _ _ _ => rfl) (fun k i' hk => by
  unfold jB at hk
  rw [rf_w_row (by omega)])
section H63
variable {Ln : Nat} {xs : Nat → Int32} {α μ γ : Nat → Nat → Int32} {d : Nat → Int32}
theorem m_drawn (hd : μ 95 = d) : rf_At (rf_T Ln xs) MX12_drawn 1 0 ([some (.ref 94)], [], 108, (γ, μ)) (some (.int (zr d))) 108 (γ, rf_w μ 95 10 (zz d)) := by
  refine rf_pa ?_
  subst hd
  refine ok_step (ps := [rf_in (nI 10) 700, rf_in (nI 10) 700, rf_in (nI 10) 700]) (L' := [some (.ref 94)]) (st' := [.int ((((rf_w μ 95 ((nI 10).toNatClampNeg) (((μ 95 ((nI 10).toNatClampNeg)) * (nI 1103515245)) + (nI 12345))) 95 ((nI 10).toNatClampNeg)).toUInt32 >>> ((nI 8).toUInt32 &&& Int32.toUInt32 31)).toInt32)]) (σ' := (γ, rf_w μ 95 ((nI 10).toNatClampNeg) (((μ 95 ((nI 10).toNatClampNeg)) * (nI 1103515245)) + (nI 12345)))) (pc' := 32) kX12_drawn_0 rfl rfl (rf_a1 (rf_in_n (a := 10) rfl (by omega)) (rf_a1 (rf_in_n (a := 10) rfl (by omega)) (rf_a1 (rf_in_n (a := 10) rfl (by omega)) rf_a0))) ?_
  try rw [(show (nI 10).toNatClampNeg = 10 from rf_cl_n rfl (by omega))]
  try rw [(show (rf_w μ 95 10 (((μ 95 10) * (nI 1103515245)) + (nI 12345))) 95 10 = (((μ 95 10) * (nI 1103515245)) + (nI 12345)) from by rw [rf_w_at, if_pos ⟨rfl, rfl⟩])]
  refine ok_reti eX12_drawn_32 rfl ?_
  exact ⟨rfl, rfl⟩
theorem m_sh {ν : Nat → Nat → Int32} {c : Nat → Int32} {A r S : Nat} {Q : Option Value → rf_Mem → Prop} (hd : ν 95 = c) (hI : Iv c) (hS : S < 8) (hc : ∀ s, s < 8 → c (330 + s) = d (330 + s)) (h1 : csum d S ≤ r) (h2 : r < csum d (S + 1)) (hr : r < 1000) (k : rf_Ok (rf_T Ln xs) MX12_aDay 51 47 [some (.ref 94), some (.int (nI A)), none, some (.int (nI S)), none, none, none] [] (γ, ν) Q) : ∀ (j s : Nat), s + j = S → rf_Ok (rf_T Ln xs) MX12_aDay 51 14 [some (.ref 94), some (.int (nI A)), some (.int (nI (r - csum d s))), some (.int (nI s)), none, none, none] [] (γ, ν) Q := by
  have at_ : ∀ s, s < 8 → c (330 + s) = nI (cn d (330 + s)) := fun s hs => by
    have := hI.atb (b := 9) (bd_330 (i := s) hs rfl) (by decide)
    rw [this]
    unfold cn
    rw [hc s hs]
  have le_ : ∀ s, s < 8 → cn d (330 + s) ≤ 9 := fun s hs => by
    have := hI.leb (b := 9) (bd_330 (i := s) hs rfl) (by decide)
    unfold cn at this ⊢
    rw [hc s hs] at this
    exact this
  intro j
  induction j with
  | zero =>
    intro s hj
    obtain rfl : s = S := by omega
    have e1 : csum d (s + 1) = csum d s + cn d (330 + s) := rfl
    have hl := le_ s hS
    refine ok_step (ps := [rf_in ((nI 330) + (nI s)) 700]) (L' := [some (.ref 94), some (.int (nI A)), some (.int (nI (r - csum d s))), some (.int (nI s)), none, none, none]) (st' := [.int (ν 95 (((nI 330) + (nI s)).toNatClampNeg)), .int (nI (r - csum d s))]) (σ' := (γ, ν)) (pc' := 25) kX12_aDay_14 rfl rfl (rf_a1 (rf_in_n (a := (330 + s)) (by (try rw [(show ((nI 330) + (nI s)) = nI (330 + s) from rf_eq (rf_nadd (x := nI 330) (y := nI s) rfl rfl) (by omega))]); all_goals exact rfl) (by omega)) rf_a0) ?_
    try rw [(show ((nI 330) + (nI s)) = nI (330 + s) from rf_eq (rf_nadd (x := nI 330) (y := nI s) rfl rfl) (by omega))]
    try rw [(show (nI (330 + s)).toNatClampNeg = (330 + s) from rf_cl_n rfl (by omega))]
    try rw [(show ν 95 (330 + s) = c (330 + s) from congrFun hd _)]
    refine ok_icmp_lt bX12_aDay_25 (fun _ => ?_) (fun h25 => absurd (by rw [at_ _ hS]; exact nI_lt (by omega) (by omega)) h25)
    refine ok_kill (x := 2) ?_
    exact k
  | succ j ih =>
    intro s hj
    have e1 : csum d (s + 1) = csum d s + cn d (330 + s) := rfl
    have e2 : csum d (s + 1) ≤ csum d S := csum_inc (by omega)
    have hl := le_ s (by omega)
    refine ok_step (ps := [rf_in ((nI 330) + (nI s)) 700]) (L' := [some (.ref 94), some (.int (nI A)), some (.int (nI (r - csum d s))), some (.int (nI s)), none, none, none]) (st' := [.int (ν 95 (((nI 330) + (nI s)).toNatClampNeg)), .int (nI (r - csum d s))]) (σ' := (γ, ν)) (pc' := 25) kX12_aDay_14 rfl rfl (rf_a1 (rf_in_n (a := (330 + s)) (by (try rw [(show ((nI 330) + (nI s)) = nI (330 + s) from rf_eq (rf_nadd (x := nI 330) (y := nI s) rfl rfl) (by omega))]); all_goals exact rfl) (by omega)) rf_a0) ?_
    try rw [(show ((nI 330) + (nI s)) = nI (330 + s) from rf_eq (rf_nadd (x := nI 330) (y := nI s) rfl rfl) (by omega))]
    try rw [(show (nI (330 + s)).toNatClampNeg = (330 + s) from rf_cl_n rfl (by omega))]
    try rw [(show ν 95 (330 + s) = c (330 + s) from congrFun hd _)]
    refine ok_icmp_lt bX12_aDay_25 (fun h25 => absurd h25 (by rw [at_ _ (by omega)]; exact nI_nlt (by omega) (by omega))) (fun _ => ?_)
    refine ok_step (ps := [rf_in ((nI 330) + (nI s)) 700]) (L' := [some (.ref 94), some (.int (nI A)), some (.int ((nI (r - csum d s)) - (ν 95 (((nI 330) + (nI s)).toNatClampNeg)))), some (.int ((nI s) + (nI 1))), none, none, none]) (st' := []) (σ' := (γ, ν)) (pc' := 44) kX12_aDay_28 rfl rfl (rf_a1 (rf_in_n (a := (330 + s)) (by (try rw [(show ((nI 330) + (nI s)) = nI (330 + s) from rf_eq (rf_nadd (x := nI 330) (y := nI s) rfl rfl) (by omega))]); all_goals exact rfl) (by omega)) rf_a0) ?_
    try rw [(show ((nI 330) + (nI s)) = nI (330 + s) from rf_eq (rf_nadd (x := nI 330) (y := nI s) rfl rfl) (by omega))]
    try rw [(show (nI (330 + s)).toNatClampNeg = (330 + s) from rf_cl_n rfl (by omega))]
    try rw [(show ν 95 (330 + s) = c (330 + s) from congrFun hd _)]
    try rw [(show ((nI (r - csum d s)) - (c (330 + s))) = nI ((r - csum d s) - (cn d (330 + s))) from rf_eq (rf_nsub (x := nI (r - csum d s)) (y := c (330 + s)) rfl (at_ _ (by omega)) (by omega)) (by omega))]
    try rw [(show ((nI s) + (nI 1)) = nI (s + 1) from nI_add _ _)]
    refine ok_goto bX12_aDay_44 ?_
    rw [show r - csum d s - cn d (330 + s) = r - csum d (s + 1) by omega]
    exact ih (s + 1) (by omega)
theorem m_pd1 {A S : Nat} {Q : Option Value → rf_Mem → Prop} (hI : Iv d) (hS : S < 8) (k : ∀ ρ : Nat → Nat → Int32, ρ 95 = ct d S 0 → sD μ ρ → (∀ k, k < cn d 4 → ρ 102 k = bI (fnd d S k)) → rf_Ok (rf_T Ln xs) MX12_aDay 51 141 [some (.ref 94), some (.int (nI A)), none, some (.int (nI S)), some (.int (nI (sumN (fm d S) (cn d 4)))), none, none] [] (γ, ρ) Q) : ∀ (j i : Nat) (ν : Nat → Nat → Int32), J α ν → ν 95 = ct d S 0 → sD μ ν → (∀ k, k < i → ν 102 k = bI (fnd d S k)) → i + j = cn d 4 → rf_Ok (rf_T Ln xs) MX12_aDay 51 53 [some (.ref 94), some (.int (nI A)), none, some (.int (nI S)), some (.int (nI (sumN (fm d S) i))), some (.int (nI i)), none] [] (γ, ν) Q := by
  have b4 := hI.le4
  have hI1 := ct_Iv (S := S) hI (g := 0) (by omega)
  have e4 : cn (ct d S 0) 4 = cn d 4 := cn_upd (by decide)
  have ec : ∀ j, j ≠ 10 → ct d S 0 j = d j := fun j hj => pk_un hj
  intro j
  induction j with
  | zero =>
    intro i ν hJ hd hs hp hj
    obtain rfl : i = cn d 4 := by omega
    refine ok_step (ps := [rf_in (nI 4) 700]) (L' := [some (.ref 94), some (.int (nI A)), none, some (.int (nI S)), some (.int (nI (sumN (fm d S) (cn d 4)))), some (.int (nI (cn d 4))), none]) (st' := [.int (ν 95 ((nI 4).toNatClampNeg)), .int (nI (cn d 4))]) (σ' := (γ, ν)) (pc' := 61) kX12_aDay_53 rfl rfl (rf_a1 (rf_in_n (a := 4) rfl (by omega)) rf_a0) ?_
    try rw [(show (nI 4).toNatClampNeg = 4 from rf_cl_n rfl (by omega))]
    try rw [(show ν 95 4 = d 4 from (congrFun hd _).trans (ec _ (by omega)))]
    refine ok_icmp_ge bX12_aDay_61 (fun _ => ?_) (fun h61 => absurd (le_of hI.at4 (by omega) (by omega)) h61)
    refine ok_kill (x := 5) ?_
    exact k ν hd hs hp
  | succ j ih =>
    intro i ν hJ hd hs hp hj
    have b194 := (m194 hI (g := i) (by omega)).1
    have hfi := fm_le (S := S) (n := i) hI (by omega)
    refine ok_step (ps := [rf_in (nI 4) 700]) (L' := [some (.ref 94), some (.int (nI A)), none, some (.int (nI S)), some (.int (nI (sumN (fm d S) i))), some (.int (nI i)), none]) (st' := [.int (ν 95 ((nI 4).toNatClampNeg)), .int (nI i)]) (σ' := (γ, ν)) (pc' := 61) kX12_aDay_53 rfl rfl (rf_a1 (rf_in_n (a := 4) rfl (by omega)) rf_a0) ?_
    try rw [(show (nI 4).toNatClampNeg = 4 from rf_cl_n rfl (by omega))]
    try rw [(show ν 95 4 = d 4 from (congrFun hd _).trans (ec _ (by omega)))]
    refine ok_icmp_ge bX12_aDay_61 (fun h61 => absurd h61 (nle_of hI.at4 (by omega) (by omega))) (fun _ => ?_)
    refine ok_step (ps := [rf_in ((nI 320) + (nI S)) 700]) (L' := [some (.ref 94), some (.int (nI A)), none, some (.int (nI S)), some (.int (nI (sumN (fm d S) i))), some (.int (nI i)), none]) (st' := [.int (nI 1), .int (nI i), .ref 94, .int (ν 95 (((nI 320) + (nI S)).toNatClampNeg)), .int (nI i), .ref 102]) (σ' := (γ, ν)) (pc' := 84) kX12_aDay_64 rfl rfl (rf_a1 (rf_in_n (a := (320 + S)) (by (try rw [(show ((nI 320) + (nI S)) = nI (320 + S) from rf_eq (rf_nadd (x := nI 320) (y := nI S) rfl rfl) (by omega))]); all_goals exact rfl) (by omega)) rf_a0) ?_
    try rw [(show ((nI 320) + (nI S)) = nI (320 + S) from rf_eq (rf_nadd (x := nI 320) (y := nI S) rfl rfl) (by omega))]
    try rw [(show (nI (320 + S)).toNatClampNeg = (320 + S) from rf_cl_n rfl (by omega))]
    try rw [(show ν 95 (320 + S) = d (320 + S) from (congrFun hd _).trans (ec _ (by omega)))]
    refine ok_V (As := [.int (nI i), .int (nI 1)]) (b := 94) (st := [.int (d (320 + S)), .int (nI i), .ref 102]) mkX12_gr qX12_aDay_84 rfl (rc_94) rfl rfl rfl rfl (Nat.le_of_ble_eq_true rfl) (m_gr_d (d := ct d S 0) (j := (191 + 8 * i)) hd (by omega) (by omega) (by omega)) ?_
    rw [ec (191 + 8 * i) (by omega)]
    refine ok_step (ps := []) (L' := [some (.ref 94), some (.int (nI A)), none, some (.int (nI S)), some (.int (nI (sumN (fm d S) i))), some (.int (nI i)), none]) (st' := [.int (nI 1), .int (((d (320 + S)) >>> ((d (191 + 8 * i)) &&& 31)) &&& (nI 1)), .int (nI i), .ref 102]) (σ' := (γ, ν)) (pc' := 91) kX12_aDay_87 rfl rfl rf_a0 ?_
    refine ok_icmp_ne bX12_aDay_91 (fun h91 => ?_) (fun h91 => ?_)
    · refine ok_step (ps := []) (L' := [some (.ref 94), some (.int (nI A)), none, some (.int (nI S)), some (.int (nI (sumN (fm d S) i))), some (.int (nI i)), none]) (st' := [.int (nI 0), .int (nI i), .ref 102]) (σ' := (γ, ν)) (pc' := 108) kX12_aDay_107 rfl rfl rf_a0 ?_
      refine ok_step (ps := [rf_in (nI i) 16, rf_bb (nI 0), rf_in (nI i) 16]) (L' := [some (.ref 94), some (.int (nI A)), none, some (.int (nI S)), some (.int (nI (sumN (fm d S) i))), some (.int (nI i)), none]) (st' := [.int ((rf_w ν 102 ((nI i).toNatClampNeg) (nI 0)) 102 ((nI i).toNatClampNeg)), .int (nI (sumN (fm d S) i))]) (σ' := (γ, rf_w ν 102 ((nI i).toNatClampNeg) (nI 0))) (pc' := 118) kX12_aDay_108 rfl rfl (rf_a1 (rf_in_n (a := i) rfl (by omega)) (rf_a1 (rfl) (rf_a1 (rf_in_n (a := i) rfl (by omega)) rf_a0))) ?_
      try rw [(show (nI i).toNatClampNeg = i from rf_cl_n rfl (by omega))]
      try rw [(show (rf_w ν 102 i (nI 0)) 102 i = (nI 0) from by rw [rf_w_at, if_pos ⟨rfl, rfl⟩])]
      refine ok_if_eq bX12_aDay_118 (fun _ => ?_) (fun h118 => absurd ((by decide)) h118)
      refine ok_step (ps := []) (L' := [some (.ref 94), some (.int (nI A)), none, some (.int (nI S)), some (.int (nI (sumN (fm d S) i))), some (.int (nI i)), none]) (st' := [.int (nI 0), .int (nI (sumN (fm d S) i))]) (σ' := (γ, rf_w ν 102 i (nI 0))) (pc' := 132) kX12_aDay_131 rfl rfl rf_a0 ?_
      refine ok_step (ps := []) (L' := [some (.ref 94), some (.int (nI A)), none, some (.int (nI S)), some (.int ((nI (sumN (fm d S) i)) + (nI 0))), some (.int ((nI i) + (nI 1))), none]) (st' := []) (σ' := (γ, rf_w ν 102 i (nI 0))) (pc' := 138) kX12_aDay_132 rfl rfl rf_a0 ?_
      try rw [(show ((nI (sumN (fm d S) i)) + (nI 0)) = nI (sumN (fm d S) i) from rf_eq (rf_nadd (x := nI (sumN (fm d S) i)) (y := nI 0) rfl rfl) (by omega))]
      try rw [(show ((nI i) + (nI 1)) = nI (i + 1) from nI_add _ _)]
      refine ok_goto bX12_aDay_138 ?_
      have ef : fnd d S i = false := by unfold fnd; rw [show hb (d (320 + S)) (d (191 + 8 * i)) = false from decide_eq_false h91, Bool.and_false]
      rw [show (nI (sumN (fm d S) i) : Int32) = nI (sumN (fm d S) (i + 1)) from fm_f ef]
      refine ok_kill (x := 6) ?_
      refine ih (i + 1) _ hJ.w102 (by rw [rf_w_row (by decide)]; exact hd) (hs.w (Or.inr rfl)) (fun k hk => ?_) (by omega)
      rw [rf_w_at]
      by_cases e : k = i
      · rw [if_pos ⟨rfl, e⟩, e, ef]
        rfl
      · rw [if_neg (fun h => e h.2)]
        exact hp k (by omega)
    · refine ok_step (ps := []) (L' := [some (.ref 94), some (.int (nI A)), none, some (.int (nI S)), some (.int (nI (sumN (fm d S) i))), some (.int (nI i)), none]) (st' := [.int (nI i), .ref 94, .int (nI i), .ref 102]) (σ' := (γ, ν)) (pc' := 97) kX12_aDay_94 rfl rfl rf_a0 ?_
      refine ok_Vx (As := [.int (nI i)]) (b := 94) (st := [.int (nI i), .ref 102]) mkX12_pays qX12_aDay_97 rfl (rc_94) rfl rfl rfl rfl (Nat.le_of_ble_eq_true rfl) (m_pays (d := ct d S 0) hJ hd (by omega)) (fun r1 σ1 hq => ?_)
      obtain ⟨rfl, ν2, rfl, hJ2, hd2, hB⟩ := hq
      rw [show s_now (ct d S 0) i = s_now d i from now_z]
      refine ok_if_ne bX12_aDay_100 (fun h100 => ?_) (fun h100 => ?_)
      · refine ok_step (ps := []) (L' := [some (.ref 94), some (.int (nI A)), none, some (.int (nI S)), some (.int (nI (sumN (fm d S) i))), some (.int (nI i)), none]) (st' := [.int (nI 0), .int (nI i), .ref 102]) (σ' := (γ, ν2)) (pc' := 108) kX12_aDay_107 rfl rfl rf_a0 ?_
        refine ok_step (ps := [rf_in (nI i) 16, rf_bb (nI 0), rf_in (nI i) 16]) (L' := [some (.ref 94), some (.int (nI A)), none, some (.int (nI S)), some (.int (nI (sumN (fm d S) i))), some (.int (nI i)), none]) (st' := [.int ((rf_w ν2 102 ((nI i).toNatClampNeg) (nI 0)) 102 ((nI i).toNatClampNeg)), .int (nI (sumN (fm d S) i))]) (σ' := (γ, rf_w ν2 102 ((nI i).toNatClampNeg) (nI 0))) (pc' := 118) kX12_aDay_108 rfl rfl (rf_a1 (rf_in_n (a := i) rfl (by omega)) (rf_a1 (rfl) (rf_a1 (rf_in_n (a := i) rfl (by omega)) rf_a0))) ?_
        try rw [(show (nI i).toNatClampNeg = i from rf_cl_n rfl (by omega))]
        try rw [(show (rf_w ν2 102 i (nI 0)) 102 i = (nI 0) from by rw [rf_w_at, if_pos ⟨rfl, rfl⟩])]
        refine ok_if_eq bX12_aDay_118 (fun _ => ?_) (fun h118 => absurd ((by decide)) h118)
        refine ok_step (ps := []) (L' := [some (.ref 94), some (.int (nI A)), none, some (.int (nI S)), some (.int (nI (sumN (fm d S) i))), some (.int (nI i)), none]) (st' := [.int (nI 0), .int (nI (sumN (fm d S) i))]) (σ' := (γ, rf_w ν2 102 i (nI 0))) (pc' := 132) kX12_aDay_131 rfl rfl rf_a0 ?_
        refine ok_step (ps := []) (L' := [some (.ref 94), some (.int (nI A)), none, some (.int (nI S)), some (.int ((nI (sumN (fm d S) i)) + (nI 0))), some (.int ((nI i) + (nI 1))), none]) (st' := []) (σ' := (γ, rf_w ν2 102 i (nI 0))) (pc' := 138) kX12_aDay_132 rfl rfl rf_a0 ?_
        try rw [(show ((nI (sumN (fm d S) i)) + (nI 0)) = nI (sumN (fm d S) i) from rf_eq (rf_nadd (x := nI (sumN (fm d S) i)) (y := nI 0) rfl rfl) (by omega))]
        try rw [(show ((nI i) + (nI 1)) = nI (i + 1) from nI_add _ _)]
        refine ok_goto bX12_aDay_138 ?_
        have ef : fnd d S i = false := by unfold fnd; rw [bI_n0.mp h100]; rfl
        rw [show (nI (sumN (fm d S) i) : Int32) = nI (sumN (fm d S) (i + 1)) from fm_f ef]
        refine ok_kill (x := 6) ?_
        refine ih (i + 1) _ hJ2.w102 (by rw [rf_w_row (by decide)]; exact hd2) ((hs.b hB).w (Or.inr rfl)) (fun k hk => ?_) (by omega)
        rw [rf_w_at]
        by_cases e : k = i
        · rw [if_pos ⟨rfl, e⟩, e, ef]
          rfl
        · rw [if_neg (fun h => e h.2)]
          exact (congrFun (hB.1 102 (by decide) (by decide)) k).trans (hp k (by omega))
      · refine ok_step (ps := []) (L' := [some (.ref 94), some (.int (nI A)), none, some (.int (nI S)), some (.int (nI (sumN (fm d S) i))), some (.int (nI i)), none]) (st' := [.int (nI 1), .int (nI i), .ref 102]) (σ' := (γ, ν2)) (pc' := 104) kX12_aDay_103 rfl rfl rf_a0 ?_
        refine ok_goto bX12_aDay_104 ?_
        refine ok_step (ps := [rf_in (nI i) 16, rf_bb (nI 1), rf_in (nI i) 16]) (L' := [some (.ref 94), some (.int (nI A)), none, some (.int (nI S)), some (.int (nI (sumN (fm d S) i))), some (.int (nI i)), none]) (st' := [.int ((rf_w ν2 102 ((nI i).toNatClampNeg) (nI 1)) 102 ((nI i).toNatClampNeg)), .int (nI (sumN (fm d S) i))]) (σ' := (γ, rf_w ν2 102 ((nI i).toNatClampNeg) (nI 1))) (pc' := 118) kX12_aDay_108 rfl rfl (rf_a1 (rf_in_n (a := i) rfl (by omega)) (rf_a1 (rfl) (rf_a1 (rf_in_n (a := i) rfl (by omega)) rf_a0))) ?_
        try rw [(show (nI i).toNatClampNeg = i from rf_cl_n rfl (by omega))]
        try rw [(show (rf_w ν2 102 i (nI 1)) 102 i = (nI 1) from by rw [rf_w_at, if_pos ⟨rfl, rfl⟩])]
        refine ok_if_eq bX12_aDay_118 (fun h118 => absurd h118 ((by decide))) (fun _ => ?_)
        refine ok_step (ps := []) (L' := [some (.ref 94), some (.int (nI A)), none, some (.int (nI S)), some (.int (nI (sumN (fm d S) i))), some (.int (nI i)), none]) (st' := [.int (nI 4), .int (nI i), .ref 94, .int (nI (sumN (fm d S) i))]) (σ' := (γ, rf_w ν2 102 i (nI 1))) (pc' := 125) kX12_aDay_121 rfl rfl rf_a0 ?_
        refine ok_V (As := [.int (nI i), .int (nI 4)]) (b := 94) (st := [.int (nI (sumN (fm d S) i))]) mkX12_gr qX12_aDay_125 rfl (rc_94) rfl rfl rfl rfl (Nat.le_of_ble_eq_true rfl) (m_gr_d (d := ct d S 0) (j := (194 + 8 * i)) (show (rf_w ν2 102 i (nI 1)) 95 = ct d S 0 from (rf_w_row (by decide)).trans hd2) (by omega) (by omega) (by omega)) ?_
        rw [ec (194 + 8 * i) (by omega)]
        refine ok_goto bX12_aDay_128 ?_
        refine ok_step (ps := []) (L' := [some (.ref 94), some (.int (nI A)), none, some (.int (nI S)), some (.int ((nI (sumN (fm d S) i)) + (d (194 + 8 * i)))), some (.int ((nI i) + (nI 1))), none]) (st' := []) (σ' := (γ, rf_w ν2 102 i (nI 1))) (pc' := 138) kX12_aDay_132 rfl rfl rf_a0 ?_
        try rw [(show ((nI (sumN (fm d S) i)) + (d (194 + 8 * i))) = nI ((sumN (fm d S) i) + cn (d) (194 + 8 * i)) from rf_eq (rf_nadd (x := nI (sumN (fm d S) i)) (y := d (194 + 8 * i)) rfl (hI.atb (k := (194 + 8 * i)) (bd_194 (i := i) (by omega) (by omega)) (by decide))) (by omega))]
        try rw [(show ((nI i) + (nI 1)) = nI (i + 1) from nI_add _ _)]
        refine ok_goto bX12_aDay_138 ?_
        have ef : fnd d S i = true := by unfold fnd; rw [bI_0.mp h100, show hb (d (320 + S)) (d (191 + 8 * i)) = true from decide_eq_true h91]; rfl
        rw [show (nI ((sumN (fm d S) i) + cn (d) (194 + 8 * i)) : Int32) = nI (sumN (fm d S) (i + 1)) from fm_t ef]
        refine ok_kill (x := 6) ?_
        refine ih (i + 1) _ hJ2.w102 (by rw [rf_w_row (by decide)]; exact hd2) ((hs.b hB).w (Or.inr rfl)) (fun k hk => ?_) (by omega)
        rw [rf_w_at]
        by_cases e : k = i
        · rw [if_pos ⟨rfl, e⟩, e, ef]
          rfl
        · rw [if_neg (fun h => e h.2)]
          exact (congrFun (hB.1 102 (by decide) (by decide)) k).trans (hp k (by omega))
theorem m_ict {ρ : Nat → Nat → Int32} {c : Nat → Int32} {g : Nat} (hd : ρ 95 = c) (hI : Iv d) (hg : g < 16) (hc : ∀ j, j ≠ 10 → 190 + 8 * g ≤ j → c j = d j) (h0 : c 0 = d 0) : rf_Ok (rf_T Ln xs) MX12_isCaught 1 0 [some (.ref 94), some (.int (nI g)), none] [] (γ, ρ) (fun r t => r = none ∧ ∃ ρ2 : Nat → Nat → Int32, t = (γ, ρ2) ∧ ρ2 95 = cat d c g ∧ ∀ k, k ≠ 95 → ρ2 k = ρ k) := by
  have b0 := hI.le0
  have b195 := hI.leb (b := 9) (bd_195 (i := g) hg rfl) (by decide)
  have b196 := hI.leb (b := 9) (bd_196 (i := g) hg rfl) (by decide)
  refine ok_step (ps := [rf_in ((nI 190) + ((nI 8) * (nI g))) 700]) (L' := [some (.ref 94), some (.int (nI g)), some (.int ((nI 190) + ((nI 8) * (nI g))))]) (st' := [.int (ρ 95 (((nI 190) + ((nI 8) * (nI g))).toNatClampNeg))]) (σ' := (γ, ρ)) (pc' := 15) kX12_isCaught_0 rfl rfl (rf_a1 (rf_in_n (a := (190 + 8 * g)) (by (try rw [(show ((nI 8) * (nI g)) = nI (8 * g) from rf_eq (rf_nmul (x := nI 8) (y := nI g) rfl rfl) (by omega))]); (try rw [(show ((nI 190) + (nI (8 * g))) = nI (190 + 8 * g) from rf_eq (rf_nadd (x := nI 190) (y := nI (8 * g)) rfl rfl) (by omega))]); all_goals exact rfl) (by omega)) rf_a0) ?_
  try rw [(show ((nI 8) * (nI g)) = nI (8 * g) from rf_eq (rf_nmul (x := nI 8) (y := nI g) rfl rfl) (by omega))]
  try rw [(show ((nI 190) + (nI (8 * g))) = nI (190 + 8 * g) from rf_eq (rf_nadd (x := nI 190) (y := nI (8 * g)) rfl rfl) (by omega))]
  try rw [(show (nI (190 + 8 * g)).toNatClampNeg = (190 + 8 * g) from rf_cl_n rfl (by omega))]
  try rw [(show ρ 95 (190 + 8 * g) = d (190 + 8 * g) from (congrFun hd _).trans (hc _ (by omega) (by omega)))]
  refine ok_table bX12_isCaught_15 (fun h15 => ?_) (fun i t ht h15 => ?_)
  · refine ok_retv eX12_isCaught_156 rfl ?_
    have hk := sw_cn0 hI hg h15
    exact ⟨rfl, ρ, rfl, by rw [cat_n hk]; exact hd, fun _ _ => rfl⟩
  · match i, ht, h15 with
    | 0, ht, h15 =>
      cases ht
      refine ok_step (ps := [rf_in ((nI (190 + 8 * g)) + (nI 5)) 700, rf_in ((nI (190 + 8 * g)) + (nI 5)) 700, rf_in ((nI (190 + 8 * g)) + (nI 6)) 700]) (L' := [some (.ref 94), some (.int (nI g)), some (.int (nI (190 + 8 * g)))]) (st' := [.int (ρ 95 (((nI (190 + 8 * g)) + (nI 6)).toNatClampNeg)), .int (ρ 95 (((nI (190 + 8 * g)) + (nI 5)).toNatClampNeg)), .int (ρ 95 (((nI (190 + 8 * g)) + (nI 5)).toNatClampNeg)), .int ((nI (190 + 8 * g)) + (nI 5)), .ref 95]) (σ' := (γ, ρ)) (pc' := 78) kX12_isCaught_52 rfl rfl (rf_a1 (rf_in_n (a := (195 + 8 * g)) (by (try rw [(show ((nI (190 + 8 * g)) + (nI 5)) = nI (195 + 8 * g) from rf_eq (rf_nadd (x := nI (190 + 8 * g)) (y := nI 5) rfl rfl) (by omega))]); all_goals exact rfl) (by omega)) (rf_a1 (rf_in_n (a := (195 + 8 * g)) (by (try rw [(show ((nI (190 + 8 * g)) + (nI 5)) = nI (195 + 8 * g) from rf_eq (rf_nadd (x := nI (190 + 8 * g)) (y := nI 5) rfl rfl) (by omega))]); (try rw [(show (nI (195 + 8 * g)).toNatClampNeg = (195 + 8 * g) from rf_cl_n rfl (by omega))]); (try rw [(show ρ 95 (195 + 8 * g) = d (195 + 8 * g) from (congrFun hd _).trans (hc _ (by omega) (by omega)))]); (try rw [(show ((nI (190 + 8 * g)) + (nI 5)) = nI (195 + 8 * g) from rf_eq (rf_nadd (x := nI (190 + 8 * g)) (y := nI 5) rfl rfl) (by omega))]); all_goals exact rfl) (by omega)) (rf_a1 (rf_in_n (a := (196 + 8 * g)) (by (try rw [(show ((nI (190 + 8 * g)) + (nI 5)) = nI (195 + 8 * g) from rf_eq (rf_nadd (x := nI (190 + 8 * g)) (y := nI 5) rfl rfl) (by omega))]); (try rw [(show (nI (195 + 8 * g)).toNatClampNeg = (195 + 8 * g) from rf_cl_n rfl (by omega))]); (try rw [(show ρ 95 (195 + 8 * g) = d (195 + 8 * g) from (congrFun hd _).trans (hc _ (by omega) (by omega)))]); (try rw [(show ((nI (190 + 8 * g)) + (nI 5)) = nI (195 + 8 * g) from rf_eq (rf_nadd (x := nI (190 + 8 * g)) (y := nI 5) rfl rfl) (by omega))]); (try rw [(show (nI (195 + 8 * g)).toNatClampNeg = (195 + 8 * g) from rf_cl_n rfl (by omega))]); (try rw [(show ρ 95 (195 + 8 * g) = d (195 + 8 * g) from (congrFun hd _).trans (hc _ (by omega) (by omega)))]); (try rw [(show ((nI (190 + 8 * g)) + (nI 6)) = nI (196 + 8 * g) from rf_eq (rf_nadd (x := nI (190 + 8 * g)) (y := nI 6) rfl rfl) (by omega))]); all_goals exact rfl) (by omega)) rf_a0))) ?_
      try rw [(show ((nI (190 + 8 * g)) + (nI 5)) = nI (195 + 8 * g) from rf_eq (rf_nadd (x := nI (190 + 8 * g)) (y := nI 5) rfl rfl) (by omega))]
      try rw [(show (nI (195 + 8 * g)).toNatClampNeg = (195 + 8 * g) from rf_cl_n rfl (by omega))]
      try rw [(show ρ 95 (195 + 8 * g) = d (195 + 8 * g) from (congrFun hd _).trans (hc _ (by omega) (by omega)))]
      try rw [(show ((nI (190 + 8 * g)) + (nI 5)) = nI (195 + 8 * g) from rf_eq (rf_nadd (x := nI (190 + 8 * g)) (y := nI 5) rfl rfl) (by omega))]
      try rw [(show (nI (195 + 8 * g)).toNatClampNeg = (195 + 8 * g) from rf_cl_n rfl (by omega))]
      try rw [(show ρ 95 (195 + 8 * g) = d (195 + 8 * g) from (congrFun hd _).trans (hc _ (by omega) (by omega)))]
      try rw [(show ((nI (190 + 8 * g)) + (nI 6)) = nI (196 + 8 * g) from rf_eq (rf_nadd (x := nI (190 + 8 * g)) (y := nI 6) rfl rfl) (by omega))]
      try rw [(show (nI (196 + 8 * g)).toNatClampNeg = (196 + 8 * g) from rf_cl_n rfl (by omega))]
      try rw [(show ρ 95 (196 + 8 * g) = d (196 + 8 * g) from (congrFun hd _).trans (hc _ (by omega) (by omega)))]
      refine ok_icmp_ge bX12_isCaught_78 (fun h78 => ?_) (fun h78 => ?_)
      · refine ok_step (ps := []) (L' := [some (.ref 94), some (.int (nI g)), some (.int (nI (190 + 8 * g)))]) (st' := [.int (nI 0), .int (d (195 + 8 * g)), .int (nI (195 + 8 * g)), .ref 95]) (σ' := (γ, ρ)) (pc' := 86) kX12_isCaught_85 rfl rfl rf_a0 ?_
        refine ok_step (ps := [rf_in (nI (195 + 8 * g)) 700]) (L' := [some (.ref 94), some (.int (nI g)), some (.int (nI (190 + 8 * g)))]) (st' := []) (σ' := (γ, rf_w ρ 95 ((nI (195 + 8 * g)).toNatClampNeg) ((d (195 + 8 * g)) + (nI 0)))) (pc' := 88) kX12_isCaught_86 rfl rfl (rf_a1 (rf_in_n (a := (195 + 8 * g)) rfl (by omega)) rf_a0) ?_
        try rw [(show ((d (195 + 8 * g)) + (nI 0)) = nI (cn (d) (195 + 8 * g)) from rf_eq (rf_nadd (x := d (195 + 8 * g)) (y := nI 0) (hI.atb (k := (195 + 8 * g)) (bd_195 (i := g) (by omega) (by omega)) (by decide)) rfl) (by omega))]
        try rw [(show (nI (195 + 8 * g)).toNatClampNeg = (195 + 8 * g) from rf_cl_n rfl (by omega))]
        refine ok_goto bX12_isCaught_88 ?_
        refine ok_retv eX12_isCaught_156 rfl ?_
        have hk : cn d (190 + 8 * g) = 2 := sw_cn (n := 2) (by omega) (by decide)
        have hx := h78
        rw [hI.atb (b := 9) (bd_195 (i := g) hg rfl) (by decide), hI.atb (b := 9) (bd_196 (i := g) hg rfl) (by decide), nI_leI (by omega) (by omega)] at hx
        have ev : nI (cn (d) (195 + 8 * g)) = nI (pn d g) := congrArg nI (by unfold pn; split <;> omega)
        rw [ev]
        exact ⟨rfl, _, rfl, by rw [cat_p (by omega), rf_w_self, hd], fun k k1 => rf_w_row k1⟩
      · refine ok_step (ps := []) (L' := [some (.ref 94), some (.int (nI g)), some (.int (nI (190 + 8 * g)))]) (st' := [.int (nI 1), .int (d (195 + 8 * g)), .int (nI (195 + 8 * g)), .ref 95]) (σ' := (γ, ρ)) (pc' := 82) kX12_isCaught_81 rfl rfl rf_a0 ?_
        refine ok_goto bX12_isCaught_82 ?_
        refine ok_step (ps := [rf_in (nI (195 + 8 * g)) 700]) (L' := [some (.ref 94), some (.int (nI g)), some (.int (nI (190 + 8 * g)))]) (st' := []) (σ' := (γ, rf_w ρ 95 ((nI (195 + 8 * g)).toNatClampNeg) ((d (195 + 8 * g)) + (nI 1)))) (pc' := 88) kX12_isCaught_86 rfl rfl (rf_a1 (rf_in_n (a := (195 + 8 * g)) rfl (by omega)) rf_a0) ?_
        try rw [(show ((d (195 + 8 * g)) + (nI 1)) = nI (1 + cn (d) (195 + 8 * g)) from rf_eq (rf_nadd (x := d (195 + 8 * g)) (y := nI 1) (hI.atb (k := (195 + 8 * g)) (bd_195 (i := g) (by omega) (by omega)) (by decide)) rfl) (by omega))]
        try rw [(show (nI (195 + 8 * g)).toNatClampNeg = (195 + 8 * g) from rf_cl_n rfl (by omega))]
        refine ok_goto bX12_isCaught_88 ?_
        refine ok_retv eX12_isCaught_156 rfl ?_
        have hk : cn d (190 + 8 * g) = 2 := sw_cn (n := 2) (by omega) (by decide)
        have hx := h78
        rw [hI.atb (b := 9) (bd_195 (i := g) hg rfl) (by decide), hI.atb (b := 9) (bd_196 (i := g) hg rfl) (by decide), nI_leI (by omega) (by omega)] at hx
        have ev : nI (1 + cn (d) (195 + 8 * g)) = nI (pn d g) := congrArg nI (by unfold pn; split <;> omega)
        rw [ev]
        exact ⟨rfl, _, rfl, by rw [cat_p (by omega), rf_w_self, hd], fun k k1 => rf_w_row k1⟩
    | 1, ht, h15 =>
      cases ht
      refine ok_step (ps := [rf_in ((nI (190 + 8 * g)) + (nI 5)) 700, rf_in ((nI (190 + 8 * g)) + (nI 5)) 700, rf_in ((nI (190 + 8 * g)) + (nI 6)) 700]) (L' := [some (.ref 94), some (.int (nI g)), some (.int (nI (190 + 8 * g)))]) (st' := [.int (ρ 95 (((nI (190 + 8 * g)) + (nI 6)).toNatClampNeg)), .int (ρ 95 (((nI (190 + 8 * g)) + (nI 5)).toNatClampNeg)), .int (ρ 95 (((nI (190 + 8 * g)) + (nI 5)).toNatClampNeg)), .int ((nI (190 + 8 * g)) + (nI 5)), .ref 95]) (σ' := (γ, ρ)) (pc' := 78) kX12_isCaught_52 rfl rfl (rf_a1 (rf_in_n (a := (195 + 8 * g)) (by (try rw [(show ((nI (190 + 8 * g)) + (nI 5)) = nI (195 + 8 * g) from rf_eq (rf_nadd (x := nI (190 + 8 * g)) (y := nI 5) rfl rfl) (by omega))]); all_goals exact rfl) (by omega)) (rf_a1 (rf_in_n (a := (195 + 8 * g)) (by (try rw [(show ((nI (190 + 8 * g)) + (nI 5)) = nI (195 + 8 * g) from rf_eq (rf_nadd (x := nI (190 + 8 * g)) (y := nI 5) rfl rfl) (by omega))]); (try rw [(show (nI (195 + 8 * g)).toNatClampNeg = (195 + 8 * g) from rf_cl_n rfl (by omega))]); (try rw [(show ρ 95 (195 + 8 * g) = d (195 + 8 * g) from (congrFun hd _).trans (hc _ (by omega) (by omega)))]); (try rw [(show ((nI (190 + 8 * g)) + (nI 5)) = nI (195 + 8 * g) from rf_eq (rf_nadd (x := nI (190 + 8 * g)) (y := nI 5) rfl rfl) (by omega))]); all_goals exact rfl) (by omega)) (rf_a1 (rf_in_n (a := (196 + 8 * g)) (by (try rw [(show ((nI (190 + 8 * g)) + (nI 5)) = nI (195 + 8 * g) from rf_eq (rf_nadd (x := nI (190 + 8 * g)) (y := nI 5) rfl rfl) (by omega))]); (try rw [(show (nI (195 + 8 * g)).toNatClampNeg = (195 + 8 * g) from rf_cl_n rfl (by omega))]); (try rw [(show ρ 95 (195 + 8 * g) = d (195 + 8 * g) from (congrFun hd _).trans (hc _ (by omega) (by omega)))]); (try rw [(show ((nI (190 + 8 * g)) + (nI 5)) = nI (195 + 8 * g) from rf_eq (rf_nadd (x := nI (190 + 8 * g)) (y := nI 5) rfl rfl) (by omega))]); (try rw [(show (nI (195 + 8 * g)).toNatClampNeg = (195 + 8 * g) from rf_cl_n rfl (by omega))]); (try rw [(show ρ 95 (195 + 8 * g) = d (195 + 8 * g) from (congrFun hd _).trans (hc _ (by omega) (by omega)))]); (try rw [(show ((nI (190 + 8 * g)) + (nI 6)) = nI (196 + 8 * g) from rf_eq (rf_nadd (x := nI (190 + 8 * g)) (y := nI 6) rfl rfl) (by omega))]); all_goals exact rfl) (by omega)) rf_a0))) ?_
      try rw [(show ((nI (190 + 8 * g)) + (nI 5)) = nI (195 + 8 * g) from rf_eq (rf_nadd (x := nI (190 + 8 * g)) (y := nI 5) rfl rfl) (by omega))]
      try rw [(show (nI (195 + 8 * g)).toNatClampNeg = (195 + 8 * g) from rf_cl_n rfl (by omega))]
      try rw [(show ρ 95 (195 + 8 * g) = d (195 + 8 * g) from (congrFun hd _).trans (hc _ (by omega) (by omega)))]
      try rw [(show ((nI (190 + 8 * g)) + (nI 5)) = nI (195 + 8 * g) from rf_eq (rf_nadd (x := nI (190 + 8 * g)) (y := nI 5) rfl rfl) (by omega))]
      try rw [(show (nI (195 + 8 * g)).toNatClampNeg = (195 + 8 * g) from rf_cl_n rfl (by omega))]
      try rw [(show ρ 95 (195 + 8 * g) = d (195 + 8 * g) from (congrFun hd _).trans (hc _ (by omega) (by omega)))]
      try rw [(show ((nI (190 + 8 * g)) + (nI 6)) = nI (196 + 8 * g) from rf_eq (rf_nadd (x := nI (190 + 8 * g)) (y := nI 6) rfl rfl) (by omega))]
      try rw [(show (nI (196 + 8 * g)).toNatClampNeg = (196 + 8 * g) from rf_cl_n rfl (by omega))]
      try rw [(show ρ 95 (196 + 8 * g) = d (196 + 8 * g) from (congrFun hd _).trans (hc _ (by omega) (by omega)))]
      refine ok_icmp_ge bX12_isCaught_78 (fun h78 => ?_) (fun h78 => ?_)
      · refine ok_step (ps := []) (L' := [some (.ref 94), some (.int (nI g)), some (.int (nI (190 + 8 * g)))]) (st' := [.int (nI 0), .int (d (195 + 8 * g)), .int (nI (195 + 8 * g)), .ref 95]) (σ' := (γ, ρ)) (pc' := 86) kX12_isCaught_85 rfl rfl rf_a0 ?_
        refine ok_step (ps := [rf_in (nI (195 + 8 * g)) 700]) (L' := [some (.ref 94), some (.int (nI g)), some (.int (nI (190 + 8 * g)))]) (st' := []) (σ' := (γ, rf_w ρ 95 ((nI (195 + 8 * g)).toNatClampNeg) ((d (195 + 8 * g)) + (nI 0)))) (pc' := 88) kX12_isCaught_86 rfl rfl (rf_a1 (rf_in_n (a := (195 + 8 * g)) rfl (by omega)) rf_a0) ?_
        try rw [(show ((d (195 + 8 * g)) + (nI 0)) = nI (cn (d) (195 + 8 * g)) from rf_eq (rf_nadd (x := d (195 + 8 * g)) (y := nI 0) (hI.atb (k := (195 + 8 * g)) (bd_195 (i := g) (by omega) (by omega)) (by decide)) rfl) (by omega))]
        try rw [(show (nI (195 + 8 * g)).toNatClampNeg = (195 + 8 * g) from rf_cl_n rfl (by omega))]
        refine ok_goto bX12_isCaught_88 ?_
        refine ok_retv eX12_isCaught_156 rfl ?_
        have hk : cn d (190 + 8 * g) = 3 := sw_cn (n := 3) (by omega) (by decide)
        have hx := h78
        rw [hI.atb (b := 9) (bd_195 (i := g) hg rfl) (by decide), hI.atb (b := 9) (bd_196 (i := g) hg rfl) (by decide), nI_leI (by omega) (by omega)] at hx
        have ev : nI (cn (d) (195 + 8 * g)) = nI (pn d g) := congrArg nI (by unfold pn; split <;> omega)
        rw [ev]
        exact ⟨rfl, _, rfl, by rw [cat_p (by omega), rf_w_self, hd], fun k k1 => rf_w_row k1⟩
      · refine ok_step (ps := []) (L' := [some (.ref 94), some (.int (nI g)), some (.int (nI (190 + 8 * g)))]) (st' := [.int (nI 1), .int (d (195 + 8 * g)), .int (nI (195 + 8 * g)), .ref 95]) (σ' := (γ, ρ)) (pc' := 82) kX12_isCaught_81 rfl rfl rf_a0 ?_
        refine ok_goto bX12_isCaught_82 ?_
        refine ok_step (ps := [rf_in (nI (195 + 8 * g)) 700]) (L' := [some (.ref 94), some (.int (nI g)), some (.int (nI (190 + 8 * g)))]) (st' := []) (σ' := (γ, rf_w ρ 95 ((nI (195 + 8 * g)).toNatClampNeg) ((d (195 + 8 * g)) + (nI 1)))) (pc' := 88) kX12_isCaught_86 rfl rfl (rf_a1 (rf_in_n (a := (195 + 8 * g)) rfl (by omega)) rf_a0) ?_
        try rw [(show ((d (195 + 8 * g)) + (nI 1)) = nI (1 + cn (d) (195 + 8 * g)) from rf_eq (rf_nadd (x := d (195 + 8 * g)) (y := nI 1) (hI.atb (k := (195 + 8 * g)) (bd_195 (i := g) (by omega) (by omega)) (by decide)) rfl) (by omega))]
        try rw [(show (nI (195 + 8 * g)).toNatClampNeg = (195 + 8 * g) from rf_cl_n rfl (by omega))]
        refine ok_goto bX12_isCaught_88 ?_
        refine ok_retv eX12_isCaught_156 rfl ?_
        have hk : cn d (190 + 8 * g) = 3 := sw_cn (n := 3) (by omega) (by decide)
        have hx := h78
        rw [hI.atb (b := 9) (bd_195 (i := g) hg rfl) (by decide), hI.atb (b := 9) (bd_196 (i := g) hg rfl) (by decide), nI_leI (by omega) (by omega)] at hx
        have ev : nI (1 + cn (d) (195 + 8 * g)) = nI (pn d g) := congrArg nI (by unfold pn; split <;> omega)
        rw [ev]
        exact ⟨rfl, _, rfl, by rw [cat_p (by omega), rf_w_self, hd], fun k k1 => rf_w_row k1⟩
    | 2, ht, h15 =>
      cases ht
      refine ok_step (ps := [rf_in ((nI (190 + 8 * g)) + (nI 5)) 700, rf_in ((nI (190 + 8 * g)) + (nI 5)) 700, rf_in ((nI (190 + 8 * g)) + (nI 6)) 700]) (L' := [some (.ref 94), some (.int (nI g)), some (.int (nI (190 + 8 * g)))]) (st' := [.int (ρ 95 (((nI (190 + 8 * g)) + (nI 6)).toNatClampNeg)), .int (ρ 95 (((nI (190 + 8 * g)) + (nI 5)).toNatClampNeg)), .int (ρ 95 (((nI (190 + 8 * g)) + (nI 5)).toNatClampNeg)), .int ((nI (190 + 8 * g)) + (nI 5)), .ref 95]) (σ' := (γ, ρ)) (pc' := 78) kX12_isCaught_52 rfl rfl (rf_a1 (rf_in_n (a := (195 + 8 * g)) (by (try rw [(show ((nI (190 + 8 * g)) + (nI 5)) = nI (195 + 8 * g) from rf_eq (rf_nadd (x := nI (190 + 8 * g)) (y := nI 5) rfl rfl) (by omega))]); all_goals exact rfl) (by omega)) (rf_a1 (rf_in_n (a := (195 + 8 * g)) (by (try rw [(show ((nI (190 + 8 * g)) + (nI 5)) = nI (195 + 8 * g) from rf_eq (rf_nadd (x := nI (190 + 8 * g)) (y := nI 5) rfl rfl) (by omega))]); (try rw [(show (nI (195 + 8 * g)).toNatClampNeg = (195 + 8 * g) from rf_cl_n rfl (by omega))]); (try rw [(show ρ 95 (195 + 8 * g) = d (195 + 8 * g) from (congrFun hd _).trans (hc _ (by omega) (by omega)))]); (try rw [(show ((nI (190 + 8 * g)) + (nI 5)) = nI (195 + 8 * g) from rf_eq (rf_nadd (x := nI (190 + 8 * g)) (y := nI 5) rfl rfl) (by omega))]); all_goals exact rfl) (by omega)) (rf_a1 (rf_in_n (a := (196 + 8 * g)) (by (try rw [(show ((nI (190 + 8 * g)) + (nI 5)) = nI (195 + 8 * g) from rf_eq (rf_nadd (x := nI (190 + 8 * g)) (y := nI 5) rfl rfl) (by omega))]); (try rw [(show (nI (195 + 8 * g)).toNatClampNeg = (195 + 8 * g) from rf_cl_n rfl (by omega))]); (try rw [(show ρ 95 (195 + 8 * g) = d (195 + 8 * g) from (congrFun hd _).trans (hc _ (by omega) (by omega)))]); (try rw [(show ((nI (190 + 8 * g)) + (nI 5)) = nI (195 + 8 * g) from rf_eq (rf_nadd (x := nI (190 + 8 * g)) (y := nI 5) rfl rfl) (by omega))]); (try rw [(show (nI (195 + 8 * g)).toNatClampNeg = (195 + 8 * g) from rf_cl_n rfl (by omega))]); (try rw [(show ρ 95 (195 + 8 * g) = d (195 + 8 * g) from (congrFun hd _).trans (hc _ (by omega) (by omega)))]); (try rw [(show ((nI (190 + 8 * g)) + (nI 6)) = nI (196 + 8 * g) from rf_eq (rf_nadd (x := nI (190 + 8 * g)) (y := nI 6) rfl rfl) (by omega))]); all_goals exact rfl) (by omega)) rf_a0))) ?_
      try rw [(show ((nI (190 + 8 * g)) + (nI 5)) = nI (195 + 8 * g) from rf_eq (rf_nadd (x := nI (190 + 8 * g)) (y := nI 5) rfl rfl) (by omega))]
      try rw [(show (nI (195 + 8 * g)).toNatClampNeg = (195 + 8 * g) from rf_cl_n rfl (by omega))]
      try rw [(show ρ 95 (195 + 8 * g) = d (195 + 8 * g) from (congrFun hd _).trans (hc _ (by omega) (by omega)))]
      try rw [(show ((nI (190 + 8 * g)) + (nI 5)) = nI (195 + 8 * g) from rf_eq (rf_nadd (x := nI (190 + 8 * g)) (y := nI 5) rfl rfl) (by omega))]
      try rw [(show (nI (195 + 8 * g)).toNatClampNeg = (195 + 8 * g) from rf_cl_n rfl (by omega))]
      try rw [(show ρ 95 (195 + 8 * g) = d (195 + 8 * g) from (congrFun hd _).trans (hc _ (by omega) (by omega)))]
      try rw [(show ((nI (190 + 8 * g)) + (nI 6)) = nI (196 + 8 * g) from rf_eq (rf_nadd (x := nI (190 + 8 * g)) (y := nI 6) rfl rfl) (by omega))]
      try rw [(show (nI (196 + 8 * g)).toNatClampNeg = (196 + 8 * g) from rf_cl_n rfl (by omega))]
      try rw [(show ρ 95 (196 + 8 * g) = d (196 + 8 * g) from (congrFun hd _).trans (hc _ (by omega) (by omega)))]
      refine ok_icmp_ge bX12_isCaught_78 (fun h78 => ?_) (fun h78 => ?_)
      · refine ok_step (ps := []) (L' := [some (.ref 94), some (.int (nI g)), some (.int (nI (190 + 8 * g)))]) (st' := [.int (nI 0), .int (d (195 + 8 * g)), .int (nI (195 + 8 * g)), .ref 95]) (σ' := (γ, ρ)) (pc' := 86) kX12_isCaught_85 rfl rfl rf_a0 ?_
        refine ok_step (ps := [rf_in (nI (195 + 8 * g)) 700]) (L' := [some (.ref 94), some (.int (nI g)), some (.int (nI (190 + 8 * g)))]) (st' := []) (σ' := (γ, rf_w ρ 95 ((nI (195 + 8 * g)).toNatClampNeg) ((d (195 + 8 * g)) + (nI 0)))) (pc' := 88) kX12_isCaught_86 rfl rfl (rf_a1 (rf_in_n (a := (195 + 8 * g)) rfl (by omega)) rf_a0) ?_
        try rw [(show ((d (195 + 8 * g)) + (nI 0)) = nI (cn (d) (195 + 8 * g)) from rf_eq (rf_nadd (x := d (195 + 8 * g)) (y := nI 0) (hI.atb (k := (195 + 8 * g)) (bd_195 (i := g) (by omega) (by omega)) (by decide)) rfl) (by omega))]
        try rw [(show (nI (195 + 8 * g)).toNatClampNeg = (195 + 8 * g) from rf_cl_n rfl (by omega))]
        refine ok_goto bX12_isCaught_88 ?_
        refine ok_retv eX12_isCaught_156 rfl ?_
        have hk : cn d (190 + 8 * g) = 4 := sw_cn (n := 4) (by omega) (by decide)
        have hx := h78
        rw [hI.atb (b := 9) (bd_195 (i := g) hg rfl) (by decide), hI.atb (b := 9) (bd_196 (i := g) hg rfl) (by decide), nI_leI (by omega) (by omega)] at hx
        have ev : nI (cn (d) (195 + 8 * g)) = nI (pn d g) := congrArg nI (by unfold pn; split <;> omega)
        rw [ev]
        exact ⟨rfl, _, rfl, by rw [cat_p (by omega), rf_w_self, hd], fun k k1 => rf_w_row k1⟩
      · refine ok_step (ps := []) (L' := [some (.ref 94), some (.int (nI g)), some (.int (nI (190 + 8 * g)))]) (st' := [.int (nI 1), .int (d (195 + 8 * g)), .int (nI (195 + 8 * g)), .ref 95]) (σ' := (γ, ρ)) (pc' := 82) kX12_isCaught_81 rfl rfl rf_a0 ?_
        refine ok_goto bX12_isCaught_82 ?_
        refine ok_step (ps := [rf_in (nI (195 + 8 * g)) 700]) (L' := [some (.ref 94), some (.int (nI g)), some (.int (nI (190 + 8 * g)))]) (st' := []) (σ' := (γ, rf_w ρ 95 ((nI (195 + 8 * g)).toNatClampNeg) ((d (195 + 8 * g)) + (nI 1)))) (pc' := 88) kX12_isCaught_86 rfl rfl (rf_a1 (rf_in_n (a := (195 + 8 * g)) rfl (by omega)) rf_a0) ?_
        try rw [(show ((d (195 + 8 * g)) + (nI 1)) = nI (1 + cn (d) (195 + 8 * g)) from rf_eq (rf_nadd (x := d (195 + 8 * g)) (y := nI 1) (hI.atb (k := (195 + 8 * g)) (bd_195 (i := g) (by omega) (by omega)) (by decide)) rfl) (by omega))]
        try rw [(show (nI (195 + 8 * g)).toNatClampNeg = (195 + 8 * g) from rf_cl_n rfl (by omega))]
        refine ok_goto bX12_isCaught_88 ?_
        refine ok_retv eX12_isCaught_156 rfl ?_
        have hk : cn d (190 + 8 * g) = 4 := sw_cn (n := 4) (by omega) (by decide)
        have hx := h78
        rw [hI.atb (b := 9) (bd_195 (i := g) hg rfl) (by decide), hI.atb (b := 9) (bd_196 (i := g) hg rfl) (by decide), nI_leI (by omega) (by omega)] at hx
        have ev : nI (1 + cn (d) (195 + 8 * g)) = nI (pn d g) := congrArg nI (by unfold pn; split <;> omega)
        rw [ev]
        exact ⟨rfl, _, rfl, by rw [cat_p (by omega), rf_w_self, hd], fun k k1 => rf_w_row k1⟩
    | 3, ht, h15 =>
      cases ht
      refine ok_step (ps := [rf_in (nI 0) 700, rf_in ((nI (190 + 8 * g)) + (nI 7)) 700]) (L' := [some (.ref 94), some (.int (nI g)), some (.int (nI (190 + 8 * g)))]) (st' := []) (σ' := (γ, rf_w ρ 95 (((nI (190 + 8 * g)) + (nI 7)).toNatClampNeg) ((ρ 95 ((nI 0).toNatClampNeg)) + (nI 30)))) (pc' := 109) kX12_isCaught_91 rfl rfl (rf_a1 (rf_in_n (a := 0) rfl (by omega)) (rf_a1 (rf_in_n (a := (197 + 8 * g)) (by (try rw [(show ((nI (190 + 8 * g)) + (nI 7)) = nI (197 + 8 * g) from rf_eq (rf_nadd (x := nI (190 + 8 * g)) (y := nI 7) rfl rfl) (by omega))]); (try rw [(show (nI 0).toNatClampNeg = 0 from rf_cl_n rfl (by omega))]); (try rw [(show ρ 95 0 = d 0 from (congrFun hd _).trans h0)]); (try rw [(show ((d 0) + (nI 30)) = nI (30 + cn (d) 0) from rf_eq (rf_nadd (x := d 0) (y := nI 30) (hI.at0) rfl) (by omega))]); all_goals exact rfl) (by omega)) rf_a0)) ?_
      try rw [(show ((nI (190 + 8 * g)) + (nI 7)) = nI (197 + 8 * g) from rf_eq (rf_nadd (x := nI (190 + 8 * g)) (y := nI 7) rfl rfl) (by omega))]
      try rw [(show (nI 0).toNatClampNeg = 0 from rf_cl_n rfl (by omega))]
      try rw [(show ρ 95 0 = d 0 from (congrFun hd _).trans h0)]
      try rw [(show ((d 0) + (nI 30)) = nI (30 + cn (d) 0) from rf_eq (rf_nadd (x := d 0) (y := nI 30) (hI.at0) rfl) (by omega))]
      try rw [(show (nI (197 + 8 * g)).toNatClampNeg = (197 + 8 * g) from rf_cl_n rfl (by omega))]
      refine ok_goto bX12_isCaught_109 ?_
      refine ok_retv eX12_isCaught_156 rfl ?_
      have hk : cn d (190 + 8 * g) = 5 := sw_cn (n := 5) (by omega) (by decide)
      have ev : nI (30 + cn (d) 0) = nI (cn d 0 + 30) := congrArg nI (by omega)
      rw [ev]
      exact ⟨rfl, _, rfl, by rw [cat_5 hk, rf_w_self, hd], fun k k1 => rf_w_row k1⟩
    | 4, ht, h15 =>
      cases ht
      refine ok_retv eX12_isCaught_156 rfl ?_
      have hk : cn d (190 + 8 * g) = 6 := sw_cn (n := 6) (by omega) (by decide)
      exact ⟨rfl, ρ, rfl, by rw [cat_n (Or.inr (Or.inr hk))]; exact hd, fun _ _ => rfl⟩
    | 5, ht, h15 =>
      cases ht
      refine ok_step (ps := [rf_in ((nI (190 + 8 * g)) + (nI 7)) 700]) (L' := [some (.ref 94), some (.int (nI g)), some (.int (nI (190 + 8 * g)))]) (st' := [.int (ρ 95 (((nI (190 + 8 * g)) + (nI 7)).toNatClampNeg)), .int ((nI (190 + 8 * g)) + (nI 7)), .ref 95]) (σ' := (γ, ρ)) (pc' := 129) kX12_isCaught_112 rfl rfl (rf_a1 (rf_in_n (a := (197 + 8 * g)) (by (try rw [(show ((nI (190 + 8 * g)) + (nI 7)) = nI (197 + 8 * g) from rf_eq (rf_nadd (x := nI (190 + 8 * g)) (y := nI 7) rfl rfl) (by omega))]); (try rw [(show ((nI (190 + 8 * g)) + (nI 7)) = nI (197 + 8 * g) from rf_eq (rf_nadd (x := nI (190 + 8 * g)) (y := nI 7) rfl rfl) (by omega))]); all_goals exact rfl) (by omega)) rf_a0) ?_
      try rw [(show ((nI (190 + 8 * g)) + (nI 7)) = nI (197 + 8 * g) from rf_eq (rf_nadd (x := nI (190 + 8 * g)) (y := nI 7) rfl rfl) (by omega))]
      try rw [(show (nI (197 + 8 * g)).toNatClampNeg = (197 + 8 * g) from rf_cl_n rfl (by omega))]
      try rw [(show ρ 95 (197 + 8 * g) = d (197 + 8 * g) from (congrFun hd _).trans (hc _ (by omega) (by omega)))]
      refine ok_if_eq bX12_isCaught_129 (fun h129 => ?_) (fun h129 => ?_)
      · refine ok_step (ps := [rf_in (nI 0) 700]) (L' := [some (.ref 94), some (.int (nI g)), some (.int (nI (190 + 8 * g)))]) (st' := [.int ((ρ 95 ((nI 0).toNatClampNeg)) + (nI 1)), .int (nI (197 + 8 * g)), .ref 95]) (σ' := (γ, ρ)) (pc' := 152) kX12_isCaught_144 rfl rfl (rf_a1 (rf_in_n (a := 0) rfl (by omega)) rf_a0) ?_
        try rw [(show (nI 0).toNatClampNeg = 0 from rf_cl_n rfl (by omega))]
        try rw [(show ρ 95 0 = d 0 from (congrFun hd _).trans h0)]
        try rw [(show ((d 0) + (nI 1)) = nI (1 + cn (d) 0) from rf_eq (rf_nadd (x := d 0) (y := nI 1) (hI.at0) rfl) (by omega))]
        refine ok_step (ps := [rf_in (nI (197 + 8 * g)) 700]) (L' := [some (.ref 94), some (.int (nI g)), some (.int (nI (190 + 8 * g)))]) (st' := []) (σ' := (γ, rf_w ρ 95 ((nI (197 + 8 * g)).toNatClampNeg) (nI (1 + cn (d) 0)))) (pc' := 153) kX12_isCaught_152 rfl rfl (rf_a1 (rf_in_n (a := (197 + 8 * g)) rfl (by omega)) rf_a0) ?_
        try rw [(show (nI (197 + 8 * g)).toNatClampNeg = (197 + 8 * g) from rf_cl_n rfl (by omega))]
        refine ok_goto bX12_isCaught_153 ?_
        refine ok_retv eX12_isCaught_156 rfl ?_
        have hk : cn d (190 + 8 * g) = 7 := sw_cn (n := 7) (by omega) (by decide)
        have ev : nI (1 + cn (d) 0) = nI (un d g) := by unfold un; rw [if_pos h129, Nat.add_comm]
        rw [ev]
        exact ⟨rfl, _, rfl, by rw [cat_7 hk, rf_w_self, hd], fun k k1 => rf_w_row k1⟩
      · refine ok_step (ps := [rf_in (nI 0) 700]) (L' := [some (.ref 94), some (.int (nI g)), some (.int (nI (190 + 8 * g)))]) (st' := [.int ((ρ 95 ((nI 0).toNatClampNeg)) + (nI 30)), .int (nI (197 + 8 * g)), .ref 95]) (σ' := (γ, ρ)) (pc' := 141) kX12_isCaught_132 rfl rfl (rf_a1 (rf_in_n (a := 0) rfl (by omega)) rf_a0) ?_
        try rw [(show (nI 0).toNatClampNeg = 0 from rf_cl_n rfl (by omega))]
        try rw [(show ρ 95 0 = d 0 from (congrFun hd _).trans h0)]
        try rw [(show ((d 0) + (nI 30)) = nI (30 + cn (d) 0) from rf_eq (rf_nadd (x := d 0) (y := nI 30) (hI.at0) rfl) (by omega))]
        refine ok_goto bX12_isCaught_141 ?_
        refine ok_step (ps := [rf_in (nI (197 + 8 * g)) 700]) (L' := [some (.ref 94), some (.int (nI g)), some (.int (nI (190 + 8 * g)))]) (st' := []) (σ' := (γ, rf_w ρ 95 ((nI (197 + 8 * g)).toNatClampNeg) (nI (30 + cn (d) 0)))) (pc' := 153) kX12_isCaught_152 rfl rfl (rf_a1 (rf_in_n (a := (197 + 8 * g)) rfl (by omega)) rf_a0) ?_
        try rw [(show (nI (197 + 8 * g)).toNatClampNeg = (197 + 8 * g) from rf_cl_n rfl (by omega))]
        refine ok_goto bX12_isCaught_153 ?_
        refine ok_retv eX12_isCaught_156 rfl ?_
        have hk : cn d (190 + 8 * g) = 7 := sw_cn (n := 7) (by omega) (by decide)
        have ev : nI (30 + cn (d) 0) = nI (un d g) := by unfold un; rw [if_neg h129, Nat.add_comm]
        rw [ev]
        exact ⟨rfl, _, rfl, by rw [cat_7 hk, rf_w_self, hd], fun k k1 => rf_w_row k1⟩
    | i + 6, ht, _ => simp at ht
theorem m_pd2 {A S m : Nat} (hI : Iv d) (hA : 1 ≤ A ∧ A ≤ 72) (hS : S < cn d 5) (hl : 1 ≤ cn d (330 + S)) (hm9 : m ≤ 15984) : ∀ (j i : Nat) (ρ : Nat → Nat → Int32), ρ 95 = ct d S i → sD μ ρ → (∀ k, k < cn d 4 → ρ 102 k = bI (fnd d S k)) → i + j = cn d 4 → rf_Ok (rf_T Ln xs) MX12_aDay 51 144 [some (.ref 94), some (.int (nI A)), none, some (.int (nI S)), some (.int (nI m)), some (.int (nI i)), none] [] (γ, ρ) (fun r t => r = some (.int (nI m)) ∧ ∃ ρ : Nat → Nat → Int32, sD μ ρ ∧ ρ 95 = ct d S (cn d 4) ∧ t = (γ, fB (cn d 6) (nI S) (nI m) (nI (m * A / cn d (330 + S))) (nI (min (cn d 7 + cn d 9 * m) 1999999999)) (nI (1 + cn d 0)) ρ)) := by
  have b0 := hI.le0
  have b4 := hI.le4
  have b5 := hI.le5
  have b6 := hI.le6
  have b7 := hI.le7
  have b9 := hI.le9
  have bl := hI.leb (b := 9) (bd_330 (i := S) (by omega) rfl) (by decide)
  have hfm : cn d 9 * m ≤ 999 * 15984 := Nat.mul_le_mul b9 hm9
  have hmA : m * A ≤ 15984 * 72 := Nat.mul_le_mul hm9 hA.2
  intro j
  induction j with
  | zero =>
    intro i ρ hd hs hp hj
    obtain rfl : i = cn d 4 := by omega
    have el : ((((d 7).toInt64) + (((d 9).toInt64) * ((nI m).toInt64))) : Int64) = lN (cn d 7 + cn d 9 * m) := by rw [hI.at7, hI.at9, nI_l (by omega), nI_l (by omega), nI_l (by omega), lN_mul, lN_add]
    rcases Nat.lt_or_ge (cn d 6) 60 with h6 | h6
    · rcases Nat.lt_or_ge 1999999999 (cn d 7 + cn d 9 * m) with h7 | h7
      · refine ok_step (ps := [rf_in (nI 4) 700]) (L' := [some (.ref 94), some (.int (nI A)), none, some (.int (nI S)), some (.int (nI m)), some (.int (nI (cn d 4))), none]) (st' := [.int (ρ 95 ((nI 4).toNatClampNeg)), .int (nI (cn d 4))]) (σ' := (γ, ρ)) (pc' := 152) kX12_aDay_144 rfl rfl (rf_a1 (rf_in_n (a := 4) rfl (by omega)) rf_a0) ?_
        try rw [(show (nI 4).toNatClampNeg = 4 from rf_cl_n rfl (by omega))]
        try rw [(show ρ 95 4 = d 4 from (congrFun hd _).trans (ct_o (by omega) (fun k hk => ⟨by omega, by omega⟩)))]
        refine ok_icmp_ge bX12_aDay_152 (fun _ => ?_) (fun h152 => absurd (le_of hI.at4 (by omega) (by omega)) h152)
        refine ok_step (ps := [rf_in (nI 6) 700]) (L' := [some (.ref 94), some (.int (nI A)), none, some (.int (nI S)), some (.int (nI m)), some (.int (nI (cn d 4))), none]) (st' := [.int (nI 60), .int (ρ 95 ((nI 6).toNatClampNeg))]) (σ' := (γ, ρ)) (pc' := 186) kX12_aDay_177 rfl rfl (rf_a1 (rf_in_n (a := 6) rfl (by omega)) rf_a0) ?_
        try rw [(show (nI 6).toNatClampNeg = 6 from rf_cl_n rfl (by omega))]
        try rw [(show ρ 95 6 = d 6 from (congrFun hd _).trans (ct_o (by omega) (fun k hk => ⟨by omega, by omega⟩)))]
        refine ok_icmp_ge bX12_aDay_186 (fun h186 => absurd h186 (by rw [hI.at6]; exact nI_ge (by omega) (by omega))) (fun _ => ?_)
        refine ok_step (ps := [rf_in (nI 6) 700, rf_in ((nI 340) + ((nI 3) * (ρ 95 ((nI 6).toNatClampNeg)))) 700, rf_in (((nI 340) + ((nI 3) * (ρ 95 ((nI 6).toNatClampNeg)))) + (nI 1)) 700, rf_in ((nI 330) + (nI S)) 700, rf_nz ((rf_w (rf_w ρ 95 (((nI 340) + ((nI 3) * (ρ 95 ((nI 6).toNatClampNeg)))).toNatClampNeg) (nI S)) 95 ((((nI 340) + ((nI 3) * (ρ 95 ((nI 6).toNatClampNeg)))) + (nI 1)).toNatClampNeg) (nI m)) 95 (((nI 330) + (nI S)).toNatClampNeg)), rf_in (((nI 340) + ((nI 3) * (ρ 95 ((nI 6).toNatClampNeg)))) + (nI 2)) 700, rf_in (nI 6) 700, rf_in (nI 6) 700]) (L' := [some (.ref 94), some (.int (nI A)), none, some (.int (nI S)), some (.int (nI m)), some (.int ((nI 340) + ((nI 3) * (ρ 95 ((nI 6).toNatClampNeg))))), none]) (st' := []) (σ' := (γ, rf_w (rf_w (rf_w (rf_w ρ 95 (((nI 340) + ((nI 3) * (ρ 95 ((nI 6).toNatClampNeg)))).toNatClampNeg) (nI S)) 95 ((((nI 340) + ((nI 3) * (ρ 95 ((nI 6).toNatClampNeg)))) + (nI 1)).toNatClampNeg) (nI m)) 95 ((((nI 340) + ((nI 3) * (ρ 95 ((nI 6).toNatClampNeg)))) + (nI 2)).toNatClampNeg) (((nI m) * (nI A)) / ((rf_w (rf_w ρ 95 (((nI 340) + ((nI 3) * (ρ 95 ((nI 6).toNatClampNeg)))).toNatClampNeg) (nI S)) 95 ((((nI 340) + ((nI 3) * (ρ 95 ((nI 6).toNatClampNeg)))) + (nI 1)).toNatClampNeg) (nI m)) 95 (((nI 330) + (nI S)).toNatClampNeg)))) 95 ((nI 6).toNatClampNeg) (((rf_w (rf_w (rf_w ρ 95 (((nI 340) + ((nI 3) * (ρ 95 ((nI 6).toNatClampNeg)))).toNatClampNeg) (nI S)) 95 ((((nI 340) + ((nI 3) * (ρ 95 ((nI 6).toNatClampNeg)))) + (nI 1)).toNatClampNeg) (nI m)) 95 ((((nI 340) + ((nI 3) * (ρ 95 ((nI 6).toNatClampNeg)))) + (nI 2)).toNatClampNeg) (((nI m) * (nI A)) / ((rf_w (rf_w ρ 95 (((nI 340) + ((nI 3) * (ρ 95 ((nI 6).toNatClampNeg)))).toNatClampNeg) (nI S)) 95 ((((nI 340) + ((nI 3) * (ρ 95 ((nI 6).toNatClampNeg)))) + (nI 1)).toNatClampNeg) (nI m)) 95 (((nI 330) + (nI S)).toNatClampNeg)))) 95 ((nI 6).toNatClampNeg)) + (nI 1)))) (pc' := 258) kX12_aDay_189 rfl rfl (rf_a1 (rf_in_n (a := 6) rfl (by omega)) (rf_a1 (rf_in_n (a := (340 + 3 * cn (d) 6)) (by (try rw [(show (nI 6).toNatClampNeg = 6 from rf_cl_n rfl (by omega))]); (try rw [(show ρ 95 6 = d 6 from (congrFun hd _).trans (ct_o (by omega) (fun k hk => ⟨by omega, by omega⟩)))]); (try rw [(show ((nI 3) * (d 6)) = nI (3 * cn (d) 6) from rf_eq (rf_nmul (x := nI 3) (y := d 6) rfl (hI.at6)) (by omega))]); (try rw [(show ((nI 340) + (nI (3 * cn (d) 6))) = nI (340 + 3 * cn (d) 6) from rf_eq (rf_nadd (x := nI 340) (y := nI (3 * cn (d) 6)) rfl rfl) (by omega))]); all_goals exact rfl) (by omega)) (rf_a1 (rf_in_n (a := (341 + 3 * cn (d) 6)) (by (try rw [(show (nI 6).toNatClampNeg = 6 from rf_cl_n rfl (by omega))]); (try rw [(show ρ 95 6 = d 6 from (congrFun hd _).trans (ct_o (by omega) (fun k hk => ⟨by omega, by omega⟩)))]); (try rw [(show ((nI 3) * (d 6)) = nI (3 * cn (d) 6) from rf_eq (rf_nmul (x := nI 3) (y := d 6) rfl (hI.at6)) (by omega))]); (try rw [(show ((nI 340) + (nI (3 * cn (d) 6))) = nI (340 + 3 * cn (d) 6) from rf_eq (rf_nadd (x := nI 340) (y := nI (3 * cn (d) 6)) rfl rfl) (by omega))]); (try rw [(show (nI (340 + 3 * cn (d) 6)).toNatClampNeg = (340 + 3 * cn (d) 6) from rf_cl_n rfl (by omega))]); (try rw [(show ((nI (340 + 3 * cn (d) 6)) + (nI 1)) = nI (341 + 3 * cn (d) 6) from rf_eq (rf_nadd (x := nI (340 + 3 * cn (d) 6)) (y := nI 1) rfl rfl) (by omega))]); all_goals exact rfl) (by omega)) (rf_a1 (rf_in_n (a := (330 + S)) (by (try rw [(show (nI 6).toNatClampNeg = 6 from rf_cl_n rfl (by omega))]); (try rw [(show ρ 95 6 = d 6 from (congrFun hd _).trans (ct_o (by omega) (fun k hk => ⟨by omega, by omega⟩)))]); (try rw [(show ((nI 3) * (d 6)) = nI (3 * cn (d) 6) from rf_eq (rf_nmul (x := nI 3) (y := d 6) rfl (hI.at6)) (by omega))]); (try rw [(show ((nI 340) + (nI (3 * cn (d) 6))) = nI (340 + 3 * cn (d) 6) from rf_eq (rf_nadd (x := nI 340) (y := nI (3 * cn (d) 6)) rfl rfl) (by omega))]); (try rw [(show (nI (340 + 3 * cn (d) 6)).toNatClampNeg = (340 + 3 * cn (d) 6) from rf_cl_n rfl (by omega))]); (try rw [(show ((nI (340 + 3 * cn (d) 6)) + (nI 1)) = nI (341 + 3 * cn (d) 6) from rf_eq (rf_nadd (x := nI (340 + 3 * cn (d) 6)) (y := nI 1) rfl rfl) (by omega))]); (try rw [(show (nI (341 + 3 * cn (d) 6)).toNatClampNeg = (341 + 3 * cn (d) 6) from rf_cl_n rfl (by omega))]); (try rw [(show ((nI (340 + 3 * cn (d) 6)) + (nI 2)) = nI (342 + 3 * cn (d) 6) from rf_eq (rf_nadd (x := nI (340 + 3 * cn (d) 6)) (y := nI 2) rfl rfl) (by omega))]); (try rw [(show ((nI m) * (nI A)) = nI (m * A) from pk_mul _ _)]); (try rw [(show ((nI 330) + (nI S)) = nI (330 + S) from rf_eq (rf_nadd (x := nI 330) (y := nI S) rfl rfl) (by omega))]); all_goals exact rfl) (by omega)) (rf_a1 (by (try rw [(show (nI 6).toNatClampNeg = 6 from rf_cl_n rfl (by omega))]); (try rw [(show ρ 95 6 = d 6 from (congrFun hd _).trans (ct_o (by omega) (fun k hk => ⟨by omega, by omega⟩)))]); (try rw [(show ((nI 3) * (d 6)) = nI (3 * cn (d) 6) from rf_eq (rf_nmul (x := nI 3) (y := d 6) rfl (hI.at6)) (by omega))]); (try rw [(show ((nI 340) + (nI (3 * cn (d) 6))) = nI (340 + 3 * cn (d) 6) from rf_eq (rf_nadd (x := nI 340) (y := nI (3 * cn (d) 6)) rfl rfl) (by omega))]); (try rw [(show (nI (340 + 3 * cn (d) 6)).toNatClampNeg = (340 + 3 * cn (d) 6) from rf_cl_n rfl (by omega))]); (try rw [(show ((nI (340 + 3 * cn (d) 6)) + (nI 1)) = nI (341 + 3 * cn (d) 6) from rf_eq (rf_nadd (x := nI (340 + 3 * cn (d) 6)) (y := nI 1) rfl rfl) (by omega))]); (try rw [(show (nI (341 + 3 * cn (d) 6)).toNatClampNeg = (341 + 3 * cn (d) 6) from rf_cl_n rfl (by omega))]); (try rw [(show ((nI (340 + 3 * cn (d) 6)) + (nI 2)) = nI (342 + 3 * cn (d) 6) from rf_eq (rf_nadd (x := nI (340 + 3 * cn (d) 6)) (y := nI 2) rfl rfl) (by omega))]); (try rw [(show ((nI m) * (nI A)) = nI (m * A) from pk_mul _ _)]); (try rw [(show ((nI 330) + (nI S)) = nI (330 + S) from rf_eq (rf_nadd (x := nI 330) (y := nI S) rfl rfl) (by omega))]); (try rw [(show (nI (330 + S)).toNatClampNeg = (330 + S) from rf_cl_n rfl (by omega))]); (try rw [(show (rf_w (rf_w ρ 95 (340 + 3 * cn (d) 6) (nI S)) 95 (341 + 3 * cn (d) 6) (nI m)) 95 (330 + S) = (rf_w ρ 95 (340 + 3 * cn (d) 6) (nI S)) 95 (330 + S) from by rw [rf_w_at, if_neg (fun h => absurd h.2 (by omega))])]); (try rw [(show (rf_w ρ 95 (340 + 3 * cn (d) 6) (nI S)) 95 (330 + S) = ρ 95 (330 + S) from by rw [rf_w_at, if_neg (fun h => absurd h.2 (by omega))])]); (try rw [(show ρ 95 (330 + S) = d (330 + S) from (congrFun hd _).trans (ct_o (by omega) (fun k hk => ⟨by omega, by omega⟩)))]); rw [show d (330 + S) = nI (cn d (330 + S)) from hI.atb (b := 9) (bd_330 (i := S) (by omega) rfl) (by decide)]; exact nz_of (fun e => by have := nI_inj (b := 0) e (by omega) (by omega); omega)) (rf_a1 (rf_in_n (a := (342 + 3 * cn (d) 6)) (by (try rw [(show (nI 6).toNatClampNeg = 6 from rf_cl_n rfl (by omega))]); (try rw [(show ρ 95 6 = d 6 from (congrFun hd _).trans (ct_o (by omega) (fun k hk => ⟨by omega, by omega⟩)))]); (try rw [(show ((nI 3) * (d 6)) = nI (3 * cn (d) 6) from rf_eq (rf_nmul (x := nI 3) (y := d 6) rfl (hI.at6)) (by omega))]); (try rw [(show ((nI 340) + (nI (3 * cn (d) 6))) = nI (340 + 3 * cn (d) 6) from rf_eq (rf_nadd (x := nI 340) (y := nI (3 * cn (d) 6)) rfl rfl) (by omega))]); (try rw [(show (nI (340 + 3 * cn (d) 6)).toNatClampNeg = (340 + 3 * cn (d) 6) from rf_cl_n rfl (by omega))]); (try rw [(show ((nI (340 + 3 * cn (d) 6)) + (nI 1)) = nI (341 + 3 * cn (d) 6) from rf_eq (rf_nadd (x := nI (340 + 3 * cn (d) 6)) (y := nI 1) rfl rfl) (by omega))]); (try rw [(show (nI (341 + 3 * cn (d) 6)).toNatClampNeg = (341 + 3 * cn (d) 6) from rf_cl_n rfl (by omega))]); (try rw [(show ((nI (340 + 3 * cn (d) 6)) + (nI 2)) = nI (342 + 3 * cn (d) 6) from rf_eq (rf_nadd (x := nI (340 + 3 * cn (d) 6)) (y := nI 2) rfl rfl) (by omega))]); (try rw [(show ((nI m) * (nI A)) = nI (m * A) from pk_mul _ _)]); (try rw [(show ((nI 330) + (nI S)) = nI (330 + S) from rf_eq (rf_nadd (x := nI 330) (y := nI S) rfl rfl) (by omega))]); (try rw [(show (nI (330 + S)).toNatClampNeg = (330 + S) from rf_cl_n rfl (by omega))]); (try rw [(show (rf_w (rf_w ρ 95 (340 + 3 * cn (d) 6) (nI S)) 95 (341 + 3 * cn (d) 6) (nI m)) 95 (330 + S) = (rf_w ρ 95 (340 + 3 * cn (d) 6) (nI S)) 95 (330 + S) from by rw [rf_w_at, if_neg (fun h => absurd h.2 (by omega))])]); (try rw [(show (rf_w ρ 95 (340 + 3 * cn (d) 6) (nI S)) 95 (330 + S) = ρ 95 (330 + S) from by rw [rf_w_at, if_neg (fun h => absurd h.2 (by omega))])]); (try rw [(show ρ 95 (330 + S) = d (330 + S) from (congrFun hd _).trans (ct_o (by omega) (fun k hk => ⟨by omega, by omega⟩)))]); (try rw [(show ((nI (m * A)) / (d (330 + S))) = nI (m * A / cn d (330 + S)) from by rw [show d (330 + S) = nI (cn d (330 + S)) from hI.atb (b := 9) (bd_330 (i := S) (by omega) rfl) (by decide)]; exact pk_div (by omega) (by omega) (by omega))]); all_goals exact rfl) (by omega)) (rf_a1 (rf_in_n (a := 6) rfl (by omega)) (rf_a1 (rf_in_n (a := 6) rfl (by omega)) rf_a0)))))))) ?_
        try rw [(show (nI 6).toNatClampNeg = 6 from rf_cl_n rfl (by omega))]
        try rw [(show ρ 95 6 = d 6 from (congrFun hd _).trans (ct_o (by omega) (fun k hk => ⟨by omega, by omega⟩)))]
        try rw [(show ((nI 3) * (d 6)) = nI (3 * cn (d) 6) from rf_eq (rf_nmul (x := nI 3) (y := d 6) rfl (hI.at6)) (by omega))]
        try rw [(show ((nI 340) + (nI (3 * cn (d) 6))) = nI (340 + 3 * cn (d) 6) from rf_eq (rf_nadd (x := nI 340) (y := nI (3 * cn (d) 6)) rfl rfl) (by omega))]
        try rw [(show (nI (340 + 3 * cn (d) 6)).toNatClampNeg = (340 + 3 * cn (d) 6) from rf_cl_n rfl (by omega))]
        try rw [(show ((nI (340 + 3 * cn (d) 6)) + (nI 1)) = nI (341 + 3 * cn (d) 6) from rf_eq (rf_nadd (x := nI (340 + 3 * cn (d) 6)) (y := nI 1) rfl rfl) (by omega))]
        try rw [(show (nI (341 + 3 * cn (d) 6)).toNatClampNeg = (341 + 3 * cn (d) 6) from rf_cl_n rfl (by omega))]
        try rw [(show ((nI (340 + 3 * cn (d) 6)) + (nI 2)) = nI (342 + 3 * cn (d) 6) from rf_eq (rf_nadd (x := nI (340 + 3 * cn (d) 6)) (y := nI 2) rfl rfl) (by omega))]
        try rw [(show ((nI m) * (nI A)) = nI (m * A) from pk_mul _ _)]
        try rw [(show ((nI 330) + (nI S)) = nI (330 + S) from rf_eq (rf_nadd (x := nI 330) (y := nI S) rfl rfl) (by omega))]
        try rw [(show (nI (330 + S)).toNatClampNeg = (330 + S) from rf_cl_n rfl (by omega))]
        try rw [(show (rf_w (rf_w ρ 95 (340 + 3 * cn (d) 6) (nI S)) 95 (341 + 3 * cn (d) 6) (nI m)) 95 (330 + S) = (rf_w ρ 95 (340 + 3 * cn (d) 6) (nI S)) 95 (330 + S) from by rw [rf_w_at, if_neg (fun h => absurd h.2 (by omega))])]
        try rw [(show (rf_w ρ 95 (340 + 3 * cn (d) 6) (nI S)) 95 (330 + S) = ρ 95 (330 + S) from by rw [rf_w_at, if_neg (fun h => absurd h.2 (by omega))])]
        try rw [(show ρ 95 (330 + S) = d (330 + S) from (congrFun hd _).trans (ct_o (by omega) (fun k hk => ⟨by omega, by omega⟩)))]
        try rw [(show ((nI (m * A)) / (d (330 + S))) = nI (m * A / cn d (330 + S)) from by rw [show d (330 + S) = nI (cn d (330 + S)) from hI.atb (b := 9) (bd_330 (i := S) (by omega) rfl) (by decide)]; exact pk_div (by omega) (by omega) (by omega))]
        try rw [(show (nI (342 + 3 * cn (d) 6)).toNatClampNeg = (342 + 3 * cn (d) 6) from rf_cl_n rfl (by omega))]
        try rw [(show (nI 6).toNatClampNeg = 6 from rf_cl_n rfl (by omega))]
        try rw [(show (rf_w (rf_w (rf_w ρ 95 (340 + 3 * cn (d) 6) (nI S)) 95 (341 + 3 * cn (d) 6) (nI m)) 95 (342 + 3 * cn (d) 6) (nI (m * A / cn d (330 + S)))) 95 6 = (rf_w (rf_w ρ 95 (340 + 3 * cn (d) 6) (nI S)) 95 (341 + 3 * cn (d) 6) (nI m)) 95 6 from by rw [rf_w_at, if_neg (fun h => absurd h.2 (by omega))])]
        try rw [(show (rf_w (rf_w ρ 95 (340 + 3 * cn (d) 6) (nI S)) 95 (341 + 3 * cn (d) 6) (nI m)) 95 6 = (rf_w ρ 95 (340 + 3 * cn (d) 6) (nI S)) 95 6 from by rw [rf_w_at, if_neg (fun h => absurd h.2 (by omega))])]
        try rw [(show (rf_w ρ 95 (340 + 3 * cn (d) 6) (nI S)) 95 6 = ρ 95 6 from by rw [rf_w_at, if_neg (fun h => absurd h.2 (by omega))])]
        try rw [(show ρ 95 6 = d 6 from (congrFun hd _).trans (ct_o (by omega) (fun k hk => ⟨by omega, by omega⟩)))]
        try rw [(show ((d 6) + (nI 1)) = nI (1 + cn (d) 6) from rf_eq (rf_nadd (x := d 6) (y := nI 1) (hI.at6) rfl) (by omega))]
        try rw [(show (nI 6).toNatClampNeg = 6 from rf_cl_n rfl (by omega))]
        refine ok_step (ps := [rf_in (nI 7) 700, rf_in (nI 9) 700]) (L' := [some (.ref 94), some (.int (nI A)), none, some (.int (nI S)), some (.int (nI m)), some (.long ((((rf_w (rf_w (rf_w (rf_w ρ 95 (340 + 3 * cn (d) 6) (nI S)) 95 (341 + 3 * cn (d) 6) (nI m)) 95 (342 + 3 * cn (d) 6) (nI (m * A / cn d (330 + S)))) 95 6 (nI (1 + cn (d) 6))) 95 ((nI 7).toNatClampNeg)).toInt64) + ((((rf_w (rf_w (rf_w (rf_w ρ 95 (340 + 3 * cn (d) 6) (nI S)) 95 (341 + 3 * cn (d) 6) (nI m)) 95 (342 + 3 * cn (d) 6) (nI (m * A / cn d (330 + S)))) 95 6 (nI (1 + cn (d) 6))) 95 ((nI 9).toNatClampNeg)).toInt64) * ((nI m).toInt64)))), none]) (st' := [.int (lg_cmp ((((rf_w (rf_w (rf_w (rf_w ρ 95 (340 + 3 * cn (d) 6) (nI S)) 95 (341 + 3 * cn (d) 6) (nI m)) 95 (342 + 3 * cn (d) 6) (nI (m * A / cn d (330 + S)))) 95 6 (nI (1 + cn (d) 6))) 95 ((nI 7).toNatClampNeg)).toInt64) + ((((rf_w (rf_w (rf_w (rf_w ρ 95 (340 + 3 * cn (d) 6) (nI S)) 95 (341 + 3 * cn (d) 6) (nI m)) 95 (342 + 3 * cn (d) 6) (nI (m * A / cn d (330 + S)))) 95 6 (nI (1 + cn (d) 6))) 95 ((nI 9).toNatClampNeg)).toInt64) * ((nI m).toInt64))) (lN 1999999999)), .int (nI 7), .ref 95]) (σ' := (γ, rf_w (rf_w (rf_w (rf_w ρ 95 (340 + 3 * cn (d) 6) (nI S)) 95 (341 + 3 * cn (d) 6) (nI m)) 95 (342 + 3 * cn (d) 6) (nI (m * A / cn d (330 + S)))) 95 6 (nI (1 + cn (d) 6)))) (pc' := 293) kX12_aDay_258 rfl rfl (rf_a1 (rf_in_n (a := 7) rfl (by omega)) (rf_a1 (rf_in_n (a := 9) rfl (by omega)) rf_a0)) ?_
        try rw [(show (nI 7).toNatClampNeg = 7 from rf_cl_n rfl (by omega))]
        try rw [(show (rf_w (rf_w (rf_w (rf_w ρ 95 (340 + 3 * cn (d) 6) (nI S)) 95 (341 + 3 * cn (d) 6) (nI m)) 95 (342 + 3 * cn (d) 6) (nI (m * A / cn d (330 + S)))) 95 6 (nI (1 + cn (d) 6))) 95 7 = (rf_w (rf_w (rf_w ρ 95 (340 + 3 * cn (d) 6) (nI S)) 95 (341 + 3 * cn (d) 6) (nI m)) 95 (342 + 3 * cn (d) 6) (nI (m * A / cn d (330 + S)))) 95 7 from by rw [rf_w_at, if_neg (fun h => absurd h.2 (by omega))])]
        try rw [(show (rf_w (rf_w (rf_w ρ 95 (340 + 3 * cn (d) 6) (nI S)) 95 (341 + 3 * cn (d) 6) (nI m)) 95 (342 + 3 * cn (d) 6) (nI (m * A / cn d (330 + S)))) 95 7 = (rf_w (rf_w ρ 95 (340 + 3 * cn (d) 6) (nI S)) 95 (341 + 3 * cn (d) 6) (nI m)) 95 7 from by rw [rf_w_at, if_neg (fun h => absurd h.2 (by omega))])]
        try rw [(show (rf_w (rf_w ρ 95 (340 + 3 * cn (d) 6) (nI S)) 95 (341 + 3 * cn (d) 6) (nI m)) 95 7 = (rf_w ρ 95 (340 + 3 * cn (d) 6) (nI S)) 95 7 from by rw [rf_w_at, if_neg (fun h => absurd h.2 (by omega))])]
        try rw [(show (rf_w ρ 95 (340 + 3 * cn (d) 6) (nI S)) 95 7 = ρ 95 7 from by rw [rf_w_at, if_neg (fun h => absurd h.2 (by omega))])]
        try rw [(show ρ 95 7 = d 7 from (congrFun hd _).trans (ct_o (by omega) (fun k hk => ⟨by omega, by omega⟩)))]
        try rw [(show (nI 9).toNatClampNeg = 9 from rf_cl_n rfl (by omega))]
        try rw [(show (rf_w (rf_w (rf_w (rf_w ρ 95 (340 + 3 * cn (d) 6) (nI S)) 95 (341 + 3 * cn (d) 6) (nI m)) 95 (342 + 3 * cn (d) 6) (nI (m * A / cn d (330 + S)))) 95 6 (nI (1 + cn (d) 6))) 95 9 = (rf_w (rf_w (rf_w ρ 95 (340 + 3 * cn (d) 6) (nI S)) 95 (341 + 3 * cn (d) 6) (nI m)) 95 (342 + 3 * cn (d) 6) (nI (m * A / cn d (330 + S)))) 95 9 from by rw [rf_w_at, if_neg (fun h => absurd h.2 (by omega))])]
        try rw [(show (rf_w (rf_w (rf_w ρ 95 (340 + 3 * cn (d) 6) (nI S)) 95 (341 + 3 * cn (d) 6) (nI m)) 95 (342 + 3 * cn (d) 6) (nI (m * A / cn d (330 + S)))) 95 9 = (rf_w (rf_w ρ 95 (340 + 3 * cn (d) 6) (nI S)) 95 (341 + 3 * cn (d) 6) (nI m)) 95 9 from by rw [rf_w_at, if_neg (fun h => absurd h.2 (by omega))])]
        try rw [(show (rf_w (rf_w ρ 95 (340 + 3 * cn (d) 6) (nI S)) 95 (341 + 3 * cn (d) 6) (nI m)) 95 9 = (rf_w ρ 95 (340 + 3 * cn (d) 6) (nI S)) 95 9 from by rw [rf_w_at, if_neg (fun h => absurd h.2 (by omega))])]
        try rw [(show (rf_w ρ 95 (340 + 3 * cn (d) 6) (nI S)) 95 9 = ρ 95 9 from by rw [rf_w_at, if_neg (fun h => absurd h.2 (by omega))])]
        try rw [(show ρ 95 9 = d 9 from (congrFun hd _).trans (ct_o (by omega) (fun k hk => ⟨by omega, by omega⟩)))]
        refine ok_if_le bX12_aDay_293 (fun h293 => absurd h293 (by rw [el]; exact fun h => absurd (Int32.not_lt.mpr h) (fun h2 => h2 (lgc_gt.mpr ((pk_lLT (by omega) (by omega)).mpr h7))))) (fun _ => ?_)
        refine ok_step (ps := []) (L' := [some (.ref 94), some (.int (nI A)), none, some (.int (nI S)), some (.int (nI m)), some (.long (((d 7).toInt64) + (((d 9).toInt64) * ((nI m).toInt64)))), none]) (st' := [.int (nI 1999999999), .int (nI 7), .ref 95]) (σ' := (γ, rf_w (rf_w (rf_w (rf_w ρ 95 (340 + 3 * cn (d) 6) (nI S)) 95 (341 + 3 * cn (d) 6) (nI m)) 95 (342 + 3 * cn (d) 6) (nI (m * A / cn d (330 + S)))) 95 6 (nI (1 + cn (d) 6)))) (pc' := 299) kX12_aDay_296 rfl rfl rf_a0 ?_
        refine ok_goto bX12_aDay_299 ?_
        refine ok_step (ps := [rf_in (nI 7) 700, rf_in (nI 0) 700, rf_in (nI 0) 700]) (L' := [some (.ref 94), some (.int (nI A)), none, some (.int (nI S)), some (.int (nI m)), some (.long (((d 7).toInt64) + (((d 9).toInt64) * ((nI m).toInt64)))), none]) (st' := [.int (nI m)]) (σ' := (γ, rf_w (rf_w (rf_w (rf_w (rf_w (rf_w ρ 95 (340 + 3 * cn (d) 6) (nI S)) 95 (341 + 3 * cn (d) 6) (nI m)) 95 (342 + 3 * cn (d) 6) (nI (m * A / cn d (330 + S)))) 95 6 (nI (1 + cn (d) 6))) 95 ((nI 7).toNatClampNeg) (nI 1999999999)) 95 ((nI 0).toNatClampNeg) (((rf_w (rf_w (rf_w (rf_w (rf_w ρ 95 (340 + 3 * cn (d) 6) (nI S)) 95 (341 + 3 * cn (d) 6) (nI m)) 95 (342 + 3 * cn (d) 6) (nI (m * A / cn d (330 + S)))) 95 6 (nI (1 + cn (d) 6))) 95 ((nI 7).toNatClampNeg) (nI 1999999999)) 95 ((nI 0).toNatClampNeg)) + (nI 1)))) (pc' := 318) kX12_aDay_305 rfl rfl (rf_a1 (rf_in_n (a := 7) rfl (by omega)) (rf_a1 (rf_in_n (a := 0) rfl (by omega)) (rf_a1 (rf_in_n (a := 0) rfl (by omega)) rf_a0))) ?_
        try rw [(show (nI 7).toNatClampNeg = 7 from rf_cl_n rfl (by omega))]
        try rw [(show (nI 0).toNatClampNeg = 0 from rf_cl_n rfl (by omega))]
        try rw [(show (rf_w (rf_w (rf_w (rf_w (rf_w ρ 95 (340 + 3 * cn (d) 6) (nI S)) 95 (341 + 3 * cn (d) 6) (nI m)) 95 (342 + 3 * cn (d) 6) (nI (m * A / cn d (330 + S)))) 95 6 (nI (1 + cn (d) 6))) 95 7 (nI 1999999999)) 95 0 = (rf_w (rf_w (rf_w (rf_w ρ 95 (340 + 3 * cn (d) 6) (nI S)) 95 (341 + 3 * cn (d) 6) (nI m)) 95 (342 + 3 * cn (d) 6) (nI (m * A / cn d (330 + S)))) 95 6 (nI (1 + cn (d) 6))) 95 0 from by rw [rf_w_at, if_neg (fun h => absurd h.2 (by omega))])]
        try rw [(show (rf_w (rf_w (rf_w (rf_w ρ 95 (340 + 3 * cn (d) 6) (nI S)) 95 (341 + 3 * cn (d) 6) (nI m)) 95 (342 + 3 * cn (d) 6) (nI (m * A / cn d (330 + S)))) 95 6 (nI (1 + cn (d) 6))) 95 0 = (rf_w (rf_w (rf_w ρ 95 (340 + 3 * cn (d) 6) (nI S)) 95 (341 + 3 * cn (d) 6) (nI m)) 95 (342 + 3 * cn (d) 6) (nI (m * A / cn d (330 + S)))) 95 0 from by rw [rf_w_at, if_neg (fun h => absurd h.2 (by omega))])]
        try rw [(show (rf_w (rf_w (rf_w ρ 95 (340 + 3 * cn (d) 6) (nI S)) 95 (341 + 3 * cn (d) 6) (nI m)) 95 (342 + 3 * cn (d) 6) (nI (m * A / cn d (330 + S)))) 95 0 = (rf_w (rf_w ρ 95 (340 + 3 * cn (d) 6) (nI S)) 95 (341 + 3 * cn (d) 6) (nI m)) 95 0 from by rw [rf_w_at, if_neg (fun h => absurd h.2 (by omega))])]
        try rw [(show (rf_w (rf_w ρ 95 (340 + 3 * cn (d) 6) (nI S)) 95 (341 + 3 * cn (d) 6) (nI m)) 95 0 = (rf_w ρ 95 (340 + 3 * cn (d) 6) (nI S)) 95 0 from by rw [rf_w_at, if_neg (fun h => absurd h.2 (by omega))])]
        try rw [(show (rf_w ρ 95 (340 + 3 * cn (d) 6) (nI S)) 95 0 = ρ 95 0 from by rw [rf_w_at, if_neg (fun h => absurd h.2 (by omega))])]
        try rw [(show ρ 95 0 = d 0 from (congrFun hd _).trans (ct_o (by omega) (fun k hk => ⟨by omega, by omega⟩)))]
        try rw [(show ((d 0) + (nI 1)) = nI (1 + cn (d) 0) from rf_eq (rf_nadd (x := d 0) (y := nI 1) (hI.at0) rfl) (by omega))]
        try rw [(show (nI 0).toNatClampNeg = 0 from rf_cl_n rfl (by omega))]
        rw [show nI 1999999999 = nI (min (cn d 7 + cn d 9 * m) 1999999999) from congrArg nI (by omega)]
        refine ok_reti eX12_aDay_318 rfl ?_
        exact ⟨rfl, ρ, hs, hd, by rw [fB, if_pos h6]⟩
      · refine ok_step (ps := [rf_in (nI 4) 700]) (L' := [some (.ref 94), some (.int (nI A)), none, some (.int (nI S)), some (.int (nI m)), some (.int (nI (cn d 4))), none]) (st' := [.int (ρ 95 ((nI 4).toNatClampNeg)), .int (nI (cn d 4))]) (σ' := (γ, ρ)) (pc' := 152) kX12_aDay_144 rfl rfl (rf_a1 (rf_in_n (a := 4) rfl (by omega)) rf_a0) ?_
        try rw [(show (nI 4).toNatClampNeg = 4 from rf_cl_n rfl (by omega))]
        try rw [(show ρ 95 4 = d 4 from (congrFun hd _).trans (ct_o (by omega) (fun k hk => ⟨by omega, by omega⟩)))]
        refine ok_icmp_ge bX12_aDay_152 (fun _ => ?_) (fun h152 => absurd (le_of hI.at4 (by omega) (by omega)) h152)
        refine ok_step (ps := [rf_in (nI 6) 700]) (L' := [some (.ref 94), some (.int (nI A)), none, some (.int (nI S)), some (.int (nI m)), some (.int (nI (cn d 4))), none]) (st' := [.int (nI 60), .int (ρ 95 ((nI 6).toNatClampNeg))]) (σ' := (γ, ρ)) (pc' := 186) kX12_aDay_177 rfl rfl (rf_a1 (rf_in_n (a := 6) rfl (by omega)) rf_a0) ?_
        try rw [(show (nI 6).toNatClampNeg = 6 from rf_cl_n rfl (by omega))]
        try rw [(show ρ 95 6 = d 6 from (congrFun hd _).trans (ct_o (by omega) (fun k hk => ⟨by omega, by omega⟩)))]
        refine ok_icmp_ge bX12_aDay_186 (fun h186 => absurd h186 (by rw [hI.at6]; exact nI_ge (by omega) (by omega))) (fun _ => ?_)
        refine ok_step (ps := [rf_in (nI 6) 700, rf_in ((nI 340) + ((nI 3) * (ρ 95 ((nI 6).toNatClampNeg)))) 700, rf_in (((nI 340) + ((nI 3) * (ρ 95 ((nI 6).toNatClampNeg)))) + (nI 1)) 700, rf_in ((nI 330) + (nI S)) 700, rf_nz ((rf_w (rf_w ρ 95 (((nI 340) + ((nI 3) * (ρ 95 ((nI 6).toNatClampNeg)))).toNatClampNeg) (nI S)) 95 ((((nI 340) + ((nI 3) * (ρ 95 ((nI 6).toNatClampNeg)))) + (nI 1)).toNatClampNeg) (nI m)) 95 (((nI 330) + (nI S)).toNatClampNeg)), rf_in (((nI 340) + ((nI 3) * (ρ 95 ((nI 6).toNatClampNeg)))) + (nI 2)) 700, rf_in (nI 6) 700, rf_in (nI 6) 700]) (L' := [some (.ref 94), some (.int (nI A)), none, some (.int (nI S)), some (.int (nI m)), some (.int ((nI 340) + ((nI 3) * (ρ 95 ((nI 6).toNatClampNeg))))), none]) (st' := []) (σ' := (γ, rf_w (rf_w (rf_w (rf_w ρ 95 (((nI 340) + ((nI 3) * (ρ 95 ((nI 6).toNatClampNeg)))).toNatClampNeg) (nI S)) 95 ((((nI 340) + ((nI 3) * (ρ 95 ((nI 6).toNatClampNeg)))) + (nI 1)).toNatClampNeg) (nI m)) 95 ((((nI 340) + ((nI 3) * (ρ 95 ((nI 6).toNatClampNeg)))) + (nI 2)).toNatClampNeg) (((nI m) * (nI A)) / ((rf_w (rf_w ρ 95 (((nI 340) + ((nI 3) * (ρ 95 ((nI 6).toNatClampNeg)))).toNatClampNeg) (nI S)) 95 ((((nI 340) + ((nI 3) * (ρ 95 ((nI 6).toNatClampNeg)))) + (nI 1)).toNatClampNeg) (nI m)) 95 (((nI 330) + (nI S)).toNatClampNeg)))) 95 ((nI 6).toNatClampNeg) (((rf_w (rf_w (rf_w ρ 95 (((nI 340) + ((nI 3) * (ρ 95 ((nI 6).toNatClampNeg)))).toNatClampNeg) (nI S)) 95 ((((nI 340) + ((nI 3) * (ρ 95 ((nI 6).toNatClampNeg)))) + (nI 1)).toNatClampNeg) (nI m)) 95 ((((nI 340) + ((nI 3) * (ρ 95 ((nI 6).toNatClampNeg)))) + (nI 2)).toNatClampNeg) (((nI m) * (nI A)) / ((rf_w (rf_w ρ 95 (((nI 340) + ((nI 3) * (ρ 95 ((nI 6).toNatClampNeg)))).toNatClampNeg) (nI S)) 95 ((((nI 340) + ((nI 3) * (ρ 95 ((nI 6).toNatClampNeg)))) + (nI 1)).toNatClampNeg) (nI m)) 95 (((nI 330) + (nI S)).toNatClampNeg)))) 95 ((nI 6).toNatClampNeg)) + (nI 1)))) (pc' := 258) kX12_aDay_189 rfl rfl (rf_a1 (rf_in_n (a := 6) rfl (by omega)) (rf_a1 (rf_in_n (a := (340 + 3 * cn (d) 6)) (by (try rw [(show (nI 6).toNatClampNeg = 6 from rf_cl_n rfl (by omega))]); (try rw [(show ρ 95 6 = d 6 from (congrFun hd _).trans (ct_o (by omega) (fun k hk => ⟨by omega, by omega⟩)))]); (try rw [(show ((nI 3) * (d 6)) = nI (3 * cn (d) 6) from rf_eq (rf_nmul (x := nI 3) (y := d 6) rfl (hI.at6)) (by omega))]); (try rw [(show ((nI 340) + (nI (3 * cn (d) 6))) = nI (340 + 3 * cn (d) 6) from rf_eq (rf_nadd (x := nI 340) (y := nI (3 * cn (d) 6)) rfl rfl) (by omega))]); all_goals exact rfl) (by omega)) (rf_a1 (rf_in_n (a := (341 + 3 * cn (d) 6)) (by (try rw [(show (nI 6).toNatClampNeg = 6 from rf_cl_n rfl (by omega))]); (try rw [(show ρ 95 6 = d 6 from (congrFun hd _).trans (ct_o (by omega) (fun k hk => ⟨by omega, by omega⟩)))]); (try rw [(show ((nI 3) * (d 6)) = nI (3 * cn (d) 6) from rf_eq (rf_nmul (x := nI 3) (y := d 6) rfl (hI.at6)) (by omega))]); (try rw [(show ((nI 340) + (nI (3 * cn (d) 6))) = nI (340 + 3 * cn (d) 6) from rf_eq (rf_nadd (x := nI 340) (y := nI (3 * cn (d) 6)) rfl rfl) (by omega))]); (try rw [(show (nI (340 + 3 * cn (d) 6)).toNatClampNeg = (340 + 3 * cn (d) 6) from rf_cl_n rfl (by omega))]); (try rw [(show ((nI (340 + 3 * cn (d) 6)) + (nI 1)) = nI (341 + 3 * cn (d) 6) from rf_eq (rf_nadd (x := nI (340 + 3 * cn (d) 6)) (y := nI 1) rfl rfl) (by omega))]); all_goals exact rfl) (by omega)) (rf_a1 (rf_in_n (a := (330 + S)) (by (try rw [(show (nI 6).toNatClampNeg = 6 from rf_cl_n rfl (by omega))]); (try rw [(show ρ 95 6 = d 6 from (congrFun hd _).trans (ct_o (by omega) (fun k hk => ⟨by omega, by omega⟩)))]); (try rw [(show ((nI 3) * (d 6)) = nI (3 * cn (d) 6) from rf_eq (rf_nmul (x := nI 3) (y := d 6) rfl (hI.at6)) (by omega))]); (try rw [(show ((nI 340) + (nI (3 * cn (d) 6))) = nI (340 + 3 * cn (d) 6) from rf_eq (rf_nadd (x := nI 340) (y := nI (3 * cn (d) 6)) rfl rfl) (by omega))]); (try rw [(show (nI (340 + 3 * cn (d) 6)).toNatClampNeg = (340 + 3 * cn (d) 6) from rf_cl_n rfl (by omega))]); (try rw [(show ((nI (340 + 3 * cn (d) 6)) + (nI 1)) = nI (341 + 3 * cn (d) 6) from rf_eq (rf_nadd (x := nI (340 + 3 * cn (d) 6)) (y := nI 1) rfl rfl) (by omega))]); (try rw [(show (nI (341 + 3 * cn (d) 6)).toNatClampNeg = (341 + 3 * cn (d) 6) from rf_cl_n rfl (by omega))]); (try rw [(show ((nI (340 + 3 * cn (d) 6)) + (nI 2)) = nI (342 + 3 * cn (d) 6) from rf_eq (rf_nadd (x := nI (340 + 3 * cn (d) 6)) (y := nI 2) rfl rfl) (by omega))]); (try rw [(show ((nI m) * (nI A)) = nI (m * A) from pk_mul _ _)]); (try rw [(show ((nI 330) + (nI S)) = nI (330 + S) from rf_eq (rf_nadd (x := nI 330) (y := nI S) rfl rfl) (by omega))]); all_goals exact rfl) (by omega)) (rf_a1 (by (try rw [(show (nI 6).toNatClampNeg = 6 from rf_cl_n rfl (by omega))]); (try rw [(show ρ 95 6 = d 6 from (congrFun hd _).trans (ct_o (by omega) (fun k hk => ⟨by omega, by omega⟩)))]); (try rw [(show ((nI 3) * (d 6)) = nI (3 * cn (d) 6) from rf_eq (rf_nmul (x := nI 3) (y := d 6) rfl (hI.at6)) (by omega))]); (try rw [(show ((nI 340) + (nI (3 * cn (d) 6))) = nI (340 + 3 * cn (d) 6) from rf_eq (rf_nadd (x := nI 340) (y := nI (3 * cn (d) 6)) rfl rfl) (by omega))]); (try rw [(show (nI (340 + 3 * cn (d) 6)).toNatClampNeg = (340 + 3 * cn (d) 6) from rf_cl_n rfl (by omega))]); (try rw [(show ((nI (340 + 3 * cn (d) 6)) + (nI 1)) = nI (341 + 3 * cn (d) 6) from rf_eq (rf_nadd (x := nI (340 + 3 * cn (d) 6)) (y := nI 1) rfl rfl) (by omega))]); (try rw [(show (nI (341 + 3 * cn (d) 6)).toNatClampNeg = (341 + 3 * cn (d) 6) from rf_cl_n rfl (by omega))]); (try rw [(show ((nI (340 + 3 * cn (d) 6)) + (nI 2)) = nI (342 + 3 * cn (d) 6) from rf_eq (rf_nadd (x := nI (340 + 3 * cn (d) 6)) (y := nI 2) rfl rfl) (by omega))]); (try rw [(show ((nI m) * (nI A)) = nI (m * A) from pk_mul _ _)]); (try rw [(show ((nI 330) + (nI S)) = nI (330 + S) from rf_eq (rf_nadd (x := nI 330) (y := nI S) rfl rfl) (by omega))]); (try rw [(show (nI (330 + S)).toNatClampNeg = (330 + S) from rf_cl_n rfl (by omega))]); (try rw [(show (rf_w (rf_w ρ 95 (340 + 3 * cn (d) 6) (nI S)) 95 (341 + 3 * cn (d) 6) (nI m)) 95 (330 + S) = (rf_w ρ 95 (340 + 3 * cn (d) 6) (nI S)) 95 (330 + S) from by rw [rf_w_at, if_neg (fun h => absurd h.2 (by omega))])]); (try rw [(show (rf_w ρ 95 (340 + 3 * cn (d) 6) (nI S)) 95 (330 + S) = ρ 95 (330 + S) from by rw [rf_w_at, if_neg (fun h => absurd h.2 (by omega))])]); (try rw [(show ρ 95 (330 + S) = d (330 + S) from (congrFun hd _).trans (ct_o (by omega) (fun k hk => ⟨by omega, by omega⟩)))]); rw [show d (330 + S) = nI (cn d (330 + S)) from hI.atb (b := 9) (bd_330 (i := S) (by omega) rfl) (by decide)]; exact nz_of (fun e => by have := nI_inj (b := 0) e (by omega) (by omega); omega)) (rf_a1 (rf_in_n (a := (342 + 3 * cn (d) 6)) (by (try rw [(show (nI 6).toNatClampNeg = 6 from rf_cl_n rfl (by omega))]); (try rw [(show ρ 95 6 = d 6 from (congrFun hd _).trans (ct_o (by omega) (fun k hk => ⟨by omega, by omega⟩)))]); (try rw [(show ((nI 3) * (d 6)) = nI (3 * cn (d) 6) from rf_eq (rf_nmul (x := nI 3) (y := d 6) rfl (hI.at6)) (by omega))]); (try rw [(show ((nI 340) + (nI (3 * cn (d) 6))) = nI (340 + 3 * cn (d) 6) from rf_eq (rf_nadd (x := nI 340) (y := nI (3 * cn (d) 6)) rfl rfl) (by omega))]); (try rw [(show (nI (340 + 3 * cn (d) 6)).toNatClampNeg = (340 + 3 * cn (d) 6) from rf_cl_n rfl (by omega))]); (try rw [(show ((nI (340 + 3 * cn (d) 6)) + (nI 1)) = nI (341 + 3 * cn (d) 6) from rf_eq (rf_nadd (x := nI (340 + 3 * cn (d) 6)) (y := nI 1) rfl rfl) (by omega))]); (try rw [(show (nI (341 + 3 * cn (d) 6)).toNatClampNeg = (341 + 3 * cn (d) 6) from rf_cl_n rfl (by omega))]); (try rw [(show ((nI (340 + 3 * cn (d) 6)) + (nI 2)) = nI (342 + 3 * cn (d) 6) from rf_eq (rf_nadd (x := nI (340 + 3 * cn (d) 6)) (y := nI 2) rfl rfl) (by omega))]); (try rw [(show ((nI m) * (nI A)) = nI (m * A) from pk_mul _ _)]); (try rw [(show ((nI 330) + (nI S)) = nI (330 + S) from rf_eq (rf_nadd (x := nI 330) (y := nI S) rfl rfl) (by omega))]); (try rw [(show (nI (330 + S)).toNatClampNeg = (330 + S) from rf_cl_n rfl (by omega))]); (try rw [(show (rf_w (rf_w ρ 95 (340 + 3 * cn (d) 6) (nI S)) 95 (341 + 3 * cn (d) 6) (nI m)) 95 (330 + S) = (rf_w ρ 95 (340 + 3 * cn (d) 6) (nI S)) 95 (330 + S) from by rw [rf_w_at, if_neg (fun h => absurd h.2 (by omega))])]); (try rw [(show (rf_w ρ 95 (340 + 3 * cn (d) 6) (nI S)) 95 (330 + S) = ρ 95 (330 + S) from by rw [rf_w_at, if_neg (fun h => absurd h.2 (by omega))])]); (try rw [(show ρ 95 (330 + S) = d (330 + S) from (congrFun hd _).trans (ct_o (by omega) (fun k hk => ⟨by omega, by omega⟩)))]); (try rw [(show ((nI (m * A)) / (d (330 + S))) = nI (m * A / cn d (330 + S)) from by rw [show d (330 + S) = nI (cn d (330 + S)) from hI.atb (b := 9) (bd_330 (i := S) (by omega) rfl) (by decide)]; exact pk_div (by omega) (by omega) (by omega))]); all_goals exact rfl) (by omega)) (rf_a1 (rf_in_n (a := 6) rfl (by omega)) (rf_a1 (rf_in_n (a := 6) rfl (by omega)) rf_a0)))))))) ?_
        try rw [(show (nI 6).toNatClampNeg = 6 from rf_cl_n rfl (by omega))]
        try rw [(show ρ 95 6 = d 6 from (congrFun hd _).trans (ct_o (by omega) (fun k hk => ⟨by omega, by omega⟩)))]
        try rw [(show ((nI 3) * (d 6)) = nI (3 * cn (d) 6) from rf_eq (rf_nmul (x := nI 3) (y := d 6) rfl (hI.at6)) (by omega))]
        try rw [(show ((nI 340) + (nI (3 * cn (d) 6))) = nI (340 + 3 * cn (d) 6) from rf_eq (rf_nadd (x := nI 340) (y := nI (3 * cn (d) 6)) rfl rfl) (by omega))]
        try rw [(show (nI (340 + 3 * cn (d) 6)).toNatClampNeg = (340 + 3 * cn (d) 6) from rf_cl_n rfl (by omega))]
        try rw [(show ((nI (340 + 3 * cn (d) 6)) + (nI 1)) = nI (341 + 3 * cn (d) 6) from rf_eq (rf_nadd (x := nI (340 + 3 * cn (d) 6)) (y := nI 1) rfl rfl) (by omega))]
        try rw [(show (nI (341 + 3 * cn (d) 6)).toNatClampNeg = (341 + 3 * cn (d) 6) from rf_cl_n rfl (by omega))]
        try rw [(show ((nI (340 + 3 * cn (d) 6)) + (nI 2)) = nI (342 + 3 * cn (d) 6) from rf_eq (rf_nadd (x := nI (340 + 3 * cn (d) 6)) (y := nI 2) rfl rfl) (by omega))]
        try rw [(show ((nI m) * (nI A)) = nI (m * A) from pk_mul _ _)]
        try rw [(show ((nI 330) + (nI S)) = nI (330 + S) from rf_eq (rf_nadd (x := nI 330) (y := nI S) rfl rfl) (by omega))]
        try rw [(show (nI (330 + S)).toNatClampNeg = (330 + S) from rf_cl_n rfl (by omega))]
        try rw [(show (rf_w (rf_w ρ 95 (340 + 3 * cn (d) 6) (nI S)) 95 (341 + 3 * cn (d) 6) (nI m)) 95 (330 + S) = (rf_w ρ 95 (340 + 3 * cn (d) 6) (nI S)) 95 (330 + S) from by rw [rf_w_at, if_neg (fun h => absurd h.2 (by omega))])]
        try rw [(show (rf_w ρ 95 (340 + 3 * cn (d) 6) (nI S)) 95 (330 + S) = ρ 95 (330 + S) from by rw [rf_w_at, if_neg (fun h => absurd h.2 (by omega))])]
        try rw [(show ρ 95 (330 + S) = d (330 + S) from (congrFun hd _).trans (ct_o (by omega) (fun k hk => ⟨by omega, by omega⟩)))]
        try rw [(show ((nI (m * A)) / (d (330 + S))) = nI (m * A / cn d (330 + S)) from by rw [show d (330 + S) = nI (cn d (330 + S)) from hI.atb (b := 9) (bd_330 (i := S) (by omega) rfl) (by decide)]; exact pk_div (by omega) (by omega) (by omega))]
        try rw [(show (nI (342 + 3 * cn (d) 6)).toNatClampNeg = (342 + 3 * cn (d) 6) from rf_cl_n rfl (by omega))]
        try rw [(show (nI 6).toNatClampNeg = 6 from rf_cl_n rfl (by omega))]
        try rw [(show (rf_w (rf_w (rf_w ρ 95 (340 + 3 * cn (d) 6) (nI S)) 95 (341 + 3 * cn (d) 6) (nI m)) 95 (342 + 3 * cn (d) 6) (nI (m * A / cn d (330 + S)))) 95 6 = (rf_w (rf_w ρ 95 (340 + 3 * cn (d) 6) (nI S)) 95 (341 + 3 * cn (d) 6) (nI m)) 95 6 from by rw [rf_w_at, if_neg (fun h => absurd h.2 (by omega))])]
        try rw [(show (rf_w (rf_w ρ 95 (340 + 3 * cn (d) 6) (nI S)) 95 (341 + 3 * cn (d) 6) (nI m)) 95 6 = (rf_w ρ 95 (340 + 3 * cn (d) 6) (nI S)) 95 6 from by rw [rf_w_at, if_neg (fun h => absurd h.2 (by omega))])]
        try rw [(show (rf_w ρ 95 (340 + 3 * cn (d) 6) (nI S)) 95 6 = ρ 95 6 from by rw [rf_w_at, if_neg (fun h => absurd h.2 (by omega))])]
        try rw [(show ρ 95 6 = d 6 from (congrFun hd _).trans (ct_o (by omega) (fun k hk => ⟨by omega, by omega⟩)))]
        try rw [(show ((d 6) + (nI 1)) = nI (1 + cn (d) 6) from rf_eq (rf_nadd (x := d 6) (y := nI 1) (hI.at6) rfl) (by omega))]
        try rw [(show (nI 6).toNatClampNeg = 6 from rf_cl_n rfl (by omega))]
        refine ok_step (ps := [rf_in (nI 7) 700, rf_in (nI 9) 700]) (L' := [some (.ref 94), some (.int (nI A)), none, some (.int (nI S)), some (.int (nI m)), some (.long ((((rf_w (rf_w (rf_w (rf_w ρ 95 (340 + 3 * cn (d) 6) (nI S)) 95 (341 + 3 * cn (d) 6) (nI m)) 95 (342 + 3 * cn (d) 6) (nI (m * A / cn d (330 + S)))) 95 6 (nI (1 + cn (d) 6))) 95 ((nI 7).toNatClampNeg)).toInt64) + ((((rf_w (rf_w (rf_w (rf_w ρ 95 (340 + 3 * cn (d) 6) (nI S)) 95 (341 + 3 * cn (d) 6) (nI m)) 95 (342 + 3 * cn (d) 6) (nI (m * A / cn d (330 + S)))) 95 6 (nI (1 + cn (d) 6))) 95 ((nI 9).toNatClampNeg)).toInt64) * ((nI m).toInt64)))), none]) (st' := [.int (lg_cmp ((((rf_w (rf_w (rf_w (rf_w ρ 95 (340 + 3 * cn (d) 6) (nI S)) 95 (341 + 3 * cn (d) 6) (nI m)) 95 (342 + 3 * cn (d) 6) (nI (m * A / cn d (330 + S)))) 95 6 (nI (1 + cn (d) 6))) 95 ((nI 7).toNatClampNeg)).toInt64) + ((((rf_w (rf_w (rf_w (rf_w ρ 95 (340 + 3 * cn (d) 6) (nI S)) 95 (341 + 3 * cn (d) 6) (nI m)) 95 (342 + 3 * cn (d) 6) (nI (m * A / cn d (330 + S)))) 95 6 (nI (1 + cn (d) 6))) 95 ((nI 9).toNatClampNeg)).toInt64) * ((nI m).toInt64))) (lN 1999999999)), .int (nI 7), .ref 95]) (σ' := (γ, rf_w (rf_w (rf_w (rf_w ρ 95 (340 + 3 * cn (d) 6) (nI S)) 95 (341 + 3 * cn (d) 6) (nI m)) 95 (342 + 3 * cn (d) 6) (nI (m * A / cn d (330 + S)))) 95 6 (nI (1 + cn (d) 6)))) (pc' := 293) kX12_aDay_258 rfl rfl (rf_a1 (rf_in_n (a := 7) rfl (by omega)) (rf_a1 (rf_in_n (a := 9) rfl (by omega)) rf_a0)) ?_
        try rw [(show (nI 7).toNatClampNeg = 7 from rf_cl_n rfl (by omega))]
        try rw [(show (rf_w (rf_w (rf_w (rf_w ρ 95 (340 + 3 * cn (d) 6) (nI S)) 95 (341 + 3 * cn (d) 6) (nI m)) 95 (342 + 3 * cn (d) 6) (nI (m * A / cn d (330 + S)))) 95 6 (nI (1 + cn (d) 6))) 95 7 = (rf_w (rf_w (rf_w ρ 95 (340 + 3 * cn (d) 6) (nI S)) 95 (341 + 3 * cn (d) 6) (nI m)) 95 (342 + 3 * cn (d) 6) (nI (m * A / cn d (330 + S)))) 95 7 from by rw [rf_w_at, if_neg (fun h => absurd h.2 (by omega))])]
        try rw [(show (rf_w (rf_w (rf_w ρ 95 (340 + 3 * cn (d) 6) (nI S)) 95 (341 + 3 * cn (d) 6) (nI m)) 95 (342 + 3 * cn (d) 6) (nI (m * A / cn d (330 + S)))) 95 7 = (rf_w (rf_w ρ 95 (340 + 3 * cn (d) 6) (nI S)) 95 (341 + 3 * cn (d) 6) (nI m)) 95 7 from by rw [rf_w_at, if_neg (fun h => absurd h.2 (by omega))])]
        try rw [(show (rf_w (rf_w ρ 95 (340 + 3 * cn (d) 6) (nI S)) 95 (341 + 3 * cn (d) 6) (nI m)) 95 7 = (rf_w ρ 95 (340 + 3 * cn (d) 6) (nI S)) 95 7 from by rw [rf_w_at, if_neg (fun h => absurd h.2 (by omega))])]
        try rw [(show (rf_w ρ 95 (340 + 3 * cn (d) 6) (nI S)) 95 7 = ρ 95 7 from by rw [rf_w_at, if_neg (fun h => absurd h.2 (by omega))])]
        try rw [(show ρ 95 7 = d 7 from (congrFun hd _).trans (ct_o (by omega) (fun k hk => ⟨by omega, by omega⟩)))]
        try rw [(show (nI 9).toNatClampNeg = 9 from rf_cl_n rfl (by omega))]
        try rw [(show (rf_w (rf_w (rf_w (rf_w ρ 95 (340 + 3 * cn (d) 6) (nI S)) 95 (341 + 3 * cn (d) 6) (nI m)) 95 (342 + 3 * cn (d) 6) (nI (m * A / cn d (330 + S)))) 95 6 (nI (1 + cn (d) 6))) 95 9 = (rf_w (rf_w (rf_w ρ 95 (340 + 3 * cn (d) 6) (nI S)) 95 (341 + 3 * cn (d) 6) (nI m)) 95 (342 + 3 * cn (d) 6) (nI (m * A / cn d (330 + S)))) 95 9 from by rw [rf_w_at, if_neg (fun h => absurd h.2 (by omega))])]
        try rw [(show (rf_w (rf_w (rf_w ρ 95 (340 + 3 * cn (d) 6) (nI S)) 95 (341 + 3 * cn (d) 6) (nI m)) 95 (342 + 3 * cn (d) 6) (nI (m * A / cn d (330 + S)))) 95 9 = (rf_w (rf_w ρ 95 (340 + 3 * cn (d) 6) (nI S)) 95 (341 + 3 * cn (d) 6) (nI m)) 95 9 from by rw [rf_w_at, if_neg (fun h => absurd h.2 (by omega))])]
        try rw [(show (rf_w (rf_w ρ 95 (340 + 3 * cn (d) 6) (nI S)) 95 (341 + 3 * cn (d) 6) (nI m)) 95 9 = (rf_w ρ 95 (340 + 3 * cn (d) 6) (nI S)) 95 9 from by rw [rf_w_at, if_neg (fun h => absurd h.2 (by omega))])]
        try rw [(show (rf_w ρ 95 (340 + 3 * cn (d) 6) (nI S)) 95 9 = ρ 95 9 from by rw [rf_w_at, if_neg (fun h => absurd h.2 (by omega))])]
        try rw [(show ρ 95 9 = d 9 from (congrFun hd _).trans (ct_o (by omega) (fun k hk => ⟨by omega, by omega⟩)))]
        refine ok_if_le bX12_aDay_293 (fun _ => ?_) (fun h293 => absurd (by rw [el]; exact Int32.not_lt.mp (fun h => by have := (pk_lLT (by omega) (by omega)).mp (lgc_gt.mp h); omega)) h293)
        refine ok_step (ps := []) (L' := [some (.ref 94), some (.int (nI A)), none, some (.int (nI S)), some (.int (nI m)), some (.long (((d 7).toInt64) + (((d 9).toInt64) * ((nI m).toInt64)))), none]) (st' := [.int ((((d 7).toInt64) + (((d 9).toInt64) * ((nI m).toInt64))).toInt32), .int (nI 7), .ref 95]) (σ' := (γ, rf_w (rf_w (rf_w (rf_w ρ 95 (340 + 3 * cn (d) 6) (nI S)) 95 (341 + 3 * cn (d) 6) (nI m)) 95 (342 + 3 * cn (d) 6) (nI (m * A / cn d (330 + S)))) 95 6 (nI (1 + cn (d) 6)))) (pc' := 305) kX12_aDay_302 rfl rfl rf_a0 ?_
        refine ok_step (ps := [rf_in (nI 7) 700, rf_in (nI 0) 700, rf_in (nI 0) 700]) (L' := [some (.ref 94), some (.int (nI A)), none, some (.int (nI S)), some (.int (nI m)), some (.long (((d 7).toInt64) + (((d 9).toInt64) * ((nI m).toInt64)))), none]) (st' := [.int (nI m)]) (σ' := (γ, rf_w (rf_w (rf_w (rf_w (rf_w (rf_w ρ 95 (340 + 3 * cn (d) 6) (nI S)) 95 (341 + 3 * cn (d) 6) (nI m)) 95 (342 + 3 * cn (d) 6) (nI (m * A / cn d (330 + S)))) 95 6 (nI (1 + cn (d) 6))) 95 ((nI 7).toNatClampNeg) ((((d 7).toInt64) + (((d 9).toInt64) * ((nI m).toInt64))).toInt32)) 95 ((nI 0).toNatClampNeg) (((rf_w (rf_w (rf_w (rf_w (rf_w ρ 95 (340 + 3 * cn (d) 6) (nI S)) 95 (341 + 3 * cn (d) 6) (nI m)) 95 (342 + 3 * cn (d) 6) (nI (m * A / cn d (330 + S)))) 95 6 (nI (1 + cn (d) 6))) 95 ((nI 7).toNatClampNeg) ((((d 7).toInt64) + (((d 9).toInt64) * ((nI m).toInt64))).toInt32)) 95 ((nI 0).toNatClampNeg)) + (nI 1)))) (pc' := 318) kX12_aDay_305 rfl rfl (rf_a1 (rf_in_n (a := 7) rfl (by omega)) (rf_a1 (rf_in_n (a := 0) rfl (by omega)) (rf_a1 (rf_in_n (a := 0) rfl (by omega)) rf_a0))) ?_
        try rw [(show (nI 7).toNatClampNeg = 7 from rf_cl_n rfl (by omega))]
        try rw [(show (nI 0).toNatClampNeg = 0 from rf_cl_n rfl (by omega))]
        try rw [(show (rf_w (rf_w (rf_w (rf_w (rf_w ρ 95 (340 + 3 * cn (d) 6) (nI S)) 95 (341 + 3 * cn (d) 6) (nI m)) 95 (342 + 3 * cn (d) 6) (nI (m * A / cn d (330 + S)))) 95 6 (nI (1 + cn (d) 6))) 95 7 ((((d 7).toInt64) + (((d 9).toInt64) * ((nI m).toInt64))).toInt32)) 95 0 = (rf_w (rf_w (rf_w (rf_w ρ 95 (340 + 3 * cn (d) 6) (nI S)) 95 (341 + 3 * cn (d) 6) (nI m)) 95 (342 + 3 * cn (d) 6) (nI (m * A / cn d (330 + S)))) 95 6 (nI (1 + cn (d) 6))) 95 0 from by rw [rf_w_at, if_neg (fun h => absurd h.2 (by omega))])]
        try rw [(show (rf_w (rf_w (rf_w (rf_w ρ 95 (340 + 3 * cn (d) 6) (nI S)) 95 (341 + 3 * cn (d) 6) (nI m)) 95 (342 + 3 * cn (d) 6) (nI (m * A / cn d (330 + S)))) 95 6 (nI (1 + cn (d) 6))) 95 0 = (rf_w (rf_w (rf_w ρ 95 (340 + 3 * cn (d) 6) (nI S)) 95 (341 + 3 * cn (d) 6) (nI m)) 95 (342 + 3 * cn (d) 6) (nI (m * A / cn d (330 + S)))) 95 0 from by rw [rf_w_at, if_neg (fun h => absurd h.2 (by omega))])]
        try rw [(show (rf_w (rf_w (rf_w ρ 95 (340 + 3 * cn (d) 6) (nI S)) 95 (341 + 3 * cn (d) 6) (nI m)) 95 (342 + 3 * cn (d) 6) (nI (m * A / cn d (330 + S)))) 95 0 = (rf_w (rf_w ρ 95 (340 + 3 * cn (d) 6) (nI S)) 95 (341 + 3 * cn (d) 6) (nI m)) 95 0 from by rw [rf_w_at, if_neg (fun h => absurd h.2 (by omega))])]
        try rw [(show (rf_w (rf_w ρ 95 (340 + 3 * cn (d) 6) (nI S)) 95 (341 + 3 * cn (d) 6) (nI m)) 95 0 = (rf_w ρ 95 (340 + 3 * cn (d) 6) (nI S)) 95 0 from by rw [rf_w_at, if_neg (fun h => absurd h.2 (by omega))])]
        try rw [(show (rf_w ρ 95 (340 + 3 * cn (d) 6) (nI S)) 95 0 = ρ 95 0 from by rw [rf_w_at, if_neg (fun h => absurd h.2 (by omega))])]
        try rw [(show ρ 95 0 = d 0 from (congrFun hd _).trans (ct_o (by omega) (fun k hk => ⟨by omega, by omega⟩)))]
        try rw [(show ((d 0) + (nI 1)) = nI (1 + cn (d) 0) from rf_eq (rf_nadd (x := d 0) (y := nI 1) (hI.at0) rfl) (by omega))]
        try rw [(show (nI 0).toNatClampNeg = 0 from rf_cl_n rfl (by omega))]
        rw [show ((((d 7).toInt64) + (((d 9).toInt64) * ((nI m).toInt64))).toInt32 : Int32) = nI (min (cn d 7 + cn d 9 * m) 1999999999) from by rw [el, lN_i, Nat.min_eq_left (by omega)]]
        refine ok_reti eX12_aDay_318 rfl ?_
        exact ⟨rfl, ρ, hs, hd, by rw [fB, if_pos h6]⟩
    · rcases Nat.lt_or_ge 1999999999 (cn d 7 + cn d 9 * m) with h7 | h7
      · refine ok_step (ps := [rf_in (nI 4) 700]) (L' := [some (.ref 94), some (.int (nI A)), none, some (.int (nI S)), some (.int (nI m)), some (.int (nI (cn d 4))), none]) (st' := [.int (ρ 95 ((nI 4).toNatClampNeg)), .int (nI (cn d 4))]) (σ' := (γ, ρ)) (pc' := 152) kX12_aDay_144 rfl rfl (rf_a1 (rf_in_n (a := 4) rfl (by omega)) rf_a0) ?_
        try rw [(show (nI 4).toNatClampNeg = 4 from rf_cl_n rfl (by omega))]
        try rw [(show ρ 95 4 = d 4 from (congrFun hd _).trans (ct_o (by omega) (fun k hk => ⟨by omega, by omega⟩)))]
        refine ok_icmp_ge bX12_aDay_152 (fun _ => ?_) (fun h152 => absurd (le_of hI.at4 (by omega) (by omega)) h152)
        refine ok_step (ps := [rf_in (nI 6) 700]) (L' := [some (.ref 94), some (.int (nI A)), none, some (.int (nI S)), some (.int (nI m)), some (.int (nI (cn d 4))), none]) (st' := [.int (nI 60), .int (ρ 95 ((nI 6).toNatClampNeg))]) (σ' := (γ, ρ)) (pc' := 186) kX12_aDay_177 rfl rfl (rf_a1 (rf_in_n (a := 6) rfl (by omega)) rf_a0) ?_
        try rw [(show (nI 6).toNatClampNeg = 6 from rf_cl_n rfl (by omega))]
        try rw [(show ρ 95 6 = d 6 from (congrFun hd _).trans (ct_o (by omega) (fun k hk => ⟨by omega, by omega⟩)))]
        refine ok_icmp_ge bX12_aDay_186 (fun _ => ?_) (fun h186 => absurd (by rw [hI.at6]; exact nI_le (by omega) (by omega)) h186)
        refine ok_step (ps := [rf_in (nI 7) 700, rf_in (nI 9) 700]) (L' := [some (.ref 94), some (.int (nI A)), none, some (.int (nI S)), some (.int (nI m)), some (.long (((ρ 95 ((nI 7).toNatClampNeg)).toInt64) + (((ρ 95 ((nI 9).toNatClampNeg)).toInt64) * ((nI m).toInt64)))), none]) (st' := [.int (lg_cmp (((ρ 95 ((nI 7).toNatClampNeg)).toInt64) + (((ρ 95 ((nI 9).toNatClampNeg)).toInt64) * ((nI m).toInt64))) (lN 1999999999)), .int (nI 7), .ref 95]) (σ' := (γ, ρ)) (pc' := 293) kX12_aDay_258 rfl rfl (rf_a1 (rf_in_n (a := 7) rfl (by omega)) (rf_a1 (rf_in_n (a := 9) rfl (by omega)) rf_a0)) ?_
        try rw [(show (nI 7).toNatClampNeg = 7 from rf_cl_n rfl (by omega))]
        try rw [(show ρ 95 7 = d 7 from (congrFun hd _).trans (ct_o (by omega) (fun k hk => ⟨by omega, by omega⟩)))]
        try rw [(show (nI 9).toNatClampNeg = 9 from rf_cl_n rfl (by omega))]
        try rw [(show ρ 95 9 = d 9 from (congrFun hd _).trans (ct_o (by omega) (fun k hk => ⟨by omega, by omega⟩)))]
        refine ok_if_le bX12_aDay_293 (fun h293 => absurd h293 (by rw [el]; exact fun h => absurd (Int32.not_lt.mpr h) (fun h2 => h2 (lgc_gt.mpr ((pk_lLT (by omega) (by omega)).mpr h7))))) (fun _ => ?_)
        refine ok_step (ps := []) (L' := [some (.ref 94), some (.int (nI A)), none, some (.int (nI S)), some (.int (nI m)), some (.long (((d 7).toInt64) + (((d 9).toInt64) * ((nI m).toInt64)))), none]) (st' := [.int (nI 1999999999), .int (nI 7), .ref 95]) (σ' := (γ, ρ)) (pc' := 299) kX12_aDay_296 rfl rfl rf_a0 ?_
        refine ok_goto bX12_aDay_299 ?_
        refine ok_step (ps := [rf_in (nI 7) 700, rf_in (nI 0) 700, rf_in (nI 0) 700]) (L' := [some (.ref 94), some (.int (nI A)), none, some (.int (nI S)), some (.int (nI m)), some (.long (((d 7).toInt64) + (((d 9).toInt64) * ((nI m).toInt64)))), none]) (st' := [.int (nI m)]) (σ' := (γ, rf_w (rf_w ρ 95 ((nI 7).toNatClampNeg) (nI 1999999999)) 95 ((nI 0).toNatClampNeg) (((rf_w ρ 95 ((nI 7).toNatClampNeg) (nI 1999999999)) 95 ((nI 0).toNatClampNeg)) + (nI 1)))) (pc' := 318) kX12_aDay_305 rfl rfl (rf_a1 (rf_in_n (a := 7) rfl (by omega)) (rf_a1 (rf_in_n (a := 0) rfl (by omega)) (rf_a1 (rf_in_n (a := 0) rfl (by omega)) rf_a0))) ?_
        try rw [(show (nI 7).toNatClampNeg = 7 from rf_cl_n rfl (by omega))]
        try rw [(show (nI 0).toNatClampNeg = 0 from rf_cl_n rfl (by omega))]
        try rw [(show (rf_w ρ 95 7 (nI 1999999999)) 95 0 = ρ 95 0 from by rw [rf_w_at, if_neg (fun h => absurd h.2 (by omega))])]
        try rw [(show ρ 95 0 = d 0 from (congrFun hd _).trans (ct_o (by omega) (fun k hk => ⟨by omega, by omega⟩)))]
        try rw [(show ((d 0) + (nI 1)) = nI (1 + cn (d) 0) from rf_eq (rf_nadd (x := d 0) (y := nI 1) (hI.at0) rfl) (by omega))]
        try rw [(show (nI 0).toNatClampNeg = 0 from rf_cl_n rfl (by omega))]
        rw [show nI 1999999999 = nI (min (cn d 7 + cn d 9 * m) 1999999999) from congrArg nI (by omega)]
        refine ok_reti eX12_aDay_318 rfl ?_
        exact ⟨rfl, ρ, hs, hd, by rw [fB, if_neg (by omega)]⟩
      · refine ok_step (ps := [rf_in (nI 4) 700]) (L' := [some (.ref 94), some (.int (nI A)), none, some (.int (nI S)), some (.int (nI m)), some (.int (nI (cn d 4))), none]) (st' := [.int (ρ 95 ((nI 4).toNatClampNeg)), .int (nI (cn d 4))]) (σ' := (γ, ρ)) (pc' := 152) kX12_aDay_144 rfl rfl (rf_a1 (rf_in_n (a := 4) rfl (by omega)) rf_a0) ?_
        try rw [(show (nI 4).toNatClampNeg = 4 from rf_cl_n rfl (by omega))]
        try rw [(show ρ 95 4 = d 4 from (congrFun hd _).trans (ct_o (by omega) (fun k hk => ⟨by omega, by omega⟩)))]
        refine ok_icmp_ge bX12_aDay_152 (fun _ => ?_) (fun h152 => absurd (le_of hI.at4 (by omega) (by omega)) h152)
        refine ok_step (ps := [rf_in (nI 6) 700]) (L' := [some (.ref 94), some (.int (nI A)), none, some (.int (nI S)), some (.int (nI m)), some (.int (nI (cn d 4))), none]) (st' := [.int (nI 60), .int (ρ 95 ((nI 6).toNatClampNeg))]) (σ' := (γ, ρ)) (pc' := 186) kX12_aDay_177 rfl rfl (rf_a1 (rf_in_n (a := 6) rfl (by omega)) rf_a0) ?_
        try rw [(show (nI 6).toNatClampNeg = 6 from rf_cl_n rfl (by omega))]
        try rw [(show ρ 95 6 = d 6 from (congrFun hd _).trans (ct_o (by omega) (fun k hk => ⟨by omega, by omega⟩)))]
        refine ok_icmp_ge bX12_aDay_186 (fun _ => ?_) (fun h186 => absurd (by rw [hI.at6]; exact nI_le (by omega) (by omega)) h186)
        refine ok_step (ps := [rf_in (nI 7) 700, rf_in (nI 9) 700]) (L' := [some (.ref 94), some (.int (nI A)), none, some (.int (nI S)), some (.int (nI m)), some (.long (((ρ 95 ((nI 7).toNatClampNeg)).toInt64) + (((ρ 95 ((nI 9).toNatClampNeg)).toInt64) * ((nI m).toInt64)))), none]) (st' := [.int (lg_cmp (((ρ 95 ((nI 7).toNatClampNeg)).toInt64) + (((ρ 95 ((nI 9).toNatClampNeg)).toInt64) * ((nI m).toInt64))) (lN 1999999999)), .int (nI 7), .ref 95]) (σ' := (γ, ρ)) (pc' := 293) kX12_aDay_258 rfl rfl (rf_a1 (rf_in_n (a := 7) rfl (by omega)) (rf_a1 (rf_in_n (a := 9) rfl (by omega)) rf_a0)) ?_
        try rw [(show (nI 7).toNatClampNeg = 7 from rf_cl_n rfl (by omega))]
        try rw [(show ρ 95 7 = d 7 from (congrFun hd _).trans (ct_o (by omega) (fun k hk => ⟨by omega, by omega⟩)))]
        try rw [(show (nI 9).toNatClampNeg = 9 from rf_cl_n rfl (by omega))]
        try rw [(show ρ 95 9 = d 9 from (congrFun hd _).trans (ct_o (by omega) (fun k hk => ⟨by omega, by omega⟩)))]
        refine ok_if_le bX12_aDay_293 (fun _ => ?_) (fun h293 => absurd (by rw [el]; exact Int32.not_lt.mp (fun h => by have := (pk_lLT (by omega) (by omega)).mp (lgc_gt.mp h); omega)) h293)
        refine ok_step (ps := []) (L' := [some (.ref 94), some (.int (nI A)), none, some (.int (nI S)), some (.int (nI m)), some (.long (((d 7).toInt64) + (((d 9).toInt64) * ((nI m).toInt64)))), none]) (st' := [.int ((((d 7).toInt64) + (((d 9).toInt64) * ((nI m).toInt64))).toInt32), .int (nI 7), .ref 95]) (σ' := (γ, ρ)) (pc' := 305) kX12_aDay_302 rfl rfl rf_a0 ?_
        refine ok_step (ps := [rf_in (nI 7) 700, rf_in (nI 0) 700, rf_in (nI 0) 700]) (L' := [some (.ref 94), some (.int (nI A)), none, some (.int (nI S)), some (.int (nI m)), some (.long (((d 7).toInt64) + (((d 9).toInt64) * ((nI m).toInt64)))), none]) (st' := [.int (nI m)]) (σ' := (γ, rf_w (rf_w ρ 95 ((nI 7).toNatClampNeg) ((((d 7).toInt64) + (((d 9).toInt64) * ((nI m).toInt64))).toInt32)) 95 ((nI 0).toNatClampNeg) (((rf_w ρ 95 ((nI 7).toNatClampNeg) ((((d 7).toInt64) + (((d 9).toInt64) * ((nI m).toInt64))).toInt32)) 95 ((nI 0).toNatClampNeg)) + (nI 1)))) (pc' := 318) kX12_aDay_305 rfl rfl (rf_a1 (rf_in_n (a := 7) rfl (by omega)) (rf_a1 (rf_in_n (a := 0) rfl (by omega)) (rf_a1 (rf_in_n (a := 0) rfl (by omega)) rf_a0))) ?_
        try rw [(show (nI 7).toNatClampNeg = 7 from rf_cl_n rfl (by omega))]
        try rw [(show (nI 0).toNatClampNeg = 0 from rf_cl_n rfl (by omega))]
        try rw [(show (rf_w ρ 95 7 ((((d 7).toInt64) + (((d 9).toInt64) * ((nI m).toInt64))).toInt32)) 95 0 = ρ 95 0 from by rw [rf_w_at, if_neg (fun h => absurd h.2 (by omega))])]
        try rw [(show ρ 95 0 = d 0 from (congrFun hd _).trans (ct_o (by omega) (fun k hk => ⟨by omega, by omega⟩)))]
        try rw [(show ((d 0) + (nI 1)) = nI (1 + cn (d) 0) from rf_eq (rf_nadd (x := d 0) (y := nI 1) (hI.at0) rfl) (by omega))]
        try rw [(show (nI 0).toNatClampNeg = 0 from rf_cl_n rfl (by omega))]
        rw [show ((((d 7).toInt64) + (((d 9).toInt64) * ((nI m).toInt64))).toInt32 : Int32) = nI (min (cn d 7 + cn d 9 * m) 1999999999) from by rw [el, lN_i, Nat.min_eq_left (by omega)]]
        refine ok_reti eX12_aDay_318 rfl ?_
        exact ⟨rfl, ρ, hs, hd, by rw [fB, if_neg (by omega)]⟩
  | succ j ih =>
    intro i ρ hd hs hp hj
    refine ok_step (ps := [rf_in (nI 4) 700]) (L' := [some (.ref 94), some (.int (nI A)), none, some (.int (nI S)), some (.int (nI m)), some (.int (nI i)), none]) (st' := [.int (ρ 95 ((nI 4).toNatClampNeg)), .int (nI i)]) (σ' := (γ, ρ)) (pc' := 152) kX12_aDay_144 rfl rfl (rf_a1 (rf_in_n (a := 4) rfl (by omega)) rf_a0) ?_
    try rw [(show (nI 4).toNatClampNeg = 4 from rf_cl_n rfl (by omega))]
    try rw [(show ρ 95 4 = d 4 from (congrFun hd _).trans (ct_o (by omega) (fun k hk => ⟨by omega, by omega⟩)))]
    refine ok_icmp_ge bX12_aDay_152 (fun h152 => absurd h152 (nle_of hI.at4 (by omega) (by omega))) (fun _ => ?_)
    refine ok_step (ps := [rf_in (nI i) 16]) (L' := [some (.ref 94), some (.int (nI A)), none, some (.int (nI S)), some (.int (nI m)), some (.int (nI i)), none]) (st' := [.int (ρ 102 ((nI i).toNatClampNeg))]) (σ' := (γ, ρ)) (pc' := 162) kX12_aDay_155 rfl rfl (rf_a1 (rf_in_n (a := i) rfl (by omega)) rf_a0) ?_
    try rw [(show (nI i).toNatClampNeg = i from rf_cl_n rfl (by omega))]
    try rw [(show ρ 102 i = bI (fnd d S i) from hp _ (by omega))]
    refine ok_if_eq bX12_aDay_162 (fun h162 => ?_) (fun h162 => ?_)
    · refine ok_step (ps := []) (L' := [some (.ref 94), some (.int (nI A)), none, some (.int (nI S)), some (.int (nI m)), some (.int ((nI i) + (nI 1))), none]) (st' := []) (σ' := (γ, ρ)) (pc' := 174) kX12_aDay_171 rfl rfl rf_a0 ?_
      try rw [(show ((nI i) + (nI 1)) = nI (i + 1) from nI_add _ _)]
      refine ok_goto bX12_aDay_174 ?_
      have ef := bI_0.mp h162
      exact ih (i + 1) ρ (by rw [ct_f ef]; exact hd) hs hp (by omega)
    · refine ok_step (ps := []) (L' := [some (.ref 94), some (.int (nI A)), none, some (.int (nI S)), some (.int (nI m)), some (.int (nI i)), none]) (st' := [.int (nI i), .ref 94]) (σ' := (γ, ρ)) (pc' := 168) kX12_aDay_165 rfl rfl rf_a0 ?_
      refine ok_Vx (As := [.int (nI i)]) (b := 94) (st := []) mkX12_isCaught qX12_aDay_168 rfl (rc_94) rfl rfl rfl rfl (Nat.le_of_ble_eq_true rfl) (m_ict (d := d) (c := ct d S i) hd hI (by omega) (fun j j1 j2 => ct_o j1 (fun k hk => ⟨by omega, by omega⟩)) (ct_o (by omega) (fun k hk => ⟨by omega, by omega⟩))) (fun r1 σ1 hq => ?_)
      obtain ⟨rfl, ρ2, rfl, hd2, hb2⟩ := hq
      refine ok_step (ps := []) (L' := [some (.ref 94), some (.int (nI A)), none, some (.int (nI S)), some (.int (nI m)), some (.int ((nI i) + (nI 1))), none]) (st' := []) (σ' := (γ, ρ2)) (pc' := 174) kX12_aDay_171 rfl rfl rf_a0 ?_
      try rw [(show ((nI i) + (nI 1)) = nI (i + 1) from nI_add _ _)]
      refine ok_goto bX12_aDay_174 ?_
      have ef := bI_n0.mp h162
      exact ih (i + 1) ρ2 (by rw [ct_t ef]; exact hd2) ⟨fun k h1 h2 h3 h4 => by rw [hb2 k h2]; exact hs.1 k h1 h2 h3 h4, fun i hi => by rw [hb2 94 (by decide)]; exact hs.2 i hi⟩ (fun k hk => by rw [hb2 102 (by decide)]; exact hp k hk) (by omega)
theorem m_day {a S A m : Nat} (hJ : J α μ) (hd : μ 95 = d) (hA : nA d = A) (hA1 : 1 ≤ A) (ea : zr d = nI a) (ha : a < 2 ^ 24) (hS : S < cn d 5) (h1 : csum d S ≤ a % A) (h2 : a % A < csum d (S + 1)) (hm : (sumN (fm d S) (cn d 4)) = m) : rf_Ok (rf_T Ln xs) MX12_aDay 51 0 [some (.ref 94), none, none, none, none, none, none] [] (γ, μ) (fun r t => r = some (.int (nI m)) ∧ ∃ ρ : Nat → Nat → Int32, sD μ ρ ∧ ρ 95 = ct d S (cn d 4) ∧ t = (γ, fB (cn d 6) (nI S) (nI m) (nI (m * A / cn d (330 + S))) (nI (min (cn d 7 + cn d 9 * m) 1999999999)) (nI (1 + cn d 0)) ρ)) := by
  have hI : Iv d := by rw [← hd]; exact hJ.2
  have hA2 : A ≤ 72 := by rw [← hA]; exact nA_le hI
  have b5 := hI.le5
  have hl : 1 ≤ cn d (330 + S) := by
    have : csum d (S + 1) = csum d S + cn d (330 + S) := rfl
    omega
  have hAll : s_all d = nI A := by rw [all_n hI, hA]
  have hmod : a % A < A := Nat.mod_lt _ (by omega)
  have hI1 := ct_Iv (S := S) hI (g := 0) (by omega)
  have hm9 : m ≤ 15984 := by rw [← hm]; exact fm_le hI hI.le4
  have hJ1 : J (rf_w α 22 2 (zz d)) (rf_w μ 95 10 (zz d)) := hJ.put1 (c := 21) (i := 2) (j := 10) rfl rfl (fun b hb => by cases hb) (by unfold nst; omega)
  have hd1 : rf_w μ 95 10 (zz d) 95 = ct d S 0 := by rw [rf_w_self, hd]; rfl
  refine ok_step (ps := []) (L' := [some (.ref 94), none, none, none, none, none, none]) (st' := [.ref 94]) (σ' := (γ, μ)) (pc' := 1) kX12_aDay_0 rfl rfl rf_a0 ?_
  refine ok_V (As := []) (b := 94) (st := []) mkX12_allLots qX12_aDay_1 rfl (rc_94) rfl rfl rfl rfl (Nat.le_of_ble_eq_true rfl) (m_all_d hI hd) ?_
  rw [hAll]
  refine ok_step (ps := []) (L' := [some (.ref 94), some (.int (nI A)), none, none, none, none, none]) (st' := [.ref 94]) (σ' := (γ, μ)) (pc' := 6) kX12_aDay_4 rfl rfl rf_a0 ?_
  refine ok_V (As := []) (b := 94) (st := []) mkX12_drawn qX12_aDay_6 rfl (rc_94) rfl rfl rfl rfl (Nat.le_of_ble_eq_true rfl) (m_drawn hd) ?_
  rw [ea]
  refine ok_step (ps := [rf_nz (nI A)]) (L' := [some (.ref 94), some (.int (nI A)), some (.int ((nI a) - (nI a) / (nI A) * (nI A))), some (.int (nI 0)), none, none, none]) (st' := []) (σ' := (γ, rf_w μ 95 10 (zz d))) (pc' := 14) kX12_aDay_9 rfl rfl (rf_a1 (nz_of (fun e => by have := nI_inj (b := 0) e (by omega) (by omega); omega)) rf_a0) ?_
  try rw [(show ((nI a) - (nI a) / (nI A) * (nI A)) = nI (a % A) from pk_rem (by omega) (by omega) (by omega))]
  rw [show a % A = a % A - csum d 0 from rfl]
  refine m_sh (c := ct d S 0) hd1 hI1 (by omega) (fun s hs => ct_o (by omega) (fun k hk => ⟨by omega, by omega⟩)) h1 h2 (by omega) ?_ S 0 (by omega)
  refine ok_step (ps := []) (L' := [some (.ref 94), some (.int (nI A)), none, some (.int (nI S)), some (.int (nI 0)), some (.int (nI 0)), none]) (st' := []) (σ' := (γ, rf_w μ 95 10 (zz d))) (pc' := 53) kX12_aDay_47 rfl rfl rf_a0 ?_
  refine m_pd1 (α := rf_w α 22 2 (zz d)) (μ := μ) hI (by omega) (fun ρ hd2 hs hp => ?_) (cn d 4) 0 _ hJ1 hd1 ((sD.rfl μ).w (Or.inl rfl)) (fun k hk => absurd hk (Nat.not_lt_zero k)) (by omega)
  rw [hm]
  refine ok_step (ps := []) (L' := [some (.ref 94), some (.int (nI A)), none, some (.int (nI S)), some (.int (nI m)), some (.int (nI 0)), none]) (st' := []) (σ' := (γ, ρ)) (pc' := 144) kX12_aDay_141 rfl rfl rf_a0 ?_
  exact m_pd2 hI ⟨hA1, hA2⟩ hS hl hm9 (cn d 4) 0 ρ hd2 hs hp (by omega)
end H63
