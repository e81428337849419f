/-- what the model holds of the best so far -/
def Bm (d : Nat → Int32) (n : Nat) (ν : Nat → Nat → Int32) : Option (Nat → Nat) → Prop
  | none => ν 94 15 = (-1)
  | some r => ν 94 15 = nI (sU d n r) ∧ ∀ i, i < cn d 5 → ν 100 i = nI (r i)
def Bc (d : Nat → Int32) : Option (Nat → Nat) → Int64
  | none => lN 0
  | some r => lN (sumN (fC (dq d (cn d 5) r)) (cn (dq d (cn d 5) r) 4))
theorem Bm.sB {d : Nat → Int32} {n : Nat} {ν ρ : Nat → Nat → Int32} {b : Option (Nat → Nat)} (h : Bm d n ν b) (g : sB ν ρ) : Bm d n ρ b := by
  cases b with
  | none => exact (g.2 15 (by omega)).trans h
  | some r => exact ⟨(g.2 15 (by omega)).trans h.1, fun i hi => by rw [g.1 100 (by decide) (by decide)]; exact h.2 i hi⟩
theorem kp_sB {d : Nat → Int32} {m : Nat} {ν ρ : Nat → Nat → Int32} (h : ∀ i, i < m → ν 101 i = d (330 + i)) (g : sB ν ρ) : ∀ i, i < m → ρ 101 i = d (330 + i) := fun i hi => by rw [g.1 101 (by decide) (by decide)]; exact h i hi
theorem lg_le {x y : Int64} : lg_cmp x y ≤ 0 ↔ x ≤ y := by
  rw [← Int32.not_lt, ← Int64.not_lt]
  exact not_congr lgc_gt
theorem Bm.w {d : Nat → Int32} {n j : Nat} {v : Int32} {ν : Nat → Nat → Int32} {b : Option (Nat → Nat)} (h : Bm d n ν b) : Bm d n (rf_w ν 95 j v) b := by
  cases b with
  | none => exact (congrFun (rf_w_row (by decide)) _).trans h
  | some r => exact ⟨(congrFun (rf_w_row (by decide)) _).trans h.1, fun i hi => by rw [rf_w_row (by decide)]; exact h.2 i hi⟩
theorem kp_w {d : Nat → Int32} {m j : Nat} {v : Int32} {ν : Nat → Nat → Int32} (h : ∀ i, i < m → ν 101 i = d (330 + i)) : ∀ i, i < m → rf_w ν 95 j v 101 i = d (330 + i) := fun i hi => by rw [rf_w_row (by decide)]; exact h i hi
theorem dq_s {d : Nat → Int32} {q : Nat → Nat} {i : Nat} {v : Int32} (h : v = nI (q i)) : upd (dq d i q) (330 + i) v = dq d (i + 1) q := by
  funext j
  unfold upd dq
  by_cases e : j = 330 + i
  · rw [if_pos e, if_pos (by omega), h, e, show 330 + i - 330 = i by omega]
  · rw [if_neg e]
    by_cases e2 : 330 ≤ j ∧ j < 330 + i
    · rw [if_pos e2, if_pos (by omega)]
    · rw [if_neg e2, if_neg (by omega)]
/-- the row while the model sets the LOTS back -/
def dr (d f : Nat → Int32) (i : Nat) : Nat → Int32 := fun j => if j < 330 + i then d j else f j
theorem dr_0 {d : Nat → Int32} {q : Nat → Nat} {m : Nat} : dq d m q = dr d (dq d m q) 0 := by
  funext j
  unfold dr
  by_cases e : j < 330 + 0
  · rw [if_pos e, dq_o (by omega)]
  · rw [if_neg e]
theorem dr_s {d f : Nat → Int32} {i : Nat} : upd (dr d f i) (330 + i) (d (330 + i)) = dr d f (i + 1) := by
  funext j
  unfold upd dr
  by_cases e : j = 330 + i
  · rw [if_pos e, if_pos (by omega), e]
  · rw [if_neg e]
    by_cases e2 : j < 330 + i
    · rw [if_pos e2, if_pos (by omega)]
    · rw [if_neg e2, if_neg (by omega)]
section H67
variable {Ln : Nat} {xs : Nat → Int32} {α μ ν γ : Nat → Nat → Int32} {d : Nat → Int32} {n : Nat} {q r : Nat → Nat}
theorem fb_cp {Q : Option Value → rf_Mem → Prop} (hI : Iv d) (k : ∀ ν : Nat → Nat → Int32, sE μ ν → ν 95 = dq d (cn d 5) q → (∀ i, i < cn d 5 → ν 101 i = d (330 + i)) → Bm d n ν (some q) → rf_Ok (rf_T Ln xs) MX12_findBest 52 186 [some (.ref 94), some (.int (nI n)), some (.int (nI (cn d 5))), some (.long (lN (sumN (fC (dq d (cn d 5) q)) (cn (dq d (cn d 5) q) 4)))), none, some (.int (nI 1)), none, none, none, none] [] (γ, ν) Q) : ∀ (j i : Nat) (ν : Nat → Nat → Int32), i + j = cn d 5 → sE μ ν → ν 95 = dq d (cn d 5) q → (∀ i, i < cn d 5 → ν 101 i = d (330 + i)) → ν 94 15 = nI (sU d n q) → (∀ x, x < i → ν 100 x = nI (q x)) → rf_Ok (rf_T Ln xs) MX12_findBest 52 156 [some (.ref 94), some (.int (nI n)), some (.int (nI (cn d 5))), some (.long (lN (sumN (fC (dq d (cn d 5) q)) (cn (dq d (cn d 5) q) 4)))), none, some (.int (nI 1)), none, none, none, some (.int (nI i))] [] (γ, ν) Q := by
  have b5 := hI.le5
  intro j
  induction j with
  | zero =>
    intro i ν hj hE hd hk h1 h2
    refine ok_step (ps := []) (L' := [some (.ref 94), some (.int (nI n)), some (.int (nI (cn d 5))), some (.long (lN (sumN (fC (dq d (cn d 5) q)) (cn (dq d (cn d 5) q) 4)))), none, some (.int (nI 1)), none, none, none, some (.int (nI i))]) (st' := [.int (nI (cn d 5)), .int (nI i)]) (σ' := (γ, ν)) (pc' := 159) kX12_findBest_156 rfl rfl rf_a0 ?_
    refine ok_icmp_ge bX12_findBest_159 (fun _ => ?_) (fun h159 => absurd (le_of rfl (by omega) (by omega)) h159)
    refine ok_kill (x := 9) ?_
    exact k ν hE hd hk ⟨h1, fun x hx => h2 x (by omega)⟩
  | succ j ih =>
    intro i ν hj hE hd hk h1 h2
    refine ok_step (ps := []) (L' := [some (.ref 94), some (.int (nI n)), some (.int (nI (cn d 5))), some (.long (lN (sumN (fC (dq d (cn d 5) q)) (cn (dq d (cn d 5) q) 4)))), none, some (.int (nI 1)), none, none, none, some (.int (nI i))]) (st' := [.int (nI (cn d 5)), .int (nI i)]) (σ' := (γ, ν)) (pc' := 159) kX12_findBest_156 rfl rfl rf_a0 ?_
    refine ok_icmp_ge bX12_findBest_159 (fun h159 => absurd h159 (nle_of rfl (by omega) (by omega))) (fun _ => ?_)
    refine ok_step (ps := [rf_in ((nI 330) + (nI i)) 700, rf_in (nI i) 8]) (L' := [some (.ref 94), some (.int (nI n)), some (.int (nI (cn d 5))), some (.long (lN (sumN (fC (dq d (cn d 5) q)) (cn (dq d (cn d 5) q) 4)))), none, some (.int (nI 1)), none, none, none, some (.int ((nI i) + (nI 1)))]) (st' := []) (σ' := (γ, rf_w ν 100 ((nI i).toNatClampNeg) (ν 95 (((nI 330) + (nI i)).toNatClampNeg)))) (pc' := 183) kX12_findBest_162 rfl rfl (rf_a1 (rf_in_n (a := (330 + i)) (by (try rw [(show ((nI 330) + (nI i)) = nI (330 + i) from rf_eq (rf_nadd (x := nI 330) (y := nI i) rfl rfl) (by omega))]); all_goals exact rfl) (by omega)) (rf_a1 (rf_in_n (a := i) rfl (by omega)) rf_a0)) ?_
    try rw [(show ((nI 330) + (nI i)) = nI (330 + i) from rf_eq (rf_nadd (x := nI 330) (y := nI i) rfl rfl) (by omega))]
    try rw [(show (nI (330 + i)).toNatClampNeg = (330 + i) from rf_cl_n rfl (by omega))]
    try rw [(show ν 95 (330 + i) = nI (q i) from by rw [hd, show (330 + i) = 330 + i by omega]; exact dq_i (by omega))]
    try rw [(show (nI i).toNatClampNeg = i from rf_cl_n rfl (by omega))]
    try rw [(show ((nI i) + (nI 1)) = nI (i + 1) from nI_add _ _)]
    refine ok_goto bX12_findBest_183 ?_
    exact ih (i + 1) _ (by omega) (hE.w (by omega)) ((rf_w_row (by decide)).trans hd) (fun x hx => by rw [rf_w_row (by decide)]; exact hk x hx) ((congrFun (rf_w_row (by decide)) _).trans h1) (fun x hx => by
      rw [rf_w_at]
      by_cases e : x = i
      · rw [if_pos ⟨rfl, e⟩, e]
      · rw [if_neg (by omega)]
        exact h2 x (by omega))
theorem lt_of_n {a b : Nat} (h : a < b) (hb : b < 2147483648) : nI a < nI b := by
  rw [Int32.lt_iff_toInt_lt, nI_toInt (by omega), nI_toInt (by omega)]
  omega
theorem nlt_of_n {a b : Nat} (h : b ≤ a) (ha : a < 2147483648) : ¬ nI a < nI b := by
  rw [Int32.lt_iff_toInt_lt, nI_toInt (by omega), nI_toInt (by omega)]
  omega
theorem fb_A {Q : Option Value → rf_Mem → Prop} (h0 : μ 95 = d) (hJ0 : J α μ) (hn : n ≤ 5) (hn1 : 1 ≤ n) (hq : Gd (cn d 5) n q)   (hE : sE μ ν) (hd : ν 95 = dq d (cn d 5) q) (hk : (∀ i, i < cn d 5 → ν 101 i = d (330 + i))) (hB : Bm d n ν (none)) (k1 : ∀ ν : Nat → Nat → Int32, sE μ ν → ν 95 = dq d (cn d 5) q → (∀ i, i < cn d 5 → ν 101 i = d (330 + i)) → Bm d n ν (some q) → rf_Ok (rf_T Ln xs) MX12_findBest 52 186 [some (.ref 94), some (.int (nI n)), some (.int (nI (cn d 5))), some (.long (lN (sumN (fC (dq d (cn d 5) q)) (cn (dq d (cn d 5) q) 4)))), none, some (.int (nI 1)), none, none, none, none] [] (γ, ν) Q) : rf_Ok (rf_T Ln xs) MX12_findBest 52 68 [some (.ref 94), some (.int (nI n)), some (.int (nI (cn d 5))), some (.long (lN 0)), none, some (.int (nI 1)), none, none, none, none] [] (γ, ν) Q := by
  have hI : Iv d := by rw [← h0]; exact hJ0.2
  have b5 := hI.le5
  have u1 := sU_le (n := n) (q := q) hI
  have iq := dq_Iv hI (fun x => Nat.le_trans (hq.le x) (by omega : n ≤ 9))
  have c1 := Nat.lt_trans (sC_le iq) (by decide : 2 ^ 40 < 2 ^ 63)
  refine ok_step (ps := []) (L' := [some (.ref 94), some (.int (nI n)), some (.int (nI (cn d 5))), some (.long (lN 0)), none, some (.int (nI 1)), none, none, none, none]) (st' := [.int (nI 1)]) (σ' := (γ, ν)) (pc' := 70) kX12_findBest_68 rfl rfl rf_a0 ?_
  refine ok_if_eq bX12_findBest_70 (fun h70 => absurd h70 ((by decide))) (fun _ => ?_)
  refine ok_step (ps := [rf_in (nI 9) 700]) (L' := [some (.ref 94), some (.int (nI n)), some (.int (nI (cn d 5))), some (.long (lN 0)), none, some (.int (nI 1)), none, none, none, none]) (st' := [.int (ν 95 ((nI 9).toNatClampNeg)), .ref 94]) (σ' := (γ, ν)) (pc' := 81) kX12_findBest_73 rfl rfl (rf_a1 (rf_in_n (a := 9) rfl (by omega)) rf_a0) ?_
  try rw [(show (nI 9).toNatClampNeg = 9 from rf_cl_n rfl (by omega))]
  try rw [(show ν 95 9 = d 9 from by rw [hd]; exact dq_o (by omega))]
  have hJ := hJ0.lots h0 hE hd (fun x => Nat.le_trans (hq.le x) (by omega))
  refine ok_Vx (As := [.int (d 9)]) (b := 94) (st := []) mkX12_unpaidBy qX12_findBest_81 rfl (rc_94) rfl rfl rfl rfl (Nat.le_of_ble_eq_true rfl) (m_ubs hJ hd) (fun r1 σ1 hq1 => ?_)
  obtain ⟨rfl, ν, rfl, hJ, hd, hs⟩ := hq1
  have hE := hE.sB hs
  have hk := kp_sB hk hs
  replace hB := Bm.sB hB hs
  have hb := hB
  rw [ub_dq hI hq hn hn1]
  refine ok_step (ps := []) (L' := [some (.ref 94), some (.int (nI n)), some (.int (nI (cn d 5))), some (.long (lN 0)), none, some (.int (nI 1)), some (.int (nI (sU d n q))), none, none, none]) (st' := [.int (ν 94 15)]) (σ' := (γ, ν)) (pc' := 90) kX12_findBest_84 rfl rfl rf_a0 ?_
  try rw [hb]
  refine ok_if_lt bX12_findBest_90 (fun _ => ?_) (fun h90 => absurd (by decide) h90)
  refine ok_step (ps := []) (L' := [some (.ref 94), some (.int (nI n)), some (.int (nI (cn d 5))), some (.long (lN 0)), none, some (.int (nI 1)), some (.int (nI (sU d n q))), none, none, none]) (st' := [.ref 94]) (σ' := (γ, ν)) (pc' := 103) kX12_findBest_102 rfl rfl rf_a0 ?_
  refine ok_Vx (As := []) (b := 94) (st := []) mkX12_coinUp qX12_findBest_103 rfl (rc_94) rfl rfl rfl rfl (Nat.le_of_ble_eq_true rfl) (m_coins hJ hd) (fun r1 σ1 hq1 => ?_)
  obtain ⟨rfl, ν, rfl, hJ, hd, hs⟩ := hq1
  have hE := hE.sB hs
  have hk := kp_sB hk hs
  replace hB := Bm.sB hB hs
  have hb := hB
  refine ok_goto bX12_findBest_106 ?_
  refine ok_step (ps := []) (L' := [some (.ref 94), some (.int (nI n)), some (.int (nI (cn d 5))), some (.long (lN 0)), none, some (.int (nI 1)), some (.int (nI (sU d n q))), some (.long (lN (sumN (fC (dq d (cn d 5) q)) (cn (dq d (cn d 5) q) 4)))), none, none]) (st' := [.int (ν 94 15)]) (σ' := (γ, ν)) (pc' := 116) kX12_findBest_110 rfl rfl rf_a0 ?_
  try rw [hb]
  refine ok_if_lt bX12_findBest_116 (fun _ => ?_) (fun h116 => absurd (by decide) h116)
  refine ok_step (ps := []) (L' := [some (.ref 94), some (.int (nI n)), some (.int (nI (cn d 5))), some (.long (lN (sumN (fC (dq d (cn d 5) q)) (cn (dq d (cn d 5) q) 4)))), none, some (.int (nI 1)), some (.int (nI (sU d n q))), some (.long (lN (sumN (fC (dq d (cn d 5) q)) (cn (dq d (cn d 5) q) 4)))), none, some (.int (nI 0))]) (st' := []) (σ' := (γ, rf_w ν 94 15 (nI (sU d n q)))) (pc' := 156) kX12_findBest_144 rfl rfl rf_a0 ?_
  refine ok_kill (x := 6) ?_
  refine ok_kill (x := 7) ?_
  exact fb_cp hI k1 (cn d 5) 0 _ (by omega) (hE.w (by omega)) ((rf_w_row (by decide)).trans hd) (fun x hx => by rw [rf_w_row (by decide)]; exact hk x hx) (by rw [rf_w_at, if_pos ⟨rfl, rfl⟩]) (fun x hx => absurd hx (by omega))
theorem fb_B {Q : Option Value → rf_Mem → Prop} (h0 : μ 95 = d) (hJ0 : J α μ) (hn : n ≤ 5) (hn1 : 1 ≤ n) (hq : Gd (cn d 5) n q) (hr : Gd (cn d 5) n r) (hu : sU d n r < sU d n q) (hE : sE μ ν) (hd : ν 95 = dq d (cn d 5) q) (hk : (∀ i, i < cn d 5 → ν 101 i = d (330 + i))) (hB : Bm d n ν (some r)) (k2 : ∀ ν : Nat → Nat → Int32, sE μ ν → ν 95 = dq d (cn d 5) q → (∀ i, i < cn d 5 → ν 101 i = d (330 + i)) → Bm d n ν (some r) → rf_Ok (rf_T Ln xs) MX12_findBest 52 186 [some (.ref 94), some (.int (nI n)), some (.int (nI (cn d 5))), some (.long (lN (sumN (fC (dq d (cn d 5) r)) (cn (dq d (cn d 5) r) 4)))), none, some (.int (nI 1)), none, none, none, none] [] (γ, ν) Q) : rf_Ok (rf_T Ln xs) MX12_findBest 52 68 [some (.ref 94), some (.int (nI n)), some (.int (nI (cn d 5))), some (.long (lN (sumN (fC (dq d (cn d 5) r)) (cn (dq d (cn d 5) r) 4)))), none, some (.int (nI 1)), none, none, none, none] [] (γ, ν) Q := by
  have hI : Iv d := by rw [← h0]; exact hJ0.2
  have b5 := hI.le5
  have u1 := sU_le (n := n) (q := q) hI
  have u2 := sU_le (n := n) (q := r) hI
  have iq := dq_Iv hI (fun x => Nat.le_trans (hq.le x) (by omega : n ≤ 9))
  have c1 := Nat.lt_trans (sC_le iq) (by decide : 2 ^ 40 < 2 ^ 63)
  have ir := dq_Iv hI (fun x => Nat.le_trans (hr.le x) (by omega : n ≤ 9))
  have c2 := Nat.lt_trans (sC_le ir) (by decide : 2 ^ 40 < 2 ^ 63)
  refine ok_step (ps := []) (L' := [some (.ref 94), some (.int (nI n)), some (.int (nI (cn d 5))), some (.long (lN (sumN (fC (dq d (cn d 5) r)) (cn (dq d (cn d 5) r) 4)))), none, some (.int (nI 1)), none, none, none, none]) (st' := [.int (nI 1)]) (σ' := (γ, ν)) (pc' := 70) kX12_findBest_68 rfl rfl rf_a0 ?_
  refine ok_if_eq bX12_findBest_70 (fun h70 => absurd h70 ((by decide))) (fun _ => ?_)
  refine ok_step (ps := [rf_in (nI 9) 700]) (L' := [some (.ref 94), some (.int (nI n)), some (.int (nI (cn d 5))), some (.long (lN (sumN (fC (dq d (cn d 5) r)) (cn (dq d (cn d 5) r) 4)))), none, some (.int (nI 1)), none, none, none, none]) (st' := [.int (ν 95 ((nI 9).toNatClampNeg)), .ref 94]) (σ' := (γ, ν)) (pc' := 81) kX12_findBest_73 rfl rfl (rf_a1 (rf_in_n (a := 9) rfl (by omega)) rf_a0) ?_
  try rw [(show (nI 9).toNatClampNeg = 9 from rf_cl_n rfl (by omega))]
  try rw [(show ν 95 9 = d 9 from by rw [hd]; exact dq_o (by omega))]
  have hJ := hJ0.lots h0 hE hd (fun x => Nat.le_trans (hq.le x) (by omega))
  refine ok_Vx (As := [.int (d 9)]) (b := 94) (st := []) mkX12_unpaidBy qX12_findBest_81 rfl (rc_94) rfl rfl rfl rfl (Nat.le_of_ble_eq_true rfl) (m_ubs hJ hd) (fun r1 σ1 hq1 => ?_)
  obtain ⟨rfl, ν, rfl, hJ, hd, hs⟩ := hq1
  have hE := hE.sB hs
  have hk := kp_sB hk hs
  replace hB := Bm.sB hB hs
  have hb := hB.1
  rw [ub_dq hI hq hn hn1]
  refine ok_step (ps := []) (L' := [some (.ref 94), some (.int (nI n)), some (.int (nI (cn d 5))), some (.long (lN (sumN (fC (dq d (cn d 5) r)) (cn (dq d (cn d 5) r) 4)))), none, some (.int (nI 1)), some (.int (nI (sU d n q))), none, none, none]) (st' := [.int (ν 94 15)]) (σ' := (γ, ν)) (pc' := 90) kX12_findBest_84 rfl rfl rf_a0 ?_
  try rw [hb]
  refine ok_if_lt bX12_findBest_90 (fun h90 => absurd h90 (nlt_of_n (b := 0) (by omega) (by omega))) (fun _ => ?_)
  refine ok_step (ps := []) (L' := [some (.ref 94), some (.int (nI n)), some (.int (nI (cn d 5))), some (.long (lN (sumN (fC (dq d (cn d 5) r)) (cn (dq d (cn d 5) r) 4)))), none, some (.int (nI 1)), some (.int (nI (sU d n q))), none, none, none]) (st' := [.int (ν 94 15), .int (nI (sU d n q))]) (σ' := (γ, ν)) (pc' := 99) kX12_findBest_93 rfl rfl rf_a0 ?_
  try rw [hb]
  refine ok_icmp_gt bX12_findBest_99 (fun _ => ?_) (fun h99 => absurd (lt_of_n hu (by omega)) h99)
  refine ok_step (ps := []) (L' := [some (.ref 94), some (.int (nI n)), some (.int (nI (cn d 5))), some (.long (lN (sumN (fC (dq d (cn d 5) r)) (cn (dq d (cn d 5) r) 4)))), none, some (.int (nI 1)), some (.int (nI (sU d n q))), none, none, none]) (st' := [.long (lN 0)]) (σ' := (γ, ν)) (pc' := 110) kX12_findBest_109 rfl rfl rf_a0 ?_
  refine ok_step (ps := []) (L' := [some (.ref 94), some (.int (nI n)), some (.int (nI (cn d 5))), some (.long (lN (sumN (fC (dq d (cn d 5) r)) (cn (dq d (cn d 5) r) 4)))), none, some (.int (nI 1)), some (.int (nI (sU d n q))), some (.long (lN 0)), none, none]) (st' := [.int (ν 94 15)]) (σ' := (γ, ν)) (pc' := 116) kX12_findBest_110 rfl rfl rf_a0 ?_
  try rw [hb]
  refine ok_if_lt bX12_findBest_116 (fun h116 => absurd h116 (nlt_of_n (b := 0) (by omega) (by omega))) (fun _ => ?_)
  refine ok_step (ps := []) (L' := [some (.ref 94), some (.int (nI n)), some (.int (nI (cn d 5))), some (.long (lN (sumN (fC (dq d (cn d 5) r)) (cn (dq d (cn d 5) r) 4)))), none, some (.int (nI 1)), some (.int (nI (sU d n q))), some (.long (lN 0)), none, none]) (st' := [.int (ν 94 15), .int (nI (sU d n q))]) (σ' := (γ, ν)) (pc' := 125) kX12_findBest_119 rfl rfl rf_a0 ?_
  try rw [hb]
  refine ok_icmp_lt bX12_findBest_125 (fun h125 => absurd h125 (nlt_of_n (Nat.le_of_lt hu) (by omega))) (fun _ => ?_)
  refine ok_step (ps := []) (L' := [some (.ref 94), some (.int (nI n)), some (.int (nI (cn d 5))), some (.long (lN (sumN (fC (dq d (cn d 5) r)) (cn (dq d (cn d 5) r) 4)))), none, some (.int (nI 1)), some (.int (nI (sU d n q))), some (.long (lN 0)), none, none]) (st' := [.int (ν 94 15), .int (nI (sU d n q))]) (σ' := (γ, ν)) (pc' := 134) kX12_findBest_128 rfl rfl rf_a0 ?_
  try rw [hb]
  refine ok_icmp_ne bX12_findBest_134 (fun _ => ?_) (fun h134 => absurd h134 (fun e => absurd (nI_inj e (by omega) (by omega)) (by omega)))
  refine ok_kill (x := 6) ?_
  refine ok_kill (x := 7) ?_
  exact k2 ν hE hd hk hB
theorem fb_C {Q : Option Value → rf_Mem → Prop} (h0 : μ 95 = d) (hJ0 : J α μ) (hn : n ≤ 5) (hn1 : 1 ≤ n) (hq : Gd (cn d 5) n q) (hr : Gd (cn d 5) n r) (hu : sU d n q < sU d n r) (hE : sE μ ν) (hd : ν 95 = dq d (cn d 5) q) (hk : (∀ i, i < cn d 5 → ν 101 i = d (330 + i))) (hB : Bm d n ν (some r)) (k1 : ∀ ν : Nat → Nat → Int32, sE μ ν → ν 95 = dq d (cn d 5) q → (∀ i, i < cn d 5 → ν 101 i = d (330 + i)) → Bm d n ν (some q) → rf_Ok (rf_T Ln xs) MX12_findBest 52 186 [some (.ref 94), some (.int (nI n)), some (.int (nI (cn d 5))), some (.long (lN (sumN (fC (dq d (cn d 5) q)) (cn (dq d (cn d 5) q) 4)))), none, some (.int (nI 1)), none, none, none, none] [] (γ, ν) Q) : rf_Ok (rf_T Ln xs) MX12_findBest 52 68 [some (.ref 94), some (.int (nI n)), some (.int (nI (cn d 5))), some (.long (lN (sumN (fC (dq d (cn d 5) r)) (cn (dq d (cn d 5) r) 4)))), none, some (.int (nI 1)), none, none, none, none] [] (γ, ν) Q := by
  have hI : Iv d := by rw [← h0]; exact hJ0.2
  have b5 := hI.le5
  have u1 := sU_le (n := n) (q := q) hI
  have u2 := sU_le (n := n) (q := r) hI
  have iq := dq_Iv hI (fun x => Nat.le_trans (hq.le x) (by omega : n ≤ 9))
  have c1 := Nat.lt_trans (sC_le iq) (by decide : 2 ^ 40 < 2 ^ 63)
  have ir := dq_Iv hI (fun x => Nat.le_trans (hr.le x) (by omega : n ≤ 9))
  have c2 := Nat.lt_trans (sC_le ir) (by decide : 2 ^ 40 < 2 ^ 63)
  refine ok_step (ps := []) (L' := [some (.ref 94), some (.int (nI n)), some (.int (nI (cn d 5))), some (.long (lN (sumN (fC (dq d (cn d 5) r)) (cn (dq d (cn d 5) r) 4)))), none, some (.int (nI 1)), none, none, none, none]) (st' := [.int (nI 1)]) (σ' := (γ, ν)) (pc' := 70) kX12_findBest_68 rfl rfl rf_a0 ?_
  refine ok_if_eq bX12_findBest_70 (fun h70 => absurd h70 ((by decide))) (fun _ => ?_)
  refine ok_step (ps := [rf_in (nI 9) 700]) (L' := [some (.ref 94), some (.int (nI n)), some (.int (nI (cn d 5))), some (.long (lN (sumN (fC (dq d (cn d 5) r)) (cn (dq d (cn d 5) r) 4)))), none, some (.int (nI 1)), none, none, none, none]) (st' := [.int (ν 95 ((nI 9).toNatClampNeg)), .ref 94]) (σ' := (γ, ν)) (pc' := 81) kX12_findBest_73 rfl rfl (rf_a1 (rf_in_n (a := 9) rfl (by omega)) rf_a0) ?_
  try rw [(show (nI 9).toNatClampNeg = 9 from rf_cl_n rfl (by omega))]
  try rw [(show ν 95 9 = d 9 from by rw [hd]; exact dq_o (by omega))]
  have hJ := hJ0.lots h0 hE hd (fun x => Nat.le_trans (hq.le x) (by omega))
  refine ok_Vx (As := [.int (d 9)]) (b := 94) (st := []) mkX12_unpaidBy qX12_findBest_81 rfl (rc_94) rfl rfl rfl rfl (Nat.le_of_ble_eq_true rfl) (m_ubs hJ hd) (fun r1 σ1 hq1 => ?_)
  obtain ⟨rfl, ν, rfl, hJ, hd, hs⟩ := hq1
  have hE := hE.sB hs
  have hk := kp_sB hk hs
  replace hB := Bm.sB hB hs
  have hb := hB.1
  rw [ub_dq hI hq hn hn1]
  refine ok_step (ps := []) (L' := [some (.ref 94), some (.int (nI n)), some (.int (nI (cn d 5))), some (.long (lN (sumN (fC (dq d (cn d 5) r)) (cn (dq d (cn d 5) r) 4)))), none, some (.int (nI 1)), some (.int (nI (sU d n q))), none, none, none]) (st' := [.int (ν 94 15)]) (σ' := (γ, ν)) (pc' := 90) kX12_findBest_84 rfl rfl rf_a0 ?_
  try rw [hb]
  refine ok_if_lt bX12_findBest_90 (fun h90 => absurd h90 (nlt_of_n (b := 0) (by omega) (by omega))) (fun _ => ?_)
  refine ok_step (ps := []) (L' := [some (.ref 94), some (.int (nI n)), some (.int (nI (cn d 5))), some (.long (lN (sumN (fC (dq d (cn d 5) r)) (cn (dq d (cn d 5) r) 4)))), none, some (.int (nI 1)), some (.int (nI (sU d n q))), none, none, none]) (st' := [.int (ν 94 15), .int (nI (sU d n q))]) (σ' := (γ, ν)) (pc' := 99) kX12_findBest_93 rfl rfl rf_a0 ?_
  try rw [hb]
  refine ok_icmp_gt bX12_findBest_99 (fun h99 => absurd h99 (nlt_of_n (Nat.le_of_lt hu) (by omega))) (fun _ => ?_)
  refine ok_step (ps := []) (L' := [some (.ref 94), some (.int (nI n)), some (.int (nI (cn d 5))), some (.long (lN (sumN (fC (dq d (cn d 5) r)) (cn (dq d (cn d 5) r) 4)))), none, some (.int (nI 1)), some (.int (nI (sU d n q))), none, none, none]) (st' := [.ref 94]) (σ' := (γ, ν)) (pc' := 103) kX12_findBest_102 rfl rfl rf_a0 ?_
  refine ok_Vx (As := []) (b := 94) (st := []) mkX12_coinUp qX12_findBest_103 rfl (rc_94) rfl rfl rfl rfl (Nat.le_of_ble_eq_true rfl) (m_coins hJ hd) (fun r1 σ1 hq1 => ?_)
  obtain ⟨rfl, ν, rfl, hJ, hd, hs⟩ := hq1
  have hE := hE.sB hs
  have hk := kp_sB hk hs
  replace hB := Bm.sB hB hs
  have hb := hB.1
  refine ok_goto bX12_findBest_106 ?_
  refine ok_step (ps := []) (L' := [some (.ref 94), some (.int (nI n)), some (.int (nI (cn d 5))), some (.long (lN (sumN (fC (dq d (cn d 5) r)) (cn (dq d (cn d 5) r) 4)))), none, some (.int (nI 1)), some (.int (nI (sU d n q))), some (.long (lN (sumN (fC (dq d (cn d 5) q)) (cn (dq d (cn d 5) q) 4)))), none, none]) (st' := [.int (ν 94 15)]) (σ' := (γ, ν)) (pc' := 116) kX12_findBest_110 rfl rfl rf_a0 ?_
  try rw [hb]
  refine ok_if_lt bX12_findBest_116 (fun h116 => absurd h116 (nlt_of_n (b := 0) (by omega) (by omega))) (fun _ => ?_)
  refine ok_step (ps := []) (L' := [some (.ref 94), some (.int (nI n)), some (.int (nI (cn d 5))), some (.long (lN (sumN (fC (dq d (cn d 5) r)) (cn (dq d (cn d 5) r) 4)))), none, some (.int (nI 1)), some (.int (nI (sU d n q))), some (.long (lN (sumN (fC (dq d (cn d 5) q)) (cn (dq d (cn d 5) q) 4)))), none, none]) (st' := [.int (ν 94 15), .int (nI (sU d n q))]) (σ' := (γ, ν)) (pc' := 125) kX12_findBest_119 rfl rfl rf_a0 ?_
  try rw [hb]
  refine ok_icmp_lt bX12_findBest_125 (fun _ => ?_) (fun h125 => absurd (lt_of_n hu (by omega)) h125)
  refine ok_step (ps := []) (L' := [some (.ref 94), some (.int (nI n)), some (.int (nI (cn d 5))), some (.long (lN (sumN (fC (dq d (cn d 5) q)) (cn (dq d (cn d 5) q) 4)))), none, some (.int (nI 1)), some (.int (nI (sU d n q))), some (.long (lN (sumN (fC (dq d (cn d 5) q)) (cn (dq d (cn d 5) q) 4)))), none, some (.int (nI 0))]) (st' := []) (σ' := (γ, rf_w ν 94 15 (nI (sU d n q)))) (pc' := 156) kX12_findBest_144 rfl rfl rf_a0 ?_
  refine ok_kill (x := 6) ?_
  refine ok_kill (x := 7) ?_
  exact fb_cp hI k1 (cn d 5) 0 _ (by omega) (hE.w (by omega)) ((rf_w_row (by decide)).trans hd) (fun x hx => by rw [rf_w_row (by decide)]; exact hk x hx) (by rw [rf_w_at, if_pos ⟨rfl, rfl⟩]) (fun x hx => absurd hx (by omega))
theorem fb_D {Q : Option Value → rf_Mem → Prop} (h0 : μ 95 = d) (hJ0 : J α μ) (hn : n ≤ 5) (hn1 : 1 ≤ n) (hq : Gd (cn d 5) n q) (hr : Gd (cn d 5) n r) (hu : sU d n q = sU d n r) (hv : sV d n r < sV d n q) (hE : sE μ ν) (hd : ν 95 = dq d (cn d 5) q) (hk : (∀ i, i < cn d 5 → ν 101 i = d (330 + i))) (hB : Bm d n ν (some r)) (k1 : ∀ ν : Nat → Nat → Int32, sE μ ν → ν 95 = dq d (cn d 5) q → (∀ i, i < cn d 5 → ν 101 i = d (330 + i)) → Bm d n ν (some q) → rf_Ok (rf_T Ln xs) MX12_findBest 52 186 [some (.ref 94), some (.int (nI n)), some (.int (nI (cn d 5))), some (.long (lN (sumN (fC (dq d (cn d 5) q)) (cn (dq d (cn d 5) q) 4)))), none, some (.int (nI 1)), none, none, none, none] [] (γ, ν) Q) : rf_Ok (rf_T Ln xs) MX12_findBest 52 68 [some (.ref 94), some (.int (nI n)), some (.int (nI (cn d 5))), some (.long (lN (sumN (fC (dq d (cn d 5) r)) (cn (dq d (cn d 5) r) 4)))), none, some (.int (nI 1)), none, none, none, none] [] (γ, ν) Q := by
  have hI : Iv d := by rw [← h0]; exact hJ0.2
  have b5 := hI.le5
  have u1 := sU_le (n := n) (q := q) hI
  have u2 := sU_le (n := n) (q := r) hI
  have iq := dq_Iv hI (fun x => Nat.le_trans (hq.le x) (by omega : n ≤ 9))
  have c1 := Nat.lt_trans (sC_le iq) (by decide : 2 ^ 40 < 2 ^ 63)
  have ir := dq_Iv hI (fun x => Nat.le_trans (hr.le x) (by omega : n ≤ 9))
  have c2 := Nat.lt_trans (sC_le ir) (by decide : 2 ^ 40 < 2 ^ 63)
  refine ok_step (ps := []) (L' := [some (.ref 94), some (.int (nI n)), some (.int (nI (cn d 5))), some (.long (lN (sumN (fC (dq d (cn d 5) r)) (cn (dq d (cn d 5) r) 4)))), none, some (.int (nI 1)), none, none, none, none]) (st' := [.int (nI 1)]) (σ' := (γ, ν)) (pc' := 70) kX12_findBest_68 rfl rfl rf_a0 ?_
  refine ok_if_eq bX12_findBest_70 (fun h70 => absurd h70 ((by decide))) (fun _ => ?_)
  refine ok_step (ps := [rf_in (nI 9) 700]) (L' := [some (.ref 94), some (.int (nI n)), some (.int (nI (cn d 5))), some (.long (lN (sumN (fC (dq d (cn d 5) r)) (cn (dq d (cn d 5) r) 4)))), none, some (.int (nI 1)), none, none, none, none]) (st' := [.int (ν 95 ((nI 9).toNatClampNeg)), .ref 94]) (σ' := (γ, ν)) (pc' := 81) kX12_findBest_73 rfl rfl (rf_a1 (rf_in_n (a := 9) rfl (by omega)) rf_a0) ?_
  try rw [(show (nI 9).toNatClampNeg = 9 from rf_cl_n rfl (by omega))]
  try rw [(show ν 95 9 = d 9 from by rw [hd]; exact dq_o (by omega))]
  have hJ := hJ0.lots h0 hE hd (fun x => Nat.le_trans (hq.le x) (by omega))
  refine ok_Vx (As := [.int (d 9)]) (b := 94) (st := []) mkX12_unpaidBy qX12_findBest_81 rfl (rc_94) rfl rfl rfl rfl (Nat.le_of_ble_eq_true rfl) (m_ubs hJ hd) (fun r1 σ1 hq1 => ?_)
  obtain ⟨rfl, ν, rfl, hJ, hd, hs⟩ := hq1
  have hE := hE.sB hs
  have hk := kp_sB hk hs
  replace hB := Bm.sB hB hs
  have hb := hB.1
  rw [ub_dq hI hq hn hn1]
  refine ok_step (ps := []) (L' := [some (.ref 94), some (.int (nI n)), some (.int (nI (cn d 5))), some (.long (lN (sumN (fC (dq d (cn d 5) r)) (cn (dq d (cn d 5) r) 4)))), none, some (.int (nI 1)), some (.int (nI (sU d n q))), none, none, none]) (st' := [.int (ν 94 15)]) (σ' := (γ, ν)) (pc' := 90) kX12_findBest_84 rfl rfl rf_a0 ?_
  try rw [hb]
  refine ok_if_lt bX12_findBest_90 (fun h90 => absurd h90 (nlt_of_n (b := 0) (by omega) (by omega))) (fun _ => ?_)
  refine ok_step (ps := []) (L' := [some (.ref 94), some (.int (nI n)), some (.int (nI (cn d 5))), some (.long (lN (sumN (fC (dq d (cn d 5) r)) (cn (dq d (cn d 5) r) 4)))), none, some (.int (nI 1)), some (.int (nI (sU d n q))), none, none, none]) (st' := [.int (ν 94 15), .int (nI (sU d n q))]) (σ' := (γ, ν)) (pc' := 99) kX12_findBest_93 rfl rfl rf_a0 ?_
  try rw [hb]
  refine ok_icmp_gt bX12_findBest_99 (fun h99 => absurd h99 (nlt_of_n (Nat.le_of_eq hu) (by omega))) (fun _ => ?_)
  refine ok_step (ps := []) (L' := [some (.ref 94), some (.int (nI n)), some (.int (nI (cn d 5))), some (.long (lN (sumN (fC (dq d (cn d 5) r)) (cn (dq d (cn d 5) r) 4)))), none, some (.int (nI 1)), some (.int (nI (sU d n q))), none, none, none]) (st' := [.ref 94]) (σ' := (γ, ν)) (pc' := 103) kX12_findBest_102 rfl rfl rf_a0 ?_
  refine ok_Vx (As := []) (b := 94) (st := []) mkX12_coinUp qX12_findBest_103 rfl (rc_94) rfl rfl rfl rfl (Nat.le_of_ble_eq_true rfl) (m_coins hJ hd) (fun r1 σ1 hq1 => ?_)
  obtain ⟨rfl, ν, rfl, hJ, hd, hs⟩ := hq1
  have hE := hE.sB hs
  have hk := kp_sB hk hs
  replace hB := Bm.sB hB hs
  have hb := hB.1
  refine ok_goto bX12_findBest_106 ?_
  refine ok_step (ps := []) (L' := [some (.ref 94), some (.int (nI n)), some (.int (nI (cn d 5))), some (.long (lN (sumN (fC (dq d (cn d 5) r)) (cn (dq d (cn d 5) r) 4)))), none, some (.int (nI 1)), some (.int (nI (sU d n q))), some (.long (lN (sumN (fC (dq d (cn d 5) q)) (cn (dq d (cn d 5) q) 4)))), none, none]) (st' := [.int (ν 94 15)]) (σ' := (γ, ν)) (pc' := 116) kX12_findBest_110 rfl rfl rf_a0 ?_
  try rw [hb]
  refine ok_if_lt bX12_findBest_116 (fun h116 => absurd h116 (nlt_of_n (b := 0) (by omega) (by omega))) (fun _ => ?_)
  refine ok_step (ps := []) (L' := [some (.ref 94), some (.int (nI n)), some (.int (nI (cn d 5))), some (.long (lN (sumN (fC (dq d (cn d 5) r)) (cn (dq d (cn d 5) r) 4)))), none, some (.int (nI 1)), some (.int (nI (sU d n q))), some (.long (lN (sumN (fC (dq d (cn d 5) q)) (cn (dq d (cn d 5) q) 4)))), none, none]) (st' := [.int (ν 94 15), .int (nI (sU d n q))]) (σ' := (γ, ν)) (pc' := 125) kX12_findBest_119 rfl rfl rf_a0 ?_
  try rw [hb]
  refine ok_icmp_lt bX12_findBest_125 (fun h125 => absurd h125 (nlt_of_n (Nat.le_of_eq hu.symm) (by omega))) (fun _ => ?_)
  refine ok_step (ps := []) (L' := [some (.ref 94), some (.int (nI n)), some (.int (nI (cn d 5))), some (.long (lN (sumN (fC (dq d (cn d 5) r)) (cn (dq d (cn d 5) r) 4)))), none, some (.int (nI 1)), some (.int (nI (sU d n q))), some (.long (lN (sumN (fC (dq d (cn d 5) q)) (cn (dq d (cn d 5) q) 4)))), none, none]) (st' := [.int (ν 94 15), .int (nI (sU d n q))]) (σ' := (γ, ν)) (pc' := 134) kX12_findBest_128 rfl rfl rf_a0 ?_
  try rw [hb]
  refine ok_icmp_ne bX12_findBest_134 (fun h134 => absurd (by rw [hu]) h134) (fun _ => ?_)
  refine ok_step (ps := []) (L' := [some (.ref 94), some (.int (nI n)), some (.int (nI (cn d 5))), some (.long (lN (sumN (fC (dq d (cn d 5) r)) (cn (dq d (cn d 5) r) 4)))), none, some (.int (nI 1)), some (.int (nI (sU d n q))), some (.long (lN (sumN (fC (dq d (cn d 5) q)) (cn (dq d (cn d 5) q) 4)))), none, none]) (st' := [.int (lg_cmp (lN (sumN (fC (dq d (cn d 5) q)) (cn (dq d (cn d 5) q) 4))) (lN (sumN (fC (dq d (cn d 5) r)) (cn (dq d (cn d 5) r) 4))))]) (σ' := (γ, ν)) (pc' := 141) kX12_findBest_137 rfl rfl rf_a0 ?_
  refine ok_if_le bX12_findBest_141 (fun h141 => absurd h141 (fun e => absurd ((lg_le).mp e) (Int64.not_le.mpr ((pk_lLT c2 c1).mpr ((coin_lt hI hq hr hn hn1 hu).mpr hv))))) (fun _ => ?_)
  refine ok_step (ps := []) (L' := [some (.ref 94), some (.int (nI n)), some (.int (nI (cn d 5))), some (.long (lN (sumN (fC (dq d (cn d 5) q)) (cn (dq d (cn d 5) q) 4)))), none, some (.int (nI 1)), some (.int (nI (sU d n q))), some (.long (lN (sumN (fC (dq d (cn d 5) q)) (cn (dq d (cn d 5) q) 4)))), none, some (.int (nI 0))]) (st' := []) (σ' := (γ, rf_w ν 94 15 (nI (sU d n q)))) (pc' := 156) kX12_findBest_144 rfl rfl rf_a0 ?_
  refine ok_kill (x := 6) ?_
  refine ok_kill (x := 7) ?_
  exact fb_cp hI k1 (cn d 5) 0 _ (by omega) (hE.w (by omega)) ((rf_w_row (by decide)).trans hd) (fun x hx => by rw [rf_w_row (by decide)]; exact hk x hx) (by rw [rf_w_at, if_pos ⟨rfl, rfl⟩]) (fun x hx => absurd hx (by omega))
theorem fb_E {Q : Option Value → rf_Mem → Prop} (h0 : μ 95 = d) (hJ0 : J α μ) (hn : n ≤ 5) (hn1 : 1 ≤ n) (hq : Gd (cn d 5) n q) (hr : Gd (cn d 5) n r) (hu : sU d n q = sU d n r) (hv : ¬ sV d n r < sV d n q) (hE : sE μ ν) (hd : ν 95 = dq d (cn d 5) q) (hk : (∀ i, i < cn d 5 → ν 101 i = d (330 + i))) (hB : Bm d n ν (some r)) (k2 : ∀ ν : Nat → Nat → Int32, sE μ ν → ν 95 = dq d (cn d 5) q → (∀ i, i < cn d 5 → ν 101 i = d (330 + i)) → Bm d n ν (some r) → rf_Ok (rf_T Ln xs) MX12_findBest 52 186 [some (.ref 94), some (.int (nI n)), some (.int (nI (cn d 5))), some (.long (lN (sumN (fC (dq d (cn d 5) r)) (cn (dq d (cn d 5) r) 4)))), none, some (.int (nI 1)), none, none, none, none] [] (γ, ν) Q) : rf_Ok (rf_T Ln xs) MX12_findBest 52 68 [some (.ref 94), some (.int (nI n)), some (.int (nI (cn d 5))), some (.long (lN (sumN (fC (dq d (cn d 5) r)) (cn (dq d (cn d 5) r) 4)))), none, some (.int (nI 1)), none, none, none, none] [] (γ, ν) Q := by
  have hI : Iv d := by rw [← h0]; exact hJ0.2
  have b5 := hI.le5
  have u1 := sU_le (n := n) (q := q) hI
  have u2 := sU_le (n := n) (q := r) hI
  have iq := dq_Iv hI (fun x => Nat.le_trans (hq.le x) (by omega : n ≤ 9))
  have c1 := Nat.lt_trans (sC_le iq) (by decide : 2 ^ 40 < 2 ^ 63)
  have ir := dq_Iv hI (fun x => Nat.le_trans (hr.le x) (by omega : n ≤ 9))
  have c2 := Nat.lt_trans (sC_le ir) (by decide : 2 ^ 40 < 2 ^ 63)
  refine ok_step (ps := []) (L' := [some (.ref 94), some (.int (nI n)), some (.int (nI (cn d 5))), some (.long (lN (sumN (fC (dq d (cn d 5) r)) (cn (dq d (cn d 5) r) 4)))), none, some (.int (nI 1)), none, none, none, none]) (st' := [.int (nI 1)]) (σ' := (γ, ν)) (pc' := 70) kX12_findBest_68 rfl rfl rf_a0 ?_
  refine ok_if_eq bX12_findBest_70 (fun h70 => absurd h70 ((by decide))) (fun _ => ?_)
  refine ok_step (ps := [rf_in (nI 9) 700]) (L' := [some (.ref 94), some (.int (nI n)), some (.int (nI (cn d 5))), some (.long (lN (sumN (fC (dq d (cn d 5) r)) (cn (dq d (cn d 5) r) 4)))), none, some (.int (nI 1)), none, none, none, none]) (st' := [.int (ν 95 ((nI 9).toNatClampNeg)), .ref 94]) (σ' := (γ, ν)) (pc' := 81) kX12_findBest_73 rfl rfl (rf_a1 (rf_in_n (a := 9) rfl (by omega)) rf_a0) ?_
  try rw [(show (nI 9).toNatClampNeg = 9 from rf_cl_n rfl (by omega))]
  try rw [(show ν 95 9 = d 9 from by rw [hd]; exact dq_o (by omega))]
  have hJ := hJ0.lots h0 hE hd (fun x => Nat.le_trans (hq.le x) (by omega))
  refine ok_Vx (As := [.int (d 9)]) (b := 94) (st := []) mkX12_unpaidBy qX12_findBest_81 rfl (rc_94) rfl rfl rfl rfl (Nat.le_of_ble_eq_true rfl) (m_ubs hJ hd) (fun r1 σ1 hq1 => ?_)
  obtain ⟨rfl, ν, rfl, hJ, hd, hs⟩ := hq1
  have hE := hE.sB hs
  have hk := kp_sB hk hs
  replace hB := Bm.sB hB hs
  have hb := hB.1
  rw [ub_dq hI hq hn hn1]
  refine ok_step (ps := []) (L' := [some (.ref 94), some (.int (nI n)), some (.int (nI (cn d 5))), some (.long (lN (sumN (fC (dq d (cn d 5) r)) (cn (dq d (cn d 5) r) 4)))), none, some (.int (nI 1)), some (.int (nI (sU d n q))), none, none, none]) (st' := [.int (ν 94 15)]) (σ' := (γ, ν)) (pc' := 90) kX12_findBest_84 rfl rfl rf_a0 ?_
  try rw [hb]
  refine ok_if_lt bX12_findBest_90 (fun h90 => absurd h90 (nlt_of_n (b := 0) (by omega) (by omega))) (fun _ => ?_)
  refine ok_step (ps := []) (L' := [some (.ref 94), some (.int (nI n)), some (.int (nI (cn d 5))), some (.long (lN (sumN (fC (dq d (cn d 5) r)) (cn (dq d (cn d 5) r) 4)))), none, some (.int (nI 1)), some (.int (nI (sU d n q))), none, none, none]) (st' := [.int (ν 94 15), .int (nI (sU d n q))]) (σ' := (γ, ν)) (pc' := 99) kX12_findBest_93 rfl rfl rf_a0 ?_
  try rw [hb]
  refine ok_icmp_gt bX12_findBest_99 (fun h99 => absurd h99 (nlt_of_n (Nat.le_of_eq hu) (by omega))) (fun _ => ?_)
  refine ok_step (ps := []) (L' := [some (.ref 94), some (.int (nI n)), some (.int (nI (cn d 5))), some (.long (lN (sumN (fC (dq d (cn d 5) r)) (cn (dq d (cn d 5) r) 4)))), none, some (.int (nI 1)), some (.int (nI (sU d n q))), none, none, none]) (st' := [.ref 94]) (σ' := (γ, ν)) (pc' := 103) kX12_findBest_102 rfl rfl rf_a0 ?_
  refine ok_Vx (As := []) (b := 94) (st := []) mkX12_coinUp qX12_findBest_103 rfl (rc_94) rfl rfl rfl rfl (Nat.le_of_ble_eq_true rfl) (m_coins hJ hd) (fun r1 σ1 hq1 => ?_)
  obtain ⟨rfl, ν, rfl, hJ, hd, hs⟩ := hq1
  have hE := hE.sB hs
  have hk := kp_sB hk hs
  replace hB := Bm.sB hB hs
  have hb := hB.1
  refine ok_goto bX12_findBest_106 ?_
  refine ok_step (ps := []) (L' := [some (.ref 94), some (.int (nI n)), some (.int (nI (cn d 5))), some (.long (lN (sumN (fC (dq d (cn d 5) r)) (cn (dq d (cn d 5) r) 4)))), none, some (.int (nI 1)), some (.int (nI (sU d n q))), some (.long (lN (sumN (fC (dq d (cn d 5) q)) (cn (dq d (cn d 5) q) 4)))), none, none]) (st' := [.int (ν 94 15)]) (σ' := (γ, ν)) (pc' := 116) kX12_findBest_110 rfl rfl rf_a0 ?_
  try rw [hb]
  refine ok_if_lt bX12_findBest_116 (fun h116 => absurd h116 (nlt_of_n (b := 0) (by omega) (by omega))) (fun _ => ?_)
  refine ok_step (ps := []) (L' := [some (.ref 94), some (.int (nI n)), some (.int (nI (cn d 5))), some (.long (lN (sumN (fC (dq d (cn d 5) r)) (cn (dq d (cn d 5) r) 4)))), none, some (.int (nI 1)), some (.int (nI (sU d n q))), some (.long (lN (sumN (fC (dq d (cn d 5) q)) (cn (dq d (cn d 5) q) 4)))), none, none]) (st' := [.int (ν 94 15), .int (nI (sU d n q))]) (σ' := (γ, ν)) (pc' := 125) kX12_findBest_119 rfl rfl rf_a0 ?_
  try rw [hb]
  refine ok_icmp_lt bX12_findBest_125 (fun h125 => absurd h125 (nlt_of_n (Nat.le_of_eq hu.symm) (by omega))) (fun _ => ?_)
  refine ok_step (ps := []) (L' := [some (.ref 94), some (.int (nI n)), some (.int (nI (cn d 5))), some (.long (lN (sumN (fC (dq d (cn d 5) r)) (cn (dq d (cn d 5) r) 4)))), none, some (.int (nI 1)), some (.int (nI (sU d n q))), some (.long (lN (sumN (fC (dq d (cn d 5) q)) (cn (dq d (cn d 5) q) 4)))), none, none]) (st' := [.int (ν 94 15), .int (nI (sU d n q))]) (σ' := (γ, ν)) (pc' := 134) kX12_findBest_128 rfl rfl rf_a0 ?_
  try rw [hb]
  refine ok_icmp_ne bX12_findBest_134 (fun h134 => absurd (by rw [hu]) h134) (fun _ => ?_)
  refine ok_step (ps := []) (L' := [some (.ref 94), some (.int (nI n)), some (.int (nI (cn d 5))), some (.long (lN (sumN (fC (dq d (cn d 5) r)) (cn (dq d (cn d 5) r) 4)))), none, some (.int (nI 1)), some (.int (nI (sU d n q))), some (.long (lN (sumN (fC (dq d (cn d 5) q)) (cn (dq d (cn d 5) q) 4)))), none, none]) (st' := [.int (lg_cmp (lN (sumN (fC (dq d (cn d 5) q)) (cn (dq d (cn d 5) q) 4))) (lN (sumN (fC (dq d (cn d 5) r)) (cn (dq d (cn d 5) r) 4))))]) (σ' := (γ, ν)) (pc' := 141) kX12_findBest_137 rfl rfl rf_a0 ?_
  refine ok_if_le bX12_findBest_141 (fun _ => ?_) (fun h141 => absurd ((lg_le).mpr (Int64.not_lt.mp (fun e => hv ((coin_lt hI hq hr hn hn1 hu).mp ((pk_lLT c2 c1).mp e))))) h141)
  refine ok_kill (x := 6) ?_
  refine ok_kill (x := 7) ?_
  exact k2 ν hE hd hk hB
theorem fb_t0 {Q : Option Value → rf_Mem → Prop} {c : Int64} (hI : Iv d) (h1 : 1 ≤ cn d 5) (hd : ν 95 = dq d (cn d 5) q) (hz : ∀ x, 0 < x → x < cn d 5 → q x = 0) (k : rf_Ok (rf_T Ln xs) MX12_findBest 52 196 [some (.ref 94), some (.int (nI n)), some (.int (nI (cn d 5))), some (.long c), none, some (.int (nI 0)), none, none, none, none] [] (γ, ν) Q) : rf_Ok (rf_T Ln xs) MX12_findBest 52 186 [some (.ref 94), some (.int (nI n)), some (.int (nI (cn d 5))), some (.long c), none, some (.int (nI 1)), none, none, none, none] [] (γ, ν) Q := by
  have b5 := hI.le5
  refine ok_step (ps := []) (L' := [some (.ref 94), some (.int (nI n)), some (.int (nI (cn d 5))), some (.long c), none, some (.int (nI 1)), none, none, none, none]) (st' := [.int (nI (cn d 5)), .ref 94]) (σ' := (γ, ν)) (pc' := 188) kX12_findBest_186 rfl rfl rf_a0 ?_
  refine ok_V (As := [.int (nI (cn d 5))]) (b := 94) (st := []) mkX12_isNext qX12_findBest_188 rfl (rc_94) rfl rfl rfl rfl (Nat.le_of_ble_eq_true rfl) (m_nx0 hd b5 h1 hz) ?_
  refine ok_step (ps := []) (L' := [some (.ref 94), some (.int (nI n)), some (.int (nI (cn d 5))), some (.long c), none, some (.int (nI 0)), none, none, none, none]) (st' := []) (σ' := (γ, ν)) (pc' := 193) kX12_findBest_191 rfl rfl rf_a0 ?_
  refine ok_goto bX12_findBest_193 ?_
  refine ok_step (ps := []) (L' := [some (.ref 94), some (.int (nI n)), some (.int (nI (cn d 5))), some (.long c), none, some (.int (nI 0)), none, none, none, none]) (st' := [.int (nI 0)]) (σ' := (γ, ν)) (pc' := 70) kX12_findBest_68 rfl rfl rf_a0 ?_
  refine ok_if_eq bX12_findBest_70 (fun _ => ?_) (fun h70 => absurd ((by decide)) h70)
  exact k
theorem fb_t1 {Q : Option Value → rf_Mem → Prop} {q2 : Nat → Nat} {b : Option (Nat → Nat)} {c : Int64} (hI : Iv d) (h9 : ∀ x, q x ≤ 9) (hE : sE μ ν) (hd : ν 95 = dq d (cn d 5) q) (hk : (∀ i, i < cn d 5 → ν 101 i = d (330 + i))) (hB : Bm d n ν b) (hx : Nx (cn d 5) q q2) (k : ∀ ν : Nat → Nat → Int32, sE μ ν → ν 95 = dq d (cn d 5) q2 → (∀ i, i < cn d 5 → ν 101 i = d (330 + i)) → Bm d n ν b → rf_Ok (rf_T Ln xs) MX12_findBest 52 68 [some (.ref 94), some (.int (nI n)), some (.int (nI (cn d 5))), some (.long c), none, some (.int (nI 1)), none, none, none, none] [] (γ, ν) Q) : rf_Ok (rf_T Ln xs) MX12_findBest 52 186 [some (.ref 94), some (.int (nI n)), some (.int (nI (cn d 5))), some (.long c), none, some (.int (nI 1)), none, none, none, none] [] (γ, ν) Q := by
  have b5 := hI.le5
  obtain ⟨p0, g1, g2, g3, g4, rfl⟩ := hx
  obtain ⟨p, rfl⟩ : ∃ p, p0 = 1 + p := ⟨p0 - 1, by omega⟩
  rw [show 1 + p - 1 = p by omega] at k
  refine ok_step (ps := []) (L' := [some (.ref 94), some (.int (nI n)), some (.int (nI (cn d 5))), some (.long c), none, some (.int (nI 1)), none, none, none, none]) (st' := [.int (nI (cn d 5)), .ref 94]) (σ' := (γ, ν)) (pc' := 188) kX12_findBest_186 rfl rfl rf_a0 ?_
  refine ok_V (As := [.int (nI (cn d 5))]) (b := 94) (st := []) mkX12_isNext qX12_findBest_188 rfl (rc_94) rfl rfl rfl rfl (Nat.le_of_ble_eq_true rfl) (m_nx1 hI hd g2 g4 g3 h9) ?_
  refine ok_step (ps := []) (L' := [some (.ref 94), some (.int (nI n)), some (.int (nI (cn d 5))), some (.long c), none, some (.int (nI 1)), none, none, none, none]) (st' := []) (σ' := (γ, rf_w (rf_w (rf_w ν 95 (331 + p) (nI 0)) 95 (330 + p) (nI (1 + q p))) 95 (329 + cn d 5) (nI (q (1 + p) - 1)))) (pc' := 193) kX12_findBest_191 rfl rfl rf_a0 ?_
  refine ok_goto bX12_findBest_193 ?_
  exact k _ (((hE.w (by omega)).w (by omega)).w (by omega)) (by rw [rf_w_self, rf_w_self, rf_w_self, hd]; exact nx_dq g2) (kp_w (kp_w (kp_w hk))) hB.w.w.w
theorem fb_l {Q : Option Value → rf_Mem → Prop} {s : Nat → Nat} (h0 : μ 95 = d) (hJ0 : J α μ) (hn : n ≤ 5) (hn1 : 1 ≤ n) (h1 : 1 ≤ cn d 5) (hz : ∀ x, 0 < x → x < cn d 5 → s x = 0) : ∀ (l : List (Nat → Nat)) (q : Nat → Nat) (b : Option (Nat → Nat)) (ν : Nat → Nat → Int32), Sg (cn d 5) q l s → (∀ x, x ∈ q :: l → Gd (cn d 5) n x) → (∀ r, b = some r → Gd (cn d 5) n r) → sE μ ν → ν 95 = dq d (cn d 5) q → (∀ i, i < cn d 5 → ν 101 i = d (330 + i)) → Bm d n ν b → (∀ (ν : Nat → Nat → Int32) (r : Nat → Nat), sE μ ν → ν 95 = dq d (cn d 5) s → (∀ i, i < cn d 5 → ν 101 i = d (330 + i)) → Bm d n ν (some r) → Gd (cn d 5) n r → (q :: l).foldl (bstep (sU d n) (sV d n)) b = some r → rf_Ok (rf_T Ln xs) MX12_findBest 52 196 [some (.ref 94), some (.int (nI n)), some (.int (nI (cn d 5))), some (.long (Bc d (some r))), none, some (.int (nI 0)), none, none, none, none] [] (γ, ν) Q) → rf_Ok (rf_T Ln xs) MX12_findBest 52 68 [some (.ref 94), some (.int (nI n)), some (.int (nI (cn d 5))), some (.long (Bc d b)), none, some (.int (nI 1)), none, none, none, none] [] (γ, ν) Q := by
  have hI : Iv d := by rw [← h0]; exact hJ0.2
  intro l
  induction l with
  | nil =>
    intro q b ν hg hG hb hE hd hk hB k
    obtain rfl : q = s := hg
    have hq := hG q (List.mem_cons_self ..)
    cases b with
    | none => exact fb_A h0 hJ0 hn hn1 hq hE hd hk hB (fun ν hE hd hk hB => fb_t0 hI h1 hd hz (k ν q hE hd hk hB hq rfl))
    | some r =>
      have hr := hb r rfl
      by_cases e : bet (sU d n) (sV d n) r q = true
      · have k1 : ∀ ν : Nat → Nat → Int32, sE μ ν → ν 95 = dq d (cn d 5) q → (∀ i, i < cn d 5 → ν 101 i = d (330 + i)) → Bm d n ν (some q) → rf_Ok (rf_T Ln xs) MX12_findBest 52 186 [some (.ref 94), some (.int (nI n)), some (.int (nI (cn d 5))), some (.long (lN (sumN (fC (dq d (cn d 5) q)) (cn (dq d (cn d 5) q) 4)))), none, some (.int (nI 1)), none, none, none, none] [] (γ, ν) Q := fun ν hE hd hk hB => fb_t0 hI h1 hd hz (k ν q hE hd hk hB hq (if_pos e))
        rcases of_decide_eq_true e with e | ⟨e1, e2⟩
        · exact fb_C h0 hJ0 hn hn1 hq hr e hE hd hk hB k1
        · exact fb_D h0 hJ0 hn hn1 hq hr e1 e2 hE hd hk hB k1
      · have k2 : ∀ ν : Nat → Nat → Int32, sE μ ν → ν 95 = dq d (cn d 5) q → (∀ i, i < cn d 5 → ν 101 i = d (330 + i)) → Bm d n ν (some r) → rf_Ok (rf_T Ln xs) MX12_findBest 52 186 [some (.ref 94), some (.int (nI n)), some (.int (nI (cn d 5))), some (.long (lN (sumN (fC (dq d (cn d 5) r)) (cn (dq d (cn d 5) r) 4)))), none, some (.int (nI 1)), none, none, none, none] [] (γ, ν) Q := fun ν hE hd hk hB => fb_t0 hI h1 hd hz (k ν r hE hd hk hB hr (if_neg e))
        have e3 : ¬ (sU d n q < sU d n r ∨ (sU d n q = sU d n r ∧ sV d n r < sV d n q)) := fun h => e (decide_eq_true h)
        by_cases e4 : sU d n r < sU d n q
        · exact fb_B h0 hJ0 hn hn1 hq hr e4 hE hd hk hB k2
        · exact fb_E h0 hJ0 hn hn1 hq hr (by omega) (fun h => e3 (Or.inr ⟨by omega, h⟩)) hE hd hk hB k2
  | cons q2 l ih =>
    intro q b ν hg hG hb hE hd hk hB k
    obtain ⟨hx, hg⟩ := hg
    have hq := hG q (List.mem_cons_self ..)
    have h9 : ∀ x, q x ≤ 9 := fun x => Nat.le_trans (hq.le x) (by omega)
    have hG2 : ∀ x, x ∈ q2 :: l → Gd (cn d 5) n x := fun x hx => hG x (List.mem_cons_of_mem _ hx)
    cases b with
    | none => exact fb_A h0 hJ0 hn hn1 hq hE hd hk hB (fun ν hE hd hk hB => fb_t1 hI h9 hE hd hk hB hx (fun ν hE hd hk hB => ih q2 (some q) ν hg hG2 (fun r hr => by cases hr; exact hq) hE hd hk hB k))
    | some r =>
      have hr := hb r rfl
      rw [List.foldl_cons] at k
      by_cases e : bet (sU d n) (sV d n) r q = true
      · rw [show bstep (sU d n) (sV d n) (some r) q = some q from if_pos e] at k
        have k1 : ∀ ν : Nat → Nat → Int32, sE μ ν → ν 95 = dq d (cn d 5) q → (∀ i, i < cn d 5 → ν 101 i = d (330 + i)) → Bm d n ν (some q) → rf_Ok (rf_T Ln xs) MX12_findBest 52 186 [some (.ref 94), some (.int (nI n)), some (.int (nI (cn d 5))), some (.long (lN (sumN (fC (dq d (cn d 5) q)) (cn (dq d (cn d 5) q) 4)))), none, some (.int (nI 1)), none, none, none, none] [] (γ, ν) Q := fun ν hE hd hk hB => fb_t1 hI h9 hE hd hk hB hx (fun ν hE hd hk hB => ih q2 (some q) ν hg hG2 (fun r hr => by cases hr; exact hq) hE hd hk hB k)
        rcases of_decide_eq_true e with e | ⟨e1, e2⟩
        · exact fb_C h0 hJ0 hn hn1 hq hr e hE hd hk hB k1
        · exact fb_D h0 hJ0 hn hn1 hq hr e1 e2 hE hd hk hB k1
      · rw [show bstep (sU d n) (sV d n) (some r) q = some r from if_neg e] at k
        have k2 : ∀ ν : Nat → Nat → Int32, sE μ ν → ν 95 = dq d (cn d 5) q → (∀ i, i < cn d 5 → ν 101 i = d (330 + i)) → Bm d n ν (some r) → rf_Ok (rf_T Ln xs) MX12_findBest 52 186 [some (.ref 94), some (.int (nI n)), some (.int (nI (cn d 5))), some (.long (lN (sumN (fC (dq d (cn d 5) r)) (cn (dq d (cn d 5) r) 4)))), none, some (.int (nI 1)), none, none, none, none] [] (γ, ν) Q := fun ν hE hd hk hB => fb_t1 hI h9 hE hd hk hB hx (fun ν hE hd hk hB => ih q2 (some r) ν hg hG2 (fun r2 hr2 => by cases hr2; exact hr) hE hd hk hB k)
        have e3 : ¬ (sU d n q < sU d n r ∨ (sU d n q = sU d n r ∧ sV d n r < sV d n q)) := fun h => e (decide_eq_true h)
        by_cases e4 : sU d n r < sU d n q
        · exact fb_B h0 hJ0 hn hn1 hq hr e4 hE hd hk hB k2
        · exact fb_E h0 hJ0 hn hn1 hq hr (by omega) (fun h => e3 (Or.inr ⟨by omega, h⟩)) hE hd hk hB k2
theorem fb_r {b : Option (Nat → Nat)} {c : Int64} (hI : Iv d) : ∀ (j i : Nat) (ν : Nat → Nat → Int32), i + j = cn d 5 → sE μ ν → ν 95 = dr d (dq d (cn d 5) q) i → (∀ i, i < cn d 5 → ν 101 i = d (330 + i)) → Bm d n ν b → rf_Ok (rf_T Ln xs) MX12_findBest 52 199 [some (.ref 94), some (.int (nI n)), some (.int (nI (cn d 5))), some (.long c), none, some (.int (nI 0)), some (.int (nI i)), none, none, none] [] (γ, ν) (fun r s => r = none ∧ ∃ ν' : Nat → Nat → Int32, s = (γ, ν') ∧ sE μ ν' ∧ ν' 95 = d ∧ Bm d n ν' b) := by
  have b5 := hI.le5
  intro j
  induction j with
  | zero =>
    intro i ν hj hE hd hk hB
    refine ok_step (ps := []) (L' := [some (.ref 94), some (.int (nI n)), some (.int (nI (cn d 5))), some (.long c), none, some (.int (nI 0)), some (.int (nI i)), none, none, none]) (st' := [.int (nI (cn d 5)), .int (nI i)]) (σ' := (γ, ν)) (pc' := 202) kX12_findBest_199 rfl rfl rf_a0 ?_
    refine ok_icmp_ge bX12_findBest_202 (fun _ => ?_) (fun h202 => absurd (le_of rfl (by omega) (by omega)) h202)
    refine ok_retv eX12_findBest_229 rfl ?_
    refine ⟨rfl, _, rfl, hE, ?_, hB⟩
    rw [hd]
    funext x
    unfold dr
    by_cases e : x < 330 + i
    · rw [if_pos e]
    · rw [if_neg e, dq_o (by omega)]
  | succ j ih =>
    intro i ν hj hE hd hk hB
    refine ok_step (ps := []) (L' := [some (.ref 94), some (.int (nI n)), some (.int (nI (cn d 5))), some (.long c), none, some (.int (nI 0)), some (.int (nI i)), none, none, none]) (st' := [.int (nI (cn d 5)), .int (nI i)]) (σ' := (γ, ν)) (pc' := 202) kX12_findBest_199 rfl rfl rf_a0 ?_
    refine ok_icmp_ge bX12_findBest_202 (fun h202 => absurd h202 (nle_of rfl (by omega) (by omega))) (fun _ => ?_)
    refine ok_step (ps := [rf_in (nI i) 8, rf_in ((nI 330) + (nI i)) 700]) (L' := [some (.ref 94), some (.int (nI n)), some (.int (nI (cn d 5))), some (.long c), none, some (.int (nI 0)), some (.int ((nI i) + (nI 1))), none, none, none]) (st' := []) (σ' := (γ, rf_w ν 95 (((nI 330) + (nI i)).toNatClampNeg) (ν 101 ((nI i).toNatClampNeg)))) (pc' := 226) kX12_findBest_205 rfl rfl (rf_a1 (rf_in_n (a := i) rfl (by omega)) (rf_a1 (rf_in_n (a := (330 + i)) (by (try rw [(show ((nI 330) + (nI i)) = nI (330 + i) from rf_eq (rf_nadd (x := nI 330) (y := nI i) rfl rfl) (by omega))]); (try rw [(show (nI i).toNatClampNeg = i from rf_cl_n rfl (by omega))]); (try rw [(hk i (by omega))]); all_goals exact rfl) (by omega)) rf_a0)) ?_
    try rw [(show ((nI 330) + (nI i)) = nI (330 + i) from rf_eq (rf_nadd (x := nI 330) (y := nI i) rfl rfl) (by omega))]
    try rw [(show (nI i).toNatClampNeg = i from rf_cl_n rfl (by omega))]
    try rw [(hk i (by omega))]
    try rw [(show (nI (330 + i)).toNatClampNeg = (330 + i) from rf_cl_n rfl (by omega))]
    try rw [(show ((nI i) + (nI 1)) = nI (i + 1) from nI_add _ _)]
    refine ok_goto bX12_findBest_226 ?_
    exact ih (i + 1) _ (by omega) (hE.w (by omega)) (by rw [rf_w_self, hd]; exact dr_s) (kp_w hk) hB.w
theorem fb_i {Q : Option Value → rf_Mem → Prop} (hI : Iv d) (hn : n ≤ 5) (k : ∀ ν : Nat → Nat → Int32, sE μ ν → ν 95 = dq d (cn d 5) (frR (cn d 5) 0 n (fun _ => 0)) → (∀ i, i < cn d 5 → ν 101 i = d (330 + i)) → rf_Ok (rf_T Ln xs) MX12_findBest 52 58 [some (.ref 94), some (.int (nI n)), some (.int (nI (cn d 5))), none, none, none, none, none, none, none] [] (γ, ν) Q) : ∀ (j i : Nat) (ν : Nat → Nat → Int32), i + j = cn d 5 → sE μ ν → ν 95 = dq d i (frR (cn d 5) 0 n (fun _ => 0)) → (∀ x, x < i → ν 101 x = d (330 + x)) → rf_Ok (rf_T Ln xs) MX12_findBest 52 9 [some (.ref 94), some (.int (nI n)), some (.int (nI (cn d 5))), some (.int (nI i)), none, none, none, none, none, none] [] (γ, ν) Q := by
  have b5 := hI.le5
  intro j
  induction j with
  | zero =>
    intro i ν hj hE hd hk
    obtain rfl : i = cn d 5 := by omega
    refine ok_step (ps := []) (L' := [some (.ref 94), some (.int (nI n)), some (.int (nI (cn d 5))), some (.int (nI (cn d 5))), none, none, none, none, none, none]) (st' := [.int (nI (cn d 5)), .int (nI (cn d 5))]) (σ' := (γ, ν)) (pc' := 11) kX12_findBest_9 rfl rfl rf_a0 ?_
    refine ok_icmp_ge bX12_findBest_11 (fun _ => ?_) (fun h11 => absurd (le_of rfl (by omega) (by omega)) h11)
    refine ok_kill (x := 3) ?_
    exact k ν hE hd hk
  | succ j ih =>
    intro i ν hj hE hd hk
    refine ok_step (ps := []) (L' := [some (.ref 94), some (.int (nI n)), some (.int (nI (cn d 5))), some (.int (nI i)), none, none, none, none, none, none]) (st' := [.int (nI (cn d 5)), .int (nI i)]) (σ' := (γ, ν)) (pc' := 11) kX12_findBest_9 rfl rfl rf_a0 ?_
    refine ok_icmp_ge bX12_findBest_11 (fun h11 => absurd h11 (nle_of rfl (by omega) (by omega))) (fun _ => ?_)
    refine ok_step (ps := [rf_in ((nI 330) + (nI i)) 700, rf_in (nI i) 8]) (L' := [some (.ref 94), some (.int (nI n)), some (.int (nI (cn d 5))), some (.int (nI i)), none, none, none, none, none, none]) (st' := [.int ((nI (cn d 5)) - (nI 1)), .int (nI i), .int ((nI 330) + (nI i)), .ref 95]) (σ' := (γ, rf_w ν 101 ((nI i).toNatClampNeg) (ν 95 (((nI 330) + (nI i)).toNatClampNeg)))) (pc' := 43) kX12_findBest_14 rfl rfl (rf_a1 (rf_in_n (a := (330 + i)) (by (try rw [(show ((nI 330) + (nI i)) = nI (330 + i) from rf_eq (rf_nadd (x := nI 330) (y := nI i) rfl rfl) (by omega))]); all_goals exact rfl) (by omega)) (rf_a1 (rf_in_n (a := i) rfl (by omega)) rf_a0)) ?_
    try rw [(show ((nI 330) + (nI i)) = nI (330 + i) from rf_eq (rf_nadd (x := nI 330) (y := nI i) rfl rfl) (by omega))]
    try rw [(show (nI (330 + i)).toNatClampNeg = (330 + i) from rf_cl_n rfl (by omega))]
    try rw [(show ν 95 (330 + i) = d (330 + i) from by rw [hd]; exact dq_o (by omega))]
    try rw [(show (nI i).toNatClampNeg = i from rf_cl_n rfl (by omega))]
    try rw [(show ((nI 330) + (nI i)) = nI (330 + i) from rf_eq (rf_nadd (x := nI 330) (y := nI i) rfl rfl) (by omega))]
    try rw [(show ((nI (cn d 5)) - (nI 1)) = nI ((cn d 5) - 1) from rf_eq (rf_nsub (x := nI (cn d 5)) (y := nI 1) rfl rfl (by omega)) (by omega))]
    refine ok_icmp_ne bX12_findBest_43 (fun h43 => ?_) (fun h43 => ?_)
    · have e43 := nI_ne h43
      refine ok_step (ps := []) (L' := [some (.ref 94), some (.int (nI n)), some (.int (nI (cn d 5))), some (.int (nI i)), none, none, none, none, none, none]) (st' := [.int (nI 0), .int (nI (330 + i)), .ref 95]) (σ' := (γ, rf_w ν 101 i (d (330 + i)))) (pc' := 51) kX12_findBest_50 rfl rfl rf_a0 ?_
      refine ok_step (ps := [rf_in (nI (330 + i)) 700]) (L' := [some (.ref 94), some (.int (nI n)), some (.int (nI (cn d 5))), some (.int ((nI i) + (nI 1))), none, none, none, none, none, none]) (st' := []) (σ' := (γ, rf_w (rf_w ν 101 i (d (330 + i))) 95 ((nI (330 + i)).toNatClampNeg) (nI 0))) (pc' := 55) kX12_findBest_51 rfl rfl (rf_a1 (rf_in_n (a := (330 + i)) rfl (by omega)) rf_a0) ?_
      try rw [(show (nI (330 + i)).toNatClampNeg = (330 + i) from rf_cl_n rfl (by omega))]
      try rw [(show ((nI i) + (nI 1)) = nI (i + 1) from nI_add _ _)]
      refine ok_goto bX12_findBest_55 ?_
      exact ih (i + 1) _ (by omega) ((hE.w (by omega)).w (by omega)) (by rw [rf_w_self, rf_w_row (by decide), hd]; exact dq_s (by unfold frR; rw [if_pos (by omega), if_neg (by omega)])) (fun x hx => by
        rw [rf_w_row (by decide), rf_w_at]
        by_cases e : x = i
        · rw [if_pos ⟨rfl, e⟩, e]
        · rw [if_neg (by omega)]
          exact hk x (by omega))
    · have e43 := nI_inj h43 (by omega) (by omega)
      refine ok_step (ps := []) (L' := [some (.ref 94), some (.int (nI n)), some (.int (nI (cn d 5))), some (.int (nI i)), none, none, none, none, none, none]) (st' := [.int (nI n), .int (nI (330 + i)), .ref 95]) (σ' := (γ, rf_w ν 101 i (d (330 + i)))) (pc' := 47) kX12_findBest_46 rfl rfl rf_a0 ?_
      refine ok_goto bX12_findBest_47 ?_
      refine ok_step (ps := [rf_in (nI (330 + i)) 700]) (L' := [some (.ref 94), some (.int (nI n)), some (.int (nI (cn d 5))), some (.int ((nI i) + (nI 1))), none, none, none, none, none, none]) (st' := []) (σ' := (γ, rf_w (rf_w ν 101 i (d (330 + i))) 95 ((nI (330 + i)).toNatClampNeg) (nI n))) (pc' := 55) kX12_findBest_51 rfl rfl (rf_a1 (rf_in_n (a := (330 + i)) rfl (by omega)) rf_a0) ?_
      try rw [(show (nI (330 + i)).toNatClampNeg = (330 + i) from rf_cl_n rfl (by omega))]
      try rw [(show ((nI i) + (nI 1)) = nI (i + 1) from nI_add _ _)]
      refine ok_goto bX12_findBest_55 ?_
      exact ih (i + 1) _ (by omega) ((hE.w (by omega)).w (by omega)) (by rw [rf_w_self, rf_w_row (by decide), hd]; exact dq_s (by unfold frR; rw [if_pos (by omega), if_pos (by omega)])) (fun x hx => by
        rw [rf_w_row (by decide), rf_w_at]
        by_cases e : x = i
        · rw [if_pos ⟨rfl, e⟩, e]
        · rw [if_neg (by omega)]
          exact hk x (by omega))
theorem m_find (h0 : μ 95 = d) (hJ0 : J α μ) (hn : n ≤ 5) (hn1 : 1 ≤ n) (h1 : 1 ≤ cn d 5) : rf_Ok (rf_T Ln xs) MX12_findBest 52 0 [some (.ref 94), some (.int (nI n)), none, none, none, none, none, none, none, none] [] (γ, μ) (fun r s => r = none ∧ ∃ (ν' : Nat → Nat → Int32) (q : Nat → Nat), s = (γ, ν') ∧ sE μ ν' ∧ ν' 95 = d ∧ Bm d n ν' (some q) ∧ (rowsL (cn d 5 - 1) 0 n (fun _ => 0)).foldl (bstep (sU d n) (sV d n)) none = some q ∧ Gd (cn d 5) n q) := by
  have hI : Iv d := by rw [← h0]; exact hJ0.2
  have b5 := hI.le5
  obtain ⟨l, l1, l2⟩ := rows_sg (cn d 5) (cn d 5 - 1) 0 n (fun _ => 0) (by omega)
  have hG : ∀ x, x ∈ frR (cn d 5) 0 n (fun _ => 0) :: l → Gd (cn d 5) n x := fun x hx => rows_gd h1 (by rw [l1]; exact hx)
  refine ok_step (ps := [rf_in (nI 5) 700]) (L' := [some (.ref 94), some (.int (nI n)), some (.int (μ 95 ((nI 5).toNatClampNeg))), some (.int (nI 0)), none, none, none, none, none, none]) (st' := []) (σ' := (γ, μ)) (pc' := 9) kX12_findBest_0 rfl rfl (rf_a1 (rf_in_n (a := 5) rfl (by omega)) rf_a0) ?_
  try rw [(show (nI 5).toNatClampNeg = 5 from rf_cl_n rfl (by omega))]
  try rw [(show μ 95 5 = d 5 from congrFun h0 _)]
  rw [hI.at5]
  refine fb_i hI hn (fun ν hE hd hk => ?_) (cn d 5) 0 μ (by omega) (sE.rfl μ) (by rw [h0]; funext j; unfold dq; rw [if_neg (by omega)]) (fun x hx => absurd hx (by omega))
  refine ok_step (ps := []) (L' := [some (.ref 94), some (.int (nI n)), some (.int (nI (cn d 5))), some (.long (lN 0)), none, some (.int (nI 1)), none, none, none, none]) (st' := []) (σ' := (γ, rf_w ν 94 15 (-1))) (pc' := 68) kX12_findBest_58 rfl rfl rf_a0 ?_
  refine fb_l h0 hJ0 hn hn1 h1 (s := laR (cn d 5) 0 n (fun _ => 0)) (fun x g1 g2 => by unfold laR; rw [if_pos (by omega), if_neg (by omega)]) l _ none _ l2 hG (fun r hr => by cases hr) (hE.w (by omega)) ((rf_w_row (by decide)).trans hd) (fun x hx => by rw [rf_w_row (by decide)]; exact hk x hx) (by show rf_w ν 94 15 (-1) 94 15 = (-1); rw [rf_w_at, if_pos ⟨rfl, rfl⟩]) (fun ν r hE hd hk hB hr hf => ?_)
  refine ok_step (ps := []) (L' := [some (.ref 94), some (.int (nI n)), some (.int (nI (cn d 5))), some (.long (Bc d (some r))), none, some (.int (nI 0)), some (.int (nI 0)), none, none, none]) (st' := []) (σ' := (γ, ν)) (pc' := 199) kX12_findBest_196 rfl rfl rf_a0 ?_
  refine rf_Ok.mono (fb_r (b := some r) hI (cn d 5) 0 ν (by omega) hE (hd.trans dr_0) hk hB) ?_
  rintro r1 s1 ⟨rfl, ν', rfl, e1, e2, e3⟩
  exact ⟨rfl, ν', r, rfl, e1, e2, e3, by rw [l1]; exact hf, hr⟩
end H67
