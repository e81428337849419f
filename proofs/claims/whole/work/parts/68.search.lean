/-- the class's memory while it looks -/
def sF (α β : Nat → Nat → Int32) : Prop := ∀ k, k ≠ 31 → k ≠ 34 → k ≠ 35 → ¬ (79 ≤ k ∧ k ≤ 82) → β k = α k
theorem sF.rfl (α : Nat → Nat → Int32) : sF α α := fun _ _ _ _ _ => Eq.refl _
theorem sF.tr {α β γ : Nat → Nat → Int32} (h : sF α β) (g : sF β γ) : sF α γ := fun k h1 h2 h3 h4 => (g k h1 h2 h3 h4).trans (h k h1 h2 h3 h4)
theorem sA.sF {α β : Nat → Nat → Int32} (h : sA α β) : sF α β := fun k h1 h2 h3 _ => h k h1 h2 h3
theorem sF.w {α : Nat → Nat → Int32} {k i : Nat} {v : Int32} (hk : 79 ≤ k ∧ k ≤ 82) : sF α (rf_w α k i v) := fun k' _ _ _ h => rf_w_row (by omega)
theorem sF.r {α : Nat → Nat → Int32} {k : Nat} {f : Nat → Int32} (hk : 79 ≤ k ∧ k ≤ 82) : sF α (rf_r α k f) := fun k' _ _ _ h => by
  unfold rf_r
  rw [if_neg (by omega)]
theorem J.sF {α β μ : Nat → Nat → Int32} (h : J α μ) (g : sF α β) : J β μ := h.same (fun k i hk => by rw [g k (by unfold jA at hk; omega) (by unfold jA at hk; omega) (by unfold jA at hk; omega) (by unfold jA at hk; omega)]) (fun _ _ _ => rfl)
/-- MANY on a TRAIN that don't pay where it has p LOTS, of the first G GROUPS -/
def ub (d : Nat → Int32) (n G t p : Nat) : Nat := sumN (fun g => if cn d (191 + 8 * g) = t then aU d n g p else 0) G
theorem ub_s {d : Nat → Int32} {n G t p : Nat} : ub d n (G + 1) t p = ub d n G t p + (if cn d (191 + 8 * G) = t then aU d n G p else 0) := rfl
theorem ub_le {d : Nat → Int32} {n t p : Nat} (hI : Iv d) : ub d n (cn d 4) t p ≤ 15984 := by
  have b4 := hI.le4
  refine s16 (fun g hg => ?_) b4
  have := aU_le (n := n) (p := p) hI (show g < 16 by omega)
  split <;> omega
theorem sumN_mul {f : Nat → Nat} {c : Nat} : ∀ {n : Nat}, sumN f n * c = sumN (fun i => f i * c) n
  | 0 => Nat.zero_mul c
  | n + 1 => by rw [sumN, sumN, Nat.add_mul, sumN_mul]
theorem ub_U {d : Nat → Int32} {n : Nat} {q : Nat → Nat} (hI : Iv d) : sumN (fun t => ub d n (cn d 4) t (wq d q t)) (cn d 3) = sU d n q := sum_ex (tr := fun g => cn d (191 + 8 * g)) (a := fun g t => aU d n g (wq d q t)) (fun g hg => tr_lt hI hg)
theorem ub_V {d : Nat → Int32} {n : Nat} {q : Nat → Nat} (hI : Iv d) : sumN (fun t => ub d n (cn d 4) t (wq d q t) * wq d q t) (cn d 3) = sumN (fV d n q) (cn d 4) := by
  refine Eq.trans (sumN_congr (fun t _ => ?_)) (sum_ex (tr := fun g => cn d (191 + 8 * g)) (a := fun g t => aU d n g (wq d q t) * wq d q t) (fun g hg => tr_lt hI hg))
  unfold ub
  rw [sumN_mul]
  refine sumN_congr (fun g _ => ?_)
  split
  · rfl
  · exact Nat.zero_mul _
/-- what the class knows: who doesn't pay by TRAIN and LOTS; the row; the best so far -/
def Tb (d : Nat → Int32) (n : Nat) (α : Nat → Nat → Int32) : Prop := ∀ t, t < 12 → ∀ p, p ≤ n → α 82 (6 * t + p) = nI (ub d n (cn d 4) t p)
def Rw (α : Nat → Nat → Int32) (q : Nat → Nat) : Prop := ∀ i, i < 8 → α 81 i = nI (q i)
def Ks (d : Nat → Int32) (n : Nat) (α : Nat → Nat → Int32) : Option (Nat → Nat) → Prop
  | none => α 79 3 = nI 1
  | some r => α 79 3 = nI 0 ∧ α 79 0 = nI (sU d n r) ∧ rf_jn (α 79 2) (α 79 102) = lN (sV d n r) ∧ (∀ i, i < 8 → α 80 i = nI (r i)) ∧ Gd (cn d 5) n r
theorem Ks.same {d : Nat → Int32} {n : Nat} {α β : Nat → Nat → Int32} {b : Option (Nat → Nat)} (h : Ks d n α b) (e : β 79 = α 79) (e2 : β 80 = α 80) : Ks d n β b := by
  cases b with
  | none => exact (congrFun e 3).trans h
  | some r =>
    obtain ⟨h1, h2, h3, h4, h5⟩ := h
    unfold Ks
    rw [e, e2]
    exact ⟨h1, h2, h3, h4, h5⟩
section H68
variable {Ln : Nat} {xs : Nat → Int32} {α μ δ : Nat → Nat → Int32} {n : Nat} {q r : Nat → Nat}
theorem cr_81_80 : rf_Ok (rf_T Ln xs) MX11_copyRow 1 0 [some (.ref 81), some (.ref 80)] [] (α, μ) (fun r s => r = none ∧ ∃ α' : Nat → Nat → Int32, s = (α', μ) ∧ (∀ i, i < 8 → α' 80 i = α 81 i) ∧ ∀ k, k ≠ 80 → α' k = α k) := by
  refine ok_step (ps := [rf_cp (nI 0) (nI 0) (rf_min (nI 8) (nI 8)) 8 8]) (L' := [some (.ref 81), some (.ref 80)]) (st' := []) (σ' := (rf_r α 80 (va_cpy (α 81) (α 80) ((nI 0).toNatClampNeg) ((nI 0).toNatClampNeg) ((rf_min (nI 8) (nI 8)).toNatClampNeg)), μ)) (pc' := 14) kX11_copyRow_0 rfl rfl (rf_a1 (by decide) rf_a0) ?_
  try rw [(show (rf_min (nI 8) (nI 8)) = nI 8 from rfl)]
  try rw [(show (nI 0).toNatClampNeg = 0 from rf_cl_n rfl (by omega))]
  try rw [(show (nI 8).toNatClampNeg = 8 from rf_cl_n rfl (by omega))]
  refine ok_retv eX11_copyRow_14 rfl ?_
  refine ⟨rfl, _, rfl, fun i hi => ?_, fun k hk => ?_⟩
  · show (if 80 = 80 then va_cpy (α 81) (α 80) 0 0 8 else α 80) i = _
    rw [if_pos rfl]
    unfold va_cpy
    rw [if_pos (by omega)]
    exact congrArg (α 81) (by omega)
  · exact if_neg hk
theorem cr_80_21 : rf_Ok (rf_T Ln xs) MX11_copyRow 1 0 [some (.ref 80), some (.ref 21)] [] (α, μ) (fun r s => r = none ∧ ∃ α' : Nat → Nat → Int32, s = (α', μ) ∧ (∀ i, i < 8 → α' 21 i = α 80 i) ∧ ∀ k, k ≠ 21 → α' k = α k) := by
  refine ok_step (ps := [rf_cp (nI 0) (nI 0) (rf_min (nI 8) (nI 8)) 8 8]) (L' := [some (.ref 80), some (.ref 21)]) (st' := []) (σ' := (rf_r α 21 (va_cpy (α 80) (α 21) ((nI 0).toNatClampNeg) ((nI 0).toNatClampNeg) ((rf_min (nI 8) (nI 8)).toNatClampNeg)), μ)) (pc' := 14) kX11_copyRow_0 rfl rfl (rf_a1 (by decide) rf_a0) ?_
  try rw [(show (rf_min (nI 8) (nI 8)) = nI 8 from rfl)]
  try rw [(show (nI 0).toNatClampNeg = 0 from rf_cl_n rfl (by omega))]
  try rw [(show (nI 8).toNatClampNeg = 8 from rf_cl_n rfl (by omega))]
  refine ok_retv eX11_copyRow_14 rfl ?_
  refine ⟨rfl, _, rfl, fun i hi => ?_, fun k hk => ?_⟩
  · show (if 21 = 21 then va_cpy (α 80) (α 21) 0 0 8 else α 21) i = _
    rw [if_pos rfl]
    unfold va_cpy
    rw [if_pos (by omega)]
    exact congrArg (α 80) (by omega)
  · exact if_neg hk
theorem c_lir_l {t : Nat} (hR : Rl 1 α (μ 95)) (hI : Iv (μ 95)) (hw : Rw α q) (hq : Gd (cn (μ 95) 5) n q) (hn : n ≤ 5) : ∀ (j i : Nat), i + j = cn (μ 95) 5 → rf_Ok (rf_T Ln xs) MX5_lotsInRow 2 5 [some (.ref 79), some (.ref 19), some (.int (nI t)), some (.int (nI (sumN (fun s => if hb (μ 95 (320 + s)) (nI t) = true then q s else 0) i))), some (.int (nI i))] [] (α, δ) (fun r s => r = some (.int (nI (wq (μ 95) q t))) ∧ s = (α, δ)) := by
  have b5 := hI.le5
  have w5 := wq_le (t := t) hq
  intro j
  induction j with
  | zero =>
    intro i hj
    obtain rfl : i = cn (μ 95) 5 := by omega
    change wq (μ 95) q t ≤ n at w5
    refine ok_step (ps := []) (L' := [some (.ref 79), some (.ref 19), some (.int (nI t)), some (.int (nI (sumN (fun s => if hb (μ 95 (320 + s)) (nI t) = true then q s else 0) (cn (μ 95) 5)))), some (.int (nI (cn (μ 95) 5)))]) (st' := [.int (α 19 0), .int (nI (cn (μ 95) 5))]) (σ' := (α, δ)) (pc' := 11) kX5_lotsInRow_5 rfl rfl rf_a0 ?_
    try rw [(show α 19 0 = μ 95 5 from hR 18 0 5 rfl)]
    refine ok_icmp_ge bX5_lotsInRow_11 (fun _ => ?_) (fun h11 => absurd (le_of hI.at5 (by omega) (by omega)) h11)
    refine ok_step (ps := []) (L' := [some (.ref 79), some (.ref 19), some (.int (nI t)), some (.int (nI (sumN (fun s => if hb (μ 95 (320 + s)) (nI t) = true then q s else 0) (cn (μ 95) 5)))), some (.int (nI (cn (μ 95) 5)))]) (st' := [.int (rf_min (nI (sumN (fun s => if hb (μ 95 (320 + s)) (nI t) = true then q s else 0) (cn (μ 95) 5))) (nI 5))]) (σ' := (α, δ)) (pc' := 49) kX5_lotsInRow_44 rfl rfl rf_a0 ?_
    refine ok_reti eX5_lotsInRow_49 rfl ?_
    refine ⟨?_, rfl⟩
    rw [show sumN (fun s => if hb (μ 95 (320 + s)) (nI t) = true then q s else 0) (cn (μ 95) 5) = wq (μ 95) q t from rfl, rf_min_n (by omega) (by omega), show min (wq (μ 95) q t) 5 = wq (μ 95) q t by omega]
  | succ j ih =>
    intro i hj
    refine ok_step (ps := []) (L' := [some (.ref 79), some (.ref 19), some (.int (nI t)), some (.int (nI (sumN (fun s => if hb (μ 95 (320 + s)) (nI t) = true then q s else 0) i))), some (.int (nI i))]) (st' := [.int (α 19 0), .int (nI i)]) (σ' := (α, δ)) (pc' := 11) kX5_lotsInRow_5 rfl rfl rf_a0 ?_
    try rw [(show α 19 0 = μ 95 5 from hR 18 0 5 rfl)]
    refine ok_icmp_ge bX5_lotsInRow_11 (fun h11 => absurd h11 (nle_of hI.at5 (by omega) (by omega))) (fun _ => ?_)
    refine ok_step (ps := [rf_in (nI i) 8]) (L' := [some (.ref 79), some (.ref 19), some (.int (nI t)), some (.int (nI (sumN (fun s => if hb (μ 95 (320 + s)) (nI t) = true then q s else 0) i))), some (.int (nI i))]) (st' := [.int (nI t), .int (α 20 ((nI i).toNatClampNeg))]) (σ' := (α, δ)) (pc' := 22) kX5_lotsInRow_14 rfl rfl (rf_a1 (rf_in_n (a := i) rfl (by omega)) rf_a0) ?_
    try rw [(show (nI i).toNatClampNeg = i from rf_cl_n rfl (by omega))]
    try rw [(show α 20 i = μ 95 (320 + i) from rl_19 hR (i := i) (by omega) (by omega))]
    refine ok_S (As := [.int (μ 95 (320 + i)), .int (nI t)]) (st := []) mkX11_has qX5_lotsInRow_22 rfl rfl rfl rfl rfl (Nat.le_of_ble_eq_true rfl) (c_has) ?_
    refine ok_if_eq bX5_lotsInRow_25 (fun h25 => ?_) (fun h25 => ?_)
    · refine ok_step (ps := []) (L' := [some (.ref 79), some (.ref 19), some (.int (nI t)), some (.int (nI (sumN (fun s => if hb (μ 95 (320 + s)) (nI t) = true then q s else 0) i))), some (.int ((nI i) + (nI 1)))]) (st' := []) (σ' := (α, δ)) (pc' := 41) kX5_lotsInRow_38 rfl rfl rf_a0 ?_
      try rw [(show ((nI i) + (nI 1)) = nI (i + 1) from nI_add _ _)]
      refine ok_goto bX5_lotsInRow_41 ?_
      rw [show nI (sumN (fun s => if hb (μ 95 (320 + s)) (nI t) = true then q s else 0) i) = nI (sumN (fun s => if hb (μ 95 (320 + s)) (nI t) = true then q s else 0) (i + 1)) from by
        rw [sumN]
        simp only [bI_0.mp h25, Bool.false_eq_true, if_false, Nat.add_zero]]
      exact ih (i + 1) (by omega)
    · refine ok_step (ps := [rf_in (nI i) 8]) (L' := [some (.ref 79), some (.ref 19), some (.int (nI t)), some (.int ((nI (sumN (fun s => if hb (μ 95 (320 + s)) (nI t) = true then q s else 0) i)) + (α 81 ((nI i).toNatClampNeg)))), some (.int (nI i))]) (st' := []) (σ' := (α, δ)) (pc' := 38) kX5_lotsInRow_28 rfl rfl (rf_a1 (rf_in_n (a := i) rfl (by omega)) rf_a0) ?_
      try rw [(show (nI i).toNatClampNeg = i from rf_cl_n rfl (by omega))]
      try rw [(show α 81 i = nI (q i) from hw i (by omega))]
      refine ok_step (ps := []) (L' := [some (.ref 79), some (.ref 19), some (.int (nI t)), some (.int ((nI (sumN (fun s => if hb (μ 95 (320 + s)) (nI t) = true then q s else 0) i)) + (nI (q i)))), some (.int ((nI i) + (nI 1)))]) (st' := []) (σ' := (α, δ)) (pc' := 41) kX5_lotsInRow_38 rfl rfl rf_a0 ?_
      try rw [(show ((nI i) + (nI 1)) = nI (i + 1) from nI_add _ _)]
      refine ok_goto bX5_lotsInRow_41 ?_
      rw [show (nI (sumN (fun s => if hb (μ 95 (320 + s)) (nI t) = true then q s else 0) i)) + (nI (q i)) = nI (sumN (fun s => if hb (μ 95 (320 + s)) (nI t) = true then q s else 0) (i + 1)) from by
        rw [nI_add, sumN]
        simp only [bI_n0.mp h25, if_true]]
      exact ih (i + 1) (by omega)
theorem c_lir {t : Nat} (hR : Rl 1 α (μ 95)) (hI : Iv (μ 95)) (hw : Rw α q) (hq : Gd (cn (μ 95) 5) n q) (hn : n ≤ 5) : rf_At (rf_T Ln xs) MX5_lotsInRow 2 0 ([some (.ref 79), some (.ref 19), some (.int (nI t)), none, none], [], 108, (α, δ)) (some (.int (nI (wq (μ 95) q t)))) 108 (α, δ) := by
  refine rf_pa ?_
  refine ok_step (ps := []) (L' := [some (.ref 79), some (.ref 19), some (.int (nI t)), some (.int (nI 0)), some (.int (nI 0))]) (st' := []) (σ' := (α, δ)) (pc' := 5) kX5_lotsInRow_0 rfl rfl rf_a0 ?_
  exact c_lir_l hR hI hw hq hn (cn (μ 95) 5) 0 (by omega)
theorem c_cmp_l {Q : Option Value → rf_Mem → Prop} (hJ : J α μ) (hw : Rw α q) (ht : Tb (μ 95) n α) (hq : Gd (cn (μ 95) 5) n q) (hn : n ≤ 5) (k : rf_Ok (rf_T Ln xs) MX5_compareRow 10 67 [some (.ref 79), some (.ref 1), some (.int (nI (sU (μ 95) n q))), some (.long (lN (sumN (fV (μ 95) n q) (cn (μ 95) 4)))), none, none, none, none] [] (α, δ) Q) : ∀ (j i : Nat), i + j = cn (μ 95) 3 → rf_Ok (rf_T Ln xs) MX5_compareRow 10 7 [some (.ref 79), some (.ref 1), some (.int (nI (sumN (fun t => ub (μ 95) n (cn (μ 95) 4) t (wq (μ 95) q t)) i))), some (.long (lN (sumN (fun t => ub (μ 95) n (cn (μ 95) 4) t (wq (μ 95) q t) * wq (μ 95) q t) i))), none, some (.int (nI i)), none, none] [] (α, δ) Q := by
  have hR := hJ.1.1.1
  have hI := hJ.2
  have b3 := hI.le3
  intro j
  induction j with
  | zero =>
    intro i hj
    obtain rfl : i = cn (μ 95) 3 := by omega
    refine ok_step (ps := []) (L' := [some (.ref 79), some (.ref 1), some (.int (nI (sumN (fun t => ub (μ 95) n (cn (μ 95) 4) t (wq (μ 95) q t)) (cn (μ 95) 3)))), some (.long (lN (sumN (fun t => ub (μ 95) n (cn (μ 95) 4) t (wq (μ 95) q t) * wq (μ 95) q t) (cn (μ 95) 3)))), none, some (.int (nI (cn (μ 95) 3))), none, none]) (st' := [.int (α 2 2), .int (nI (cn (μ 95) 3))]) (σ' := (α, δ)) (pc' := 16) kX5_compareRow_7 rfl rfl rf_a0 ?_
    try rw [(show α 2 2 = μ 95 3 from hR 1 2 3 rfl)]
    refine ok_icmp_ge bX5_compareRow_16 (fun _ => ?_) (fun h16 => absurd (le_of hI.at3 (by omega) (by omega)) h16)
    rw [ub_U hI, ub_V hI]
    refine ok_kill (x := 5) ?_
    exact k
  | succ j ih =>
    intro i hj
    have w5 := wq_le (t := i) hq
    have u5 := ub_le (n := n) (t := i) (p := wq (μ 95) q i) hI
    refine ok_step (ps := []) (L' := [some (.ref 79), some (.ref 1), some (.int (nI (sumN (fun t => ub (μ 95) n (cn (μ 95) 4) t (wq (μ 95) q t)) i))), some (.long (lN (sumN (fun t => ub (μ 95) n (cn (μ 95) 4) t (wq (μ 95) q t) * wq (μ 95) q t) i))), none, some (.int (nI i)), none, none]) (st' := [.int (α 2 2), .int (nI i)]) (σ' := (α, δ)) (pc' := 16) kX5_compareRow_7 rfl rfl rf_a0 ?_
    try rw [(show α 2 2 = μ 95 3 from hR 1 2 3 rfl)]
    refine ok_icmp_ge bX5_compareRow_16 (fun h16 => absurd h16 (nle_of hI.at3 (by omega) (by omega))) (fun _ => ?_)
    refine ok_step (ps := []) (L' := [some (.ref 79), some (.ref 1), some (.int (nI (sumN (fun t => ub (μ 95) n (cn (μ 95) 4) t (wq (μ 95) q t)) i))), some (.long (lN (sumN (fun t => ub (μ 95) n (cn (μ 95) 4) t (wq (μ 95) q t) * wq (μ 95) q t) i))), none, some (.int (nI i)), none, none]) (st' := [.int (nI i), .ref 19, .ref 79]) (σ' := (α, δ)) (pc' := 26) kX5_compareRow_19 rfl rfl rf_a0 ?_
    refine ok_V (As := [.ref 19, .int (nI i)]) (b := 79) (st := []) mkX5_lotsInRow qX5_compareRow_26 rfl (rc_79) rfl rfl rfl rfl (Nat.le_of_ble_eq_true rfl) (c_lir hR hI hw hq hn) ?_
    refine ok_step (ps := [rf_in (((nI i) * (nI 6)) + (nI (wq (μ 95) q i))) 72]) (L' := [some (.ref 79), some (.ref 1), some (.int ((nI (sumN (fun t => ub (μ 95) n (cn (μ 95) 4) t (wq (μ 95) q t)) i)) + (α 82 ((((nI i) * (nI 6)) + (nI (wq (μ 95) q i))).toNatClampNeg)))), some (.long ((lN (sumN (fun t => ub (μ 95) n (cn (μ 95) 4) t (wq (μ 95) q t) * wq (μ 95) q t) i)) + (((α 82 ((((nI i) * (nI 6)) + (nI (wq (μ 95) q i))).toNatClampNeg)).toInt64) * ((nI (wq (μ 95) q i)).toInt64)))), none, some (.int ((nI i) + (nI 1))), some (.int (nI (wq (μ 95) q i))), some (.int (α 82 ((((nI i) * (nI 6)) + (nI (wq (μ 95) q i))).toNatClampNeg)))]) (st' := []) (σ' := (α, δ)) (pc' := 64) kX5_compareRow_29 rfl rfl (rf_a1 (rf_in_n (a := (6 * i + (wq (μ 95) q i))) (by (try rw [(show ((nI i) * (nI 6)) = nI (6 * i) from rf_eq (rf_nmul (x := nI i) (y := nI 6) rfl rfl) (by omega))]); (try rw [(show ((nI (6 * i)) + (nI (wq (μ 95) q i))) = nI (6 * i + (wq (μ 95) q i)) from rf_eq (rf_nadd (x := nI (6 * i)) (y := nI (wq (μ 95) q i)) rfl rfl) (by omega))]); all_goals exact rfl) (by omega)) rf_a0) ?_
    try rw [(show ((nI i) * (nI 6)) = nI (6 * i) from rf_eq (rf_nmul (x := nI i) (y := nI 6) rfl rfl) (by omega))]
    try rw [(show ((nI (6 * i)) + (nI (wq (μ 95) q i))) = nI (6 * i + (wq (μ 95) q i)) from rf_eq (rf_nadd (x := nI (6 * i)) (y := nI (wq (μ 95) q i)) rfl rfl) (by omega))]
    try rw [(show (nI (6 * i + (wq (μ 95) q i))).toNatClampNeg = (6 * i + (wq (μ 95) q i)) from rf_cl_n rfl (by omega))]
    try rw [(show α 82 (6 * i + (wq (μ 95) q i)) = nI (ub (μ 95) n (cn (μ 95) 4) i (wq (μ 95) q i)) from (congrArg (α 82) (by omega)).trans (ht i (by omega) (wq (μ 95) q i) (by omega)))]
    try rw [(show ((nI i) + (nI 1)) = nI (i + 1) from nI_add _ _)]
    refine ok_goto bX5_compareRow_64 ?_
    refine ok_kill (x := 6) ?_
    refine ok_kill (x := 7) ?_
    rw [show (nI (sumN (fun t => ub (μ 95) n (cn (μ 95) 4) t (wq (μ 95) q t)) i)) + (nI (ub (μ 95) n (cn (μ 95) 4) i (wq (μ 95) q i))) = nI (sumN (fun t => ub (μ 95) n (cn (μ 95) 4) t (wq (μ 95) q t)) (i + 1)) from nI_add _ _, show (lN (sumN (fun t => ub (μ 95) n (cn (μ 95) 4) t (wq (μ 95) q t) * wq (μ 95) q t) i)) + (((nI (ub (μ 95) n (cn (μ 95) 4) i (wq (μ 95) q i))).toInt64) * ((nI (wq (μ 95) q i)).toInt64)) = lN (sumN (fun t => ub (μ 95) n (cn (μ 95) 4) t (wq (μ 95) q t) * wq (μ 95) q t) (i + 1)) from by rw [nI_l (by omega), nI_l (by omega), lN_mul, lN_add, sumN]]
    exact ih (i + 1) (by omega)
theorem c_cmp_A (hJ : J α μ) (hw : Rw α q) (ht : Tb (μ 95) n α) (hq : Gd (cn (μ 95) 5) n q) (hn : n ≤ 5) (hb : Ks (μ 95) n α (none))  : rf_Ok (rf_T Ln xs) MX5_compareRow 10 67 [some (.ref 79), some (.ref 1), some (.int (nI (sU (μ 95) n q))), some (.long (lN (sumN (fV (μ 95) n q) (cn (μ 95) 4)))), none, none, none, none] [] (α, δ) (fun o s => o = none ∧ ∃ α' : Nat → Nat → Int32, s = (α', δ) ∧ sF α α' ∧ α' 81 = α 81 ∧ α' 82 = α 82 ∧ Ks (μ 95) n α' (some q)) := by
  have hR := hJ.1.1.1
  have hI := hJ.2
  have b9 := hI.le9
  have u1 := sU_le (n := n) (q := q) hI
  have v1 := Nat.lt_of_le_of_lt (sV_le hI hq hn) (by decide : 2 ^ 40 < 2 ^ 63)
  refine ok_step (ps := []) (L' := [some (.ref 79), some (.ref 1), some (.int (nI (sU (μ 95) n q))), some (.long (lN (sumN (fV (μ 95) n q) (cn (μ 95) 4)))), none, some (.long ((lN (sumN (fV (μ 95) n q) (cn (μ 95) 4))) * ((α 10 2).toInt64))), none, none]) (st' := [.int (α 79 3)]) (σ' := (α, δ)) (pc' := 83) kX5_compareRow_67 rfl rfl rf_a0 ?_
  try rw [(show α 10 2 = μ 95 9 from hR 9 2 9 rfl)]
  try rw [(show α 79 3 = nI 1 from hb)]
  refine ok_if_ne bX5_compareRow_83 (fun _ => ?_) (fun h83 => absurd h83 (by decide))
  refine ok_step (ps := [rf_bb (nI 0)]) (L' := [some (.ref 79), some (.ref 1), some (.int (nI (sU (μ 95) n q))), some (.long (lN (sumN (fV (μ 95) n q) (cn (μ 95) 4)))), none, some (.long ((lN (sumN (fV (μ 95) n q) (cn (μ 95) 4))) * ((μ 95 9).toInt64))), none, none]) (st' := [.ref 80, .ref 81]) (σ' := (rf_w (rf_w (rf_w (rf_w α 79 3 (nI 0)) 79 0 (nI (sU (μ 95) n q))) 79 2 (rf_hi ((lN (sumN (fV (μ 95) n q) (cn (μ 95) 4))) * ((μ 95 9).toInt64)))) 79 102 (rf_lo ((lN (sumN (fV (μ 95) n q) (cn (μ 95) 4))) * ((μ 95 9).toInt64))), δ)) (pc' := 136) kX5_compareRow_112 rfl rfl (rf_a1 (rfl) rf_a0) ?_
  refine ok_Sx (As := [.ref 81, .ref 80]) (st := []) mkX11_copyRow qX5_compareRow_136 rfl rfl rfl rfl rfl (Nat.le_of_ble_eq_true rfl) (cr_81_80) (fun r1 σ1 hq1 => ?_)
  obtain ⟨rfl, α', rfl, a1, a2⟩ := hq1
  refine ok_retv eX5_compareRow_139 rfl ?_
  refine ⟨rfl, α', rfl, fun k h1 h2 h3 h4 => ?_, ?_, ?_, ?_, ?_, ?_, fun i hi => ?_, hq⟩
  · rw [a2 k (by omega), rf_w_row (by omega), rf_w_row (by omega), rf_w_row (by omega), rf_w_row (by omega)]
  · rw [a2 81 (by omega), rf_w_row (by omega), rf_w_row (by omega), rf_w_row (by omega), rf_w_row (by omega)]
  · rw [a2 82 (by omega), rf_w_row (by omega), rf_w_row (by omega), rf_w_row (by omega), rf_w_row (by omega)]
  · rw [a2 79 (by omega)]
    simp [rf_w_at]
  · rw [a2 79 (by omega)]
    simp [rf_w_at]
  · rw [a2 79 (by omega)]
    simp only [rf_w_at]
    simp only [show (102 : Nat) ≠ 2 by decide, show (2 : Nat) ≠ 102 by decide, and_true, and_false, if_true, if_false]
    rw [rf_jn_hl, (show lN (sumN (fV (μ 95) n q) (cn (μ 95) 4)) * (μ 95 9).toInt64 = lN (sV (μ 95) n q) from by rw [hI.at9, nI_l (by omega), lN_mul]; rfl)]
  · rw [a1 i hi, rf_w_row (by omega), rf_w_row (by omega), rf_w_row (by omega), rf_w_row (by omega)]
    exact hw i hi
theorem c_cmp_B (hJ : J α μ) (hw : Rw α q) (ht : Tb (μ 95) n α) (hq : Gd (cn (μ 95) 5) n q) (hn : n ≤ 5) (hb : Ks (μ 95) n α (some r)) (hu : sU (μ 95) n r < sU (μ 95) n q) : rf_Ok (rf_T Ln xs) MX5_compareRow 10 67 [some (.ref 79), some (.ref 1), some (.int (nI (sU (μ 95) n q))), some (.long (lN (sumN (fV (μ 95) n q) (cn (μ 95) 4)))), none, none, none, none] [] (α, δ) (fun o s => o = none ∧ ∃ α' : Nat → Nat → Int32, s = (α', δ) ∧ sF α α' ∧ α' 81 = α 81 ∧ α' 82 = α 82 ∧ Ks (μ 95) n α' (some r)) := by
  have hR := hJ.1.1.1
  have hI := hJ.2
  have b9 := hI.le9
  have u1 := sU_le (n := n) (q := q) hI
  have v1 := Nat.lt_of_le_of_lt (sV_le hI hq hn) (by decide : 2 ^ 40 < 2 ^ 63)
  have u2 := sU_le (n := n) (q := r) hI
  have v2 := Nat.lt_of_le_of_lt (sV_le hI hb.2.2.2.2 hn) (by decide : 2 ^ 40 < 2 ^ 63)
  refine ok_step (ps := []) (L' := [some (.ref 79), some (.ref 1), some (.int (nI (sU (μ 95) n q))), some (.long (lN (sumN (fV (μ 95) n q) (cn (μ 95) 4)))), none, some (.long ((lN (sumN (fV (μ 95) n q) (cn (μ 95) 4))) * ((α 10 2).toInt64))), none, none]) (st' := [.int (α 79 3)]) (σ' := (α, δ)) (pc' := 83) kX5_compareRow_67 rfl rfl rf_a0 ?_
  try rw [(show α 10 2 = μ 95 9 from hR 9 2 9 rfl)]
  try rw [(show α 79 3 = nI 0 from hb.1)]
  refine ok_if_ne bX5_compareRow_83 (fun h83 => absurd ((by decide)) h83) (fun _ => ?_)
  refine ok_step (ps := []) (L' := [some (.ref 79), some (.ref 1), some (.int (nI (sU (μ 95) n q))), some (.long (lN (sumN (fV (μ 95) n q) (cn (μ 95) 4)))), none, some (.long ((lN (sumN (fV (μ 95) n q) (cn (μ 95) 4))) * ((μ 95 9).toInt64))), none, none]) (st' := [.int (α 79 0), .int (nI (sU (μ 95) n q))]) (σ' := (α, δ)) (pc' := 91) kX5_compareRow_86 rfl rfl rf_a0 ?_
  try rw [hb.2.1]
  refine ok_icmp_lt bX5_compareRow_91 (fun h91 => absurd h91 (nlt_of_n (Nat.le_of_lt hu) (by omega))) (fun _ => ?_)
  refine ok_step (ps := []) (L' := [some (.ref 79), some (.ref 1), some (.int (nI (sU (μ 95) n q))), some (.long (lN (sumN (fV (μ 95) n q) (cn (μ 95) 4)))), none, some (.long ((lN (sumN (fV (μ 95) n q) (cn (μ 95) 4))) * ((μ 95 9).toInt64))), none, none]) (st' := [.int (α 79 0), .int (nI (sU (μ 95) n q))]) (σ' := (α, δ)) (pc' := 99) kX5_compareRow_94 rfl rfl rf_a0 ?_
  try rw [hb.2.1]
  refine ok_icmp_ne bX5_compareRow_99 (fun _ => ?_) (fun h99 => absurd h99 (fun e => absurd (nI_inj e (by omega) (by omega)) (by omega)))
  refine ok_retv eX5_compareRow_139 rfl ?_
  exact ⟨rfl, α, rfl, sF.rfl α, rfl, rfl, hb⟩
theorem c_cmp_C (hJ : J α μ) (hw : Rw α q) (ht : Tb (μ 95) n α) (hq : Gd (cn (μ 95) 5) n q) (hn : n ≤ 5) (hb : Ks (μ 95) n α (some r)) (hu : sU (μ 95) n q < sU (μ 95) n r) : rf_Ok (rf_T Ln xs) MX5_compareRow 10 67 [some (.ref 79), some (.ref 1), some (.int (nI (sU (μ 95) n q))), some (.long (lN (sumN (fV (μ 95) n q) (cn (μ 95) 4)))), none, none, none, none] [] (α, δ) (fun o s => o = none ∧ ∃ α' : Nat → Nat → Int32, s = (α', δ) ∧ sF α α' ∧ α' 81 = α 81 ∧ α' 82 = α 82 ∧ Ks (μ 95) n α' (some q)) := by
  have hR := hJ.1.1.1
  have hI := hJ.2
  have b9 := hI.le9
  have u1 := sU_le (n := n) (q := q) hI
  have v1 := Nat.lt_of_le_of_lt (sV_le hI hq hn) (by decide : 2 ^ 40 < 2 ^ 63)
  have u2 := sU_le (n := n) (q := r) hI
  have v2 := Nat.lt_of_le_of_lt (sV_le hI hb.2.2.2.2 hn) (by decide : 2 ^ 40 < 2 ^ 63)
  refine ok_step (ps := []) (L' := [some (.ref 79), some (.ref 1), some (.int (nI (sU (μ 95) n q))), some (.long (lN (sumN (fV (μ 95) n q) (cn (μ 95) 4)))), none, some (.long ((lN (sumN (fV (μ 95) n q) (cn (μ 95) 4))) * ((α 10 2).toInt64))), none, none]) (st' := [.int (α 79 3)]) (σ' := (α, δ)) (pc' := 83) kX5_compareRow_67 rfl rfl rf_a0 ?_
  try rw [(show α 10 2 = μ 95 9 from hR 9 2 9 rfl)]
  try rw [(show α 79 3 = nI 0 from hb.1)]
  refine ok_if_ne bX5_compareRow_83 (fun h83 => absurd ((by decide)) h83) (fun _ => ?_)
  refine ok_step (ps := []) (L' := [some (.ref 79), some (.ref 1), some (.int (nI (sU (μ 95) n q))), some (.long (lN (sumN (fV (μ 95) n q) (cn (μ 95) 4)))), none, some (.long ((lN (sumN (fV (μ 95) n q) (cn (μ 95) 4))) * ((μ 95 9).toInt64))), none, none]) (st' := [.int (α 79 0), .int (nI (sU (μ 95) n q))]) (σ' := (α, δ)) (pc' := 91) kX5_compareRow_86 rfl rfl rf_a0 ?_
  try rw [hb.2.1]
  refine ok_icmp_lt bX5_compareRow_91 (fun _ => ?_) (fun h91 => absurd (lt_of_n hu (by omega)) h91)
  refine ok_step (ps := [rf_bb (nI 0)]) (L' := [some (.ref 79), some (.ref 1), some (.int (nI (sU (μ 95) n q))), some (.long (lN (sumN (fV (μ 95) n q) (cn (μ 95) 4)))), none, some (.long ((lN (sumN (fV (μ 95) n q) (cn (μ 95) 4))) * ((μ 95 9).toInt64))), none, none]) (st' := [.ref 80, .ref 81]) (σ' := (rf_w (rf_w (rf_w (rf_w α 79 3 (nI 0)) 79 0 (nI (sU (μ 95) n q))) 79 2 (rf_hi ((lN (sumN (fV (μ 95) n q) (cn (μ 95) 4))) * ((μ 95 9).toInt64)))) 79 102 (rf_lo ((lN (sumN (fV (μ 95) n q) (cn (μ 95) 4))) * ((μ 95 9).toInt64))), δ)) (pc' := 136) kX5_compareRow_112 rfl rfl (rf_a1 (rfl) rf_a0) ?_
  refine ok_Sx (As := [.ref 81, .ref 80]) (st := []) mkX11_copyRow qX5_compareRow_136 rfl rfl rfl rfl rfl (Nat.le_of_ble_eq_true rfl) (cr_81_80) (fun r1 σ1 hq1 => ?_)
  obtain ⟨rfl, α', rfl, a1, a2⟩ := hq1
  refine ok_retv eX5_compareRow_139 rfl ?_
  refine ⟨rfl, α', rfl, fun k h1 h2 h3 h4 => ?_, ?_, ?_, ?_, ?_, ?_, fun i hi => ?_, hq⟩
  · rw [a2 k (by omega), rf_w_row (by omega), rf_w_row (by omega), rf_w_row (by omega), rf_w_row (by omega)]
  · rw [a2 81 (by omega), rf_w_row (by omega), rf_w_row (by omega), rf_w_row (by omega), rf_w_row (by omega)]
  · rw [a2 82 (by omega), rf_w_row (by omega), rf_w_row (by omega), rf_w_row (by omega), rf_w_row (by omega)]
  · rw [a2 79 (by omega)]
    simp [rf_w_at]
  · rw [a2 79 (by omega)]
    simp [rf_w_at]
  · rw [a2 79 (by omega)]
    simp only [rf_w_at]
    simp only [show (102 : Nat) ≠ 2 by decide, show (2 : Nat) ≠ 102 by decide, and_true, and_false, if_true, if_false]
    rw [rf_jn_hl, (show lN (sumN (fV (μ 95) n q) (cn (μ 95) 4)) * (μ 95 9).toInt64 = lN (sV (μ 95) n q) from by rw [hI.at9, nI_l (by omega), lN_mul]; rfl)]
  · rw [a1 i hi, rf_w_row (by omega), rf_w_row (by omega), rf_w_row (by omega), rf_w_row (by omega)]
    exact hw i hi
theorem c_cmp_D (hJ : J α μ) (hw : Rw α q) (ht : Tb (μ 95) n α) (hq : Gd (cn (μ 95) 5) n q) (hn : n ≤ 5) (hb : Ks (μ 95) n α (some r)) (hu : sU (μ 95) n q = sU (μ 95) n r) (hv : sV (μ 95) n r < sV (μ 95) n q) : rf_Ok (rf_T Ln xs) MX5_compareRow 10 67 [some (.ref 79), some (.ref 1), some (.int (nI (sU (μ 95) n q))), some (.long (lN (sumN (fV (μ 95) n q) (cn (μ 95) 4)))), none, none, none, none] [] (α, δ) (fun o s => o = none ∧ ∃ α' : Nat → Nat → Int32, s = (α', δ) ∧ sF α α' ∧ α' 81 = α 81 ∧ α' 82 = α 82 ∧ Ks (μ 95) n α' (some q)) := by
  have hR := hJ.1.1.1
  have hI := hJ.2
  have b9 := hI.le9
  have u1 := sU_le (n := n) (q := q) hI
  have v1 := Nat.lt_of_le_of_lt (sV_le hI hq hn) (by decide : 2 ^ 40 < 2 ^ 63)
  have u2 := sU_le (n := n) (q := r) hI
  have v2 := Nat.lt_of_le_of_lt (sV_le hI hb.2.2.2.2 hn) (by decide : 2 ^ 40 < 2 ^ 63)
  refine ok_step (ps := []) (L' := [some (.ref 79), some (.ref 1), some (.int (nI (sU (μ 95) n q))), some (.long (lN (sumN (fV (μ 95) n q) (cn (μ 95) 4)))), none, some (.long ((lN (sumN (fV (μ 95) n q) (cn (μ 95) 4))) * ((α 10 2).toInt64))), none, none]) (st' := [.int (α 79 3)]) (σ' := (α, δ)) (pc' := 83) kX5_compareRow_67 rfl rfl rf_a0 ?_
  try rw [(show α 10 2 = μ 95 9 from hR 9 2 9 rfl)]
  try rw [(show α 79 3 = nI 0 from hb.1)]
  refine ok_if_ne bX5_compareRow_83 (fun h83 => absurd ((by decide)) h83) (fun _ => ?_)
  refine ok_step (ps := []) (L' := [some (.ref 79), some (.ref 1), some (.int (nI (sU (μ 95) n q))), some (.long (lN (sumN (fV (μ 95) n q) (cn (μ 95) 4)))), none, some (.long ((lN (sumN (fV (μ 95) n q) (cn (μ 95) 4))) * ((μ 95 9).toInt64))), none, none]) (st' := [.int (α 79 0), .int (nI (sU (μ 95) n q))]) (σ' := (α, δ)) (pc' := 91) kX5_compareRow_86 rfl rfl rf_a0 ?_
  try rw [hb.2.1]
  refine ok_icmp_lt bX5_compareRow_91 (fun h91 => absurd h91 (nlt_of_n (Nat.le_of_eq hu.symm) (by omega))) (fun _ => ?_)
  refine ok_step (ps := []) (L' := [some (.ref 79), some (.ref 1), some (.int (nI (sU (μ 95) n q))), some (.long (lN (sumN (fV (μ 95) n q) (cn (μ 95) 4)))), none, some (.long ((lN (sumN (fV (μ 95) n q) (cn (μ 95) 4))) * ((μ 95 9).toInt64))), none, none]) (st' := [.int (α 79 0), .int (nI (sU (μ 95) n q))]) (σ' := (α, δ)) (pc' := 99) kX5_compareRow_94 rfl rfl rf_a0 ?_
  try rw [hb.2.1]
  refine ok_icmp_ne bX5_compareRow_99 (fun h99 => absurd (by rw [hu]) h99) (fun _ => ?_)
  refine ok_step (ps := []) (L' := [some (.ref 79), some (.ref 1), some (.int (nI (sU (μ 95) n q))), some (.long (lN (sumN (fV (μ 95) n q) (cn (μ 95) 4)))), none, some (.long ((lN (sumN (fV (μ 95) n q) (cn (μ 95) 4))) * ((μ 95 9).toInt64))), none, none]) (st' := [.int (lg_cmp ((lN (sumN (fV (μ 95) n q) (cn (μ 95) 4))) * ((μ 95 9).toInt64)) (rf_jn (α 79 2) (α 79 102)))]) (σ' := (α, δ)) (pc' := 109) kX5_compareRow_102 rfl rfl rf_a0 ?_
  refine ok_if_le bX5_compareRow_109 (fun h109 => absurd h109 (fun e => absurd ((lg_le).mp e) (by rw [(show lN (sumN (fV (μ 95) n q) (cn (μ 95) 4)) * (μ 95 9).toInt64 = lN (sV (μ 95) n q) from by rw [hI.at9, nI_l (by omega), lN_mul]; rfl), hb.2.2.1]; exact Int64.not_le.mpr ((pk_lLT v2 v1).mpr hv)))) (fun _ => ?_)
  refine ok_step (ps := [rf_bb (nI 0)]) (L' := [some (.ref 79), some (.ref 1), some (.int (nI (sU (μ 95) n q))), some (.long (lN (sumN (fV (μ 95) n q) (cn (μ 95) 4)))), none, some (.long ((lN (sumN (fV (μ 95) n q) (cn (μ 95) 4))) * ((μ 95 9).toInt64))), none, none]) (st' := [.ref 80, .ref 81]) (σ' := (rf_w (rf_w (rf_w (rf_w α 79 3 (nI 0)) 79 0 (nI (sU (μ 95) n q))) 79 2 (rf_hi ((lN (sumN (fV (μ 95) n q) (cn (μ 95) 4))) * ((μ 95 9).toInt64)))) 79 102 (rf_lo ((lN (sumN (fV (μ 95) n q) (cn (μ 95) 4))) * ((μ 95 9).toInt64))), δ)) (pc' := 136) kX5_compareRow_112 rfl rfl (rf_a1 (rfl) rf_a0) ?_
  refine ok_Sx (As := [.ref 81, .ref 80]) (st := []) mkX11_copyRow qX5_compareRow_136 rfl rfl rfl rfl rfl (Nat.le_of_ble_eq_true rfl) (cr_81_80) (fun r1 σ1 hq1 => ?_)
  obtain ⟨rfl, α', rfl, a1, a2⟩ := hq1
  refine ok_retv eX5_compareRow_139 rfl ?_
  refine ⟨rfl, α', rfl, fun k h1 h2 h3 h4 => ?_, ?_, ?_, ?_, ?_, ?_, fun i hi => ?_, hq⟩
  · rw [a2 k (by omega), rf_w_row (by omega), rf_w_row (by omega), rf_w_row (by omega), rf_w_row (by omega)]
  · rw [a2 81 (by omega), rf_w_row (by omega), rf_w_row (by omega), rf_w_row (by omega), rf_w_row (by omega)]
  · rw [a2 82 (by omega), rf_w_row (by omega), rf_w_row (by omega), rf_w_row (by omega), rf_w_row (by omega)]
  · rw [a2 79 (by omega)]
    simp [rf_w_at]
  · rw [a2 79 (by omega)]
    simp [rf_w_at]
  · rw [a2 79 (by omega)]
    simp only [rf_w_at]
    simp only [show (102 : Nat) ≠ 2 by decide, show (2 : Nat) ≠ 102 by decide, and_true, and_false, if_true, if_false]
    rw [rf_jn_hl, (show lN (sumN (fV (μ 95) n q) (cn (μ 95) 4)) * (μ 95 9).toInt64 = lN (sV (μ 95) n q) from by rw [hI.at9, nI_l (by omega), lN_mul]; rfl)]
  · rw [a1 i hi, rf_w_row (by omega), rf_w_row (by omega), rf_w_row (by omega), rf_w_row (by omega)]
    exact hw i hi
theorem c_cmp_E (hJ : J α μ) (hw : Rw α q) (ht : Tb (μ 95) n α) (hq : Gd (cn (μ 95) 5) n q) (hn : n ≤ 5) (hb : Ks (μ 95) n α (some r)) (hu : sU (μ 95) n q = sU (μ 95) n r) (hv : ¬ sV (μ 95) n r < sV (μ 95) n q) : rf_Ok (rf_T Ln xs) MX5_compareRow 10 67 [some (.ref 79), some (.ref 1), some (.int (nI (sU (μ 95) n q))), some (.long (lN (sumN (fV (μ 95) n q) (cn (μ 95) 4)))), none, none, none, none] [] (α, δ) (fun o s => o = none ∧ ∃ α' : Nat → Nat → Int32, s = (α', δ) ∧ sF α α' ∧ α' 81 = α 81 ∧ α' 82 = α 82 ∧ Ks (μ 95) n α' (some r)) := by
  have hR := hJ.1.1.1
  have hI := hJ.2
  have b9 := hI.le9
  have u1 := sU_le (n := n) (q := q) hI
  have v1 := Nat.lt_of_le_of_lt (sV_le hI hq hn) (by decide : 2 ^ 40 < 2 ^ 63)
  have u2 := sU_le (n := n) (q := r) hI
  have v2 := Nat.lt_of_le_of_lt (sV_le hI hb.2.2.2.2 hn) (by decide : 2 ^ 40 < 2 ^ 63)
  refine ok_step (ps := []) (L' := [some (.ref 79), some (.ref 1), some (.int (nI (sU (μ 95) n q))), some (.long (lN (sumN (fV (μ 95) n q) (cn (μ 95) 4)))), none, some (.long ((lN (sumN (fV (μ 95) n q) (cn (μ 95) 4))) * ((α 10 2).toInt64))), none, none]) (st' := [.int (α 79 3)]) (σ' := (α, δ)) (pc' := 83) kX5_compareRow_67 rfl rfl rf_a0 ?_
  try rw [(show α 10 2 = μ 95 9 from hR 9 2 9 rfl)]
  try rw [(show α 79 3 = nI 0 from hb.1)]
  refine ok_if_ne bX5_compareRow_83 (fun h83 => absurd ((by decide)) h83) (fun _ => ?_)
  refine ok_step (ps := []) (L' := [some (.ref 79), some (.ref 1), some (.int (nI (sU (μ 95) n q))), some (.long (lN (sumN (fV (μ 95) n q) (cn (μ 95) 4)))), none, some (.long ((lN (sumN (fV (μ 95) n q) (cn (μ 95) 4))) * ((μ 95 9).toInt64))), none, none]) (st' := [.int (α 79 0), .int (nI (sU (μ 95) n q))]) (σ' := (α, δ)) (pc' := 91) kX5_compareRow_86 rfl rfl rf_a0 ?_
  try rw [hb.2.1]
  refine ok_icmp_lt bX5_compareRow_91 (fun h91 => absurd h91 (nlt_of_n (Nat.le_of_eq hu.symm) (by omega))) (fun _ => ?_)
  refine ok_step (ps := []) (L' := [some (.ref 79), some (.ref 1), some (.int (nI (sU (μ 95) n q))), some (.long (lN (sumN (fV (μ 95) n q) (cn (μ 95) 4)))), none, some (.long ((lN (sumN (fV (μ 95) n q) (cn (μ 95) 4))) * ((μ 95 9).toInt64))), none, none]) (st' := [.int (α 79 0), .int (nI (sU (μ 95) n q))]) (σ' := (α, δ)) (pc' := 99) kX5_compareRow_94 rfl rfl rf_a0 ?_
  try rw [hb.2.1]
  refine ok_icmp_ne bX5_compareRow_99 (fun h99 => absurd (by rw [hu]) h99) (fun _ => ?_)
  refine ok_step (ps := []) (L' := [some (.ref 79), some (.ref 1), some (.int (nI (sU (μ 95) n q))), some (.long (lN (sumN (fV (μ 95) n q) (cn (μ 95) 4)))), none, some (.long ((lN (sumN (fV (μ 95) n q) (cn (μ 95) 4))) * ((μ 95 9).toInt64))), none, none]) (st' := [.int (lg_cmp ((lN (sumN (fV (μ 95) n q) (cn (μ 95) 4))) * ((μ 95 9).toInt64)) (rf_jn (α 79 2) (α 79 102)))]) (σ' := (α, δ)) (pc' := 109) kX5_compareRow_102 rfl rfl rf_a0 ?_
  refine ok_if_le bX5_compareRow_109 (fun _ => ?_) (fun h109 => absurd ((lg_le).mpr (by rw [(show lN (sumN (fV (μ 95) n q) (cn (μ 95) 4)) * (μ 95 9).toInt64 = lN (sV (μ 95) n q) from by rw [hI.at9, nI_l (by omega), lN_mul]; rfl), hb.2.2.1]; exact Int64.not_lt.mp (fun e => hv ((pk_lLT v2 v1).mp e)))) h109)
  refine ok_retv eX5_compareRow_139 rfl ?_
  exact ⟨rfl, α, rfl, sF.rfl α, rfl, rfl, hb⟩
theorem c_cmp {b : Option (Nat → Nat)} (hJ : J α μ) (hw : Rw α q) (ht : Tb (μ 95) n α) (hq : Gd (cn (μ 95) 5) n q) (hn : n ≤ 5) (hb : Ks (μ 95) n α b) : rf_Ok (rf_T Ln xs) MX5_compareRow 10 0 [some (.ref 79), some (.ref 1), none, none, none, none, none, none] [] (α, δ) (fun o s => o = none ∧ ∃ α' : Nat → Nat → Int32, s = (α', δ) ∧ sF α α' ∧ α' 81 = α 81 ∧ α' 82 = α 82 ∧ Ks (μ 95) n α' (bstep (sU (μ 95) n) (sV (μ 95) n) b q)) := by
  refine ok_step (ps := []) (L' := [some (.ref 79), some (.ref 1), some (.int (nI 0)), some (.long (lN 0)), none, some (.int (nI 0)), none, none]) (st' := []) (σ' := (α, δ)) (pc' := 7) kX5_compareRow_0 rfl rfl rf_a0 ?_
  refine c_cmp_l hJ hw ht hq hn ?_ (cn (μ 95) 3) 0 (by omega)
  cases b with
  | none => exact c_cmp_A hJ hw ht hq hn hb
  | some r =>
    by_cases e : bet (sU (μ 95) n) (sV (μ 95) n) r q = true
    · rw [show bstep (sU (μ 95) n) (sV (μ 95) n) (some r) q = some q from if_pos e]
      rcases of_decide_eq_true e with e | ⟨e1, e2⟩
      · exact c_cmp_C hJ hw ht hq hn hb e
      · exact c_cmp_D hJ hw ht hq hn hb e1 e2
    · rw [show bstep (sU (μ 95) n) (sV (μ 95) n) (some r) q = some r from if_neg e]
      have e3 : ¬ (sU (μ 95) n q < sU (μ 95) n r ∨ (sU (μ 95) n q = sU (μ 95) n r ∧ sV (μ 95) n r < sV (μ 95) n q)) := fun h => e (decide_eq_true h)
      by_cases e4 : sU (μ 95) n r < sU (μ 95) n q
      · exact c_cmp_B hJ hw ht hq hn hb e4
      · exact c_cmp_E hJ hw ht hq hn hb (by omega) (fun h => e3 (Or.inr ⟨by omega, h⟩))
end H68
