abbrev MJ7_fill_53178 : rf_M := (yJ7_fill_53178, cJ7_fill_53178, 4, none)
theorem mkJ7_fill_53178 : rf_mk MJ7_fill_53178 1 2 115 75 114 0 = true := by decide +kernel
def cJ7_fill_53178_0 : List rf_I := [(.iconst 0, 1, 0, 0, 0, nI 0, 0), (.istore_n 2, 1, 2, 0, 0, 0, 0), (.aload_n 0, 1, 0, 0, 0, 0, 0), (.arraylength, 1, 0, 0, 0, 0, 0), (.istore_n 3, 1, 3, 0, 0, 0, 0)]
theorem kJ7_fill_53178_0 : rf_ck MJ7_fill_53178 0 cJ7_fill_53178_0 = true := by decide +kernel
def cJ7_fill_53178_5 : List rf_I := [(.iload_n 2, 1, 2, 0, 0, 0, 0), (.iload_n 3, 1, 3, 0, 0, 0, 0)]
theorem kJ7_fill_53178_5 : rf_ck MJ7_fill_53178 5 cJ7_fill_53178_5 = true := by decide +kernel
theorem bJ7_fill_53178_7 : rf_ckb MJ7_fill_53178 7 (.if_icmp .ge 13) 13 20 = true := by decide +kernel
def cJ7_fill_53178_10 : List rf_I := [(.aload_n 0, 1, 0, 0, 0, 0, 0), (.iload_n 2, 1, 2, 0, 0, 0, 0), (.iload_n 1, 1, 1, 0, 0, 0, 0), (.iastore, 1, 0, 0, 0, 0, 0), (.iinc 2 1, 3, 2, 0, 0, nI 1, 0)]
theorem kJ7_fill_53178_10 : rf_ck MJ7_fill_53178 10 cJ7_fill_53178_10 = true := by decide +kernel
theorem bJ7_fill_53178_17 : rf_ckb MJ7_fill_53178 17 (.goto (-12)) (-12) 5 = true := by decide +kernel
theorem eJ7_fill_53178_20 : rf_cki MJ7_fill_53178 20 .return_ = true := by decide +kernel
/-- a row whose places a .. a + n - 1 hold v -/
def fl (a n : Nat) (v : Int32) (f : Nat → Int32) : Nat → Int32 := fun j => if a ≤ j ∧ j < a + n then v else f j
theorem rfw_fl {m : Nat → Nat → Int32} {k a i j : Nat} {v : Int32} {f : Nat → Int32} (hj : j = a + i) : rf_w (rf_r m k (fl a i v f)) k j v = rf_r m k (fl a (i + 1) v f) := by
  subst hj
  funext x y
  rw [rf_w_at]
  simp only [rf_r]
  by_cases h : x = k
  · subst h
    simp only [true_and, if_true]
    unfold fl
    by_cases h2 : y = a + i
    · rw [if_pos h2, if_pos (by omega)]
    · rw [if_neg h2]
      by_cases h3 : a ≤ y ∧ y < a + i
      · rw [if_pos h3, if_pos (by omega)]
      · rw [if_neg h3, if_neg (by omega)]
  · simp [h]
theorem rfr_0 {m : Nat → Nat → Int32} {k a : Nat} {v : Int32} : rf_r m k (fl a 0 v (m k)) = m := by
  funext x y
  simp only [rf_r]
  by_cases h : x = k
  · subst h
    simp only [if_true]
    unfold fl
    rw [if_neg (by omega)]
  · simp [h]
theorem rfr_row {m : Nat → Nat → Int32} {k k' : Nat} {f : Nat → Int32} (h : k' ≠ k) : rf_r m k f k' = m k' := by
  funext y
  simp [rf_r, h]
theorem rfr_self {m : Nat → Nat → Int32} {k : Nat} {f : Nat → Int32} : rf_r m k f k = f := by
  funext y
  simp [rf_r]
theorem i_of {v : Int32} {b : Nat} (h0 : 0 ≤ v) (h1 : v ≤ nI b) (hb : b < 2147483648) : ∃ k : Nat, k ≤ b ∧ v = nI k := by
  obtain ⟨k, -, hk, e⟩ := wi_of (v := v) (a := 0) (b := b) (by
    unfold wi
    simp only [Bool.and_eq_true, decide_eq_true_eq]
    exact ⟨h0, h1⟩) (by omega) hb
  exact ⟨k, hk, e⟩
theorem J.sclr {α μ : Nat → Nat → Int32} (h : J α μ) {s m : Nat} (hs : s < 4) {b : Int32} (hb : b = 0 ∨ b = 8 ∨ b = 16 ∨ b = 32) (hm : m ≤ 40) {k j : Nat} (hk : k = 89 + s) (hj : j = 40 * s) {f g : Nat → Int32} (hg : g = μ 106) : J (rf_r (rf_w (rf_w α 86 s b) 87 s (nI m)) k (fl 0 40 (nI 0) f)) (rf_r (rf_w (rf_w μ 104 s b) 105 s (nI m)) 106 (fl j 40 (nI 0) g)) := by
  subst hk
  subst hj
  subst hg
  refine h.sh (fun k i hk => by rw [rfr_row (by omega), rf_w_row (by omega), rf_w_row (by omega)]) (fun k i hk => by rw [rfr_row (by omega), rf_w_row (by omega), rf_w_row (by omega)]) (fun s' hs' => ?_)
  obtain ⟨s1, s2, s3, s4, s5⟩ := h.1.2.2.2.2.2 s' hs'
  have w1 : ∀ x, rf_r (rf_w (rf_w α 86 s b) 87 s (nI m)) (89 + s) (fl 0 40 (nI 0) f) 86 x = if x = s then b else α 86 x := fun x => by
    rw [rfr_row (by omega), rf_w_row (by decide), rf_w_at]
    simp only [true_and]
  have w2 : ∀ x, rf_r (rf_w (rf_w α 86 s b) 87 s (nI m)) (89 + s) (fl 0 40 (nI 0) f) 87 x = if x = s then nI m else α 87 x := fun x => by
    rw [rfr_row (by omega), rf_w_at, rf_w_row (by decide)]
    simp only [true_and]
  have w3 : ∀ x, rf_r (rf_w (rf_w μ 104 s b) 105 s (nI m)) 106 (fl (40 * s) 40 (nI 0) (μ 106)) 104 x = if x = s then b else μ 104 x := fun x => by
    rw [rfr_row (by decide), rf_w_row (by decide), rf_w_at]
    simp only [true_and]
  have w4 : ∀ x, rf_r (rf_w (rf_w μ 104 s b) 105 s (nI m)) 106 (fl (40 * s) 40 (nI 0) (μ 106)) 105 x = if x = s then nI m else μ 105 x := fun x => by
    rw [rfr_row (by decide), rf_w_at, rf_w_row (by decide)]
    simp only [true_and]
  rw [w1, w2, w3, w4, rfr_self]
  by_cases e : s' = s
  · subst e
    simp only [if_true, rfr_self]
    refine ⟨trivial, trivial, ⟨m, hm, rfl⟩, hb, fun i hi => ?_⟩
    unfold fl
    rw [if_pos (by omega), if_pos (by omega)]
  · simp only [if_neg e]
    refine ⟨s1, s2, s3, s4, fun i hi => ?_⟩
    rw [rfr_row (by omega), rf_w_row (by omega), rf_w_row (by omega)]
    unfold fl
    rw [if_neg (by omega)]
    exact s5 i hi
section H35
variable {Ln : Nat} {xs : Nat → Int32} {α μ : Nat → Nat → Int32}
theorem fill89_l {v : Int32}  : ∀ (j i : Nat), i + j = 40 → rf_Ok (rf_T Ln xs) MJ7_fill_53178 1 5 [some (.ref 89), some (.int v), some (.int (nI i)), some (.int (nI 40))] [] (rf_r α 89 (fl 0 i v (α 89)), μ) (fun r s => r = none ∧ s = (rf_r α 89 (fl 0 40 v (α 89)), μ)) := by
  intro j
  induction j with
  | zero =>
    intro i hj
    have hj : i = 40 := by omega
    refine ok_step (ps := []) (L' := [some (.ref 89), some (.int v), some (.int (nI i)), some (.int (nI 40))]) (st' := [.int (nI 40), .int (nI i)]) (σ' := (rf_r α 89 (fl 0 i v (α 89)), μ)) (pc' := 7) kJ7_fill_53178_5 rfl rfl rf_a0 ?_
    refine ok_icmp_ge bJ7_fill_53178_7 (fun _ => ?_) (fun h7 => absurd (nI_le (by omega) (by omega)) h7)
    refine ok_retv eJ7_fill_53178_20 rfl ?_
    exact ⟨rfl, by rw [hj]⟩
  | succ j ih =>
    intro i hj
    refine ok_step (ps := []) (L' := [some (.ref 89), some (.int v), some (.int (nI i)), some (.int (nI 40))]) (st' := [.int (nI 40), .int (nI i)]) (σ' := (rf_r α 89 (fl 0 i v (α 89)), μ)) (pc' := 7) kJ7_fill_53178_5 rfl rfl rf_a0 ?_
    refine ok_icmp_ge bJ7_fill_53178_7 (fun h7 => absurd h7 (nI_ge (by omega) (by omega))) (fun _ => ?_)
    refine ok_step (ps := [rf_in (nI i) 40]) (L' := [some (.ref 89), some (.int v), some (.int ((nI i) + (nI 1))), some (.int (nI 40))]) (st' := []) (σ' := (rf_w (rf_r α 89 (fl 0 i v (α 89))) 89 ((nI i).toNatClampNeg) v, μ)) (pc' := 17) kJ7_fill_53178_10 rfl rfl (rf_a1 (rf_in_n (a := i) rfl (by omega)) rf_a0) ?_
    try rw [(show (nI i).toNatClampNeg = i from rf_cl_n rfl (by omega))]
    try rw [(show ((nI i) + (nI 1)) = nI (i + 1) from nI_add _ _)]
    refine ok_goto bJ7_fill_53178_17 ?_
    rw [rfw_fl (by omega)]
    exact ih (i + 1) (by omega)
theorem fill89 {v : Int32} : rf_At (rf_T Ln xs) MJ7_fill_53178 1 0 ([some (.ref 89), some (.int v), none, none], [], 108, (α, μ)) none 108 (rf_r α 89 (fl 0 40 v (α 89)), μ) := by
  refine rf_pa ?_
  refine ok_step (ps := []) (L' := [some (.ref 89), some (.int v), some (.int (nI 0)), some (.int (nI 40))]) (st' := []) (σ' := (α, μ)) (pc' := 5) kJ7_fill_53178_0 rfl rfl rf_a0 ?_
  have hl := fill89_l (Ln := Ln) (xs := xs) (α := α) (μ := μ) (v := v) 40 0 (by omega)
  rw [rfr_0] at hl
  exact hl
theorem fill90_l {v : Int32}  : ∀ (j i : Nat), i + j = 40 → rf_Ok (rf_T Ln xs) MJ7_fill_53178 1 5 [some (.ref 90), some (.int v), some (.int (nI i)), some (.int (nI 40))] [] (rf_r α 90 (fl 0 i v (α 90)), μ) (fun r s => r = none ∧ s = (rf_r α 90 (fl 0 40 v (α 90)), μ)) := by
  intro j
  induction j with
  | zero =>
    intro i hj
    have hj : i = 40 := by omega
    refine ok_step (ps := []) (L' := [some (.ref 90), some (.int v), some (.int (nI i)), some (.int (nI 40))]) (st' := [.int (nI 40), .int (nI i)]) (σ' := (rf_r α 90 (fl 0 i v (α 90)), μ)) (pc' := 7) kJ7_fill_53178_5 rfl rfl rf_a0 ?_
    refine ok_icmp_ge bJ7_fill_53178_7 (fun _ => ?_) (fun h7 => absurd (nI_le (by omega) (by omega)) h7)
    refine ok_retv eJ7_fill_53178_20 rfl ?_
    exact ⟨rfl, by rw [hj]⟩
  | succ j ih =>
    intro i hj
    refine ok_step (ps := []) (L' := [some (.ref 90), some (.int v), some (.int (nI i)), some (.int (nI 40))]) (st' := [.int (nI 40), .int (nI i)]) (σ' := (rf_r α 90 (fl 0 i v (α 90)), μ)) (pc' := 7) kJ7_fill_53178_5 rfl rfl rf_a0 ?_
    refine ok_icmp_ge bJ7_fill_53178_7 (fun h7 => absurd h7 (nI_ge (by omega) (by omega))) (fun _ => ?_)
    refine ok_step (ps := [rf_in (nI i) 40]) (L' := [some (.ref 90), some (.int v), some (.int ((nI i) + (nI 1))), some (.int (nI 40))]) (st' := []) (σ' := (rf_w (rf_r α 90 (fl 0 i v (α 90))) 90 ((nI i).toNatClampNeg) v, μ)) (pc' := 17) kJ7_fill_53178_10 rfl rfl (rf_a1 (rf_in_n (a := i) rfl (by omega)) rf_a0) ?_
    try rw [(show (nI i).toNatClampNeg = i from rf_cl_n rfl (by omega))]
    try rw [(show ((nI i) + (nI 1)) = nI (i + 1) from nI_add _ _)]
    refine ok_goto bJ7_fill_53178_17 ?_
    rw [rfw_fl (by omega)]
    exact ih (i + 1) (by omega)
theorem fill90 {v : Int32} : rf_At (rf_T Ln xs) MJ7_fill_53178 1 0 ([some (.ref 90), some (.int v), none, none], [], 108, (α, μ)) none 108 (rf_r α 90 (fl 0 40 v (α 90)), μ) := by
  refine rf_pa ?_
  refine ok_step (ps := []) (L' := [some (.ref 90), some (.int v), some (.int (nI 0)), some (.int (nI 40))]) (st' := []) (σ' := (α, μ)) (pc' := 5) kJ7_fill_53178_0 rfl rfl rf_a0 ?_
  have hl := fill90_l (Ln := Ln) (xs := xs) (α := α) (μ := μ) (v := v) 40 0 (by omega)
  rw [rfr_0] at hl
  exact hl
theorem fill91_l {v : Int32}  : ∀ (j i : Nat), i + j = 40 → rf_Ok (rf_T Ln xs) MJ7_fill_53178 1 5 [some (.ref 91), some (.int v), some (.int (nI i)), some (.int (nI 40))] [] (rf_r α 91 (fl 0 i v (α 91)), μ) (fun r s => r = none ∧ s = (rf_r α 91 (fl 0 40 v (α 91)), μ)) := by
  intro j
  induction j with
  | zero =>
    intro i hj
    have hj : i = 40 := by omega
    refine ok_step (ps := []) (L' := [some (.ref 91), some (.int v), some (.int (nI i)), some (.int (nI 40))]) (st' := [.int (nI 40), .int (nI i)]) (σ' := (rf_r α 91 (fl 0 i v (α 91)), μ)) (pc' := 7) kJ7_fill_53178_5 rfl rfl rf_a0 ?_
    refine ok_icmp_ge bJ7_fill_53178_7 (fun _ => ?_) (fun h7 => absurd (nI_le (by omega) (by omega)) h7)
    refine ok_retv eJ7_fill_53178_20 rfl ?_
    exact ⟨rfl, by rw [hj]⟩
  | succ j ih =>
    intro i hj
    refine ok_step (ps := []) (L' := [some (.ref 91), some (.int v), some (.int (nI i)), some (.int (nI 40))]) (st' := [.int (nI 40), .int (nI i)]) (σ' := (rf_r α 91 (fl 0 i v (α 91)), μ)) (pc' := 7) kJ7_fill_53178_5 rfl rfl rf_a0 ?_
    refine ok_icmp_ge bJ7_fill_53178_7 (fun h7 => absurd h7 (nI_ge (by omega) (by omega))) (fun _ => ?_)
    refine ok_step (ps := [rf_in (nI i) 40]) (L' := [some (.ref 91), some (.int v), some (.int ((nI i) + (nI 1))), some (.int (nI 40))]) (st' := []) (σ' := (rf_w (rf_r α 91 (fl 0 i v (α 91))) 91 ((nI i).toNatClampNeg) v, μ)) (pc' := 17) kJ7_fill_53178_10 rfl rfl (rf_a1 (rf_in_n (a := i) rfl (by omega)) rf_a0) ?_
    try rw [(show (nI i).toNatClampNeg = i from rf_cl_n rfl (by omega))]
    try rw [(show ((nI i) + (nI 1)) = nI (i + 1) from nI_add _ _)]
    refine ok_goto bJ7_fill_53178_17 ?_
    rw [rfw_fl (by omega)]
    exact ih (i + 1) (by omega)
theorem fill91 {v : Int32} : rf_At (rf_T Ln xs) MJ7_fill_53178 1 0 ([some (.ref 91), some (.int v), none, none], [], 108, (α, μ)) none 108 (rf_r α 91 (fl 0 40 v (α 91)), μ) := by
  refine rf_pa ?_
  refine ok_step (ps := []) (L' := [some (.ref 91), some (.int v), some (.int (nI 0)), some (.int (nI 40))]) (st' := []) (σ' := (α, μ)) (pc' := 5) kJ7_fill_53178_0 rfl rfl rf_a0 ?_
  have hl := fill91_l (Ln := Ln) (xs := xs) (α := α) (μ := μ) (v := v) 40 0 (by omega)
  rw [rfr_0] at hl
  exact hl
theorem fill92_l {v : Int32}  : ∀ (j i : Nat), i + j = 40 → rf_Ok (rf_T Ln xs) MJ7_fill_53178 1 5 [some (.ref 92), some (.int v), some (.int (nI i)), some (.int (nI 40))] [] (rf_r α 92 (fl 0 i v (α 92)), μ) (fun r s => r = none ∧ s = (rf_r α 92 (fl 0 40 v (α 92)), μ)) := by
  intro j
  induction j with
  | zero =>
    intro i hj
    have hj : i = 40 := by omega
    refine ok_step (ps := []) (L' := [some (.ref 92), some (.int v), some (.int (nI i)), some (.int (nI 40))]) (st' := [.int (nI 40), .int (nI i)]) (σ' := (rf_r α 92 (fl 0 i v (α 92)), μ)) (pc' := 7) kJ7_fill_53178_5 rfl rfl rf_a0 ?_
    refine ok_icmp_ge bJ7_fill_53178_7 (fun _ => ?_) (fun h7 => absurd (nI_le (by omega) (by omega)) h7)
    refine ok_retv eJ7_fill_53178_20 rfl ?_
    exact ⟨rfl, by rw [hj]⟩
  | succ j ih =>
    intro i hj
    refine ok_step (ps := []) (L' := [some (.ref 92), some (.int v), some (.int (nI i)), some (.int (nI 40))]) (st' := [.int (nI 40), .int (nI i)]) (σ' := (rf_r α 92 (fl 0 i v (α 92)), μ)) (pc' := 7) kJ7_fill_53178_5 rfl rfl rf_a0 ?_
    refine ok_icmp_ge bJ7_fill_53178_7 (fun h7 => absurd h7 (nI_ge (by omega) (by omega))) (fun _ => ?_)
    refine ok_step (ps := [rf_in (nI i) 40]) (L' := [some (.ref 92), some (.int v), some (.int ((nI i) + (nI 1))), some (.int (nI 40))]) (st' := []) (σ' := (rf_w (rf_r α 92 (fl 0 i v (α 92))) 92 ((nI i).toNatClampNeg) v, μ)) (pc' := 17) kJ7_fill_53178_10 rfl rfl (rf_a1 (rf_in_n (a := i) rfl (by omega)) rf_a0) ?_
    try rw [(show (nI i).toNatClampNeg = i from rf_cl_n rfl (by omega))]
    try rw [(show ((nI i) + (nI 1)) = nI (i + 1) from nI_add _ _)]
    refine ok_goto bJ7_fill_53178_17 ?_
    rw [rfw_fl (by omega)]
    exact ih (i + 1) (by omega)
theorem fill92 {v : Int32} : rf_At (rf_T Ln xs) MJ7_fill_53178 1 0 ([some (.ref 92), some (.int v), none, none], [], 108, (α, μ)) none 108 (rf_r α 92 (fl 0 40 v (α 92)), μ) := by
  refine rf_pa ?_
  refine ok_step (ps := []) (L' := [some (.ref 92), some (.int v), some (.int (nI 0)), some (.int (nI 40))]) (st' := []) (σ' := (α, μ)) (pc' := 5) kJ7_fill_53178_0 rfl rfl rf_a0 ?_
  have hl := fill92_l (Ln := Ln) (xs := xs) (α := α) (μ := μ) (v := v) 40 0 (by omega)
  rw [rfr_0] at hl
  exact hl
theorem m_clr0_l {b n : Int32} {β : Nat → Nat → Int32}  : ∀ (j i : Nat), i + j = 40 → rf_Ok (rf_T Ln xs) MX12_sheet 60 90 [some (.ref 94), some (.int (nI 0)), some (.int b), some (.int n), some (.int (nI i))] [] (α, rf_r β 106 (fl 0 i (nI 0) (β 106))) (fun r s => r = some (.int (nI 1)) ∧ s = (α, rf_r β 106 (fl 0 40 (nI 0) (β 106)))) := by
  intro j
  induction j with
  | zero =>
    intro i hj
    have hj : i = 40 := by omega
    refine ok_step (ps := []) (L' := [some (.ref 94), some (.int (nI 0)), some (.int b), some (.int n), some (.int (nI i))]) (st' := [.int (nI 40), .int (nI i)]) (σ' := (α, rf_r β 106 (fl 0 i (nI 0) (β 106)))) (pc' := 94) kX12_sheet_90 rfl rfl rf_a0 ?_
    refine ok_icmp_ge bX12_sheet_94 (fun _ => ?_) (fun h94 => absurd (nI_le (by omega) (by omega)) h94)
    refine ok_step (ps := []) (L' := [some (.ref 94), some (.int (nI 0)), some (.int b), some (.int n), some (.int (nI i))]) (st' := [.int (nI 1)]) (σ' := (α, rf_r β 106 (fl 0 i (nI 0) (β 106)))) (pc' := 117) kX12_sheet_116 rfl rfl rf_a0 ?_
    refine ok_reti eX12_sheet_117 rfl ?_
    exact ⟨rfl, by rw [hj]⟩
  | succ j ih =>
    intro i hj
    refine ok_step (ps := []) (L' := [some (.ref 94), some (.int (nI 0)), some (.int b), some (.int n), some (.int (nI i))]) (st' := [.int (nI 40), .int (nI i)]) (σ' := (α, rf_r β 106 (fl 0 i (nI 0) (β 106)))) (pc' := 94) kX12_sheet_90 rfl rfl rf_a0 ?_
    refine ok_icmp_ge bX12_sheet_94 (fun h94 => absurd h94 (nI_ge (by omega) (by omega))) (fun _ => ?_)
    refine ok_step (ps := [rf_in (((nI 40) * (nI 0)) + (nI i)) 160]) (L' := [some (.ref 94), some (.int (nI 0)), some (.int b), some (.int n), some (.int ((nI i) + (nI 1)))]) (st' := []) (σ' := (α, rf_w (rf_r β 106 (fl 0 i (nI 0) (β 106))) 106 ((((nI 40) * (nI 0)) + (nI i)).toNatClampNeg) (nI 0))) (pc' := 113) kX12_sheet_97 rfl rfl (rf_a1 (rf_in_n (a := i) (by (try rw [(show ((nI 40) * (nI 0)) = nI 0 from rf_eq (rf_nmul (x := nI 40) (y := nI 0) rfl rfl) (by omega))]); (try rw [(show ((nI 0) + (nI i)) = nI i from rf_eq (rf_nadd (x := nI 0) (y := nI i) rfl rfl) (by omega))]); all_goals exact rfl) (by omega)) rf_a0) ?_
    try rw [(show ((nI 40) * (nI 0)) = nI 0 from rf_eq (rf_nmul (x := nI 40) (y := nI 0) rfl rfl) (by omega))]
    try rw [(show ((nI 0) + (nI i)) = nI i from rf_eq (rf_nadd (x := nI 0) (y := nI i) rfl rfl) (by omega))]
    try rw [(show (nI i).toNatClampNeg = i from rf_cl_n rfl (by omega))]
    try rw [(show ((nI i) + (nI 1)) = nI (i + 1) from nI_add _ _)]
    refine ok_goto bX12_sheet_113 ?_
    rw [rfw_fl (by omega)]
    exact ih (i + 1) (by omega)
theorem m_clr0 {b n : Int32} {β : Nat → Nat → Int32} {Q : Option Value → rf_Mem → Prop} (hq : Q (some (.int (nI 1))) (α, rf_r β 106 (fl 0 40 (nI 0) (β 106)))) : rf_Ok (rf_T Ln xs) MX12_sheet 60 90 [some (.ref 94), some (.int (nI 0)), some (.int b), some (.int n), some (.int (nI 0))] [] (α, β) Q := by
  have hl := m_clr0_l (Ln := Ln) (xs := xs) (α := α) (b := b) (n := n) (β := β) 40 0 (by omega)
  rw [rfr_0] at hl
  obtain ⟨r, s, h1, h2, h3⟩ := hl
  exact ⟨r, s, h1, by rw [h2, h3]; exact hq⟩
theorem op_sheet0 {bits n : Int32} (hJ : J α μ)  : Op (rf_T Ln xs) MX11_sheet MX12_sheet [some (.ref 0), some (.int (nI 0)), some (.int bits), some (.int n)] [some (.ref 94), some (.int (nI 0)), some (.int bits), some (.int n), none] α μ := by
  have hR := hJ.1.1.1
  have hI := hJ.2
  have b0 := hI.le0
  have b1 := hI.le1
  have b2 := hI.le2
  have b3 := hI.le3
  have b4 := hI.le4
  have b5 := hI.le5
  have b6 := hI.le6
  have b8 := hI.le8
  have b9 := hI.le9
  have b11 := hI.le11
  have b12 := hI.le12
  refine ok_step (ps := []) (L' := [some (.ref 0), some (.int (nI 0)), some (.int bits), some (.int n)]) (st' := [.int (nI 0), .ref 0]) (σ' := (α, μ)) (pc' := 2) kX11_sheet_0 rfl rfl rf_a0 ?_
  refine ok_V (As := [.int (nI 0)]) (b := 0) (st := []) mkX11_isSheet qX11_sheet_2 rfl (rc_0) rfl rfl rfl rfl (Nat.le_of_ble_eq_true rfl) (c_isSheet) ?_
  rw [show bI (wi (nI 0) (nI 0) (nI 3)) = nI 1 from rfl]
  refine ok_if_eq bX11_sheet_5 (fun h5 => absurd h5 ((by decide))) (fun _ => ?_)
  refine ok_step (ps := []) (L' := [some (.ref 0), some (.int (nI 0)), some (.int bits), some (.int n)]) (st' := [.int bits]) (σ' := (α, μ)) (pc' := 9) kX11_sheet_8 rfl rfl rf_a0 ?_
  refine ok_if_eq bX11_sheet_9 (fun h9 => ?_) (fun h9 => ?_)
  · obtain rfl : bits = nI 0 := h9
    refine ok_step (ps := []) (L' := [some (.ref 0), some (.int (nI 0)), some (.int (nI 0)), some (.int n)]) (st' := [.int (nI 0)]) (σ' := (α, μ)) (pc' := 38) kX11_sheet_37 rfl rfl rf_a0 ?_
    refine ok_if_ne bX11_sheet_38 (fun h38 => absurd ((by decide)) h38) (fun _ => ?_)
    refine ok_step (ps := []) (L' := [some (.ref 0), some (.int (nI 0)), some (.int (nI 0)), some (.int n)]) (st' := [.int (nI 0), .int (nI 0), .int (nI 0), .ref 85]) (σ' := (α, μ)) (pc' := 48) kX11_sheet_41 rfl rfl rf_a0 ?_
    have hc48 : rf_At (rf_T Ln xs) MX6_clear 50 0 ([some (.ref 85), some (.int (nI 0)), some (.int (nI 0)), some (.int (nI 0))], [], 108, (α, μ)) (some (.int (nI 1))) 108 (rf_r (rf_w (rf_w α 86 0 (nI 0)) 87 0 (nI 0)) 89 (fl 0 40 (nI 0) ((rf_w (rf_w α 86 0 (nI 0)) 87 0 (nI 0)) 89)), μ) := by
      refine rf_pa ?_
      refine ok_step (ps := [rf_in (nI 0) 4, rf_in (nI 0) 4, rf_in (nI 0) 4]) (L' := [some (.ref 85), some (.int (nI 0)), some (.int (nI 0)), some (.int (nI 0))]) (st' := [.int (nI 0), .ref 89]) (σ' := (rf_w (rf_w α 86 ((nI 0).toNatClampNeg) (nI 0)) 87 ((nI 0).toNatClampNeg) (nI 0), μ)) (pc' := 21) kX6_clear_0 rfl rfl (rf_a1 (rf_in_n (a := 0) rfl (by omega)) (rf_a1 (rf_in_n (a := 0) rfl (by omega)) (rf_a1 (rf_in_n (a := 0) rfl (by omega)) rf_a0))) ?_
      try rw [(show (nI 0).toNatClampNeg = 0 from rf_cl_n rfl (by omega))]
      refine ok_S (As := [.ref 89, .int (nI 0)]) (st := []) mkJ7_fill_53178 qX6_clear_21 rfl rfl rfl rfl rfl (Nat.le_of_ble_eq_true rfl) (fill89) ?_
      refine ok_step (ps := []) (L' := [some (.ref 85), some (.int (nI 0)), some (.int (nI 0)), some (.int (nI 0))]) (st' := [.int (nI 1)]) (σ' := (rf_r (rf_w (rf_w α 86 0 (nI 0)) 87 0 (nI 0)) 89 (fl 0 40 (nI 0) ((rf_w (rf_w α 86 0 (nI 0)) 87 0 (nI 0)) 89)), μ)) (pc' := 25) kX6_clear_24 rfl rfl rf_a0 ?_
      refine ok_reti eX6_clear_25 rfl ?_
      exact ⟨rfl, rfl⟩
    refine ok_V (As := [.int (nI 0), .int (nI 0), .int (nI 0)]) (b := 85) (st := []) mkX6_clear qX11_sheet_48 rfl (rc_85) rfl rfl rfl rfl (Nat.le_of_ble_eq_true rfl) (hc48) ?_
    refine ok_reti eX11_sheet_51 rfl ?_
    refine ⟨rfl, _, rfl, ?_⟩
    refine ok_step (ps := []) (L' := [some (.ref 94), some (.int (nI 0)), some (.int (nI 0)), some (.int n), none]) (st' := [.int (nI 0)]) (σ' := (rf_r (rf_w (rf_w α 86 0 (nI 0)) 87 0 (nI 0)) 89 (fl 0 40 (nI 0) ((rf_w (rf_w α 86 0 (nI 0)) 87 0 (nI 0)) 89)), μ)) (pc' := 1) kX12_sheet_0 rfl rfl rf_a0 ?_
    refine ok_S (As := [.int (nI 0)]) (st := []) mkX12_isSheet qX12_sheet_1 rfl rfl rfl rfl rfl (Nat.le_of_ble_eq_true rfl) (m_isSheet) ?_
    rw [show bI (wi (nI 0) (nI 0) (nI 3)) = nI 1 from rfl]
    refine ok_if_eq bX12_sheet_4 (fun g4 => absurd g4 ((by decide))) (fun _ => ?_)
    refine ok_step (ps := []) (L' := [some (.ref 94), some (.int (nI 0)), some (.int (nI 0)), some (.int n), none]) (st' := [.int (nI 0)]) (σ' := (rf_r (rf_w (rf_w α 86 0 (nI 0)) 87 0 (nI 0)) 89 (fl 0 40 (nI 0) ((rf_w (rf_w α 86 0 (nI 0)) 87 0 (nI 0)) 89)), μ)) (pc' := 8) kX12_sheet_7 rfl rfl rf_a0 ?_
    refine ok_if_eq bX12_sheet_8 (fun _ => ?_) (fun g8 => absurd ((by decide)) g8)
    refine ok_step (ps := []) (L' := [some (.ref 94), some (.int (nI 0)), some (.int (nI 0)), some (.int n), none]) (st' := [.int (nI 0)]) (σ' := (rf_r (rf_w (rf_w α 86 0 (nI 0)) 87 0 (nI 0)) 89 (fl 0 40 (nI 0) ((rf_w (rf_w α 86 0 (nI 0)) 87 0 (nI 0)) 89)), μ)) (pc' := 36) kX12_sheet_35 rfl rfl rf_a0 ?_
    refine ok_if_eq bX12_sheet_36 (fun _ => ?_) (fun g36 => absurd ((by decide)) g36)
    refine ok_step (ps := []) (L' := [some (.ref 94), some (.int (nI 0)), some (.int (nI 0)), some (.int n), none]) (st' := [.int (nI 0)]) (σ' := (rf_r (rf_w (rf_w α 86 0 (nI 0)) 87 0 (nI 0)) 89 (fl 0 40 (nI 0) ((rf_w (rf_w α 86 0 (nI 0)) 87 0 (nI 0)) 89)), μ)) (pc' := 50) kX12_sheet_49 rfl rfl rf_a0 ?_
    refine ok_if_eq bX12_sheet_50 (fun _ => ?_) (fun g50 => absurd ((by decide)) g50)
    refine ok_step (ps := [rf_in (nI 0) 4]) (L' := [some (.ref 94), some (.int (nI 0)), some (.int (nI 0)), some (.int n), none]) (st' := [.int (nI 0), .int (nI 0), .ref 105]) (σ' := (rf_r (rf_w (rf_w α 86 0 (nI 0)) 87 0 (nI 0)) 89 (fl 0 40 (nI 0) ((rf_w (rf_w α 86 0 (nI 0)) 87 0 (nI 0)) 89)), rf_w μ 104 ((nI 0).toNatClampNeg) (nI 0))) (pc' := 78) kX12_sheet_65 rfl rfl (rf_a1 (rf_in_n (a := 0) rfl (by omega)) rf_a0) ?_
    try rw [(show (nI 0).toNatClampNeg = 0 from rf_cl_n rfl (by omega))]
    refine ok_if_ne bX12_sheet_78 (fun g78 => absurd ((by decide)) g78) (fun _ => ?_)
    refine ok_step (ps := []) (L' := [some (.ref 94), some (.int (nI 0)), some (.int (nI 0)), some (.int n), none]) (st' := [.int (nI 0), .int (nI 0), .ref 105]) (σ' := (rf_r (rf_w (rf_w α 86 0 (nI 0)) 87 0 (nI 0)) 89 (fl 0 40 (nI 0) ((rf_w (rf_w α 86 0 (nI 0)) 87 0 (nI 0)) 89)), rf_w μ 104 0 (nI 0))) (pc' := 82) kX12_sheet_81 rfl rfl rf_a0 ?_
    refine ok_goto bX12_sheet_82 ?_
    refine ok_step (ps := [rf_in (nI 0) 4]) (L' := [some (.ref 94), some (.int (nI 0)), some (.int (nI 0)), some (.int n), some (.int (nI 0))]) (st' := []) (σ' := (rf_r (rf_w (rf_w α 86 0 (nI 0)) 87 0 (nI 0)) 89 (fl 0 40 (nI 0) ((rf_w (rf_w α 86 0 (nI 0)) 87 0 (nI 0)) 89)), rf_w (rf_w μ 104 0 (nI 0)) 105 ((nI 0).toNatClampNeg) (nI 0))) (pc' := 90) kX12_sheet_86 rfl rfl (rf_a1 (rf_in_n (a := 0) rfl (by omega)) rf_a0) ?_
    try rw [(show (nI 0).toNatClampNeg = 0 from rf_cl_n rfl (by omega))]
    refine m_clr0 ?_
    exact ⟨rfl, _, rfl, hJ.sclr (s := 0) (by decide) (by decide) (by omega) rfl rfl rfl⟩
  · refine ok_step (ps := []) (L' := [some (.ref 0), some (.int (nI 0)), some (.int bits), some (.int n)]) (st' := [.int (nI 8), .int bits]) (σ' := (α, μ)) (pc' := 15) kX11_sheet_12 rfl rfl rf_a0 ?_
    refine ok_icmp_eq bX11_sheet_15 (fun h15 => ?_) (fun h15 => ?_)
    · obtain rfl : bits = nI 8 := h15
      refine ok_step (ps := []) (L' := [some (.ref 0), some (.int (nI 0)), some (.int (nI 8)), some (.int n)]) (st' := [.int (nI 8)]) (σ' := (α, μ)) (pc' := 38) kX11_sheet_37 rfl rfl rf_a0 ?_
      refine ok_if_ne bX11_sheet_38 (fun _ => ?_) (fun h38 => absurd h38 ((by decide)))
      refine ok_step (ps := []) (L' := [some (.ref 0), some (.int (nI 0)), some (.int (nI 8)), some (.int n)]) (st' := [.int n]) (σ' := (α, μ)) (pc' := 53) kX11_sheet_52 rfl rfl rf_a0 ?_
      refine ok_if_ge bX11_sheet_53 (fun h53 => ?_) (fun h53 => ?_)
      · refine ok_step (ps := []) (L' := [some (.ref 0), some (.int (nI 0)), some (.int (nI 8)), some (.int n)]) (st' := [.int (nI 40), .int n]) (σ' := (α, μ)) (pc' := 66) kX11_sheet_63 rfl rfl rf_a0 ?_
        refine ok_icmp_le bX11_sheet_66 (fun h66 => ?_) (fun h66 => ?_)
        · obtain ⟨m, hm, rfl⟩ := i_of h53 h66 (by omega)
          refine ok_step (ps := []) (L' := [some (.ref 0), some (.int (nI 0)), some (.int (nI 8)), some (.int (nI m))]) (st' := [.int (nI m), .int (nI 8), .int (nI 0), .ref 85]) (σ' := (α, μ)) (pc' := 83) kX11_sheet_76 rfl rfl rf_a0 ?_
          have hc83 : rf_At (rf_T Ln xs) MX6_clear 50 0 ([some (.ref 85), some (.int (nI 0)), some (.int (nI 8)), some (.int (nI m))], [], 108, (α, μ)) (some (.int (nI 1))) 108 (rf_r (rf_w (rf_w α 86 0 (nI 8)) 87 0 (nI m)) 89 (fl 0 40 (nI 0) ((rf_w (rf_w α 86 0 (nI 8)) 87 0 (nI m)) 89)), μ) := by
            refine rf_pa ?_
            refine ok_step (ps := [rf_in (nI 0) 4, rf_in (nI 0) 4, rf_in (nI 0) 4]) (L' := [some (.ref 85), some (.int (nI 0)), some (.int (nI 8)), some (.int (nI m))]) (st' := [.int (nI 0), .ref 89]) (σ' := (rf_w (rf_w α 86 ((nI 0).toNatClampNeg) (nI 8)) 87 ((nI 0).toNatClampNeg) (nI m), μ)) (pc' := 21) kX6_clear_0 rfl rfl (rf_a1 (rf_in_n (a := 0) rfl (by omega)) (rf_a1 (rf_in_n (a := 0) rfl (by omega)) (rf_a1 (rf_in_n (a := 0) rfl (by omega)) rf_a0))) ?_
            try rw [(show (nI 0).toNatClampNeg = 0 from rf_cl_n rfl (by omega))]
            refine ok_S (As := [.ref 89, .int (nI 0)]) (st := []) mkJ7_fill_53178 qX6_clear_21 rfl rfl rfl rfl rfl (Nat.le_of_ble_eq_true rfl) (fill89) ?_
            refine ok_step (ps := []) (L' := [some (.ref 85), some (.int (nI 0)), some (.int (nI 8)), some (.int (nI m))]) (st' := [.int (nI 1)]) (σ' := (rf_r (rf_w (rf_w α 86 0 (nI 8)) 87 0 (nI m)) 89 (fl 0 40 (nI 0) ((rf_w (rf_w α 86 0 (nI 8)) 87 0 (nI m)) 89)), μ)) (pc' := 25) kX6_clear_24 rfl rfl rf_a0 ?_
            refine ok_reti eX6_clear_25 rfl ?_
            exact ⟨rfl, rfl⟩
          refine ok_V (As := [.int (nI 0), .int (nI 8), .int (nI m)]) (b := 85) (st := []) mkX6_clear qX11_sheet_83 rfl (rc_85) rfl rfl rfl rfl (Nat.le_of_ble_eq_true rfl) (hc83) ?_
          refine ok_reti eX11_sheet_86 rfl ?_
          refine ⟨rfl, _, rfl, ?_⟩
          refine ok_step (ps := []) (L' := [some (.ref 94), some (.int (nI 0)), some (.int (nI 8)), some (.int (nI m)), none]) (st' := [.int (nI 0)]) (σ' := (rf_r (rf_w (rf_w α 86 0 (nI 8)) 87 0 (nI m)) 89 (fl 0 40 (nI 0) ((rf_w (rf_w α 86 0 (nI 8)) 87 0 (nI m)) 89)), μ)) (pc' := 1) kX12_sheet_0 rfl rfl rf_a0 ?_
          refine ok_S (As := [.int (nI 0)]) (st := []) mkX12_isSheet qX12_sheet_1 rfl rfl rfl rfl rfl (Nat.le_of_ble_eq_true rfl) (m_isSheet) ?_
          rw [show bI (wi (nI 0) (nI 0) (nI 3)) = nI 1 from rfl]
          refine ok_if_eq bX12_sheet_4 (fun g4 => absurd g4 ((by decide))) (fun _ => ?_)
          refine ok_step (ps := []) (L' := [some (.ref 94), some (.int (nI 0)), some (.int (nI 8)), some (.int (nI m)), none]) (st' := [.int (nI 8)]) (σ' := (rf_r (rf_w (rf_w α 86 0 (nI 8)) 87 0 (nI m)) 89 (fl 0 40 (nI 0) ((rf_w (rf_w α 86 0 (nI 8)) 87 0 (nI m)) 89)), μ)) (pc' := 8) kX12_sheet_7 rfl rfl rf_a0 ?_
          refine ok_if_eq bX12_sheet_8 (fun g8 => absurd g8 ((by decide))) (fun _ => ?_)
          refine ok_step (ps := []) (L' := [some (.ref 94), some (.int (nI 0)), some (.int (nI 8)), some (.int (nI m)), none]) (st' := [.int (nI 8), .int (nI 8)]) (σ' := (rf_r (rf_w (rf_w α 86 0 (nI 8)) 87 0 (nI m)) 89 (fl 0 40 (nI 0) ((rf_w (rf_w α 86 0 (nI 8)) 87 0 (nI m)) 89)), μ)) (pc' := 14) kX12_sheet_11 rfl rfl rf_a0 ?_
          refine ok_icmp_eq bX12_sheet_14 (fun _ => ?_) (fun g14 => absurd ((by decide)) g14)
          refine ok_step (ps := []) (L' := [some (.ref 94), some (.int (nI 0)), some (.int (nI 8)), some (.int (nI m)), none]) (st' := [.int (nI 8)]) (σ' := (rf_r (rf_w (rf_w α 86 0 (nI 8)) 87 0 (nI m)) 89 (fl 0 40 (nI 0) ((rf_w (rf_w α 86 0 (nI 8)) 87 0 (nI m)) 89)), μ)) (pc' := 36) kX12_sheet_35 rfl rfl rf_a0 ?_
          refine ok_if_eq bX12_sheet_36 (fun g36 => absurd g36 ((by decide))) (fun _ => ?_)
          refine ok_step (ps := []) (L' := [some (.ref 94), some (.int (nI 0)), some (.int (nI 8)), some (.int (nI m)), none]) (st' := [.int (nI m)]) (σ' := (rf_r (rf_w (rf_w α 86 0 (nI 8)) 87 0 (nI m)) 89 (fl 0 40 (nI 0) ((rf_w (rf_w α 86 0 (nI 8)) 87 0 (nI m)) 89)), μ)) (pc' := 40) kX12_sheet_39 rfl rfl rf_a0 ?_
          refine ok_if_ge bX12_sheet_40 (fun _ => ?_) (fun g40 => absurd (h53) g40)
          refine ok_step (ps := []) (L' := [some (.ref 94), some (.int (nI 0)), some (.int (nI 8)), some (.int (nI m)), none]) (st' := [.int (nI 8)]) (σ' := (rf_r (rf_w (rf_w α 86 0 (nI 8)) 87 0 (nI m)) 89 (fl 0 40 (nI 0) ((rf_w (rf_w α 86 0 (nI 8)) 87 0 (nI m)) 89)), μ)) (pc' := 50) kX12_sheet_49 rfl rfl rf_a0 ?_
          refine ok_if_eq bX12_sheet_50 (fun g50 => absurd g50 ((by decide))) (fun _ => ?_)
          refine ok_step (ps := []) (L' := [some (.ref 94), some (.int (nI 0)), some (.int (nI 8)), some (.int (nI m)), none]) (st' := [.int (nI 40), .int (nI m)]) (σ' := (rf_r (rf_w (rf_w α 86 0 (nI 8)) 87 0 (nI m)) 89 (fl 0 40 (nI 0) ((rf_w (rf_w α 86 0 (nI 8)) 87 0 (nI m)) 89)), μ)) (pc' := 56) kX12_sheet_53 rfl rfl rf_a0 ?_
          refine ok_icmp_le bX12_sheet_56 (fun _ => ?_) (fun g56 => absurd (h66) g56)
          refine ok_step (ps := [rf_in (nI 0) 4]) (L' := [some (.ref 94), some (.int (nI 0)), some (.int (nI 8)), some (.int (nI m)), none]) (st' := [.int (nI 8), .int (nI 0), .ref 105]) (σ' := (rf_r (rf_w (rf_w α 86 0 (nI 8)) 87 0 (nI m)) 89 (fl 0 40 (nI 0) ((rf_w (rf_w α 86 0 (nI 8)) 87 0 (nI m)) 89)), rf_w μ 104 ((nI 0).toNatClampNeg) (nI 8))) (pc' := 78) kX12_sheet_65 rfl rfl (rf_a1 (rf_in_n (a := 0) rfl (by omega)) rf_a0) ?_
          try rw [(show (nI 0).toNatClampNeg = 0 from rf_cl_n rfl (by omega))]
          refine ok_if_ne bX12_sheet_78 (fun _ => ?_) (fun g78 => absurd g78 ((by decide)))
          refine ok_step (ps := []) (L' := [some (.ref 94), some (.int (nI 0)), some (.int (nI 8)), some (.int (nI m)), none]) (st' := [.int (nI m), .int (nI 0), .ref 105]) (σ' := (rf_r (rf_w (rf_w α 86 0 (nI 8)) 87 0 (nI m)) 89 (fl 0 40 (nI 0) ((rf_w (rf_w α 86 0 (nI 8)) 87 0 (nI m)) 89)), rf_w μ 104 0 (nI 8))) (pc' := 86) kX12_sheet_85 rfl rfl rf_a0 ?_
          refine ok_step (ps := [rf_in (nI 0) 4]) (L' := [some (.ref 94), some (.int (nI 0)), some (.int (nI 8)), some (.int (nI m)), some (.int (nI 0))]) (st' := []) (σ' := (rf_r (rf_w (rf_w α 86 0 (nI 8)) 87 0 (nI m)) 89 (fl 0 40 (nI 0) ((rf_w (rf_w α 86 0 (nI 8)) 87 0 (nI m)) 89)), rf_w (rf_w μ 104 0 (nI 8)) 105 ((nI 0).toNatClampNeg) (nI m))) (pc' := 90) kX12_sheet_86 rfl rfl (rf_a1 (rf_in_n (a := 0) rfl (by omega)) rf_a0) ?_
          try rw [(show (nI 0).toNatClampNeg = 0 from rf_cl_n rfl (by omega))]
          refine m_clr0 ?_
          exact ⟨rfl, _, rfl, hJ.sclr (s := 0) (by decide) (by decide) (by omega) rfl rfl rfl⟩
        · refine ok_step (ps := []) (L' := [some (.ref 0), some (.int (nI 0)), some (.int (nI 8)), some (.int n)]) (st' := [.int (-1000000001), .ref 0]) (σ' := (α, μ)) (pc' := 72) kX11_sheet_69 rfl rfl rf_a0 ?_
          refine ok_V (As := [.int (-1000000001)]) (b := 0) (st := []) mkX11_error qX11_sheet_72 rfl (rc_0) rfl rfl rfl rfl (Nat.le_of_ble_eq_true rfl) (c_error (k := 1) (by decide) (by decide) (by decide)) ?_
          refine ok_reti eX11_sheet_75 rfl ?_
          refine ⟨rfl, _, rfl, ?_⟩
          refine ok_step (ps := []) (L' := [some (.ref 94), some (.int (nI 0)), some (.int (nI 8)), some (.int n), none]) (st' := [.int (nI 0)]) (σ' := (rf_w α 93 1 (α 93 1 + nI 1), μ)) (pc' := 1) kX12_sheet_0 rfl rfl rf_a0 ?_
          refine ok_S (As := [.int (nI 0)]) (st := []) mkX12_isSheet qX12_sheet_1 rfl rfl rfl rfl rfl (Nat.le_of_ble_eq_true rfl) (m_isSheet) ?_
          rw [show bI (wi (nI 0) (nI 0) (nI 3)) = nI 1 from rfl]
          refine ok_if_eq bX12_sheet_4 (fun g4 => absurd g4 ((by decide))) (fun _ => ?_)
          refine ok_step (ps := []) (L' := [some (.ref 94), some (.int (nI 0)), some (.int (nI 8)), some (.int n), none]) (st' := [.int (nI 8)]) (σ' := (rf_w α 93 1 (α 93 1 + nI 1), μ)) (pc' := 8) kX12_sheet_7 rfl rfl rf_a0 ?_
          refine ok_if_eq bX12_sheet_8 (fun g8 => absurd g8 ((by decide))) (fun _ => ?_)
          refine ok_step (ps := []) (L' := [some (.ref 94), some (.int (nI 0)), some (.int (nI 8)), some (.int n), none]) (st' := [.int (nI 8), .int (nI 8)]) (σ' := (rf_w α 93 1 (α 93 1 + nI 1), μ)) (pc' := 14) kX12_sheet_11 rfl rfl rf_a0 ?_
          refine ok_icmp_eq bX12_sheet_14 (fun _ => ?_) (fun g14 => absurd ((by decide)) g14)
          refine ok_step (ps := []) (L' := [some (.ref 94), some (.int (nI 0)), some (.int (nI 8)), some (.int n), none]) (st' := [.int (nI 8)]) (σ' := (rf_w α 93 1 (α 93 1 + nI 1), μ)) (pc' := 36) kX12_sheet_35 rfl rfl rf_a0 ?_
          refine ok_if_eq bX12_sheet_36 (fun g36 => absurd g36 ((by decide))) (fun _ => ?_)
          refine ok_step (ps := []) (L' := [some (.ref 94), some (.int (nI 0)), some (.int (nI 8)), some (.int n), none]) (st' := [.int n]) (σ' := (rf_w α 93 1 (α 93 1 + nI 1), μ)) (pc' := 40) kX12_sheet_39 rfl rfl rf_a0 ?_
          refine ok_if_ge bX12_sheet_40 (fun _ => ?_) (fun g40 => absurd (h53) g40)
          refine ok_step (ps := []) (L' := [some (.ref 94), some (.int (nI 0)), some (.int (nI 8)), some (.int n), none]) (st' := [.int (nI 8)]) (σ' := (rf_w α 93 1 (α 93 1 + nI 1), μ)) (pc' := 50) kX12_sheet_49 rfl rfl rf_a0 ?_
          refine ok_if_eq bX12_sheet_50 (fun g50 => absurd g50 ((by decide))) (fun _ => ?_)
          refine ok_step (ps := []) (L' := [some (.ref 94), some (.int (nI 0)), some (.int (nI 8)), some (.int n), none]) (st' := [.int (nI 40), .int n]) (σ' := (rf_w α 93 1 (α 93 1 + nI 1), μ)) (pc' := 56) kX12_sheet_53 rfl rfl rf_a0 ?_
          refine ok_icmp_le bX12_sheet_56 (fun g56 => absurd g56 (h66)) (fun _ => ?_)
          refine ok_step (ps := []) (L' := [some (.ref 94), some (.int (nI 0)), some (.int (nI 8)), some (.int n), none]) (st' := [.int (nI 1), .ref 94]) (σ' := (rf_w α 93 1 (α 93 1 + nI 1), μ)) (pc' := 61) kX12_sheet_59 rfl rfl rf_a0 ?_
          refine ok_V (As := [.int (nI 1)]) (b := 94) (st := []) mkX12_finds qX12_sheet_61 rfl (rc_94) rfl rfl rfl rfl (Nat.le_of_ble_eq_true rfl) (m_finds (k := 1) (by decide)) ?_
          refine ok_reti eX12_sheet_64 rfl ?_
          exact ⟨rfl, _, rfl, hJ.err (k := 1) (by decide)⟩
      · refine ok_step (ps := []) (L' := [some (.ref 0), some (.int (nI 0)), some (.int (nI 8)), some (.int n)]) (st' := [.int (-1000000003), .ref 0]) (σ' := (α, μ)) (pc' := 59) kX11_sheet_56 rfl rfl rf_a0 ?_
        refine ok_V (As := [.int (-1000000003)]) (b := 0) (st := []) mkX11_error qX11_sheet_59 rfl (rc_0) rfl rfl rfl rfl (Nat.le_of_ble_eq_true rfl) (c_error (k := 3) (by decide) (by decide) (by decide)) ?_
        refine ok_reti eX11_sheet_62 rfl ?_
        refine ⟨rfl, _, rfl, ?_⟩
        refine ok_step (ps := []) (L' := [some (.ref 94), some (.int (nI 0)), some (.int (nI 8)), some (.int n), none]) (st' := [.int (nI 0)]) (σ' := (rf_w α 93 3 (α 93 3 + nI 1), μ)) (pc' := 1) kX12_sheet_0 rfl rfl rf_a0 ?_
        refine ok_S (As := [.int (nI 0)]) (st := []) mkX12_isSheet qX12_sheet_1 rfl rfl rfl rfl rfl (Nat.le_of_ble_eq_true rfl) (m_isSheet) ?_
        rw [show bI (wi (nI 0) (nI 0) (nI 3)) = nI 1 from rfl]
        refine ok_if_eq bX12_sheet_4 (fun g4 => absurd g4 ((by decide))) (fun _ => ?_)
        refine ok_step (ps := []) (L' := [some (.ref 94), some (.int (nI 0)), some (.int (nI 8)), some (.int n), none]) (st' := [.int (nI 8)]) (σ' := (rf_w α 93 3 (α 93 3 + nI 1), μ)) (pc' := 8) kX12_sheet_7 rfl rfl rf_a0 ?_
        refine ok_if_eq bX12_sheet_8 (fun g8 => absurd g8 ((by decide))) (fun _ => ?_)
        refine ok_step (ps := []) (L' := [some (.ref 94), some (.int (nI 0)), some (.int (nI 8)), some (.int n), none]) (st' := [.int (nI 8), .int (nI 8)]) (σ' := (rf_w α 93 3 (α 93 3 + nI 1), μ)) (pc' := 14) kX12_sheet_11 rfl rfl rf_a0 ?_
        refine ok_icmp_eq bX12_sheet_14 (fun _ => ?_) (fun g14 => absurd ((by decide)) g14)
        refine ok_step (ps := []) (L' := [some (.ref 94), some (.int (nI 0)), some (.int (nI 8)), some (.int n), none]) (st' := [.int (nI 8)]) (σ' := (rf_w α 93 3 (α 93 3 + nI 1), μ)) (pc' := 36) kX12_sheet_35 rfl rfl rf_a0 ?_
        refine ok_if_eq bX12_sheet_36 (fun g36 => absurd g36 ((by decide))) (fun _ => ?_)
        refine ok_step (ps := []) (L' := [some (.ref 94), some (.int (nI 0)), some (.int (nI 8)), some (.int n), none]) (st' := [.int n]) (σ' := (rf_w α 93 3 (α 93 3 + nI 1), μ)) (pc' := 40) kX12_sheet_39 rfl rfl rf_a0 ?_
        refine ok_if_ge bX12_sheet_40 (fun g40 => absurd g40 (h53)) (fun _ => ?_)
        refine ok_step (ps := []) (L' := [some (.ref 94), some (.int (nI 0)), some (.int (nI 8)), some (.int n), none]) (st' := [.int (nI 3), .ref 94]) (σ' := (rf_w α 93 3 (α 93 3 + nI 1), μ)) (pc' := 45) kX12_sheet_43 rfl rfl rf_a0 ?_
        refine ok_V (As := [.int (nI 3)]) (b := 94) (st := []) mkX12_finds qX12_sheet_45 rfl (rc_94) rfl rfl rfl rfl (Nat.le_of_ble_eq_true rfl) (m_finds (k := 3) (by decide)) ?_
        refine ok_reti eX12_sheet_48 rfl ?_
        exact ⟨rfl, _, rfl, hJ.err (k := 3) (by decide)⟩
    · refine ok_step (ps := []) (L' := [some (.ref 0), some (.int (nI 0)), some (.int bits), some (.int n)]) (st' := [.int (nI 16), .int bits]) (σ' := (α, μ)) (pc' := 21) kX11_sheet_18 rfl rfl rf_a0 ?_
      refine ok_icmp_eq bX11_sheet_21 (fun h21 => ?_) (fun h21 => ?_)
      · obtain rfl : bits = nI 16 := h21
        refine ok_step (ps := []) (L' := [some (.ref 0), some (.int (nI 0)), some (.int (nI 16)), some (.int n)]) (st' := [.int (nI 16)]) (σ' := (α, μ)) (pc' := 38) kX11_sheet_37 rfl rfl rf_a0 ?_
        refine ok_if_ne bX11_sheet_38 (fun _ => ?_) (fun h38 => absurd h38 ((by decide)))
        refine ok_step (ps := []) (L' := [some (.ref 0), some (.int (nI 0)), some (.int (nI 16)), some (.int n)]) (st' := [.int n]) (σ' := (α, μ)) (pc' := 53) kX11_sheet_52 rfl rfl rf_a0 ?_
        refine ok_if_ge bX11_sheet_53 (fun h53 => ?_) (fun h53 => ?_)
        · refine ok_step (ps := []) (L' := [some (.ref 0), some (.int (nI 0)), some (.int (nI 16)), some (.int n)]) (st' := [.int (nI 40), .int n]) (σ' := (α, μ)) (pc' := 66) kX11_sheet_63 rfl rfl rf_a0 ?_
          refine ok_icmp_le bX11_sheet_66 (fun h66 => ?_) (fun h66 => ?_)
          · obtain ⟨m, hm, rfl⟩ := i_of h53 h66 (by omega)
            refine ok_step (ps := []) (L' := [some (.ref 0), some (.int (nI 0)), some (.int (nI 16)), some (.int (nI m))]) (st' := [.int (nI m), .int (nI 16), .int (nI 0), .ref 85]) (σ' := (α, μ)) (pc' := 83) kX11_sheet_76 rfl rfl rf_a0 ?_
            have hc83 : rf_At (rf_T Ln xs) MX6_clear 50 0 ([some (.ref 85), some (.int (nI 0)), some (.int (nI 16)), some (.int (nI m))], [], 108, (α, μ)) (some (.int (nI 1))) 108 (rf_r (rf_w (rf_w α 86 0 (nI 16)) 87 0 (nI m)) 89 (fl 0 40 (nI 0) ((rf_w (rf_w α 86 0 (nI 16)) 87 0 (nI m)) 89)), μ) := by
              refine rf_pa ?_
              refine ok_step (ps := [rf_in (nI 0) 4, rf_in (nI 0) 4, rf_in (nI 0) 4]) (L' := [some (.ref 85), some (.int (nI 0)), some (.int (nI 16)), some (.int (nI m))]) (st' := [.int (nI 0), .ref 89]) (σ' := (rf_w (rf_w α 86 ((nI 0).toNatClampNeg) (nI 16)) 87 ((nI 0).toNatClampNeg) (nI m), μ)) (pc' := 21) kX6_clear_0 rfl rfl (rf_a1 (rf_in_n (a := 0) rfl (by omega)) (rf_a1 (rf_in_n (a := 0) rfl (by omega)) (rf_a1 (rf_in_n (a := 0) rfl (by omega)) rf_a0))) ?_
              try rw [(show (nI 0).toNatClampNeg = 0 from rf_cl_n rfl (by omega))]
              refine ok_S (As := [.ref 89, .int (nI 0)]) (st := []) mkJ7_fill_53178 qX6_clear_21 rfl rfl rfl rfl rfl (Nat.le_of_ble_eq_true rfl) (fill89) ?_
              refine ok_step (ps := []) (L' := [some (.ref 85), some (.int (nI 0)), some (.int (nI 16)), some (.int (nI m))]) (st' := [.int (nI 1)]) (σ' := (rf_r (rf_w (rf_w α 86 0 (nI 16)) 87 0 (nI m)) 89 (fl 0 40 (nI 0) ((rf_w (rf_w α 86 0 (nI 16)) 87 0 (nI m)) 89)), μ)) (pc' := 25) kX6_clear_24 rfl rfl rf_a0 ?_
              refine ok_reti eX6_clear_25 rfl ?_
              exact ⟨rfl, rfl⟩
            refine ok_V (As := [.int (nI 0), .int (nI 16), .int (nI m)]) (b := 85) (st := []) mkX6_clear qX11_sheet_83 rfl (rc_85) rfl rfl rfl rfl (Nat.le_of_ble_eq_true rfl) (hc83) ?_
            refine ok_reti eX11_sheet_86 rfl ?_
            refine ⟨rfl, _, rfl, ?_⟩
            refine ok_step (ps := []) (L' := [some (.ref 94), some (.int (nI 0)), some (.int (nI 16)), some (.int (nI m)), none]) (st' := [.int (nI 0)]) (σ' := (rf_r (rf_w (rf_w α 86 0 (nI 16)) 87 0 (nI m)) 89 (fl 0 40 (nI 0) ((rf_w (rf_w α 86 0 (nI 16)) 87 0 (nI m)) 89)), μ)) (pc' := 1) kX12_sheet_0 rfl rfl rf_a0 ?_
            refine ok_S (As := [.int (nI 0)]) (st := []) mkX12_isSheet qX12_sheet_1 rfl rfl rfl rfl rfl (Nat.le_of_ble_eq_true rfl) (m_isSheet) ?_
            rw [show bI (wi (nI 0) (nI 0) (nI 3)) = nI 1 from rfl]
            refine ok_if_eq bX12_sheet_4 (fun g4 => absurd g4 ((by decide))) (fun _ => ?_)
            refine ok_step (ps := []) (L' := [some (.ref 94), some (.int (nI 0)), some (.int (nI 16)), some (.int (nI m)), none]) (st' := [.int (nI 16)]) (σ' := (rf_r (rf_w (rf_w α 86 0 (nI 16)) 87 0 (nI m)) 89 (fl 0 40 (nI 0) ((rf_w (rf_w α 86 0 (nI 16)) 87 0 (nI m)) 89)), μ)) (pc' := 8) kX12_sheet_7 rfl rfl rf_a0 ?_
            refine ok_if_eq bX12_sheet_8 (fun g8 => absurd g8 ((by decide))) (fun _ => ?_)
            refine ok_step (ps := []) (L' := [some (.ref 94), some (.int (nI 0)), some (.int (nI 16)), some (.int (nI m)), none]) (st' := [.int (nI 8), .int (nI 16)]) (σ' := (rf_r (rf_w (rf_w α 86 0 (nI 16)) 87 0 (nI m)) 89 (fl 0 40 (nI 0) ((rf_w (rf_w α 86 0 (nI 16)) 87 0 (nI m)) 89)), μ)) (pc' := 14) kX12_sheet_11 rfl rfl rf_a0 ?_
            refine ok_icmp_eq bX12_sheet_14 (fun g14 => absurd g14 ((by decide))) (fun _ => ?_)
            refine ok_step (ps := []) (L' := [some (.ref 94), some (.int (nI 0)), some (.int (nI 16)), some (.int (nI m)), none]) (st' := [.int (nI 16), .int (nI 16)]) (σ' := (rf_r (rf_w (rf_w α 86 0 (nI 16)) 87 0 (nI m)) 89 (fl 0 40 (nI 0) ((rf_w (rf_w α 86 0 (nI 16)) 87 0 (nI m)) 89)), μ)) (pc' := 20) kX12_sheet_17 rfl rfl rf_a0 ?_
            refine ok_icmp_eq bX12_sheet_20 (fun _ => ?_) (fun g20 => absurd ((by decide)) g20)
            refine ok_step (ps := []) (L' := [some (.ref 94), some (.int (nI 0)), some (.int (nI 16)), some (.int (nI m)), none]) (st' := [.int (nI 16)]) (σ' := (rf_r (rf_w (rf_w α 86 0 (nI 16)) 87 0 (nI m)) 89 (fl 0 40 (nI 0) ((rf_w (rf_w α 86 0 (nI 16)) 87 0 (nI m)) 89)), μ)) (pc' := 36) kX12_sheet_35 rfl rfl rf_a0 ?_
            refine ok_if_eq bX12_sheet_36 (fun g36 => absurd g36 ((by decide))) (fun _ => ?_)
            refine ok_step (ps := []) (L' := [some (.ref 94), some (.int (nI 0)), some (.int (nI 16)), some (.int (nI m)), none]) (st' := [.int (nI m)]) (σ' := (rf_r (rf_w (rf_w α 86 0 (nI 16)) 87 0 (nI m)) 89 (fl 0 40 (nI 0) ((rf_w (rf_w α 86 0 (nI 16)) 87 0 (nI m)) 89)), μ)) (pc' := 40) kX12_sheet_39 rfl rfl rf_a0 ?_
            refine ok_if_ge bX12_sheet_40 (fun _ => ?_) (fun g40 => absurd (h53) g40)
            refine ok_step (ps := []) (L' := [some (.ref 94), some (.int (nI 0)), some (.int (nI 16)), some (.int (nI m)), none]) (st' := [.int (nI 16)]) (σ' := (rf_r (rf_w (rf_w α 86 0 (nI 16)) 87 0 (nI m)) 89 (fl 0 40 (nI 0) ((rf_w (rf_w α 86 0 (nI 16)) 87 0 (nI m)) 89)), μ)) (pc' := 50) kX12_sheet_49 rfl rfl rf_a0 ?_
            refine ok_if_eq bX12_sheet_50 (fun g50 => absurd g50 ((by decide))) (fun _ => ?_)
            refine ok_step (ps := []) (L' := [some (.ref 94), some (.int (nI 0)), some (.int (nI 16)), some (.int (nI m)), none]) (st' := [.int (nI 40), .int (nI m)]) (σ' := (rf_r (rf_w (rf_w α 86 0 (nI 16)) 87 0 (nI m)) 89 (fl 0 40 (nI 0) ((rf_w (rf_w α 86 0 (nI 16)) 87 0 (nI m)) 89)), μ)) (pc' := 56) kX12_sheet_53 rfl rfl rf_a0 ?_
            refine ok_icmp_le bX12_sheet_56 (fun _ => ?_) (fun g56 => absurd (h66) g56)
            refine ok_step (ps := [rf_in (nI 0) 4]) (L' := [some (.ref 94), some (.int (nI 0)), some (.int (nI 16)), some (.int (nI m)), none]) (st' := [.int (nI 16), .int (nI 0), .ref 105]) (σ' := (rf_r (rf_w (rf_w α 86 0 (nI 16)) 87 0 (nI m)) 89 (fl 0 40 (nI 0) ((rf_w (rf_w α 86 0 (nI 16)) 87 0 (nI m)) 89)), rf_w μ 104 ((nI 0).toNatClampNeg) (nI 16))) (pc' := 78) kX12_sheet_65 rfl rfl (rf_a1 (rf_in_n (a := 0) rfl (by omega)) rf_a0) ?_
            try rw [(show (nI 0).toNatClampNeg = 0 from rf_cl_n rfl (by omega))]
            refine ok_if_ne bX12_sheet_78 (fun _ => ?_) (fun g78 => absurd g78 ((by decide)))
            refine ok_step (ps := []) (L' := [some (.ref 94), some (.int (nI 0)), some (.int (nI 16)), some (.int (nI m)), none]) (st' := [.int (nI m), .int (nI 0), .ref 105]) (σ' := (rf_r (rf_w (rf_w α 86 0 (nI 16)) 87 0 (nI m)) 89 (fl 0 40 (nI 0) ((rf_w (rf_w α 86 0 (nI 16)) 87 0 (nI m)) 89)), rf_w μ 104 0 (nI 16))) (pc' := 86) kX12_sheet_85 rfl rfl rf_a0 ?_
            refine ok_step (ps := [rf_in (nI 0) 4]) (L' := [some (.ref 94), some (.int (nI 0)), some (.int (nI 16)), some (.int (nI m)), some (.int (nI 0))]) (st' := []) (σ' := (rf_r (rf_w (rf_w α 86 0 (nI 16)) 87 0 (nI m)) 89 (fl 0 40 (nI 0) ((rf_w (rf_w α 86 0 (nI 16)) 87 0 (nI m)) 89)), rf_w (rf_w μ 104 0 (nI 16)) 105 ((nI 0).toNatClampNeg) (nI m))) (pc' := 90) kX12_sheet_86 rfl rfl (rf_a1 (rf_in_n (a := 0) rfl (by omega)) rf_a0) ?_
            try rw [(show (nI 0).toNatClampNeg = 0 from rf_cl_n rfl (by omega))]
            refine m_clr0 ?_
            exact ⟨rfl, _, rfl, hJ.sclr (s := 0) (by decide) (by decide) (by omega) rfl rfl rfl⟩
          · refine ok_step (ps := []) (L' := [some (.ref 0), some (.int (nI 0)), some (.int (nI 16)), some (.int n)]) (st' := [.int (-1000000001), .ref 0]) (σ' := (α, μ)) (pc' := 72) kX11_sheet_69 rfl rfl rf_a0 ?_
            refine ok_V (As := [.int (-1000000001)]) (b := 0) (st := []) mkX11_error qX11_sheet_72 rfl (rc_0) rfl rfl rfl rfl (Nat.le_of_ble_eq_true rfl) (c_error (k := 1) (by decide) (by decide) (by decide)) ?_
            refine ok_reti eX11_sheet_75 rfl ?_
            refine ⟨rfl, _, rfl, ?_⟩
            refine ok_step (ps := []) (L' := [some (.ref 94), some (.int (nI 0)), some (.int (nI 16)), some (.int n), none]) (st' := [.int (nI 0)]) (σ' := (rf_w α 93 1 (α 93 1 + nI 1), μ)) (pc' := 1) kX12_sheet_0 rfl rfl rf_a0 ?_
            refine ok_S (As := [.int (nI 0)]) (st := []) mkX12_isSheet qX12_sheet_1 rfl rfl rfl rfl rfl (Nat.le_of_ble_eq_true rfl) (m_isSheet) ?_
            rw [show bI (wi (nI 0) (nI 0) (nI 3)) = nI 1 from rfl]
            refine ok_if_eq bX12_sheet_4 (fun g4 => absurd g4 ((by decide))) (fun _ => ?_)
            refine ok_step (ps := []) (L' := [some (.ref 94), some (.int (nI 0)), some (.int (nI 16)), some (.int n), none]) (st' := [.int (nI 16)]) (σ' := (rf_w α 93 1 (α 93 1 + nI 1), μ)) (pc' := 8) kX12_sheet_7 rfl rfl rf_a0 ?_
            refine ok_if_eq bX12_sheet_8 (fun g8 => absurd g8 ((by decide))) (fun _ => ?_)
            refine ok_step (ps := []) (L' := [some (.ref 94), some (.int (nI 0)), some (.int (nI 16)), some (.int n), none]) (st' := [.int (nI 8), .int (nI 16)]) (σ' := (rf_w α 93 1 (α 93 1 + nI 1), μ)) (pc' := 14) kX12_sheet_11 rfl rfl rf_a0 ?_
            refine ok_icmp_eq bX12_sheet_14 (fun g14 => absurd g14 ((by decide))) (fun _ => ?_)
            refine ok_step (ps := []) (L' := [some (.ref 94), some (.int (nI 0)), some (.int (nI 16)), some (.int n), none]) (st' := [.int (nI 16), .int (nI 16)]) (σ' := (rf_w α 93 1 (α 93 1 + nI 1), μ)) (pc' := 20) kX12_sheet_17 rfl rfl rf_a0 ?_
            refine ok_icmp_eq bX12_sheet_20 (fun _ => ?_) (fun g20 => absurd ((by decide)) g20)
            refine ok_step (ps := []) (L' := [some (.ref 94), some (.int (nI 0)), some (.int (nI 16)), some (.int n), none]) (st' := [.int (nI 16)]) (σ' := (rf_w α 93 1 (α 93 1 + nI 1), μ)) (pc' := 36) kX12_sheet_35 rfl rfl rf_a0 ?_
            refine ok_if_eq bX12_sheet_36 (fun g36 => absurd g36 ((by decide))) (fun _ => ?_)
            refine ok_step (ps := []) (L' := [some (.ref 94), some (.int (nI 0)), some (.int (nI 16)), some (.int n), none]) (st' := [.int n]) (σ' := (rf_w α 93 1 (α 93 1 + nI 1), μ)) (pc' := 40) kX12_sheet_39 rfl rfl rf_a0 ?_
            refine ok_if_ge bX12_sheet_40 (fun _ => ?_) (fun g40 => absurd (h53) g40)
            refine ok_step (ps := []) (L' := [some (.ref 94), some (.int (nI 0)), some (.int (nI 16)), some (.int n), none]) (st' := [.int (nI 16)]) (σ' := (rf_w α 93 1 (α 93 1 + nI 1), μ)) (pc' := 50) kX12_sheet_49 rfl rfl rf_a0 ?_
            refine ok_if_eq bX12_sheet_50 (fun g50 => absurd g50 ((by decide))) (fun _ => ?_)
            refine ok_step (ps := []) (L' := [some (.ref 94), some (.int (nI 0)), some (.int (nI 16)), some (.int n), none]) (st' := [.int (nI 40), .int n]) (σ' := (rf_w α 93 1 (α 93 1 + nI 1), μ)) (pc' := 56) kX12_sheet_53 rfl rfl rf_a0 ?_
            refine ok_icmp_le bX12_sheet_56 (fun g56 => absurd g56 (h66)) (fun _ => ?_)
            refine ok_step (ps := []) (L' := [some (.ref 94), some (.int (nI 0)), some (.int (nI 16)), some (.int n), none]) (st' := [.int (nI 1), .ref 94]) (σ' := (rf_w α 93 1 (α 93 1 + nI 1), μ)) (pc' := 61) kX12_sheet_59 rfl rfl rf_a0 ?_
            refine ok_V (As := [.int (nI 1)]) (b := 94) (st := []) mkX12_finds qX12_sheet_61 rfl (rc_94) rfl rfl rfl rfl (Nat.le_of_ble_eq_true rfl) (m_finds (k := 1) (by decide)) ?_
            refine ok_reti eX12_sheet_64 rfl ?_
            exact ⟨rfl, _, rfl, hJ.err (k := 1) (by decide)⟩
        · refine ok_step (ps := []) (L' := [some (.ref 0), some (.int (nI 0)), some (.int (nI 16)), some (.int n)]) (st' := [.int (-1000000003), .ref 0]) (σ' := (α, μ)) (pc' := 59) kX11_sheet_56 rfl rfl rf_a0 ?_
          refine ok_V (As := [.int (-1000000003)]) (b := 0) (st := []) mkX11_error qX11_sheet_59 rfl (rc_0) rfl rfl rfl rfl (Nat.le_of_ble_eq_true rfl) (c_error (k := 3) (by decide) (by decide) (by decide)) ?_
          refine ok_reti eX11_sheet_62 rfl ?_
          refine ⟨rfl, _, rfl, ?_⟩
          refine ok_step (ps := []) (L' := [some (.ref 94), some (.int (nI 0)), some (.int (nI 16)), some (.int n), none]) (st' := [.int (nI 0)]) (σ' := (rf_w α 93 3 (α 93 3 + nI 1), μ)) (pc' := 1) kX12_sheet_0 rfl rfl rf_a0 ?_
          refine ok_S (As := [.int (nI 0)]) (st := []) mkX12_isSheet qX12_sheet_1 rfl rfl rfl rfl rfl (Nat.le_of_ble_eq_true rfl) (m_isSheet) ?_
          rw [show bI (wi (nI 0) (nI 0) (nI 3)) = nI 1 from rfl]
          refine ok_if_eq bX12_sheet_4 (fun g4 => absurd g4 ((by decide))) (fun _ => ?_)
          refine ok_step (ps := []) (L' := [some (.ref 94), some (.int (nI 0)), some (.int (nI 16)), some (.int n), none]) (st' := [.int (nI 16)]) (σ' := (rf_w α 93 3 (α 93 3 + nI 1), μ)) (pc' := 8) kX12_sheet_7 rfl rfl rf_a0 ?_
          refine ok_if_eq bX12_sheet_8 (fun g8 => absurd g8 ((by decide))) (fun _ => ?_)
          refine ok_step (ps := []) (L' := [some (.ref 94), some (.int (nI 0)), some (.int (nI 16)), some (.int n), none]) (st' := [.int (nI 8), .int (nI 16)]) (σ' := (rf_w α 93 3 (α 93 3 + nI 1), μ)) (pc' := 14) kX12_sheet_11 rfl rfl rf_a0 ?_
          refine ok_icmp_eq bX12_sheet_14 (fun g14 => absurd g14 ((by decide))) (fun _ => ?_)
          refine ok_step (ps := []) (L' := [some (.ref 94), some (.int (nI 0)), some (.int (nI 16)), some (.int n), none]) (st' := [.int (nI 16), .int (nI 16)]) (σ' := (rf_w α 93 3 (α 93 3 + nI 1), μ)) (pc' := 20) kX12_sheet_17 rfl rfl rf_a0 ?_
          refine ok_icmp_eq bX12_sheet_20 (fun _ => ?_) (fun g20 => absurd ((by decide)) g20)
          refine ok_step (ps := []) (L' := [some (.ref 94), some (.int (nI 0)), some (.int (nI 16)), some (.int n), none]) (st' := [.int (nI 16)]) (σ' := (rf_w α 93 3 (α 93 3 + nI 1), μ)) (pc' := 36) kX12_sheet_35 rfl rfl rf_a0 ?_
          refine ok_if_eq bX12_sheet_36 (fun g36 => absurd g36 ((by decide))) (fun _ => ?_)
          refine ok_step (ps := []) (L' := [some (.ref 94), some (.int (nI 0)), some (.int (nI 16)), some (.int n), none]) (st' := [.int n]) (σ' := (rf_w α 93 3 (α 93 3 + nI 1), μ)) (pc' := 40) kX12_sheet_39 rfl rfl rf_a0 ?_
          refine ok_if_ge bX12_sheet_40 (fun g40 => absurd g40 (h53)) (fun _ => ?_)
          refine ok_step (ps := []) (L' := [some (.ref 94), some (.int (nI 0)), some (.int (nI 16)), some (.int n), none]) (st' := [.int (nI 3), .ref 94]) (σ' := (rf_w α 93 3 (α 93 3 + nI 1), μ)) (pc' := 45) kX12_sheet_43 rfl rfl rf_a0 ?_
          refine ok_V (As := [.int (nI 3)]) (b := 94) (st := []) mkX12_finds qX12_sheet_45 rfl (rc_94) rfl rfl rfl rfl (Nat.le_of_ble_eq_true rfl) (m_finds (k := 3) (by decide)) ?_
          refine ok_reti eX12_sheet_48 rfl ?_
          exact ⟨rfl, _, rfl, hJ.err (k := 3) (by decide)⟩
      · refine ok_step (ps := []) (L' := [some (.ref 0), some (.int (nI 0)), some (.int bits), some (.int n)]) (st' := [.int (nI 32), .int bits]) (σ' := (α, μ)) (pc' := 27) kX11_sheet_24 rfl rfl rf_a0 ?_
        refine ok_icmp_eq bX11_sheet_27 (fun h27 => ?_) (fun h27 => ?_)
        · obtain rfl : bits = nI 32 := h27
          refine ok_step (ps := []) (L' := [some (.ref 0), some (.int (nI 0)), some (.int (nI 32)), some (.int n)]) (st' := [.int (nI 32)]) (σ' := (α, μ)) (pc' := 38) kX11_sheet_37 rfl rfl rf_a0 ?_
          refine ok_if_ne bX11_sheet_38 (fun _ => ?_) (fun h38 => absurd h38 ((by decide)))
          refine ok_step (ps := []) (L' := [some (.ref 0), some (.int (nI 0)), some (.int (nI 32)), some (.int n)]) (st' := [.int n]) (σ' := (α, μ)) (pc' := 53) kX11_sheet_52 rfl rfl rf_a0 ?_
          refine ok_if_ge bX11_sheet_53 (fun h53 => ?_) (fun h53 => ?_)
          · refine ok_step (ps := []) (L' := [some (.ref 0), some (.int (nI 0)), some (.int (nI 32)), some (.int n)]) (st' := [.int (nI 40), .int n]) (σ' := (α, μ)) (pc' := 66) kX11_sheet_63 rfl rfl rf_a0 ?_
            refine ok_icmp_le bX11_sheet_66 (fun h66 => ?_) (fun h66 => ?_)
            · obtain ⟨m, hm, rfl⟩ := i_of h53 h66 (by omega)
              refine ok_step (ps := []) (L' := [some (.ref 0), some (.int (nI 0)), some (.int (nI 32)), some (.int (nI m))]) (st' := [.int (nI m), .int (nI 32), .int (nI 0), .ref 85]) (σ' := (α, μ)) (pc' := 83) kX11_sheet_76 rfl rfl rf_a0 ?_
              have hc83 : rf_At (rf_T Ln xs) MX6_clear 50 0 ([some (.ref 85), some (.int (nI 0)), some (.int (nI 32)), some (.int (nI m))], [], 108, (α, μ)) (some (.int (nI 1))) 108 (rf_r (rf_w (rf_w α 86 0 (nI 32)) 87 0 (nI m)) 89 (fl 0 40 (nI 0) ((rf_w (rf_w α 86 0 (nI 32)) 87 0 (nI m)) 89)), μ) := by
                refine rf_pa ?_
                refine ok_step (ps := [rf_in (nI 0) 4, rf_in (nI 0) 4, rf_in (nI 0) 4]) (L' := [some (.ref 85), some (.int (nI 0)), some (.int (nI 32)), some (.int (nI m))]) (st' := [.int (nI 0), .ref 89]) (σ' := (rf_w (rf_w α 86 ((nI 0).toNatClampNeg) (nI 32)) 87 ((nI 0).toNatClampNeg) (nI m), μ)) (pc' := 21) kX6_clear_0 rfl rfl (rf_a1 (rf_in_n (a := 0) rfl (by omega)) (rf_a1 (rf_in_n (a := 0) rfl (by omega)) (rf_a1 (rf_in_n (a := 0) rfl (by omega)) rf_a0))) ?_
                try rw [(show (nI 0).toNatClampNeg = 0 from rf_cl_n rfl (by omega))]
                refine ok_S (As := [.ref 89, .int (nI 0)]) (st := []) mkJ7_fill_53178 qX6_clear_21 rfl rfl rfl rfl rfl (Nat.le_of_ble_eq_true rfl) (fill89) ?_
                refine ok_step (ps := []) (L' := [some (.ref 85), some (.int (nI 0)), some (.int (nI 32)), some (.int (nI m))]) (st' := [.int (nI 1)]) (σ' := (rf_r (rf_w (rf_w α 86 0 (nI 32)) 87 0 (nI m)) 89 (fl 0 40 (nI 0) ((rf_w (rf_w α 86 0 (nI 32)) 87 0 (nI m)) 89)), μ)) (pc' := 25) kX6_clear_24 rfl rfl rf_a0 ?_
                refine ok_reti eX6_clear_25 rfl ?_
                exact ⟨rfl, rfl⟩
              refine ok_V (As := [.int (nI 0), .int (nI 32), .int (nI m)]) (b := 85) (st := []) mkX6_clear qX11_sheet_83 rfl (rc_85) rfl rfl rfl rfl (Nat.le_of_ble_eq_true rfl) (hc83) ?_
              refine ok_reti eX11_sheet_86 rfl ?_
              refine ⟨rfl, _, rfl, ?_⟩
              refine ok_step (ps := []) (L' := [some (.ref 94), some (.int (nI 0)), some (.int (nI 32)), some (.int (nI m)), none]) (st' := [.int (nI 0)]) (σ' := (rf_r (rf_w (rf_w α 86 0 (nI 32)) 87 0 (nI m)) 89 (fl 0 40 (nI 0) ((rf_w (rf_w α 86 0 (nI 32)) 87 0 (nI m)) 89)), μ)) (pc' := 1) kX12_sheet_0 rfl rfl rf_a0 ?_
              refine ok_S (As := [.int (nI 0)]) (st := []) mkX12_isSheet qX12_sheet_1 rfl rfl rfl rfl rfl (Nat.le_of_ble_eq_true rfl) (m_isSheet) ?_
              rw [show bI (wi (nI 0) (nI 0) (nI 3)) = nI 1 from rfl]
              refine ok_if_eq bX12_sheet_4 (fun g4 => absurd g4 ((by decide))) (fun _ => ?_)
              refine ok_step (ps := []) (L' := [some (.ref 94), some (.int (nI 0)), some (.int (nI 32)), some (.int (nI m)), none]) (st' := [.int (nI 32)]) (σ' := (rf_r (rf_w (rf_w α 86 0 (nI 32)) 87 0 (nI m)) 89 (fl 0 40 (nI 0) ((rf_w (rf_w α 86 0 (nI 32)) 87 0 (nI m)) 89)), μ)) (pc' := 8) kX12_sheet_7 rfl rfl rf_a0 ?_
              refine ok_if_eq bX12_sheet_8 (fun g8 => absurd g8 ((by decide))) (fun _ => ?_)
              refine ok_step (ps := []) (L' := [some (.ref 94), some (.int (nI 0)), some (.int (nI 32)), some (.int (nI m)), none]) (st' := [.int (nI 8), .int (nI 32)]) (σ' := (rf_r (rf_w (rf_w α 86 0 (nI 32)) 87 0 (nI m)) 89 (fl 0 40 (nI 0) ((rf_w (rf_w α 86 0 (nI 32)) 87 0 (nI m)) 89)), μ)) (pc' := 14) kX12_sheet_11 rfl rfl rf_a0 ?_
              refine ok_icmp_eq bX12_sheet_14 (fun g14 => absurd g14 ((by decide))) (fun _ => ?_)
              refine ok_step (ps := []) (L' := [some (.ref 94), some (.int (nI 0)), some (.int (nI 32)), some (.int (nI m)), none]) (st' := [.int (nI 16), .int (nI 32)]) (σ' := (rf_r (rf_w (rf_w α 86 0 (nI 32)) 87 0 (nI m)) 89 (fl 0 40 (nI 0) ((rf_w (rf_w α 86 0 (nI 32)) 87 0 (nI m)) 89)), μ)) (pc' := 20) kX12_sheet_17 rfl rfl rf_a0 ?_
              refine ok_icmp_eq bX12_sheet_20 (fun g20 => absurd g20 ((by decide))) (fun _ => ?_)
              refine ok_step (ps := []) (L' := [some (.ref 94), some (.int (nI 0)), some (.int (nI 32)), some (.int (nI m)), none]) (st' := [.int (nI 32), .int (nI 32)]) (σ' := (rf_r (rf_w (rf_w α 86 0 (nI 32)) 87 0 (nI m)) 89 (fl 0 40 (nI 0) ((rf_w (rf_w α 86 0 (nI 32)) 87 0 (nI m)) 89)), μ)) (pc' := 26) kX12_sheet_23 rfl rfl rf_a0 ?_
              refine ok_icmp_eq bX12_sheet_26 (fun _ => ?_) (fun g26 => absurd ((by decide)) g26)
              refine ok_step (ps := []) (L' := [some (.ref 94), some (.int (nI 0)), some (.int (nI 32)), some (.int (nI m)), none]) (st' := [.int (nI 32)]) (σ' := (rf_r (rf_w (rf_w α 86 0 (nI 32)) 87 0 (nI m)) 89 (fl 0 40 (nI 0) ((rf_w (rf_w α 86 0 (nI 32)) 87 0 (nI m)) 89)), μ)) (pc' := 36) kX12_sheet_35 rfl rfl rf_a0 ?_
              refine ok_if_eq bX12_sheet_36 (fun g36 => absurd g36 ((by decide))) (fun _ => ?_)
              refine ok_step (ps := []) (L' := [some (.ref 94), some (.int (nI 0)), some (.int (nI 32)), some (.int (nI m)), none]) (st' := [.int (nI m)]) (σ' := (rf_r (rf_w (rf_w α 86 0 (nI 32)) 87 0 (nI m)) 89 (fl 0 40 (nI 0) ((rf_w (rf_w α 86 0 (nI 32)) 87 0 (nI m)) 89)), μ)) (pc' := 40) kX12_sheet_39 rfl rfl rf_a0 ?_
              refine ok_if_ge bX12_sheet_40 (fun _ => ?_) (fun g40 => absurd (h53) g40)
              refine ok_step (ps := []) (L' := [some (.ref 94), some (.int (nI 0)), some (.int (nI 32)), some (.int (nI m)), none]) (st' := [.int (nI 32)]) (σ' := (rf_r (rf_w (rf_w α 86 0 (nI 32)) 87 0 (nI m)) 89 (fl 0 40 (nI 0) ((rf_w (rf_w α 86 0 (nI 32)) 87 0 (nI m)) 89)), μ)) (pc' := 50) kX12_sheet_49 rfl rfl rf_a0 ?_
              refine ok_if_eq bX12_sheet_50 (fun g50 => absurd g50 ((by decide))) (fun _ => ?_)
              refine ok_step (ps := []) (L' := [some (.ref 94), some (.int (nI 0)), some (.int (nI 32)), some (.int (nI m)), none]) (st' := [.int (nI 40), .int (nI m)]) (σ' := (rf_r (rf_w (rf_w α 86 0 (nI 32)) 87 0 (nI m)) 89 (fl 0 40 (nI 0) ((rf_w (rf_w α 86 0 (nI 32)) 87 0 (nI m)) 89)), μ)) (pc' := 56) kX12_sheet_53 rfl rfl rf_a0 ?_
              refine ok_icmp_le bX12_sheet_56 (fun _ => ?_) (fun g56 => absurd (h66) g56)
              refine ok_step (ps := [rf_in (nI 0) 4]) (L' := [some (.ref 94), some (.int (nI 0)), some (.int (nI 32)), some (.int (nI m)), none]) (st' := [.int (nI 32), .int (nI 0), .ref 105]) (σ' := (rf_r (rf_w (rf_w α 86 0 (nI 32)) 87 0 (nI m)) 89 (fl 0 40 (nI 0) ((rf_w (rf_w α 86 0 (nI 32)) 87 0 (nI m)) 89)), rf_w μ 104 ((nI 0).toNatClampNeg) (nI 32))) (pc' := 78) kX12_sheet_65 rfl rfl (rf_a1 (rf_in_n (a := 0) rfl (by omega)) rf_a0) ?_
              try rw [(show (nI 0).toNatClampNeg = 0 from rf_cl_n rfl (by omega))]
              refine ok_if_ne bX12_sheet_78 (fun _ => ?_) (fun g78 => absurd g78 ((by decide)))
              refine ok_step (ps := []) (L' := [some (.ref 94), some (.int (nI 0)), some (.int (nI 32)), some (.int (nI m)), none]) (st' := [.int (nI m), .int (nI 0), .ref 105]) (σ' := (rf_r (rf_w (rf_w α 86 0 (nI 32)) 87 0 (nI m)) 89 (fl 0 40 (nI 0) ((rf_w (rf_w α 86 0 (nI 32)) 87 0 (nI m)) 89)), rf_w μ 104 0 (nI 32))) (pc' := 86) kX12_sheet_85 rfl rfl rf_a0 ?_
              refine ok_step (ps := [rf_in (nI 0) 4]) (L' := [some (.ref 94), some (.int (nI 0)), some (.int (nI 32)), some (.int (nI m)), some (.int (nI 0))]) (st' := []) (σ' := (rf_r (rf_w (rf_w α 86 0 (nI 32)) 87 0 (nI m)) 89 (fl 0 40 (nI 0) ((rf_w (rf_w α 86 0 (nI 32)) 87 0 (nI m)) 89)), rf_w (rf_w μ 104 0 (nI 32)) 105 ((nI 0).toNatClampNeg) (nI m))) (pc' := 90) kX12_sheet_86 rfl rfl (rf_a1 (rf_in_n (a := 0) rfl (by omega)) rf_a0) ?_
              try rw [(show (nI 0).toNatClampNeg = 0 from rf_cl_n rfl (by omega))]
              refine m_clr0 ?_
              exact ⟨rfl, _, rfl, hJ.sclr (s := 0) (by decide) (by decide) (by omega) rfl rfl rfl⟩
            · refine ok_step (ps := []) (L' := [some (.ref 0), some (.int (nI 0)), some (.int (nI 32)), some (.int n)]) (st' := [.int (-1000000001), .ref 0]) (σ' := (α, μ)) (pc' := 72) kX11_sheet_69 rfl rfl rf_a0 ?_
              refine ok_V (As := [.int (-1000000001)]) (b := 0) (st := []) mkX11_error qX11_sheet_72 rfl (rc_0) rfl rfl rfl rfl (Nat.le_of_ble_eq_true rfl) (c_error (k := 1) (by decide) (by decide) (by decide)) ?_
              refine ok_reti eX11_sheet_75 rfl ?_
              refine ⟨rfl, _, rfl, ?_⟩
              refine ok_step (ps := []) (L' := [some (.ref 94), some (.int (nI 0)), some (.int (nI 32)), some (.int n), none]) (st' := [.int (nI 0)]) (σ' := (rf_w α 93 1 (α 93 1 + nI 1), μ)) (pc' := 1) kX12_sheet_0 rfl rfl rf_a0 ?_
              refine ok_S (As := [.int (nI 0)]) (st := []) mkX12_isSheet qX12_sheet_1 rfl rfl rfl rfl rfl (Nat.le_of_ble_eq_true rfl) (m_isSheet) ?_
              rw [show bI (wi (nI 0) (nI 0) (nI 3)) = nI 1 from rfl]
              refine ok_if_eq bX12_sheet_4 (fun g4 => absurd g4 ((by decide))) (fun _ => ?_)
              refine ok_step (ps := []) (L' := [some (.ref 94), some (.int (nI 0)), some (.int (nI 32)), some (.int n), none]) (st' := [.int (nI 32)]) (σ' := (rf_w α 93 1 (α 93 1 + nI 1), μ)) (pc' := 8) kX12_sheet_7 rfl rfl rf_a0 ?_
              refine ok_if_eq bX12_sheet_8 (fun g8 => absurd g8 ((by decide))) (fun _ => ?_)
              refine ok_step (ps := []) (L' := [some (.ref 94), some (.int (nI 0)), some (.int (nI 32)), some (.int n), none]) (st' := [.int (nI 8), .int (nI 32)]) (σ' := (rf_w α 93 1 (α 93 1 + nI 1), μ)) (pc' := 14) kX12_sheet_11 rfl rfl rf_a0 ?_
              refine ok_icmp_eq bX12_sheet_14 (fun g14 => absurd g14 ((by decide))) (fun _ => ?_)
              refine ok_step (ps := []) (L' := [some (.ref 94), some (.int (nI 0)), some (.int (nI 32)), some (.int n), none]) (st' := [.int (nI 16), .int (nI 32)]) (σ' := (rf_w α 93 1 (α 93 1 + nI 1), μ)) (pc' := 20) kX12_sheet_17 rfl rfl rf_a0 ?_
              refine ok_icmp_eq bX12_sheet_20 (fun g20 => absurd g20 ((by decide))) (fun _ => ?_)
              refine ok_step (ps := []) (L' := [some (.ref 94), some (.int (nI 0)), some (.int (nI 32)), some (.int n), none]) (st' := [.int (nI 32), .int (nI 32)]) (σ' := (rf_w α 93 1 (α 93 1 + nI 1), μ)) (pc' := 26) kX12_sheet_23 rfl rfl rf_a0 ?_
              refine ok_icmp_eq bX12_sheet_26 (fun _ => ?_) (fun g26 => absurd ((by decide)) g26)
              refine ok_step (ps := []) (L' := [some (.ref 94), some (.int (nI 0)), some (.int (nI 32)), some (.int n), none]) (st' := [.int (nI 32)]) (σ' := (rf_w α 93 1 (α 93 1 + nI 1), μ)) (pc' := 36) kX12_sheet_35 rfl rfl rf_a0 ?_
              refine ok_if_eq bX12_sheet_36 (fun g36 => absurd g36 ((by decide))) (fun _ => ?_)
              refine ok_step (ps := []) (L' := [some (.ref 94), some (.int (nI 0)), some (.int (nI 32)), some (.int n), none]) (st' := [.int n]) (σ' := (rf_w α 93 1 (α 93 1 + nI 1), μ)) (pc' := 40) kX12_sheet_39 rfl rfl rf_a0 ?_
              refine ok_if_ge bX12_sheet_40 (fun _ => ?_) (fun g40 => absurd (h53) g40)
              refine ok_step (ps := []) (L' := [some (.ref 94), some (.int (nI 0)), some (.int (nI 32)), some (.int n), none]) (st' := [.int (nI 32)]) (σ' := (rf_w α 93 1 (α 93 1 + nI 1), μ)) (pc' := 50) kX12_sheet_49 rfl rfl rf_a0 ?_
              refine ok_if_eq bX12_sheet_50 (fun g50 => absurd g50 ((by decide))) (fun _ => ?_)
              refine ok_step (ps := []) (L' := [some (.ref 94), some (.int (nI 0)), some (.int (nI 32)), some (.int n), none]) (st' := [.int (nI 40), .int n]) (σ' := (rf_w α 93 1 (α 93 1 + nI 1), μ)) (pc' := 56) kX12_sheet_53 rfl rfl rf_a0 ?_
              refine ok_icmp_le bX12_sheet_56 (fun g56 => absurd g56 (h66)) (fun _ => ?_)
              refine ok_step (ps := []) (L' := [some (.ref 94), some (.int (nI 0)), some (.int (nI 32)), some (.int n), none]) (st' := [.int (nI 1), .ref 94]) (σ' := (rf_w α 93 1 (α 93 1 + nI 1), μ)) (pc' := 61) kX12_sheet_59 rfl rfl rf_a0 ?_
              refine ok_V (As := [.int (nI 1)]) (b := 94) (st := []) mkX12_finds qX12_sheet_61 rfl (rc_94) rfl rfl rfl rfl (Nat.le_of_ble_eq_true rfl) (m_finds (k := 1) (by decide)) ?_
              refine ok_reti eX12_sheet_64 rfl ?_
              exact ⟨rfl, _, rfl, hJ.err (k := 1) (by decide)⟩
          · refine ok_step (ps := []) (L' := [some (.ref 0), some (.int (nI 0)), some (.int (nI 32)), some (.int n)]) (st' := [.int (-1000000003), .ref 0]) (σ' := (α, μ)) (pc' := 59) kX11_sheet_56 rfl rfl rf_a0 ?_
            refine ok_V (As := [.int (-1000000003)]) (b := 0) (st := []) mkX11_error qX11_sheet_59 rfl (rc_0) rfl rfl rfl rfl (Nat.le_of_ble_eq_true rfl) (c_error (k := 3) (by decide) (by decide) (by decide)) ?_
            refine ok_reti eX11_sheet_62 rfl ?_
            refine ⟨rfl, _, rfl, ?_⟩
            refine ok_step (ps := []) (L' := [some (.ref 94), some (.int (nI 0)), some (.int (nI 32)), some (.int n), none]) (st' := [.int (nI 0)]) (σ' := (rf_w α 93 3 (α 93 3 + nI 1), μ)) (pc' := 1) kX12_sheet_0 rfl rfl rf_a0 ?_
            refine ok_S (As := [.int (nI 0)]) (st := []) mkX12_isSheet qX12_sheet_1 rfl rfl rfl rfl rfl (Nat.le_of_ble_eq_true rfl) (m_isSheet) ?_
            rw [show bI (wi (nI 0) (nI 0) (nI 3)) = nI 1 from rfl]
            refine ok_if_eq bX12_sheet_4 (fun g4 => absurd g4 ((by decide))) (fun _ => ?_)
            refine ok_step (ps := []) (L' := [some (.ref 94), some (.int (nI 0)), some (.int (nI 32)), some (.int n), none]) (st' := [.int (nI 32)]) (σ' := (rf_w α 93 3 (α 93 3 + nI 1), μ)) (pc' := 8) kX12_sheet_7 rfl rfl rf_a0 ?_
            refine ok_if_eq bX12_sheet_8 (fun g8 => absurd g8 ((by decide))) (fun _ => ?_)
            refine ok_step (ps := []) (L' := [some (.ref 94), some (.int (nI 0)), some (.int (nI 32)), some (.int n), none]) (st' := [.int (nI 8), .int (nI 32)]) (σ' := (rf_w α 93 3 (α 93 3 + nI 1), μ)) (pc' := 14) kX12_sheet_11 rfl rfl rf_a0 ?_
            refine ok_icmp_eq bX12_sheet_14 (fun g14 => absurd g14 ((by decide))) (fun _ => ?_)
            refine ok_step (ps := []) (L' := [some (.ref 94), some (.int (nI 0)), some (.int (nI 32)), some (.int n), none]) (st' := [.int (nI 16), .int (nI 32)]) (σ' := (rf_w α 93 3 (α 93 3 + nI 1), μ)) (pc' := 20) kX12_sheet_17 rfl rfl rf_a0 ?_
            refine ok_icmp_eq bX12_sheet_20 (fun g20 => absurd g20 ((by decide))) (fun _ => ?_)
            refine ok_step (ps := []) (L' := [some (.ref 94), some (.int (nI 0)), some (.int (nI 32)), some (.int n), none]) (st' := [.int (nI 32), .int (nI 32)]) (σ' := (rf_w α 93 3 (α 93 3 + nI 1), μ)) (pc' := 26) kX12_sheet_23 rfl rfl rf_a0 ?_
            refine ok_icmp_eq bX12_sheet_26 (fun _ => ?_) (fun g26 => absurd ((by decide)) g26)
            refine ok_step (ps := []) (L' := [some (.ref 94), some (.int (nI 0)), some (.int (nI 32)), some (.int n), none]) (st' := [.int (nI 32)]) (σ' := (rf_w α 93 3 (α 93 3 + nI 1), μ)) (pc' := 36) kX12_sheet_35 rfl rfl rf_a0 ?_
            refine ok_if_eq bX12_sheet_36 (fun g36 => absurd g36 ((by decide))) (fun _ => ?_)
            refine ok_step (ps := []) (L' := [some (.ref 94), some (.int (nI 0)), some (.int (nI 32)), some (.int n), none]) (st' := [.int n]) (σ' := (rf_w α 93 3 (α 93 3 + nI 1), μ)) (pc' := 40) kX12_sheet_39 rfl rfl rf_a0 ?_
            refine ok_if_ge bX12_sheet_40 (fun g40 => absurd g40 (h53)) (fun _ => ?_)
            refine ok_step (ps := []) (L' := [some (.ref 94), some (.int (nI 0)), some (.int (nI 32)), some (.int n), none]) (st' := [.int (nI 3), .ref 94]) (σ' := (rf_w α 93 3 (α 93 3 + nI 1), μ)) (pc' := 45) kX12_sheet_43 rfl rfl rf_a0 ?_
            refine ok_V (As := [.int (nI 3)]) (b := 94) (st := []) mkX12_finds qX12_sheet_45 rfl (rc_94) rfl rfl rfl rfl (Nat.le_of_ble_eq_true rfl) (m_finds (k := 3) (by decide)) ?_
            refine ok_reti eX12_sheet_48 rfl ?_
            exact ⟨rfl, _, rfl, hJ.err (k := 3) (by decide)⟩
        · refine ok_step (ps := []) (L' := [some (.ref 0), some (.int (nI 0)), some (.int bits), some (.int n)]) (st' := [.int (-1000000001), .ref 0]) (σ' := (α, μ)) (pc' := 33) kX11_sheet_30 rfl rfl rf_a0 ?_
          refine ok_V (As := [.int (-1000000001)]) (b := 0) (st := []) mkX11_error qX11_sheet_33 rfl (rc_0) rfl rfl rfl rfl (Nat.le_of_ble_eq_true rfl) (c_error (k := 1) (by decide) (by decide) (by decide)) ?_
          refine ok_reti eX11_sheet_36 rfl ?_
          refine ⟨rfl, _, rfl, ?_⟩
          refine ok_step (ps := []) (L' := [some (.ref 94), some (.int (nI 0)), some (.int bits), some (.int n), none]) (st' := [.int (nI 0)]) (σ' := (rf_w α 93 1 (α 93 1 + nI 1), μ)) (pc' := 1) kX12_sheet_0 rfl rfl rf_a0 ?_
          refine ok_S (As := [.int (nI 0)]) (st := []) mkX12_isSheet qX12_sheet_1 rfl rfl rfl rfl rfl (Nat.le_of_ble_eq_true rfl) (m_isSheet) ?_
          rw [show bI (wi (nI 0) (nI 0) (nI 3)) = nI 1 from rfl]
          refine ok_if_eq bX12_sheet_4 (fun g4 => absurd g4 ((by decide))) (fun _ => ?_)
          refine ok_step (ps := []) (L' := [some (.ref 94), some (.int (nI 0)), some (.int bits), some (.int n), none]) (st' := [.int bits]) (σ' := (rf_w α 93 1 (α 93 1 + nI 1), μ)) (pc' := 8) kX12_sheet_7 rfl rfl rf_a0 ?_
          refine ok_if_eq bX12_sheet_8 (fun g8 => absurd g8 (h9)) (fun _ => ?_)
          refine ok_step (ps := []) (L' := [some (.ref 94), some (.int (nI 0)), some (.int bits), some (.int n), none]) (st' := [.int (nI 8), .int bits]) (σ' := (rf_w α 93 1 (α 93 1 + nI 1), μ)) (pc' := 14) kX12_sheet_11 rfl rfl rf_a0 ?_
          refine ok_icmp_eq bX12_sheet_14 (fun g14 => absurd g14 (h15)) (fun _ => ?_)
          refine ok_step (ps := []) (L' := [some (.ref 94), some (.int (nI 0)), some (.int bits), some (.int n), none]) (st' := [.int (nI 16), .int bits]) (σ' := (rf_w α 93 1 (α 93 1 + nI 1), μ)) (pc' := 20) kX12_sheet_17 rfl rfl rf_a0 ?_
          refine ok_icmp_eq bX12_sheet_20 (fun g20 => absurd g20 (h21)) (fun _ => ?_)
          refine ok_step (ps := []) (L' := [some (.ref 94), some (.int (nI 0)), some (.int bits), some (.int n), none]) (st' := [.int (nI 32), .int bits]) (σ' := (rf_w α 93 1 (α 93 1 + nI 1), μ)) (pc' := 26) kX12_sheet_23 rfl rfl rf_a0 ?_
          refine ok_icmp_eq bX12_sheet_26 (fun g26 => absurd g26 (h27)) (fun _ => ?_)
          refine ok_step (ps := []) (L' := [some (.ref 94), some (.int (nI 0)), some (.int bits), some (.int n), none]) (st' := [.int (nI 1), .ref 94]) (σ' := (rf_w α 93 1 (α 93 1 + nI 1), μ)) (pc' := 31) kX12_sheet_29 rfl rfl rf_a0 ?_
          refine ok_V (As := [.int (nI 1)]) (b := 94) (st := []) mkX12_finds qX12_sheet_31 rfl (rc_94) rfl rfl rfl rfl (Nat.le_of_ble_eq_true rfl) (m_finds (k := 1) (by decide)) ?_
          refine ok_reti eX12_sheet_34 rfl ?_
          exact ⟨rfl, _, rfl, hJ.err (k := 1) (by decide)⟩
theorem m_clr1_l {b n : Int32} {β : Nat → Nat → Int32}  : ∀ (j i : Nat), i + j = 40 → rf_Ok (rf_T Ln xs) MX12_sheet 60 90 [some (.ref 94), some (.int (nI 1)), some (.int b), some (.int n), some (.int (nI i))] [] (α, rf_r β 106 (fl 40 i (nI 0) (β 106))) (fun r s => r = some (.int (nI 1)) ∧ s = (α, rf_r β 106 (fl 40 40 (nI 0) (β 106)))) := by
  intro j
  induction j with
  | zero =>
    intro i hj
    have hj : i = 40 := by omega
    refine ok_step (ps := []) (L' := [some (.ref 94), some (.int (nI 1)), some (.int b), some (.int n), some (.int (nI i))]) (st' := [.int (nI 40), .int (nI i)]) (σ' := (α, rf_r β 106 (fl 40 i (nI 0) (β 106)))) (pc' := 94) kX12_sheet_90 rfl rfl rf_a0 ?_
    refine ok_icmp_ge bX12_sheet_94 (fun _ => ?_) (fun h94 => absurd (nI_le (by omega) (by omega)) h94)
    refine ok_step (ps := []) (L' := [some (.ref 94), some (.int (nI 1)), some (.int b), some (.int n), some (.int (nI i))]) (st' := [.int (nI 1)]) (σ' := (α, rf_r β 106 (fl 40 i (nI 0) (β 106)))) (pc' := 117) kX12_sheet_116 rfl rfl rf_a0 ?_
    refine ok_reti eX12_sheet_117 rfl ?_
    exact ⟨rfl, by rw [hj]⟩
  | succ j ih =>
    intro i hj
    refine ok_step (ps := []) (L' := [some (.ref 94), some (.int (nI 1)), some (.int b), some (.int n), some (.int (nI i))]) (st' := [.int (nI 40), .int (nI i)]) (σ' := (α, rf_r β 106 (fl 40 i (nI 0) (β 106)))) (pc' := 94) kX12_sheet_90 rfl rfl rf_a0 ?_
    refine ok_icmp_ge bX12_sheet_94 (fun h94 => absurd h94 (nI_ge (by omega) (by omega))) (fun _ => ?_)
    refine ok_step (ps := [rf_in (((nI 40) * (nI 1)) + (nI i)) 160]) (L' := [some (.ref 94), some (.int (nI 1)), some (.int b), some (.int n), some (.int ((nI i) + (nI 1)))]) (st' := []) (σ' := (α, rf_w (rf_r β 106 (fl 40 i (nI 0) (β 106))) 106 ((((nI 40) * (nI 1)) + (nI i)).toNatClampNeg) (nI 0))) (pc' := 113) kX12_sheet_97 rfl rfl (rf_a1 (rf_in_n (a := (40 + i)) (by (try rw [(show ((nI 40) * (nI 1)) = nI 40 from rf_eq (rf_nmul (x := nI 40) (y := nI 1) rfl rfl) (by omega))]); (try rw [(show ((nI 40) + (nI i)) = nI (40 + i) from rf_eq (rf_nadd (x := nI 40) (y := nI i) rfl rfl) (by omega))]); all_goals exact rfl) (by omega)) rf_a0) ?_
    try rw [(show ((nI 40) * (nI 1)) = nI 40 from rf_eq (rf_nmul (x := nI 40) (y := nI 1) rfl rfl) (by omega))]
    try rw [(show ((nI 40) + (nI i)) = nI (40 + i) from rf_eq (rf_nadd (x := nI 40) (y := nI i) rfl rfl) (by omega))]
    try rw [(show (nI (40 + i)).toNatClampNeg = (40 + i) from rf_cl_n rfl (by omega))]
    try rw [(show ((nI i) + (nI 1)) = nI (i + 1) from nI_add _ _)]
    refine ok_goto bX12_sheet_113 ?_
    rw [rfw_fl (by omega)]
    exact ih (i + 1) (by omega)
theorem m_clr1 {b n : Int32} {β : Nat → Nat → Int32} {Q : Option Value → rf_Mem → Prop} (hq : Q (some (.int (nI 1))) (α, rf_r β 106 (fl 40 40 (nI 0) (β 106)))) : rf_Ok (rf_T Ln xs) MX12_sheet 60 90 [some (.ref 94), some (.int (nI 1)), some (.int b), some (.int n), some (.int (nI 0))] [] (α, β) Q := by
  have hl := m_clr1_l (Ln := Ln) (xs := xs) (α := α) (b := b) (n := n) (β := β) 40 0 (by omega)
  rw [rfr_0] at hl
  obtain ⟨r, s, h1, h2, h3⟩ := hl
  exact ⟨r, s, h1, by rw [h2, h3]; exact hq⟩
theorem op_sheet1 {bits n : Int32} (hJ : J α μ)  : Op (rf_T Ln xs) MX11_sheet MX12_sheet [some (.ref 0), some (.int (nI 1)), some (.int bits), some (.int n)] [some (.ref 94), some (.int (nI 1)), some (.int bits), some (.int n), none] α μ := by
  have hR := hJ.1.1.1
  have hI := hJ.2
  have b0 := hI.le0
  have b1 := hI.le1
  have b2 := hI.le2
  have b3 := hI.le3
  have b4 := hI.le4
  have b5 := hI.le5
  have b6 := hI.le6
  have b8 := hI.le8
  have b9 := hI.le9
  have b11 := hI.le11
  have b12 := hI.le12
  refine ok_step (ps := []) (L' := [some (.ref 0), some (.int (nI 1)), some (.int bits), some (.int n)]) (st' := [.int (nI 1), .ref 0]) (σ' := (α, μ)) (pc' := 2) kX11_sheet_0 rfl rfl rf_a0 ?_
  refine ok_V (As := [.int (nI 1)]) (b := 0) (st := []) mkX11_isSheet qX11_sheet_2 rfl (rc_0) rfl rfl rfl rfl (Nat.le_of_ble_eq_true rfl) (c_isSheet) ?_
  rw [show bI (wi (nI 1) (nI 0) (nI 3)) = nI 1 from rfl]
  refine ok_if_eq bX11_sheet_5 (fun h5 => absurd h5 ((by decide))) (fun _ => ?_)
  refine ok_step (ps := []) (L' := [some (.ref 0), some (.int (nI 1)), some (.int bits), some (.int n)]) (st' := [.int bits]) (σ' := (α, μ)) (pc' := 9) kX11_sheet_8 rfl rfl rf_a0 ?_
  refine ok_if_eq bX11_sheet_9 (fun h9 => ?_) (fun h9 => ?_)
  · obtain rfl : bits = nI 0 := h9
    refine ok_step (ps := []) (L' := [some (.ref 0), some (.int (nI 1)), some (.int (nI 0)), some (.int n)]) (st' := [.int (nI 0)]) (σ' := (α, μ)) (pc' := 38) kX11_sheet_37 rfl rfl rf_a0 ?_
    refine ok_if_ne bX11_sheet_38 (fun h38 => absurd ((by decide)) h38) (fun _ => ?_)
    refine ok_step (ps := []) (L' := [some (.ref 0), some (.int (nI 1)), some (.int (nI 0)), some (.int n)]) (st' := [.int (nI 0), .int (nI 0), .int (nI 1), .ref 85]) (σ' := (α, μ)) (pc' := 48) kX11_sheet_41 rfl rfl rf_a0 ?_
    have hc48 : rf_At (rf_T Ln xs) MX6_clear 50 0 ([some (.ref 85), some (.int (nI 1)), some (.int (nI 0)), some (.int (nI 0))], [], 108, (α, μ)) (some (.int (nI 1))) 108 (rf_r (rf_w (rf_w α 86 1 (nI 0)) 87 1 (nI 0)) 90 (fl 0 40 (nI 0) ((rf_w (rf_w α 86 1 (nI 0)) 87 1 (nI 0)) 90)), μ) := by
      refine rf_pa ?_
      refine ok_step (ps := [rf_in (nI 1) 4, rf_in (nI 1) 4, rf_in (nI 1) 4]) (L' := [some (.ref 85), some (.int (nI 1)), some (.int (nI 0)), some (.int (nI 0))]) (st' := [.int (nI 0), .ref 90]) (σ' := (rf_w (rf_w α 86 ((nI 1).toNatClampNeg) (nI 0)) 87 ((nI 1).toNatClampNeg) (nI 0), μ)) (pc' := 21) kX6_clear_0 rfl rfl (rf_a1 (rf_in_n (a := 1) rfl (by omega)) (rf_a1 (rf_in_n (a := 1) rfl (by omega)) (rf_a1 (rf_in_n (a := 1) rfl (by omega)) rf_a0))) ?_
      try rw [(show (nI 1).toNatClampNeg = 1 from rf_cl_n rfl (by omega))]
      refine ok_S (As := [.ref 90, .int (nI 0)]) (st := []) mkJ7_fill_53178 qX6_clear_21 rfl rfl rfl rfl rfl (Nat.le_of_ble_eq_true rfl) (fill90) ?_
      refine ok_step (ps := []) (L' := [some (.ref 85), some (.int (nI 1)), some (.int (nI 0)), some (.int (nI 0))]) (st' := [.int (nI 1)]) (σ' := (rf_r (rf_w (rf_w α 86 1 (nI 0)) 87 1 (nI 0)) 90 (fl 0 40 (nI 0) ((rf_w (rf_w α 86 1 (nI 0)) 87 1 (nI 0)) 90)), μ)) (pc' := 25) kX6_clear_24 rfl rfl rf_a0 ?_
      refine ok_reti eX6_clear_25 rfl ?_
      exact ⟨rfl, rfl⟩
    refine ok_V (As := [.int (nI 1), .int (nI 0), .int (nI 0)]) (b := 85) (st := []) mkX6_clear qX11_sheet_48 rfl (rc_85) rfl rfl rfl rfl (Nat.le_of_ble_eq_true rfl) (hc48) ?_
    refine ok_reti eX11_sheet_51 rfl ?_
    refine ⟨rfl, _, rfl, ?_⟩
    refine ok_step (ps := []) (L' := [some (.ref 94), some (.int (nI 1)), some (.int (nI 0)), some (.int n), none]) (st' := [.int (nI 1)]) (σ' := (rf_r (rf_w (rf_w α 86 1 (nI 0)) 87 1 (nI 0)) 90 (fl 0 40 (nI 0) ((rf_w (rf_w α 86 1 (nI 0)) 87 1 (nI 0)) 90)), μ)) (pc' := 1) kX12_sheet_0 rfl rfl rf_a0 ?_
    refine ok_S (As := [.int (nI 1)]) (st := []) mkX12_isSheet qX12_sheet_1 rfl rfl rfl rfl rfl (Nat.le_of_ble_eq_true rfl) (m_isSheet) ?_
    rw [show bI (wi (nI 1) (nI 0) (nI 3)) = nI 1 from rfl]
    refine ok_if_eq bX12_sheet_4 (fun g4 => absurd g4 ((by decide))) (fun _ => ?_)
    refine ok_step (ps := []) (L' := [some (.ref 94), some (.int (nI 1)), some (.int (nI 0)), some (.int n), none]) (st' := [.int (nI 0)]) (σ' := (rf_r (rf_w (rf_w α 86 1 (nI 0)) 87 1 (nI 0)) 90 (fl 0 40 (nI 0) ((rf_w (rf_w α 86 1 (nI 0)) 87 1 (nI 0)) 90)), μ)) (pc' := 8) kX12_sheet_7 rfl rfl rf_a0 ?_
    refine ok_if_eq bX12_sheet_8 (fun _ => ?_) (fun g8 => absurd ((by decide)) g8)
    refine ok_step (ps := []) (L' := [some (.ref 94), some (.int (nI 1)), some (.int (nI 0)), some (.int n), none]) (st' := [.int (nI 0)]) (σ' := (rf_r (rf_w (rf_w α 86 1 (nI 0)) 87 1 (nI 0)) 90 (fl 0 40 (nI 0) ((rf_w (rf_w α 86 1 (nI 0)) 87 1 (nI 0)) 90)), μ)) (pc' := 36) kX12_sheet_35 rfl rfl rf_a0 ?_
    refine ok_if_eq bX12_sheet_36 (fun _ => ?_) (fun g36 => absurd ((by decide)) g36)
    refine ok_step (ps := []) (L' := [some (.ref 94), some (.int (nI 1)), some (.int (nI 0)), some (.int n), none]) (st' := [.int (nI 0)]) (σ' := (rf_r (rf_w (rf_w α 86 1 (nI 0)) 87 1 (nI 0)) 90 (fl 0 40 (nI 0) ((rf_w (rf_w α 86 1 (nI 0)) 87 1 (nI 0)) 90)), μ)) (pc' := 50) kX12_sheet_49 rfl rfl rf_a0 ?_
    refine ok_if_eq bX12_sheet_50 (fun _ => ?_) (fun g50 => absurd ((by decide)) g50)
    refine ok_step (ps := [rf_in (nI 1) 4]) (L' := [some (.ref 94), some (.int (nI 1)), some (.int (nI 0)), some (.int n), none]) (st' := [.int (nI 0), .int (nI 1), .ref 105]) (σ' := (rf_r (rf_w (rf_w α 86 1 (nI 0)) 87 1 (nI 0)) 90 (fl 0 40 (nI 0) ((rf_w (rf_w α 86 1 (nI 0)) 87 1 (nI 0)) 90)), rf_w μ 104 ((nI 1).toNatClampNeg) (nI 0))) (pc' := 78) kX12_sheet_65 rfl rfl (rf_a1 (rf_in_n (a := 1) rfl (by omega)) rf_a0) ?_
    try rw [(show (nI 1).toNatClampNeg = 1 from rf_cl_n rfl (by omega))]
    refine ok_if_ne bX12_sheet_78 (fun g78 => absurd ((by decide)) g78) (fun _ => ?_)
    refine ok_step (ps := []) (L' := [some (.ref 94), some (.int (nI 1)), some (.int (nI 0)), some (.int n), none]) (st' := [.int (nI 0), .int (nI 1), .ref 105]) (σ' := (rf_r (rf_w (rf_w α 86 1 (nI 0)) 87 1 (nI 0)) 90 (fl 0 40 (nI 0) ((rf_w (rf_w α 86 1 (nI 0)) 87 1 (nI 0)) 90)), rf_w μ 104 1 (nI 0))) (pc' := 82) kX12_sheet_81 rfl rfl rf_a0 ?_
    refine ok_goto bX12_sheet_82 ?_
    refine ok_step (ps := [rf_in (nI 1) 4]) (L' := [some (.ref 94), some (.int (nI 1)), some (.int (nI 0)), some (.int n), some (.int (nI 0))]) (st' := []) (σ' := (rf_r (rf_w (rf_w α 86 1 (nI 0)) 87 1 (nI 0)) 90 (fl 0 40 (nI 0) ((rf_w (rf_w α 86 1 (nI 0)) 87 1 (nI 0)) 90)), rf_w (rf_w μ 104 1 (nI 0)) 105 ((nI 1).toNatClampNeg) (nI 0))) (pc' := 90) kX12_sheet_86 rfl rfl (rf_a1 (rf_in_n (a := 1) rfl (by omega)) rf_a0) ?_
    try rw [(show (nI 1).toNatClampNeg = 1 from rf_cl_n rfl (by omega))]
    refine m_clr1 ?_
    exact ⟨rfl, _, rfl, hJ.sclr (s := 1) (by decide) (by decide) (by omega) rfl rfl rfl⟩
  · refine ok_step (ps := []) (L' := [some (.ref 0), some (.int (nI 1)), some (.int bits), some (.int n)]) (st' := [.int (nI 8), .int bits]) (σ' := (α, μ)) (pc' := 15) kX11_sheet_12 rfl rfl rf_a0 ?_
    refine ok_icmp_eq bX11_sheet_15 (fun h15 => ?_) (fun h15 => ?_)
    · obtain rfl : bits = nI 8 := h15
      refine ok_step (ps := []) (L' := [some (.ref 0), some (.int (nI 1)), some (.int (nI 8)), some (.int n)]) (st' := [.int (nI 8)]) (σ' := (α, μ)) (pc' := 38) kX11_sheet_37 rfl rfl rf_a0 ?_
      refine ok_if_ne bX11_sheet_38 (fun _ => ?_) (fun h38 => absurd h38 ((by decide)))
      refine ok_step (ps := []) (L' := [some (.ref 0), some (.int (nI 1)), some (.int (nI 8)), some (.int n)]) (st' := [.int n]) (σ' := (α, μ)) (pc' := 53) kX11_sheet_52 rfl rfl rf_a0 ?_
      refine ok_if_ge bX11_sheet_53 (fun h53 => ?_) (fun h53 => ?_)
      · refine ok_step (ps := []) (L' := [some (.ref 0), some (.int (nI 1)), some (.int (nI 8)), some (.int n)]) (st' := [.int (nI 40), .int n]) (σ' := (α, μ)) (pc' := 66) kX11_sheet_63 rfl rfl rf_a0 ?_
        refine ok_icmp_le bX11_sheet_66 (fun h66 => ?_) (fun h66 => ?_)
        · obtain ⟨m, hm, rfl⟩ := i_of h53 h66 (by omega)
          refine ok_step (ps := []) (L' := [some (.ref 0), some (.int (nI 1)), some (.int (nI 8)), some (.int (nI m))]) (st' := [.int (nI m), .int (nI 8), .int (nI 1), .ref 85]) (σ' := (α, μ)) (pc' := 83) kX11_sheet_76 rfl rfl rf_a0 ?_
          have hc83 : rf_At (rf_T Ln xs) MX6_clear 50 0 ([some (.ref 85), some (.int (nI 1)), some (.int (nI 8)), some (.int (nI m))], [], 108, (α, μ)) (some (.int (nI 1))) 108 (rf_r (rf_w (rf_w α 86 1 (nI 8)) 87 1 (nI m)) 90 (fl 0 40 (nI 0) ((rf_w (rf_w α 86 1 (nI 8)) 87 1 (nI m)) 90)), μ) := by
            refine rf_pa ?_
            refine ok_step (ps := [rf_in (nI 1) 4, rf_in (nI 1) 4, rf_in (nI 1) 4]) (L' := [some (.ref 85), some (.int (nI 1)), some (.int (nI 8)), some (.int (nI m))]) (st' := [.int (nI 0), .ref 90]) (σ' := (rf_w (rf_w α 86 ((nI 1).toNatClampNeg) (nI 8)) 87 ((nI 1).toNatClampNeg) (nI m), μ)) (pc' := 21) kX6_clear_0 rfl rfl (rf_a1 (rf_in_n (a := 1) rfl (by omega)) (rf_a1 (rf_in_n (a := 1) rfl (by omega)) (rf_a1 (rf_in_n (a := 1) rfl (by omega)) rf_a0))) ?_
            try rw [(show (nI 1).toNatClampNeg = 1 from rf_cl_n rfl (by omega))]
            refine ok_S (As := [.ref 90, .int (nI 0)]) (st := []) mkJ7_fill_53178 qX6_clear_21 rfl rfl rfl rfl rfl (Nat.le_of_ble_eq_true rfl) (fill90) ?_
            refine ok_step (ps := []) (L' := [some (.ref 85), some (.int (nI 1)), some (.int (nI 8)), some (.int (nI m))]) (st' := [.int (nI 1)]) (σ' := (rf_r (rf_w (rf_w α 86 1 (nI 8)) 87 1 (nI m)) 90 (fl 0 40 (nI 0) ((rf_w (rf_w α 86 1 (nI 8)) 87 1 (nI m)) 90)), μ)) (pc' := 25) kX6_clear_24 rfl rfl rf_a0 ?_
            refine ok_reti eX6_clear_25 rfl ?_
            exact ⟨rfl, rfl⟩
          refine ok_V (As := [.int (nI 1), .int (nI 8), .int (nI m)]) (b := 85) (st := []) mkX6_clear qX11_sheet_83 rfl (rc_85) rfl rfl rfl rfl (Nat.le_of_ble_eq_true rfl) (hc83) ?_
          refine ok_reti eX11_sheet_86 rfl ?_
          refine ⟨rfl, _, rfl, ?_⟩
          refine ok_step (ps := []) (L' := [some (.ref 94), some (.int (nI 1)), some (.int (nI 8)), some (.int (nI m)), none]) (st' := [.int (nI 1)]) (σ' := (rf_r (rf_w (rf_w α 86 1 (nI 8)) 87 1 (nI m)) 90 (fl 0 40 (nI 0) ((rf_w (rf_w α 86 1 (nI 8)) 87 1 (nI m)) 90)), μ)) (pc' := 1) kX12_sheet_0 rfl rfl rf_a0 ?_
          refine ok_S (As := [.int (nI 1)]) (st := []) mkX12_isSheet qX12_sheet_1 rfl rfl rfl rfl rfl (Nat.le_of_ble_eq_true rfl) (m_isSheet) ?_
          rw [show bI (wi (nI 1) (nI 0) (nI 3)) = nI 1 from rfl]
          refine ok_if_eq bX12_sheet_4 (fun g4 => absurd g4 ((by decide))) (fun _ => ?_)
          refine ok_step (ps := []) (L' := [some (.ref 94), some (.int (nI 1)), some (.int (nI 8)), some (.int (nI m)), none]) (st' := [.int (nI 8)]) (σ' := (rf_r (rf_w (rf_w α 86 1 (nI 8)) 87 1 (nI m)) 90 (fl 0 40 (nI 0) ((rf_w (rf_w α 86 1 (nI 8)) 87 1 (nI m)) 90)), μ)) (pc' := 8) kX12_sheet_7 rfl rfl rf_a0 ?_
          refine ok_if_eq bX12_sheet_8 (fun g8 => absurd g8 ((by decide))) (fun _ => ?_)
          refine ok_step (ps := []) (L' := [some (.ref 94), some (.int (nI 1)), some (.int (nI 8)), some (.int (nI m)), none]) (st' := [.int (nI 8), .int (nI 8)]) (σ' := (rf_r (rf_w (rf_w α 86 1 (nI 8)) 87 1 (nI m)) 90 (fl 0 40 (nI 0) ((rf_w (rf_w α 86 1 (nI 8)) 87 1 (nI m)) 90)), μ)) (pc' := 14) kX12_sheet_11 rfl rfl rf_a0 ?_
          refine ok_icmp_eq bX12_sheet_14 (fun _ => ?_) (fun g14 => absurd ((by decide)) g14)
          refine ok_step (ps := []) (L' := [some (.ref 94), some (.int (nI 1)), some (.int (nI 8)), some (.int (nI m)), none]) (st' := [.int (nI 8)]) (σ' := (rf_r (rf_w (rf_w α 86 1 (nI 8)) 87 1 (nI m)) 90 (fl 0 40 (nI 0) ((rf_w (rf_w α 86 1 (nI 8)) 87 1 (nI m)) 90)), μ)) (pc' := 36) kX12_sheet_35 rfl rfl rf_a0 ?_
          refine ok_if_eq bX12_sheet_36 (fun g36 => absurd g36 ((by decide))) (fun _ => ?_)
          refine ok_step (ps := []) (L' := [some (.ref 94), some (.int (nI 1)), some (.int (nI 8)), some (.int (nI m)), none]) (st' := [.int (nI m)]) (σ' := (rf_r (rf_w (rf_w α 86 1 (nI 8)) 87 1 (nI m)) 90 (fl 0 40 (nI 0) ((rf_w (rf_w α 86 1 (nI 8)) 87 1 (nI m)) 90)), μ)) (pc' := 40) kX12_sheet_39 rfl rfl rf_a0 ?_
          refine ok_if_ge bX12_sheet_40 (fun _ => ?_) (fun g40 => absurd (h53) g40)
          refine ok_step (ps := []) (L' := [some (.ref 94), some (.int (nI 1)), some (.int (nI 8)), some (.int (nI m)), none]) (st' := [.int (nI 8)]) (σ' := (rf_r (rf_w (rf_w α 86 1 (nI 8)) 87 1 (nI m)) 90 (fl 0 40 (nI 0) ((rf_w (rf_w α 86 1 (nI 8)) 87 1 (nI m)) 90)), μ)) (pc' := 50) kX12_sheet_49 rfl rfl rf_a0 ?_
          refine ok_if_eq bX12_sheet_50 (fun g50 => absurd g50 ((by decide))) (fun _ => ?_)
          refine ok_step (ps := []) (L' := [some (.ref 94), some (.int (nI 1)), some (.int (nI 8)), some (.int (nI m)), none]) (st' := [.int (nI 40), .int (nI m)]) (σ' := (rf_r (rf_w (rf_w α 86 1 (nI 8)) 87 1 (nI m)) 90 (fl 0 40 (nI 0) ((rf_w (rf_w α 86 1 (nI 8)) 87 1 (nI m)) 90)), μ)) (pc' := 56) kX12_sheet_53 rfl rfl rf_a0 ?_
          refine ok_icmp_le bX12_sheet_56 (fun _ => ?_) (fun g56 => absurd (h66) g56)
          refine ok_step (ps := [rf_in (nI 1) 4]) (L' := [some (.ref 94), some (.int (nI 1)), some (.int (nI 8)), some (.int (nI m)), none]) (st' := [.int (nI 8), .int (nI 1), .ref 105]) (σ' := (rf_r (rf_w (rf_w α 86 1 (nI 8)) 87 1 (nI m)) 90 (fl 0 40 (nI 0) ((rf_w (rf_w α 86 1 (nI 8)) 87 1 (nI m)) 90)), rf_w μ 104 ((nI 1).toNatClampNeg) (nI 8))) (pc' := 78) kX12_sheet_65 rfl rfl (rf_a1 (rf_in_n (a := 1) rfl (by omega)) rf_a0) ?_
          try rw [(show (nI 1).toNatClampNeg = 1 from rf_cl_n rfl (by omega))]
          refine ok_if_ne bX12_sheet_78 (fun _ => ?_) (fun g78 => absurd g78 ((by decide)))
          refine ok_step (ps := []) (L' := [some (.ref 94), some (.int (nI 1)), some (.int (nI 8)), some (.int (nI m)), none]) (st' := [.int (nI m), .int (nI 1), .ref 105]) (σ' := (rf_r (rf_w (rf_w α 86 1 (nI 8)) 87 1 (nI m)) 90 (fl 0 40 (nI 0) ((rf_w (rf_w α 86 1 (nI 8)) 87 1 (nI m)) 90)), rf_w μ 104 1 (nI 8))) (pc' := 86) kX12_sheet_85 rfl rfl rf_a0 ?_
          refine ok_step (ps := [rf_in (nI 1) 4]) (L' := [some (.ref 94), some (.int (nI 1)), some (.int (nI 8)), some (.int (nI m)), some (.int (nI 0))]) (st' := []) (σ' := (rf_r (rf_w (rf_w α 86 1 (nI 8)) 87 1 (nI m)) 90 (fl 0 40 (nI 0) ((rf_w (rf_w α 86 1 (nI 8)) 87 1 (nI m)) 90)), rf_w (rf_w μ 104 1 (nI 8)) 105 ((nI 1).toNatClampNeg) (nI m))) (pc' := 90) kX12_sheet_86 rfl rfl (rf_a1 (rf_in_n (a := 1) rfl (by omega)) rf_a0) ?_
          try rw [(show (nI 1).toNatClampNeg = 1 from rf_cl_n rfl (by omega))]
          refine m_clr1 ?_
          exact ⟨rfl, _, rfl, hJ.sclr (s := 1) (by decide) (by decide) (by omega) rfl rfl rfl⟩
        · refine ok_step (ps := []) (L' := [some (.ref 0), some (.int (nI 1)), some (.int (nI 8)), some (.int n)]) (st' := [.int (-1000000001), .ref 0]) (σ' := (α, μ)) (pc' := 72) kX11_sheet_69 rfl rfl rf_a0 ?_
          refine ok_V (As := [.int (-1000000001)]) (b := 0) (st := []) mkX11_error qX11_sheet_72 rfl (rc_0) rfl rfl rfl rfl (Nat.le_of_ble_eq_true rfl) (c_error (k := 1) (by decide) (by decide) (by decide)) ?_
          refine ok_reti eX11_sheet_75 rfl ?_
          refine ⟨rfl, _, rfl, ?_⟩
          refine ok_step (ps := []) (L' := [some (.ref 94), some (.int (nI 1)), some (.int (nI 8)), some (.int n), none]) (st' := [.int (nI 1)]) (σ' := (rf_w α 93 1 (α 93 1 + nI 1), μ)) (pc' := 1) kX12_sheet_0 rfl rfl rf_a0 ?_
          refine ok_S (As := [.int (nI 1)]) (st := []) mkX12_isSheet qX12_sheet_1 rfl rfl rfl rfl rfl (Nat.le_of_ble_eq_true rfl) (m_isSheet) ?_
          rw [show bI (wi (nI 1) (nI 0) (nI 3)) = nI 1 from rfl]
          refine ok_if_eq bX12_sheet_4 (fun g4 => absurd g4 ((by decide))) (fun _ => ?_)
          refine ok_step (ps := []) (L' := [some (.ref 94), some (.int (nI 1)), some (.int (nI 8)), some (.int n), none]) (st' := [.int (nI 8)]) (σ' := (rf_w α 93 1 (α 93 1 + nI 1), μ)) (pc' := 8) kX12_sheet_7 rfl rfl rf_a0 ?_
          refine ok_if_eq bX12_sheet_8 (fun g8 => absurd g8 ((by decide))) (fun _ => ?_)
          refine ok_step (ps := []) (L' := [some (.ref 94), some (.int (nI 1)), some (.int (nI 8)), some (.int n), none]) (st' := [.int (nI 8), .int (nI 8)]) (σ' := (rf_w α 93 1 (α 93 1 + nI 1), μ)) (pc' := 14) kX12_sheet_11 rfl rfl rf_a0 ?_
          refine ok_icmp_eq bX12_sheet_14 (fun _ => ?_) (fun g14 => absurd ((by decide)) g14)
          refine ok_step (ps := []) (L' := [some (.ref 94), some (.int (nI 1)), some (.int (nI 8)), some (.int n), none]) (st' := [.int (nI 8)]) (σ' := (rf_w α 93 1 (α 93 1 + nI 1), μ)) (pc' := 36) kX12_sheet_35 rfl rfl rf_a0 ?_
          refine ok_if_eq bX12_sheet_36 (fun g36 => absurd g36 ((by decide))) (fun _ => ?_)
          refine ok_step (ps := []) (L' := [some (.ref 94), some (.int (nI 1)), some (.int (nI 8)), some (.int n), none]) (st' := [.int n]) (σ' := (rf_w α 93 1 (α 93 1 + nI 1), μ)) (pc' := 40) kX12_sheet_39 rfl rfl rf_a0 ?_
          refine ok_if_ge bX12_sheet_40 (fun _ => ?_) (fun g40 => absurd (h53) g40)
          refine ok_step (ps := []) (L' := [some (.ref 94), some (.int (nI 1)), some (.int (nI 8)), some (.int n), none]) (st' := [.int (nI 8)]) (σ' := (rf_w α 93 1 (α 93 1 + nI 1), μ)) (pc' := 50) kX12_sheet_49 rfl rfl rf_a0 ?_
          refine ok_if_eq bX12_sheet_50 (fun g50 => absurd g50 ((by decide))) (fun _ => ?_)
          refine ok_step (ps := []) (L' := [some (.ref 94), some (.int (nI 1)), some (.int (nI 8)), some (.int n), none]) (st' := [.int (nI 40), .int n]) (σ' := (rf_w α 93 1 (α 93 1 + nI 1), μ)) (pc' := 56) kX12_sheet_53 rfl rfl rf_a0 ?_
          refine ok_icmp_le bX12_sheet_56 (fun g56 => absurd g56 (h66)) (fun _ => ?_)
          refine ok_step (ps := []) (L' := [some (.ref 94), some (.int (nI 1)), some (.int (nI 8)), some (.int n), none]) (st' := [.int (nI 1), .ref 94]) (σ' := (rf_w α 93 1 (α 93 1 + nI 1), μ)) (pc' := 61) kX12_sheet_59 rfl rfl rf_a0 ?_
          refine ok_V (As := [.int (nI 1)]) (b := 94) (st := []) mkX12_finds qX12_sheet_61 rfl (rc_94) rfl rfl rfl rfl (Nat.le_of_ble_eq_true rfl) (m_finds (k := 1) (by decide)) ?_
          refine ok_reti eX12_sheet_64 rfl ?_
          exact ⟨rfl, _, rfl, hJ.err (k := 1) (by decide)⟩
      · refine ok_step (ps := []) (L' := [some (.ref 0), some (.int (nI 1)), some (.int (nI 8)), some (.int n)]) (st' := [.int (-1000000003), .ref 0]) (σ' := (α, μ)) (pc' := 59) kX11_sheet_56 rfl rfl rf_a0 ?_
        refine ok_V (As := [.int (-1000000003)]) (b := 0) (st := []) mkX11_error qX11_sheet_59 rfl (rc_0) rfl rfl rfl rfl (Nat.le_of_ble_eq_true rfl) (c_error (k := 3) (by decide) (by decide) (by decide)) ?_
        refine ok_reti eX11_sheet_62 rfl ?_
        refine ⟨rfl, _, rfl, ?_⟩
        refine ok_step (ps := []) (L' := [some (.ref 94), some (.int (nI 1)), some (.int (nI 8)), some (.int n), none]) (st' := [.int (nI 1)]) (σ' := (rf_w α 93 3 (α 93 3 + nI 1), μ)) (pc' := 1) kX12_sheet_0 rfl rfl rf_a0 ?_
        refine ok_S (As := [.int (nI 1)]) (st := []) mkX12_isSheet qX12_sheet_1 rfl rfl rfl rfl rfl (Nat.le_of_ble_eq_true rfl) (m_isSheet) ?_
        rw [show bI (wi (nI 1) (nI 0) (nI 3)) = nI 1 from rfl]
        refine ok_if_eq bX12_sheet_4 (fun g4 => absurd g4 ((by decide))) (fun _ => ?_)
        refine ok_step (ps := []) (L' := [some (.ref 94), some (.int (nI 1)), some (.int (nI 8)), some (.int n), none]) (st' := [.int (nI 8)]) (σ' := (rf_w α 93 3 (α 93 3 + nI 1), μ)) (pc' := 8) kX12_sheet_7 rfl rfl rf_a0 ?_
        refine ok_if_eq bX12_sheet_8 (fun g8 => absurd g8 ((by decide))) (fun _ => ?_)
        refine ok_step (ps := []) (L' := [some (.ref 94), some (.int (nI 1)), some (.int (nI 8)), some (.int n), none]) (st' := [.int (nI 8), .int (nI 8)]) (σ' := (rf_w α 93 3 (α 93 3 + nI 1), μ)) (pc' := 14) kX12_sheet_11 rfl rfl rf_a0 ?_
        refine ok_icmp_eq bX12_sheet_14 (fun _ => ?_) (fun g14 => absurd ((by decide)) g14)
        refine ok_step (ps := []) (L' := [some (.ref 94), some (.int (nI 1)), some (.int (nI 8)), some (.int n), none]) (st' := [.int (nI 8)]) (σ' := (rf_w α 93 3 (α 93 3 + nI 1), μ)) (pc' := 36) kX12_sheet_35 rfl rfl rf_a0 ?_
        refine ok_if_eq bX12_sheet_36 (fun g36 => absurd g36 ((by decide))) (fun _ => ?_)
        refine ok_step (ps := []) (L' := [some (.ref 94), some (.int (nI 1)), some (.int (nI 8)), some (.int n), none]) (st' := [.int n]) (σ' := (rf_w α 93 3 (α 93 3 + nI 1), μ)) (pc' := 40) kX12_sheet_39 rfl rfl rf_a0 ?_
        refine ok_if_ge bX12_sheet_40 (fun g40 => absurd g40 (h53)) (fun _ => ?_)
        refine ok_step (ps := []) (L' := [some (.ref 94), some (.int (nI 1)), some (.int (nI 8)), some (.int n), none]) (st' := [.int (nI 3), .ref 94]) (σ' := (rf_w α 93 3 (α 93 3 + nI 1), μ)) (pc' := 45) kX12_sheet_43 rfl rfl rf_a0 ?_
        refine ok_V (As := [.int (nI 3)]) (b := 94) (st := []) mkX12_finds qX12_sheet_45 rfl (rc_94) rfl rfl rfl rfl (Nat.le_of_ble_eq_true rfl) (m_finds (k := 3) (by decide)) ?_
        refine ok_reti eX12_sheet_48 rfl ?_
        exact ⟨rfl, _, rfl, hJ.err (k := 3) (by decide)⟩
    · refine ok_step (ps := []) (L' := [some (.ref 0), some (.int (nI 1)), some (.int bits), some (.int n)]) (st' := [.int (nI 16), .int bits]) (σ' := (α, μ)) (pc' := 21) kX11_sheet_18 rfl rfl rf_a0 ?_
      refine ok_icmp_eq bX11_sheet_21 (fun h21 => ?_) (fun h21 => ?_)
      · obtain rfl : bits = nI 16 := h21
        refine ok_step (ps := []) (L' := [some (.ref 0), some (.int (nI 1)), some (.int (nI 16)), some (.int n)]) (st' := [.int (nI 16)]) (σ' := (α, μ)) (pc' := 38) kX11_sheet_37 rfl rfl rf_a0 ?_
        refine ok_if_ne bX11_sheet_38 (fun _ => ?_) (fun h38 => absurd h38 ((by decide)))
        refine ok_step (ps := []) (L' := [some (.ref 0), some (.int (nI 1)), some (.int (nI 16)), some (.int n)]) (st' := [.int n]) (σ' := (α, μ)) (pc' := 53) kX11_sheet_52 rfl rfl rf_a0 ?_
        refine ok_if_ge bX11_sheet_53 (fun h53 => ?_) (fun h53 => ?_)
        · refine ok_step (ps := []) (L' := [some (.ref 0), some (.int (nI 1)), some (.int (nI 16)), some (.int n)]) (st' := [.int (nI 40), .int n]) (σ' := (α, μ)) (pc' := 66) kX11_sheet_63 rfl rfl rf_a0 ?_
          refine ok_icmp_le bX11_sheet_66 (fun h66 => ?_) (fun h66 => ?_)
          · obtain ⟨m, hm, rfl⟩ := i_of h53 h66 (by omega)
            refine ok_step (ps := []) (L' := [some (.ref 0), some (.int (nI 1)), some (.int (nI 16)), some (.int (nI m))]) (st' := [.int (nI m), .int (nI 16), .int (nI 1), .ref 85]) (σ' := (α, μ)) (pc' := 83) kX11_sheet_76 rfl rfl rf_a0 ?_
            have hc83 : rf_At (rf_T Ln xs) MX6_clear 50 0 ([some (.ref 85), some (.int (nI 1)), some (.int (nI 16)), some (.int (nI m))], [], 108, (α, μ)) (some (.int (nI 1))) 108 (rf_r (rf_w (rf_w α 86 1 (nI 16)) 87 1 (nI m)) 90 (fl 0 40 (nI 0) ((rf_w (rf_w α 86 1 (nI 16)) 87 1 (nI m)) 90)), μ) := by
              refine rf_pa ?_
              refine ok_step (ps := [rf_in (nI 1) 4, rf_in (nI 1) 4, rf_in (nI 1) 4]) (L' := [some (.ref 85), some (.int (nI 1)), some (.int (nI 16)), some (.int (nI m))]) (st' := [.int (nI 0), .ref 90]) (σ' := (rf_w (rf_w α 86 ((nI 1).toNatClampNeg) (nI 16)) 87 ((nI 1).toNatClampNeg) (nI m), μ)) (pc' := 21) kX6_clear_0 rfl rfl (rf_a1 (rf_in_n (a := 1) rfl (by omega)) (rf_a1 (rf_in_n (a := 1) rfl (by omega)) (rf_a1 (rf_in_n (a := 1) rfl (by omega)) rf_a0))) ?_
              try rw [(show (nI 1).toNatClampNeg = 1 from rf_cl_n rfl (by omega))]
              refine ok_S (As := [.ref 90, .int (nI 0)]) (st := []) mkJ7_fill_53178 qX6_clear_21 rfl rfl rfl rfl rfl (Nat.le_of_ble_eq_true rfl) (fill90) ?_
              refine ok_step (ps := []) (L' := [some (.ref 85), some (.int (nI 1)), some (.int (nI 16)), some (.int (nI m))]) (st' := [.int (nI 1)]) (σ' := (rf_r (rf_w (rf_w α 86 1 (nI 16)) 87 1 (nI m)) 90 (fl 0 40 (nI 0) ((rf_w (rf_w α 86 1 (nI 16)) 87 1 (nI m)) 90)), μ)) (pc' := 25) kX6_clear_24 rfl rfl rf_a0 ?_
              refine ok_reti eX6_clear_25 rfl ?_
              exact ⟨rfl, rfl⟩
            refine ok_V (As := [.int (nI 1), .int (nI 16), .int (nI m)]) (b := 85) (st := []) mkX6_clear qX11_sheet_83 rfl (rc_85) rfl rfl rfl rfl (Nat.le_of_ble_eq_true rfl) (hc83) ?_
            refine ok_reti eX11_sheet_86 rfl ?_
            refine ⟨rfl, _, rfl, ?_⟩
            refine ok_step (ps := []) (L' := [some (.ref 94), some (.int (nI 1)), some (.int (nI 16)), some (.int (nI m)), none]) (st' := [.int (nI 1)]) (σ' := (rf_r (rf_w (rf_w α 86 1 (nI 16)) 87 1 (nI m)) 90 (fl 0 40 (nI 0) ((rf_w (rf_w α 86 1 (nI 16)) 87 1 (nI m)) 90)), μ)) (pc' := 1) kX12_sheet_0 rfl rfl rf_a0 ?_
            refine ok_S (As := [.int (nI 1)]) (st := []) mkX12_isSheet qX12_sheet_1 rfl rfl rfl rfl rfl (Nat.le_of_ble_eq_true rfl) (m_isSheet) ?_
            rw [show bI (wi (nI 1) (nI 0) (nI 3)) = nI 1 from rfl]
            refine ok_if_eq bX12_sheet_4 (fun g4 => absurd g4 ((by decide))) (fun _ => ?_)
            refine ok_step (ps := []) (L' := [some (.ref 94), some (.int (nI 1)), some (.int (nI 16)), some (.int (nI m)), none]) (st' := [.int (nI 16)]) (σ' := (rf_r (rf_w (rf_w α 86 1 (nI 16)) 87 1 (nI m)) 90 (fl 0 40 (nI 0) ((rf_w (rf_w α 86 1 (nI 16)) 87 1 (nI m)) 90)), μ)) (pc' := 8) kX12_sheet_7 rfl rfl rf_a0 ?_
            refine ok_if_eq bX12_sheet_8 (fun g8 => absurd g8 ((by decide))) (fun _ => ?_)
            refine ok_step (ps := []) (L' := [some (.ref 94), some (.int (nI 1)), some (.int (nI 16)), some (.int (nI m)), none]) (st' := [.int (nI 8), .int (nI 16)]) (σ' := (rf_r (rf_w (rf_w α 86 1 (nI 16)) 87 1 (nI m)) 90 (fl 0 40 (nI 0) ((rf_w (rf_w α 86 1 (nI 16)) 87 1 (nI m)) 90)), μ)) (pc' := 14) kX12_sheet_11 rfl rfl rf_a0 ?_
            refine ok_icmp_eq bX12_sheet_14 (fun g14 => absurd g14 ((by decide))) (fun _ => ?_)
            refine ok_step (ps := []) (L' := [some (.ref 94), some (.int (nI 1)), some (.int (nI 16)), some (.int (nI m)), none]) (st' := [.int (nI 16), .int (nI 16)]) (σ' := (rf_r (rf_w (rf_w α 86 1 (nI 16)) 87 1 (nI m)) 90 (fl 0 40 (nI 0) ((rf_w (rf_w α 86 1 (nI 16)) 87 1 (nI m)) 90)), μ)) (pc' := 20) kX12_sheet_17 rfl rfl rf_a0 ?_
            refine ok_icmp_eq bX12_sheet_20 (fun _ => ?_) (fun g20 => absurd ((by decide)) g20)
            refine ok_step (ps := []) (L' := [some (.ref 94), some (.int (nI 1)), some (.int (nI 16)), some (.int (nI m)), none]) (st' := [.int (nI 16)]) (σ' := (rf_r (rf_w (rf_w α 86 1 (nI 16)) 87 1 (nI m)) 90 (fl 0 40 (nI 0) ((rf_w (rf_w α 86 1 (nI 16)) 87 1 (nI m)) 90)), μ)) (pc' := 36) kX12_sheet_35 rfl rfl rf_a0 ?_
            refine ok_if_eq bX12_sheet_36 (fun g36 => absurd g36 ((by decide))) (fun _ => ?_)
            refine ok_step (ps := []) (L' := [some (.ref 94), some (.int (nI 1)), some (.int (nI 16)), some (.int (nI m)), none]) (st' := [.int (nI m)]) (σ' := (rf_r (rf_w (rf_w α 86 1 (nI 16)) 87 1 (nI m)) 90 (fl 0 40 (nI 0) ((rf_w (rf_w α 86 1 (nI 16)) 87 1 (nI m)) 90)), μ)) (pc' := 40) kX12_sheet_39 rfl rfl rf_a0 ?_
            refine ok_if_ge bX12_sheet_40 (fun _ => ?_) (fun g40 => absurd (h53) g40)
            refine ok_step (ps := []) (L' := [some (.ref 94), some (.int (nI 1)), some (.int (nI 16)), some (.int (nI m)), none]) (st' := [.int (nI 16)]) (σ' := (rf_r (rf_w (rf_w α 86 1 (nI 16)) 87 1 (nI m)) 90 (fl 0 40 (nI 0) ((rf_w (rf_w α 86 1 (nI 16)) 87 1 (nI m)) 90)), μ)) (pc' := 50) kX12_sheet_49 rfl rfl rf_a0 ?_
            refine ok_if_eq bX12_sheet_50 (fun g50 => absurd g50 ((by decide))) (fun _ => ?_)
            refine ok_step (ps := []) (L' := [some (.ref 94), some (.int (nI 1)), some (.int (nI 16)), some (.int (nI m)), none]) (st' := [.int (nI 40), .int (nI m)]) (σ' := (rf_r (rf_w (rf_w α 86 1 (nI 16)) 87 1 (nI m)) 90 (fl 0 40 (nI 0) ((rf_w (rf_w α 86 1 (nI 16)) 87 1 (nI m)) 90)), μ)) (pc' := 56) kX12_sheet_53 rfl rfl rf_a0 ?_
            refine ok_icmp_le bX12_sheet_56 (fun _ => ?_) (fun g56 => absurd (h66) g56)
            refine ok_step (ps := [rf_in (nI 1) 4]) (L' := [some (.ref 94), some (.int (nI 1)), some (.int (nI 16)), some (.int (nI m)), none]) (st' := [.int (nI 16), .int (nI 1), .ref 105]) (σ' := (rf_r (rf_w (rf_w α 86 1 (nI 16)) 87 1 (nI m)) 90 (fl 0 40 (nI 0) ((rf_w (rf_w α 86 1 (nI 16)) 87 1 (nI m)) 90)), rf_w μ 104 ((nI 1).toNatClampNeg) (nI 16))) (pc' := 78) kX12_sheet_65 rfl rfl (rf_a1 (rf_in_n (a := 1) rfl (by omega)) rf_a0) ?_
            try rw [(show (nI 1).toNatClampNeg = 1 from rf_cl_n rfl (by omega))]
            refine ok_if_ne bX12_sheet_78 (fun _ => ?_) (fun g78 => absurd g78 ((by decide)))
            refine ok_step (ps := []) (L' := [some (.ref 94), some (.int (nI 1)), some (.int (nI 16)), some (.int (nI m)), none]) (st' := [.int (nI m), .int (nI 1), .ref 105]) (σ' := (rf_r (rf_w (rf_w α 86 1 (nI 16)) 87 1 (nI m)) 90 (fl 0 40 (nI 0) ((rf_w (rf_w α 86 1 (nI 16)) 87 1 (nI m)) 90)), rf_w μ 104 1 (nI 16))) (pc' := 86) kX12_sheet_85 rfl rfl rf_a0 ?_
            refine ok_step (ps := [rf_in (nI 1) 4]) (L' := [some (.ref 94), some (.int (nI 1)), some (.int (nI 16)), some (.int (nI m)), some (.int (nI 0))]) (st' := []) (σ' := (rf_r (rf_w (rf_w α 86 1 (nI 16)) 87 1 (nI m)) 90 (fl 0 40 (nI 0) ((rf_w (rf_w α 86 1 (nI 16)) 87 1 (nI m)) 90)), rf_w (rf_w μ 104 1 (nI 16)) 105 ((nI 1).toNatClampNeg) (nI m))) (pc' := 90) kX12_sheet_86 rfl rfl (rf_a1 (rf_in_n (a := 1) rfl (by omega)) rf_a0) ?_
            try rw [(show (nI 1).toNatClampNeg = 1 from rf_cl_n rfl (by omega))]
            refine m_clr1 ?_
            exact ⟨rfl, _, rfl, hJ.sclr (s := 1) (by decide) (by decide) (by omega) rfl rfl rfl⟩
          · refine ok_step (ps := []) (L' := [some (.ref 0), some (.int (nI 1)), some (.int (nI 16)), some (.int n)]) (st' := [.int (-1000000001), .ref 0]) (σ' := (α, μ)) (pc' := 72) kX11_sheet_69 rfl rfl rf_a0 ?_
            refine ok_V (As := [.int (-1000000001)]) (b := 0) (st := []) mkX11_error qX11_sheet_72 rfl (rc_0) rfl rfl rfl rfl (Nat.le_of_ble_eq_true rfl) (c_error (k := 1) (by decide) (by decide) (by decide)) ?_
            refine ok_reti eX11_sheet_75 rfl ?_
            refine ⟨rfl, _, rfl, ?_⟩
            refine ok_step (ps := []) (L' := [some (.ref 94), some (.int (nI 1)), some (.int (nI 16)), some (.int n), none]) (st' := [.int (nI 1)]) (σ' := (rf_w α 93 1 (α 93 1 + nI 1), μ)) (pc' := 1) kX12_sheet_0 rfl rfl rf_a0 ?_
            refine ok_S (As := [.int (nI 1)]) (st := []) mkX12_isSheet qX12_sheet_1 rfl rfl rfl rfl rfl (Nat.le_of_ble_eq_true rfl) (m_isSheet) ?_
            rw [show bI (wi (nI 1) (nI 0) (nI 3)) = nI 1 from rfl]
            refine ok_if_eq bX12_sheet_4 (fun g4 => absurd g4 ((by decide))) (fun _ => ?_)
            refine ok_step (ps := []) (L' := [some (.ref 94), some (.int (nI 1)), some (.int (nI 16)), some (.int n), none]) (st' := [.int (nI 16)]) (σ' := (rf_w α 93 1 (α 93 1 + nI 1), μ)) (pc' := 8) kX12_sheet_7 rfl rfl rf_a0 ?_
            refine ok_if_eq bX12_sheet_8 (fun g8 => absurd g8 ((by decide))) (fun _ => ?_)
            refine ok_step (ps := []) (L' := [some (.ref 94), some (.int (nI 1)), some (.int (nI 16)), some (.int n), none]) (st' := [.int (nI 8), .int (nI 16)]) (σ' := (rf_w α 93 1 (α 93 1 + nI 1), μ)) (pc' := 14) kX12_sheet_11 rfl rfl rf_a0 ?_
            refine ok_icmp_eq bX12_sheet_14 (fun g14 => absurd g14 ((by decide))) (fun _ => ?_)
            refine ok_step (ps := []) (L' := [some (.ref 94), some (.int (nI 1)), some (.int (nI 16)), some (.int n), none]) (st' := [.int (nI 16), .int (nI 16)]) (σ' := (rf_w α 93 1 (α 93 1 + nI 1), μ)) (pc' := 20) kX12_sheet_17 rfl rfl rf_a0 ?_
            refine ok_icmp_eq bX12_sheet_20 (fun _ => ?_) (fun g20 => absurd ((by decide)) g20)
            refine ok_step (ps := []) (L' := [some (.ref 94), some (.int (nI 1)), some (.int (nI 16)), some (.int n), none]) (st' := [.int (nI 16)]) (σ' := (rf_w α 93 1 (α 93 1 + nI 1), μ)) (pc' := 36) kX12_sheet_35 rfl rfl rf_a0 ?_
            refine ok_if_eq bX12_sheet_36 (fun g36 => absurd g36 ((by decide))) (fun _ => ?_)
            refine ok_step (ps := []) (L' := [some (.ref 94), some (.int (nI 1)), some (.int (nI 16)), some (.int n), none]) (st' := [.int n]) (σ' := (rf_w α 93 1 (α 93 1 + nI 1), μ)) (pc' := 40) kX12_sheet_39 rfl rfl rf_a0 ?_
            refine ok_if_ge bX12_sheet_40 (fun _ => ?_) (fun g40 => absurd (h53) g40)
            refine ok_step (ps := []) (L' := [some (.ref 94), some (.int (nI 1)), some (.int (nI 16)), some (.int n), none]) (st' := [.int (nI 16)]) (σ' := (rf_w α 93 1 (α 93 1 + nI 1), μ)) (pc' := 50) kX12_sheet_49 rfl rfl rf_a0 ?_
            refine ok_if_eq bX12_sheet_50 (fun g50 => absurd g50 ((by decide))) (fun _ => ?_)
            refine ok_step (ps := []) (L' := [some (.ref 94), some (.int (nI 1)), some (.int (nI 16)), some (.int n), none]) (st' := [.int (nI 40), .int n]) (σ' := (rf_w α 93 1 (α 93 1 + nI 1), μ)) (pc' := 56) kX12_sheet_53 rfl rfl rf_a0 ?_
            refine ok_icmp_le bX12_sheet_56 (fun g56 => absurd g56 (h66)) (fun _ => ?_)
            refine ok_step (ps := []) (L' := [some (.ref 94), some (.int (nI 1)), some (.int (nI 16)), some (.int n), none]) (st' := [.int (nI 1), .ref 94]) (σ' := (rf_w α 93 1 (α 93 1 + nI 1), μ)) (pc' := 61) kX12_sheet_59 rfl rfl rf_a0 ?_
            refine ok_V (As := [.int (nI 1)]) (b := 94) (st := []) mkX12_finds qX12_sheet_61 rfl (rc_94) rfl rfl rfl rfl (Nat.le_of_ble_eq_true rfl) (m_finds (k := 1) (by decide)) ?_
            refine ok_reti eX12_sheet_64 rfl ?_
            exact ⟨rfl, _, rfl, hJ.err (k := 1) (by decide)⟩
        · refine ok_step (ps := []) (L' := [some (.ref 0), some (.int (nI 1)), some (.int (nI 16)), some (.int n)]) (st' := [.int (-1000000003), .ref 0]) (σ' := (α, μ)) (pc' := 59) kX11_sheet_56 rfl rfl rf_a0 ?_
          refine ok_V (As := [.int (-1000000003)]) (b := 0) (st := []) mkX11_error qX11_sheet_59 rfl (rc_0) rfl rfl rfl rfl (Nat.le_of_ble_eq_true rfl) (c_error (k := 3) (by decide) (by decide) (by decide)) ?_
          refine ok_reti eX11_sheet_62 rfl ?_
          refine ⟨rfl, _, rfl, ?_⟩
          refine ok_step (ps := []) (L' := [some (.ref 94), some (.int (nI 1)), some (.int (nI 16)), some (.int n), none]) (st' := [.int (nI 1)]) (σ' := (rf_w α 93 3 (α 93 3 + nI 1), μ)) (pc' := 1) kX12_sheet_0 rfl rfl rf_a0 ?_
          refine ok_S (As := [.int (nI 1)]) (st := []) mkX12_isSheet qX12_sheet_1 rfl rfl rfl rfl rfl (Nat.le_of_ble_eq_true rfl) (m_isSheet) ?_
          rw [show bI (wi (nI 1) (nI 0) (nI 3)) = nI 1 from rfl]
          refine ok_if_eq bX12_sheet_4 (fun g4 => absurd g4 ((by decide))) (fun _ => ?_)
          refine ok_step (ps := []) (L' := [some (.ref 94), some (.int (nI 1)), some (.int (nI 16)), some (.int n), none]) (st' := [.int (nI 16)]) (σ' := (rf_w α 93 3 (α 93 3 + nI 1), μ)) (pc' := 8) kX12_sheet_7 rfl rfl rf_a0 ?_
          refine ok_if_eq bX12_sheet_8 (fun g8 => absurd g8 ((by decide))) (fun _ => ?_)
          refine ok_step (ps := []) (L' := [some (.ref 94), some (.int (nI 1)), some (.int (nI 16)), some (.int n), none]) (st' := [.int (nI 8), .int (nI 16)]) (σ' := (rf_w α 93 3 (α 93 3 + nI 1), μ)) (pc' := 14) kX12_sheet_11 rfl rfl rf_a0 ?_
          refine ok_icmp_eq bX12_sheet_14 (fun g14 => absurd g14 ((by decide))) (fun _ => ?_)
          refine ok_step (ps := []) (L' := [some (.ref 94), some (.int (nI 1)), some (.int (nI 16)), some (.int n), none]) (st' := [.int (nI 16), .int (nI 16)]) (σ' := (rf_w α 93 3 (α 93 3 + nI 1), μ)) (pc' := 20) kX12_sheet_17 rfl rfl rf_a0 ?_
          refine ok_icmp_eq bX12_sheet_20 (fun _ => ?_) (fun g20 => absurd ((by decide)) g20)
          refine ok_step (ps := []) (L' := [some (.ref 94), some (.int (nI 1)), some (.int (nI 16)), some (.int n), none]) (st' := [.int (nI 16)]) (σ' := (rf_w α 93 3 (α 93 3 + nI 1), μ)) (pc' := 36) kX12_sheet_35 rfl rfl rf_a0 ?_
          refine ok_if_eq bX12_sheet_36 (fun g36 => absurd g36 ((by decide))) (fun _ => ?_)
          refine ok_step (ps := []) (L' := [some (.ref 94), some (.int (nI 1)), some (.int (nI 16)), some (.int n), none]) (st' := [.int n]) (σ' := (rf_w α 93 3 (α 93 3 + nI 1), μ)) (pc' := 40) kX12_sheet_39 rfl rfl rf_a0 ?_
          refine ok_if_ge bX12_sheet_40 (fun g40 => absurd g40 (h53)) (fun _ => ?_)
          refine ok_step (ps := []) (L' := [some (.ref 94), some (.int (nI 1)), some (.int (nI 16)), some (.int n), none]) (st' := [.int (nI 3), .ref 94]) (σ' := (rf_w α 93 3 (α 93 3 + nI 1), μ)) (pc' := 45) kX12_sheet_43 rfl rfl rf_a0 ?_
          refine ok_V (As := [.int (nI 3)]) (b := 94) (st := []) mkX12_finds qX12_sheet_45 rfl (rc_94) rfl rfl rfl rfl (Nat.le_of_ble_eq_true rfl) (m_finds (k := 3) (by decide)) ?_
          refine ok_reti eX12_sheet_48 rfl ?_
          exact ⟨rfl, _, rfl, hJ.err (k := 3) (by decide)⟩
      · refine ok_step (ps := []) (L' := [some (.ref 0), some (.int (nI 1)), some (.int bits), some (.int n)]) (st' := [.int (nI 32), .int bits]) (σ' := (α, μ)) (pc' := 27) kX11_sheet_24 rfl rfl rf_a0 ?_
        refine ok_icmp_eq bX11_sheet_27 (fun h27 => ?_) (fun h27 => ?_)
        · obtain rfl : bits = nI 32 := h27
          refine ok_step (ps := []) (L' := [some (.ref 0), some (.int (nI 1)), some (.int (nI 32)), some (.int n)]) (st' := [.int (nI 32)]) (σ' := (α, μ)) (pc' := 38) kX11_sheet_37 rfl rfl rf_a0 ?_
          refine ok_if_ne bX11_sheet_38 (fun _ => ?_) (fun h38 => absurd h38 ((by decide)))
          refine ok_step (ps := []) (L' := [some (.ref 0), some (.int (nI 1)), some (.int (nI 32)), some (.int n)]) (st' := [.int n]) (σ' := (α, μ)) (pc' := 53) kX11_sheet_52 rfl rfl rf_a0 ?_
          refine ok_if_ge bX11_sheet_53 (fun h53 => ?_) (fun h53 => ?_)
          · refine ok_step (ps := []) (L' := [some (.ref 0), some (.int (nI 1)), some (.int (nI 32)), some (.int n)]) (st' := [.int (nI 40), .int n]) (σ' := (α, μ)) (pc' := 66) kX11_sheet_63 rfl rfl rf_a0 ?_
            refine ok_icmp_le bX11_sheet_66 (fun h66 => ?_) (fun h66 => ?_)
            · obtain ⟨m, hm, rfl⟩ := i_of h53 h66 (by omega)
              refine ok_step (ps := []) (L' := [some (.ref 0), some (.int (nI 1)), some (.int (nI 32)), some (.int (nI m))]) (st' := [.int (nI m), .int (nI 32), .int (nI 1), .ref 85]) (σ' := (α, μ)) (pc' := 83) kX11_sheet_76 rfl rfl rf_a0 ?_
              have hc83 : rf_At (rf_T Ln xs) MX6_clear 50 0 ([some (.ref 85), some (.int (nI 1)), some (.int (nI 32)), some (.int (nI m))], [], 108, (α, μ)) (some (.int (nI 1))) 108 (rf_r (rf_w (rf_w α 86 1 (nI 32)) 87 1 (nI m)) 90 (fl 0 40 (nI 0) ((rf_w (rf_w α 86 1 (nI 32)) 87 1 (nI m)) 90)), μ) := by
                refine rf_pa ?_
                refine ok_step (ps := [rf_in (nI 1) 4, rf_in (nI 1) 4, rf_in (nI 1) 4]) (L' := [some (.ref 85), some (.int (nI 1)), some (.int (nI 32)), some (.int (nI m))]) (st' := [.int (nI 0), .ref 90]) (σ' := (rf_w (rf_w α 86 ((nI 1).toNatClampNeg) (nI 32)) 87 ((nI 1).toNatClampNeg) (nI m), μ)) (pc' := 21) kX6_clear_0 rfl rfl (rf_a1 (rf_in_n (a := 1) rfl (by omega)) (rf_a1 (rf_in_n (a := 1) rfl (by omega)) (rf_a1 (rf_in_n (a := 1) rfl (by omega)) rf_a0))) ?_
                try rw [(show (nI 1).toNatClampNeg = 1 from rf_cl_n rfl (by omega))]
                refine ok_S (As := [.ref 90, .int (nI 0)]) (st := []) mkJ7_fill_53178 qX6_clear_21 rfl rfl rfl rfl rfl (Nat.le_of_ble_eq_true rfl) (fill90) ?_
                refine ok_step (ps := []) (L' := [some (.ref 85), some (.int (nI 1)), some (.int (nI 32)), some (.int (nI m))]) (st' := [.int (nI 1)]) (σ' := (rf_r (rf_w (rf_w α 86 1 (nI 32)) 87 1 (nI m)) 90 (fl 0 40 (nI 0) ((rf_w (rf_w α 86 1 (nI 32)) 87 1 (nI m)) 90)), μ)) (pc' := 25) kX6_clear_24 rfl rfl rf_a0 ?_
                refine ok_reti eX6_clear_25 rfl ?_
                exact ⟨rfl, rfl⟩
              refine ok_V (As := [.int (nI 1), .int (nI 32), .int (nI m)]) (b := 85) (st := []) mkX6_clear qX11_sheet_83 rfl (rc_85) rfl rfl rfl rfl (Nat.le_of_ble_eq_true rfl) (hc83) ?_
              refine ok_reti eX11_sheet_86 rfl ?_
              refine ⟨rfl, _, rfl, ?_⟩
              refine ok_step (ps := []) (L' := [some (.ref 94), some (.int (nI 1)), some (.int (nI 32)), some (.int (nI m)), none]) (st' := [.int (nI 1)]) (σ' := (rf_r (rf_w (rf_w α 86 1 (nI 32)) 87 1 (nI m)) 90 (fl 0 40 (nI 0) ((rf_w (rf_w α 86 1 (nI 32)) 87 1 (nI m)) 90)), μ)) (pc' := 1) kX12_sheet_0 rfl rfl rf_a0 ?_
              refine ok_S (As := [.int (nI 1)]) (st := []) mkX12_isSheet qX12_sheet_1 rfl rfl rfl rfl rfl (Nat.le_of_ble_eq_true rfl) (m_isSheet) ?_
              rw [show bI (wi (nI 1) (nI 0) (nI 3)) = nI 1 from rfl]
              refine ok_if_eq bX12_sheet_4 (fun g4 => absurd g4 ((by decide))) (fun _ => ?_)
              refine ok_step (ps := []) (L' := [some (.ref 94), some (.int (nI 1)), some (.int (nI 32)), some (.int (nI m)), none]) (st' := [.int (nI 32)]) (σ' := (rf_r (rf_w (rf_w α 86 1 (nI 32)) 87 1 (nI m)) 90 (fl 0 40 (nI 0) ((rf_w (rf_w α 86 1 (nI 32)) 87 1 (nI m)) 90)), μ)) (pc' := 8) kX12_sheet_7 rfl rfl rf_a0 ?_
              refine ok_if_eq bX12_sheet_8 (fun g8 => absurd g8 ((by decide))) (fun _ => ?_)
              refine ok_step (ps := []) (L' := [some (.ref 94), some (.int (nI 1)), some (.int (nI 32)), some (.int (nI m)), none]) (st' := [.int (nI 8), .int (nI 32)]) (σ' := (rf_r (rf_w (rf_w α 86 1 (nI 32)) 87 1 (nI m)) 90 (fl 0 40 (nI 0) ((rf_w (rf_w α 86 1 (nI 32)) 87 1 (nI m)) 90)), μ)) (pc' := 14) kX12_sheet_11 rfl rfl rf_a0 ?_
              refine ok_icmp_eq bX12_sheet_14 (fun g14 => absurd g14 ((by decide))) (fun _ => ?_)
              refine ok_step (ps := []) (L' := [some (.ref 94), some (.int (nI 1)), some (.int (nI 32)), some (.int (nI m)), none]) (st' := [.int (nI 16), .int (nI 32)]) (σ' := (rf_r (rf_w (rf_w α 86 1 (nI 32)) 87 1 (nI m)) 90 (fl 0 40 (nI 0) ((rf_w (rf_w α 86 1 (nI 32)) 87 1 (nI m)) 90)), μ)) (pc' := 20) kX12_sheet_17 rfl rfl rf_a0 ?_
              refine ok_icmp_eq bX12_sheet_20 (fun g20 => absurd g20 ((by decide))) (fun _ => ?_)
              refine ok_step (ps := []) (L' := [some (.ref 94), some (.int (nI 1)), some (.int (nI 32)), some (.int (nI m)), none]) (st' := [.int (nI 32), .int (nI 32)]) (σ' := (rf_r (rf_w (rf_w α 86 1 (nI 32)) 87 1 (nI m)) 90 (fl 0 40 (nI 0) ((rf_w (rf_w α 86 1 (nI 32)) 87 1 (nI m)) 90)), μ)) (pc' := 26) kX12_sheet_23 rfl rfl rf_a0 ?_
              refine ok_icmp_eq bX12_sheet_26 (fun _ => ?_) (fun g26 => absurd ((by decide)) g26)
              refine ok_step (ps := []) (L' := [some (.ref 94), some (.int (nI 1)), some (.int (nI 32)), some (.int (nI m)), none]) (st' := [.int (nI 32)]) (σ' := (rf_r (rf_w (rf_w α 86 1 (nI 32)) 87 1 (nI m)) 90 (fl 0 40 (nI 0) ((rf_w (rf_w α 86 1 (nI 32)) 87 1 (nI m)) 90)), μ)) (pc' := 36) kX12_sheet_35 rfl rfl rf_a0 ?_
              refine ok_if_eq bX12_sheet_36 (fun g36 => absurd g36 ((by decide))) (fun _ => ?_)
              refine ok_step (ps := []) (L' := [some (.ref 94), some (.int (nI 1)), some (.int (nI 32)), some (.int (nI m)), none]) (st' := [.int (nI m)]) (σ' := (rf_r (rf_w (rf_w α 86 1 (nI 32)) 87 1 (nI m)) 90 (fl 0 40 (nI 0) ((rf_w (rf_w α 86 1 (nI 32)) 87 1 (nI m)) 90)), μ)) (pc' := 40) kX12_sheet_39 rfl rfl rf_a0 ?_
              refine ok_if_ge bX12_sheet_40 (fun _ => ?_) (fun g40 => absurd (h53) g40)
              refine ok_step (ps := []) (L' := [some (.ref 94), some (.int (nI 1)), some (.int (nI 32)), some (.int (nI m)), none]) (st' := [.int (nI 32)]) (σ' := (rf_r (rf_w (rf_w α 86 1 (nI 32)) 87 1 (nI m)) 90 (fl 0 40 (nI 0) ((rf_w (rf_w α 86 1 (nI 32)) 87 1 (nI m)) 90)), μ)) (pc' := 50) kX12_sheet_49 rfl rfl rf_a0 ?_
              refine ok_if_eq bX12_sheet_50 (fun g50 => absurd g50 ((by decide))) (fun _ => ?_)
              refine ok_step (ps := []) (L' := [some (.ref 94), some (.int (nI 1)), some (.int (nI 32)), some (.int (nI m)), none]) (st' := [.int (nI 40), .int (nI m)]) (σ' := (rf_r (rf_w (rf_w α 86 1 (nI 32)) 87 1 (nI m)) 90 (fl 0 40 (nI 0) ((rf_w (rf_w α 86 1 (nI 32)) 87 1 (nI m)) 90)), μ)) (pc' := 56) kX12_sheet_53 rfl rfl rf_a0 ?_
              refine ok_icmp_le bX12_sheet_56 (fun _ => ?_) (fun g56 => absurd (h66) g56)
              refine ok_step (ps := [rf_in (nI 1) 4]) (L' := [some (.ref 94), some (.int (nI 1)), some (.int (nI 32)), some (.int (nI m)), none]) (st' := [.int (nI 32), .int (nI 1), .ref 105]) (σ' := (rf_r (rf_w (rf_w α 86 1 (nI 32)) 87 1 (nI m)) 90 (fl 0 40 (nI 0) ((rf_w (rf_w α 86 1 (nI 32)) 87 1 (nI m)) 90)), rf_w μ 104 ((nI 1).toNatClampNeg) (nI 32))) (pc' := 78) kX12_sheet_65 rfl rfl (rf_a1 (rf_in_n (a := 1) rfl (by omega)) rf_a0) ?_
              try rw [(show (nI 1).toNatClampNeg = 1 from rf_cl_n rfl (by omega))]
              refine ok_if_ne bX12_sheet_78 (fun _ => ?_) (fun g78 => absurd g78 ((by decide)))
              refine ok_step (ps := []) (L' := [some (.ref 94), some (.int (nI 1)), some (.int (nI 32)), some (.int (nI m)), none]) (st' := [.int (nI m), .int (nI 1), .ref 105]) (σ' := (rf_r (rf_w (rf_w α 86 1 (nI 32)) 87 1 (nI m)) 90 (fl 0 40 (nI 0) ((rf_w (rf_w α 86 1 (nI 32)) 87 1 (nI m)) 90)), rf_w μ 104 1 (nI 32))) (pc' := 86) kX12_sheet_85 rfl rfl rf_a0 ?_
              refine ok_step (ps := [rf_in (nI 1) 4]) (L' := [some (.ref 94), some (.int (nI 1)), some (.int (nI 32)), some (.int (nI m)), some (.int (nI 0))]) (st' := []) (σ' := (rf_r (rf_w (rf_w α 86 1 (nI 32)) 87 1 (nI m)) 90 (fl 0 40 (nI 0) ((rf_w (rf_w α 86 1 (nI 32)) 87 1 (nI m)) 90)), rf_w (rf_w μ 104 1 (nI 32)) 105 ((nI 1).toNatClampNeg) (nI m))) (pc' := 90) kX12_sheet_86 rfl rfl (rf_a1 (rf_in_n (a := 1) rfl (by omega)) rf_a0) ?_
              try rw [(show (nI 1).toNatClampNeg = 1 from rf_cl_n rfl (by omega))]
              refine m_clr1 ?_
              exact ⟨rfl, _, rfl, hJ.sclr (s := 1) (by decide) (by decide) (by omega) rfl rfl rfl⟩
            · refine ok_step (ps := []) (L' := [some (.ref 0), some (.int (nI 1)), some (.int (nI 32)), some (.int n)]) (st' := [.int (-1000000001), .ref 0]) (σ' := (α, μ)) (pc' := 72) kX11_sheet_69 rfl rfl rf_a0 ?_
              refine ok_V (As := [.int (-1000000001)]) (b := 0) (st := []) mkX11_error qX11_sheet_72 rfl (rc_0) rfl rfl rfl rfl (Nat.le_of_ble_eq_true rfl) (c_error (k := 1) (by decide) (by decide) (by decide)) ?_
              refine ok_reti eX11_sheet_75 rfl ?_
              refine ⟨rfl, _, rfl, ?_⟩
              refine ok_step (ps := []) (L' := [some (.ref 94), some (.int (nI 1)), some (.int (nI 32)), some (.int n), none]) (st' := [.int (nI 1)]) (σ' := (rf_w α 93 1 (α 93 1 + nI 1), μ)) (pc' := 1) kX12_sheet_0 rfl rfl rf_a0 ?_
              refine ok_S (As := [.int (nI 1)]) (st := []) mkX12_isSheet qX12_sheet_1 rfl rfl rfl rfl rfl (Nat.le_of_ble_eq_true rfl) (m_isSheet) ?_
              rw [show bI (wi (nI 1) (nI 0) (nI 3)) = nI 1 from rfl]
              refine ok_if_eq bX12_sheet_4 (fun g4 => absurd g4 ((by decide))) (fun _ => ?_)
              refine ok_step (ps := []) (L' := [some (.ref 94), some (.int (nI 1)), some (.int (nI 32)), some (.int n), none]) (st' := [.int (nI 32)]) (σ' := (rf_w α 93 1 (α 93 1 + nI 1), μ)) (pc' := 8) kX12_sheet_7 rfl rfl rf_a0 ?_
              refine ok_if_eq bX12_sheet_8 (fun g8 => absurd g8 ((by decide))) (fun _ => ?_)
              refine ok_step (ps := []) (L' := [some (.ref 94), some (.int (nI 1)), some (.int (nI 32)), some (.int n), none]) (st' := [.int (nI 8), .int (nI 32)]) (σ' := (rf_w α 93 1 (α 93 1 + nI 1), μ)) (pc' := 14) kX12_sheet_11 rfl rfl rf_a0 ?_
              refine ok_icmp_eq bX12_sheet_14 (fun g14 => absurd g14 ((by decide))) (fun _ => ?_)
              refine ok_step (ps := []) (L' := [some (.ref 94), some (.int (nI 1)), some (.int (nI 32)), some (.int n), none]) (st' := [.int (nI 16), .int (nI 32)]) (σ' := (rf_w α 93 1 (α 93 1 + nI 1), μ)) (pc' := 20) kX12_sheet_17 rfl rfl rf_a0 ?_
              refine ok_icmp_eq bX12_sheet_20 (fun g20 => absurd g20 ((by decide))) (fun _ => ?_)
              refine ok_step (ps := []) (L' := [some (.ref 94), some (.int (nI 1)), some (.int (nI 32)), some (.int n), none]) (st' := [.int (nI 32), .int (nI 32)]) (σ' := (rf_w α 93 1 (α 93 1 + nI 1), μ)) (pc' := 26) kX12_sheet_23 rfl rfl rf_a0 ?_
              refine ok_icmp_eq bX12_sheet_26 (fun _ => ?_) (fun g26 => absurd ((by decide)) g26)
              refine ok_step (ps := []) (L' := [some (.ref 94), some (.int (nI 1)), some (.int (nI 32)), some (.int n), none]) (st' := [.int (nI 32)]) (σ' := (rf_w α 93 1 (α 93 1 + nI 1), μ)) (pc' := 36) kX12_sheet_35 rfl rfl rf_a0 ?_
              refine ok_if_eq bX12_sheet_36 (fun g36 => absurd g36 ((by decide))) (fun _ => ?_)
              refine ok_step (ps := []) (L' := [some (.ref 94), some (.int (nI 1)), some (.int (nI 32)), some (.int n), none]) (st' := [.int n]) (σ' := (rf_w α 93 1 (α 93 1 + nI 1), μ)) (pc' := 40) kX12_sheet_39 rfl rfl rf_a0 ?_
              refine ok_if_ge bX12_sheet_40 (fun _ => ?_) (fun g40 => absurd (h53) g40)
              refine ok_step (ps := []) (L' := [some (.ref 94), some (.int (nI 1)), some (.int (nI 32)), some (.int n), none]) (st' := [.int (nI 32)]) (σ' := (rf_w α 93 1 (α 93 1 + nI 1), μ)) (pc' := 50) kX12_sheet_49 rfl rfl rf_a0 ?_
              refine ok_if_eq bX12_sheet_50 (fun g50 => absurd g50 ((by decide))) (fun _ => ?_)
              refine ok_step (ps := []) (L' := [some (.ref 94), some (.int (nI 1)), some (.int (nI 32)), some (.int n), none]) (st' := [.int (nI 40), .int n]) (σ' := (rf_w α 93 1 (α 93 1 + nI 1), μ)) (pc' := 56) kX12_sheet_53 rfl rfl rf_a0 ?_
              refine ok_icmp_le bX12_sheet_56 (fun g56 => absurd g56 (h66)) (fun _ => ?_)
              refine ok_step (ps := []) (L' := [some (.ref 94), some (.int (nI 1)), some (.int (nI 32)), some (.int n), none]) (st' := [.int (nI 1), .ref 94]) (σ' := (rf_w α 93 1 (α 93 1 + nI 1), μ)) (pc' := 61) kX12_sheet_59 rfl rfl rf_a0 ?_
              refine ok_V (As := [.int (nI 1)]) (b := 94) (st := []) mkX12_finds qX12_sheet_61 rfl (rc_94) rfl rfl rfl rfl (Nat.le_of_ble_eq_true rfl) (m_finds (k := 1) (by decide)) ?_
              refine ok_reti eX12_sheet_64 rfl ?_
              exact ⟨rfl, _, rfl, hJ.err (k := 1) (by decide)⟩
          · refine ok_step (ps := []) (L' := [some (.ref 0), some (.int (nI 1)), some (.int (nI 32)), some (.int n)]) (st' := [.int (-1000000003), .ref 0]) (σ' := (α, μ)) (pc' := 59) kX11_sheet_56 rfl rfl rf_a0 ?_
            refine ok_V (As := [.int (-1000000003)]) (b := 0) (st := []) mkX11_error qX11_sheet_59 rfl (rc_0) rfl rfl rfl rfl (Nat.le_of_ble_eq_true rfl) (c_error (k := 3) (by decide) (by decide) (by decide)) ?_
            refine ok_reti eX11_sheet_62 rfl ?_
            refine ⟨rfl, _, rfl, ?_⟩
            refine ok_step (ps := []) (L' := [some (.ref 94), some (.int (nI 1)), some (.int (nI 32)), some (.int n), none]) (st' := [.int (nI 1)]) (σ' := (rf_w α 93 3 (α 93 3 + nI 1), μ)) (pc' := 1) kX12_sheet_0 rfl rfl rf_a0 ?_
            refine ok_S (As := [.int (nI 1)]) (st := []) mkX12_isSheet qX12_sheet_1 rfl rfl rfl rfl rfl (Nat.le_of_ble_eq_true rfl) (m_isSheet) ?_
            rw [show bI (wi (nI 1) (nI 0) (nI 3)) = nI 1 from rfl]
            refine ok_if_eq bX12_sheet_4 (fun g4 => absurd g4 ((by decide))) (fun _ => ?_)
            refine ok_step (ps := []) (L' := [some (.ref 94), some (.int (nI 1)), some (.int (nI 32)), some (.int n), none]) (st' := [.int (nI 32)]) (σ' := (rf_w α 93 3 (α 93 3 + nI 1), μ)) (pc' := 8) kX12_sheet_7 rfl rfl rf_a0 ?_
            refine ok_if_eq bX12_sheet_8 (fun g8 => absurd g8 ((by decide))) (fun _ => ?_)
            refine ok_step (ps := []) (L' := [some (.ref 94), some (.int (nI 1)), some (.int (nI 32)), some (.int n), none]) (st' := [.int (nI 8), .int (nI 32)]) (σ' := (rf_w α 93 3 (α 93 3 + nI 1), μ)) (pc' := 14) kX12_sheet_11 rfl rfl rf_a0 ?_
            refine ok_icmp_eq bX12_sheet_14 (fun g14 => absurd g14 ((by decide))) (fun _ => ?_)
            refine ok_step (ps := []) (L' := [some (.ref 94), some (.int (nI 1)), some (.int (nI 32)), some (.int n), none]) (st' := [.int (nI 16), .int (nI 32)]) (σ' := (rf_w α 93 3 (α 93 3 + nI 1), μ)) (pc' := 20) kX12_sheet_17 rfl rfl rf_a0 ?_
            refine ok_icmp_eq bX12_sheet_20 (fun g20 => absurd g20 ((by decide))) (fun _ => ?_)
            refine ok_step (ps := []) (L' := [some (.ref 94), some (.int (nI 1)), some (.int (nI 32)), some (.int n), none]) (st' := [.int (nI 32), .int (nI 32)]) (σ' := (rf_w α 93 3 (α 93 3 + nI 1), μ)) (pc' := 26) kX12_sheet_23 rfl rfl rf_a0 ?_
            refine ok_icmp_eq bX12_sheet_26 (fun _ => ?_) (fun g26 => absurd ((by decide)) g26)
            refine ok_step (ps := []) (L' := [some (.ref 94), some (.int (nI 1)), some (.int (nI 32)), some (.int n), none]) (st' := [.int (nI 32)]) (σ' := (rf_w α 93 3 (α 93 3 + nI 1), μ)) (pc' := 36) kX12_sheet_35 rfl rfl rf_a0 ?_
            refine ok_if_eq bX12_sheet_36 (fun g36 => absurd g36 ((by decide))) (fun _ => ?_)
            refine ok_step (ps := []) (L' := [some (.ref 94), some (.int (nI 1)), some (.int (nI 32)), some (.int n), none]) (st' := [.int n]) (σ' := (rf_w α 93 3 (α 93 3 + nI 1), μ)) (pc' := 40) kX12_sheet_39 rfl rfl rf_a0 ?_
            refine ok_if_ge bX12_sheet_40 (fun g40 => absurd g40 (h53)) (fun _ => ?_)
            refine ok_step (ps := []) (L' := [some (.ref 94), some (.int (nI 1)), some (.int (nI 32)), some (.int n), none]) (st' := [.int (nI 3), .ref 94]) (σ' := (rf_w α 93 3 (α 93 3 + nI 1), μ)) (pc' := 45) kX12_sheet_43 rfl rfl rf_a0 ?_
            refine ok_V (As := [.int (nI 3)]) (b := 94) (st := []) mkX12_finds qX12_sheet_45 rfl (rc_94) rfl rfl rfl rfl (Nat.le_of_ble_eq_true rfl) (m_finds (k := 3) (by decide)) ?_
            refine ok_reti eX12_sheet_48 rfl ?_
            exact ⟨rfl, _, rfl, hJ.err (k := 3) (by decide)⟩
        · refine ok_step (ps := []) (L' := [some (.ref 0), some (.int (nI 1)), some (.int bits), some (.int n)]) (st' := [.int (-1000000001), .ref 0]) (σ' := (α, μ)) (pc' := 33) kX11_sheet_30 rfl rfl rf_a0 ?_
          refine ok_V (As := [.int (-1000000001)]) (b := 0) (st := []) mkX11_error qX11_sheet_33 rfl (rc_0) rfl rfl rfl rfl (Nat.le_of_ble_eq_true rfl) (c_error (k := 1) (by decide) (by decide) (by decide)) ?_
          refine ok_reti eX11_sheet_36 rfl ?_
          refine ⟨rfl, _, rfl, ?_⟩
          refine ok_step (ps := []) (L' := [some (.ref 94), some (.int (nI 1)), some (.int bits), some (.int n), none]) (st' := [.int (nI 1)]) (σ' := (rf_w α 93 1 (α 93 1 + nI 1), μ)) (pc' := 1) kX12_sheet_0 rfl rfl rf_a0 ?_
          refine ok_S (As := [.int (nI 1)]) (st := []) mkX12_isSheet qX12_sheet_1 rfl rfl rfl rfl rfl (Nat.le_of_ble_eq_true rfl) (m_isSheet) ?_
          rw [show bI (wi (nI 1) (nI 0) (nI 3)) = nI 1 from rfl]
          refine ok_if_eq bX12_sheet_4 (fun g4 => absurd g4 ((by decide))) (fun _ => ?_)
          refine ok_step (ps := []) (L' := [some (.ref 94), some (.int (nI 1)), some (.int bits), some (.int n), none]) (st' := [.int bits]) (σ' := (rf_w α 93 1 (α 93 1 + nI 1), μ)) (pc' := 8) kX12_sheet_7 rfl rfl rf_a0 ?_
          refine ok_if_eq bX12_sheet_8 (fun g8 => absurd g8 (h9)) (fun _ => ?_)
          refine ok_step (ps := []) (L' := [some (.ref 94), some (.int (nI 1)), some (.int bits), some (.int n), none]) (st' := [.int (nI 8), .int bits]) (σ' := (rf_w α 93 1 (α 93 1 + nI 1), μ)) (pc' := 14) kX12_sheet_11 rfl rfl rf_a0 ?_
          refine ok_icmp_eq bX12_sheet_14 (fun g14 => absurd g14 (h15)) (fun _ => ?_)
          refine ok_step (ps := []) (L' := [some (.ref 94), some (.int (nI 1)), some (.int bits), some (.int n), none]) (st' := [.int (nI 16), .int bits]) (σ' := (rf_w α 93 1 (α 93 1 + nI 1), μ)) (pc' := 20) kX12_sheet_17 rfl rfl rf_a0 ?_
          refine ok_icmp_eq bX12_sheet_20 (fun g20 => absurd g20 (h21)) (fun _ => ?_)
          refine ok_step (ps := []) (L' := [some (.ref 94), some (.int (nI 1)), some (.int bits), some (.int n), none]) (st' := [.int (nI 32), .int bits]) (σ' := (rf_w α 93 1 (α 93 1 + nI 1), μ)) (pc' := 26) kX12_sheet_23 rfl rfl rf_a0 ?_
          refine ok_icmp_eq bX12_sheet_26 (fun g26 => absurd g26 (h27)) (fun _ => ?_)
          refine ok_step (ps := []) (L' := [some (.ref 94), some (.int (nI 1)), some (.int bits), some (.int n), none]) (st' := [.int (nI 1), .ref 94]) (σ' := (rf_w α 93 1 (α 93 1 + nI 1), μ)) (pc' := 31) kX12_sheet_29 rfl rfl rf_a0 ?_
          refine ok_V (As := [.int (nI 1)]) (b := 94) (st := []) mkX12_finds qX12_sheet_31 rfl (rc_94) rfl rfl rfl rfl (Nat.le_of_ble_eq_true rfl) (m_finds (k := 1) (by decide)) ?_
          refine ok_reti eX12_sheet_34 rfl ?_
          exact ⟨rfl, _, rfl, hJ.err (k := 1) (by decide)⟩
theorem m_clr2_l {b n : Int32} {β : Nat → Nat → Int32}  : ∀ (j i : Nat), i + j = 40 → rf_Ok (rf_T Ln xs) MX12_sheet 60 90 [some (.ref 94), some (.int (nI 2)), some (.int b), some (.int n), some (.int (nI i))] [] (α, rf_r β 106 (fl 80 i (nI 0) (β 106))) (fun r s => r = some (.int (nI 1)) ∧ s = (α, rf_r β 106 (fl 80 40 (nI 0) (β 106)))) := by
  intro j
  induction j with
  | zero =>
    intro i hj
    have hj : i = 40 := by omega
    refine ok_step (ps := []) (L' := [some (.ref 94), some (.int (nI 2)), some (.int b), some (.int n), some (.int (nI i))]) (st' := [.int (nI 40), .int (nI i)]) (σ' := (α, rf_r β 106 (fl 80 i (nI 0) (β 106)))) (pc' := 94) kX12_sheet_90 rfl rfl rf_a0 ?_
    refine ok_icmp_ge bX12_sheet_94 (fun _ => ?_) (fun h94 => absurd (nI_le (by omega) (by omega)) h94)
    refine ok_step (ps := []) (L' := [some (.ref 94), some (.int (nI 2)), some (.int b), some (.int n), some (.int (nI i))]) (st' := [.int (nI 1)]) (σ' := (α, rf_r β 106 (fl 80 i (nI 0) (β 106)))) (pc' := 117) kX12_sheet_116 rfl rfl rf_a0 ?_
    refine ok_reti eX12_sheet_117 rfl ?_
    exact ⟨rfl, by rw [hj]⟩
  | succ j ih =>
    intro i hj
    refine ok_step (ps := []) (L' := [some (.ref 94), some (.int (nI 2)), some (.int b), some (.int n), some (.int (nI i))]) (st' := [.int (nI 40), .int (nI i)]) (σ' := (α, rf_r β 106 (fl 80 i (nI 0) (β 106)))) (pc' := 94) kX12_sheet_90 rfl rfl rf_a0 ?_
    refine ok_icmp_ge bX12_sheet_94 (fun h94 => absurd h94 (nI_ge (by omega) (by omega))) (fun _ => ?_)
    refine ok_step (ps := [rf_in (((nI 40) * (nI 2)) + (nI i)) 160]) (L' := [some (.ref 94), some (.int (nI 2)), some (.int b), some (.int n), some (.int ((nI i) + (nI 1)))]) (st' := []) (σ' := (α, rf_w (rf_r β 106 (fl 80 i (nI 0) (β 106))) 106 ((((nI 40) * (nI 2)) + (nI i)).toNatClampNeg) (nI 0))) (pc' := 113) kX12_sheet_97 rfl rfl (rf_a1 (rf_in_n (a := (80 + i)) (by (try rw [(show ((nI 40) * (nI 2)) = nI 80 from rf_eq (rf_nmul (x := nI 40) (y := nI 2) rfl rfl) (by omega))]); (try rw [(show ((nI 80) + (nI i)) = nI (80 + i) from rf_eq (rf_nadd (x := nI 80) (y := nI i) rfl rfl) (by omega))]); all_goals exact rfl) (by omega)) rf_a0) ?_
    try rw [(show ((nI 40) * (nI 2)) = nI 80 from rf_eq (rf_nmul (x := nI 40) (y := nI 2) rfl rfl) (by omega))]
    try rw [(show ((nI 80) + (nI i)) = nI (80 + i) from rf_eq (rf_nadd (x := nI 80) (y := nI i) rfl rfl) (by omega))]
    try rw [(show (nI (80 + i)).toNatClampNeg = (80 + i) from rf_cl_n rfl (by omega))]
    try rw [(show ((nI i) + (nI 1)) = nI (i + 1) from nI_add _ _)]
    refine ok_goto bX12_sheet_113 ?_
    rw [rfw_fl (by omega)]
    exact ih (i + 1) (by omega)
theorem m_clr2 {b n : Int32} {β : Nat → Nat → Int32} {Q : Option Value → rf_Mem → Prop} (hq : Q (some (.int (nI 1))) (α, rf_r β 106 (fl 80 40 (nI 0) (β 106)))) : rf_Ok (rf_T Ln xs) MX12_sheet 60 90 [some (.ref 94), some (.int (nI 2)), some (.int b), some (.int n), some (.int (nI 0))] [] (α, β) Q := by
  have hl := m_clr2_l (Ln := Ln) (xs := xs) (α := α) (b := b) (n := n) (β := β) 40 0 (by omega)
  rw [rfr_0] at hl
  obtain ⟨r, s, h1, h2, h3⟩ := hl
  exact ⟨r, s, h1, by rw [h2, h3]; exact hq⟩
theorem op_sheet2 {bits n : Int32} (hJ : J α μ)  : Op (rf_T Ln xs) MX11_sheet MX12_sheet [some (.ref 0), some (.int (nI 2)), some (.int bits), some (.int n)] [some (.ref 94), some (.int (nI 2)), some (.int bits), some (.int n), none] α μ := by
  have hR := hJ.1.1.1
  have hI := hJ.2
  have b0 := hI.le0
  have b1 := hI.le1
  have b2 := hI.le2
  have b3 := hI.le3
  have b4 := hI.le4
  have b5 := hI.le5
  have b6 := hI.le6
  have b8 := hI.le8
  have b9 := hI.le9
  have b11 := hI.le11
  have b12 := hI.le12
  refine ok_step (ps := []) (L' := [some (.ref 0), some (.int (nI 2)), some (.int bits), some (.int n)]) (st' := [.int (nI 2), .ref 0]) (σ' := (α, μ)) (pc' := 2) kX11_sheet_0 rfl rfl rf_a0 ?_
  refine ok_V (As := [.int (nI 2)]) (b := 0) (st := []) mkX11_isSheet qX11_sheet_2 rfl (rc_0) rfl rfl rfl rfl (Nat.le_of_ble_eq_true rfl) (c_isSheet) ?_
  rw [show bI (wi (nI 2) (nI 0) (nI 3)) = nI 1 from rfl]
  refine ok_if_eq bX11_sheet_5 (fun h5 => absurd h5 ((by decide))) (fun _ => ?_)
  refine ok_step (ps := []) (L' := [some (.ref 0), some (.int (nI 2)), some (.int bits), some (.int n)]) (st' := [.int bits]) (σ' := (α, μ)) (pc' := 9) kX11_sheet_8 rfl rfl rf_a0 ?_
  refine ok_if_eq bX11_sheet_9 (fun h9 => ?_) (fun h9 => ?_)
  · obtain rfl : bits = nI 0 := h9
    refine ok_step (ps := []) (L' := [some (.ref 0), some (.int (nI 2)), some (.int (nI 0)), some (.int n)]) (st' := [.int (nI 0)]) (σ' := (α, μ)) (pc' := 38) kX11_sheet_37 rfl rfl rf_a0 ?_
    refine ok_if_ne bX11_sheet_38 (fun h38 => absurd ((by decide)) h38) (fun _ => ?_)
    refine ok_step (ps := []) (L' := [some (.ref 0), some (.int (nI 2)), some (.int (nI 0)), some (.int n)]) (st' := [.int (nI 0), .int (nI 0), .int (nI 2), .ref 85]) (σ' := (α, μ)) (pc' := 48) kX11_sheet_41 rfl rfl rf_a0 ?_
    have hc48 : rf_At (rf_T Ln xs) MX6_clear 50 0 ([some (.ref 85), some (.int (nI 2)), some (.int (nI 0)), some (.int (nI 0))], [], 108, (α, μ)) (some (.int (nI 1))) 108 (rf_r (rf_w (rf_w α 86 2 (nI 0)) 87 2 (nI 0)) 91 (fl 0 40 (nI 0) ((rf_w (rf_w α 86 2 (nI 0)) 87 2 (nI 0)) 91)), μ) := by
      refine rf_pa ?_
      refine ok_step (ps := [rf_in (nI 2) 4, rf_in (nI 2) 4, rf_in (nI 2) 4]) (L' := [some (.ref 85), some (.int (nI 2)), some (.int (nI 0)), some (.int (nI 0))]) (st' := [.int (nI 0), .ref 91]) (σ' := (rf_w (rf_w α 86 ((nI 2).toNatClampNeg) (nI 0)) 87 ((nI 2).toNatClampNeg) (nI 0), μ)) (pc' := 21) kX6_clear_0 rfl rfl (rf_a1 (rf_in_n (a := 2) rfl (by omega)) (rf_a1 (rf_in_n (a := 2) rfl (by omega)) (rf_a1 (rf_in_n (a := 2) rfl (by omega)) rf_a0))) ?_
      try rw [(show (nI 2).toNatClampNeg = 2 from rf_cl_n rfl (by omega))]
      refine ok_S (As := [.ref 91, .int (nI 0)]) (st := []) mkJ7_fill_53178 qX6_clear_21 rfl rfl rfl rfl rfl (Nat.le_of_ble_eq_true rfl) (fill91) ?_
      refine ok_step (ps := []) (L' := [some (.ref 85), some (.int (nI 2)), some (.int (nI 0)), some (.int (nI 0))]) (st' := [.int (nI 1)]) (σ' := (rf_r (rf_w (rf_w α 86 2 (nI 0)) 87 2 (nI 0)) 91 (fl 0 40 (nI 0) ((rf_w (rf_w α 86 2 (nI 0)) 87 2 (nI 0)) 91)), μ)) (pc' := 25) kX6_clear_24 rfl rfl rf_a0 ?_
      refine ok_reti eX6_clear_25 rfl ?_
      exact ⟨rfl, rfl⟩
    refine ok_V (As := [.int (nI 2), .int (nI 0), .int (nI 0)]) (b := 85) (st := []) mkX6_clear qX11_sheet_48 rfl (rc_85) rfl rfl rfl rfl (Nat.le_of_ble_eq_true rfl) (hc48) ?_
    refine ok_reti eX11_sheet_51 rfl ?_
    refine ⟨rfl, _, rfl, ?_⟩
    refine ok_step (ps := []) (L' := [some (.ref 94), some (.int (nI 2)), some (.int (nI 0)), some (.int n), none]) (st' := [.int (nI 2)]) (σ' := (rf_r (rf_w (rf_w α 86 2 (nI 0)) 87 2 (nI 0)) 91 (fl 0 40 (nI 0) ((rf_w (rf_w α 86 2 (nI 0)) 87 2 (nI 0)) 91)), μ)) (pc' := 1) kX12_sheet_0 rfl rfl rf_a0 ?_
    refine ok_S (As := [.int (nI 2)]) (st := []) mkX12_isSheet qX12_sheet_1 rfl rfl rfl rfl rfl (Nat.le_of_ble_eq_true rfl) (m_isSheet) ?_
    rw [show bI (wi (nI 2) (nI 0) (nI 3)) = nI 1 from rfl]
    refine ok_if_eq bX12_sheet_4 (fun g4 => absurd g4 ((by decide))) (fun _ => ?_)
    refine ok_step (ps := []) (L' := [some (.ref 94), some (.int (nI 2)), some (.int (nI 0)), some (.int n), none]) (st' := [.int (nI 0)]) (σ' := (rf_r (rf_w (rf_w α 86 2 (nI 0)) 87 2 (nI 0)) 91 (fl 0 40 (nI 0) ((rf_w (rf_w α 86 2 (nI 0)) 87 2 (nI 0)) 91)), μ)) (pc' := 8) kX12_sheet_7 rfl rfl rf_a0 ?_
    refine ok_if_eq bX12_sheet_8 (fun _ => ?_) (fun g8 => absurd ((by decide)) g8)
    refine ok_step (ps := []) (L' := [some (.ref 94), some (.int (nI 2)), some (.int (nI 0)), some (.int n), none]) (st' := [.int (nI 0)]) (σ' := (rf_r (rf_w (rf_w α 86 2 (nI 0)) 87 2 (nI 0)) 91 (fl 0 40 (nI 0) ((rf_w (rf_w α 86 2 (nI 0)) 87 2 (nI 0)) 91)), μ)) (pc' := 36) kX12_sheet_35 rfl rfl rf_a0 ?_
    refine ok_if_eq bX12_sheet_36 (fun _ => ?_) (fun g36 => absurd ((by decide)) g36)
    refine ok_step (ps := []) (L' := [some (.ref 94), some (.int (nI 2)), some (.int (nI 0)), some (.int n), none]) (st' := [.int (nI 0)]) (σ' := (rf_r (rf_w (rf_w α 86 2 (nI 0)) 87 2 (nI 0)) 91 (fl 0 40 (nI 0) ((rf_w (rf_w α 86 2 (nI 0)) 87 2 (nI 0)) 91)), μ)) (pc' := 50) kX12_sheet_49 rfl rfl rf_a0 ?_
    refine ok_if_eq bX12_sheet_50 (fun _ => ?_) (fun g50 => absurd ((by decide)) g50)
    refine ok_step (ps := [rf_in (nI 2) 4]) (L' := [some (.ref 94), some (.int (nI 2)), some (.int (nI 0)), some (.int n), none]) (st' := [.int (nI 0), .int (nI 2), .ref 105]) (σ' := (rf_r (rf_w (rf_w α 86 2 (nI 0)) 87 2 (nI 0)) 91 (fl 0 40 (nI 0) ((rf_w (rf_w α 86 2 (nI 0)) 87 2 (nI 0)) 91)), rf_w μ 104 ((nI 2).toNatClampNeg) (nI 0))) (pc' := 78) kX12_sheet_65 rfl rfl (rf_a1 (rf_in_n (a := 2) rfl (by omega)) rf_a0) ?_
    try rw [(show (nI 2).toNatClampNeg = 2 from rf_cl_n rfl (by omega))]
    refine ok_if_ne bX12_sheet_78 (fun g78 => absurd ((by decide)) g78) (fun _ => ?_)
    refine ok_step (ps := []) (L' := [some (.ref 94), some (.int (nI 2)), some (.int (nI 0)), some (.int n), none]) (st' := [.int (nI 0), .int (nI 2), .ref 105]) (σ' := (rf_r (rf_w (rf_w α 86 2 (nI 0)) 87 2 (nI 0)) 91 (fl 0 40 (nI 0) ((rf_w (rf_w α 86 2 (nI 0)) 87 2 (nI 0)) 91)), rf_w μ 104 2 (nI 0))) (pc' := 82) kX12_sheet_81 rfl rfl rf_a0 ?_
    refine ok_goto bX12_sheet_82 ?_
    refine ok_step (ps := [rf_in (nI 2) 4]) (L' := [some (.ref 94), some (.int (nI 2)), some (.int (nI 0)), some (.int n), some (.int (nI 0))]) (st' := []) (σ' := (rf_r (rf_w (rf_w α 86 2 (nI 0)) 87 2 (nI 0)) 91 (fl 0 40 (nI 0) ((rf_w (rf_w α 86 2 (nI 0)) 87 2 (nI 0)) 91)), rf_w (rf_w μ 104 2 (nI 0)) 105 ((nI 2).toNatClampNeg) (nI 0))) (pc' := 90) kX12_sheet_86 rfl rfl (rf_a1 (rf_in_n (a := 2) rfl (by omega)) rf_a0) ?_
    try rw [(show (nI 2).toNatClampNeg = 2 from rf_cl_n rfl (by omega))]
    refine m_clr2 ?_
    exact ⟨rfl, _, rfl, hJ.sclr (s := 2) (by decide) (by decide) (by omega) rfl rfl rfl⟩
  · refine ok_step (ps := []) (L' := [some (.ref 0), some (.int (nI 2)), some (.int bits), some (.int n)]) (st' := [.int (nI 8), .int bits]) (σ' := (α, μ)) (pc' := 15) kX11_sheet_12 rfl rfl rf_a0 ?_
    refine ok_icmp_eq bX11_sheet_15 (fun h15 => ?_) (fun h15 => ?_)
    · obtain rfl : bits = nI 8 := h15
      refine ok_step (ps := []) (L' := [some (.ref 0), some (.int (nI 2)), some (.int (nI 8)), some (.int n)]) (st' := [.int (nI 8)]) (σ' := (α, μ)) (pc' := 38) kX11_sheet_37 rfl rfl rf_a0 ?_
      refine ok_if_ne bX11_sheet_38 (fun _ => ?_) (fun h38 => absurd h38 ((by decide)))
      refine ok_step (ps := []) (L' := [some (.ref 0), some (.int (nI 2)), some (.int (nI 8)), some (.int n)]) (st' := [.int n]) (σ' := (α, μ)) (pc' := 53) kX11_sheet_52 rfl rfl rf_a0 ?_
      refine ok_if_ge bX11_sheet_53 (fun h53 => ?_) (fun h53 => ?_)
      · refine ok_step (ps := []) (L' := [some (.ref 0), some (.int (nI 2)), some (.int (nI 8)), some (.int n)]) (st' := [.int (nI 40), .int n]) (σ' := (α, μ)) (pc' := 66) kX11_sheet_63 rfl rfl rf_a0 ?_
        refine ok_icmp_le bX11_sheet_66 (fun h66 => ?_) (fun h66 => ?_)
        · obtain ⟨m, hm, rfl⟩ := i_of h53 h66 (by omega)
          refine ok_step (ps := []) (L' := [some (.ref 0), some (.int (nI 2)), some (.int (nI 8)), some (.int (nI m))]) (st' := [.int (nI m), .int (nI 8), .int (nI 2), .ref 85]) (σ' := (α, μ)) (pc' := 83) kX11_sheet_76 rfl rfl rf_a0 ?_
          have hc83 : rf_At (rf_T Ln xs) MX6_clear 50 0 ([some (.ref 85), some (.int (nI 2)), some (.int (nI 8)), some (.int (nI m))], [], 108, (α, μ)) (some (.int (nI 1))) 108 (rf_r (rf_w (rf_w α 86 2 (nI 8)) 87 2 (nI m)) 91 (fl 0 40 (nI 0) ((rf_w (rf_w α 86 2 (nI 8)) 87 2 (nI m)) 91)), μ) := by
            refine rf_pa ?_
            refine ok_step (ps := [rf_in (nI 2) 4, rf_in (nI 2) 4, rf_in (nI 2) 4]) (L' := [some (.ref 85), some (.int (nI 2)), some (.int (nI 8)), some (.int (nI m))]) (st' := [.int (nI 0), .ref 91]) (σ' := (rf_w (rf_w α 86 ((nI 2).toNatClampNeg) (nI 8)) 87 ((nI 2).toNatClampNeg) (nI m), μ)) (pc' := 21) kX6_clear_0 rfl rfl (rf_a1 (rf_in_n (a := 2) rfl (by omega)) (rf_a1 (rf_in_n (a := 2) rfl (by omega)) (rf_a1 (rf_in_n (a := 2) rfl (by omega)) rf_a0))) ?_
            try rw [(show (nI 2).toNatClampNeg = 2 from rf_cl_n rfl (by omega))]
            refine ok_S (As := [.ref 91, .int (nI 0)]) (st := []) mkJ7_fill_53178 qX6_clear_21 rfl rfl rfl rfl rfl (Nat.le_of_ble_eq_true rfl) (fill91) ?_
            refine ok_step (ps := []) (L' := [some (.ref 85), some (.int (nI 2)), some (.int (nI 8)), some (.int (nI m))]) (st' := [.int (nI 1)]) (σ' := (rf_r (rf_w (rf_w α 86 2 (nI 8)) 87 2 (nI m)) 91 (fl 0 40 (nI 0) ((rf_w (rf_w α 86 2 (nI 8)) 87 2 (nI m)) 91)), μ)) (pc' := 25) kX6_clear_24 rfl rfl rf_a0 ?_
            refine ok_reti eX6_clear_25 rfl ?_
            exact ⟨rfl, rfl⟩
          refine ok_V (As := [.int (nI 2), .int (nI 8), .int (nI m)]) (b := 85) (st := []) mkX6_clear qX11_sheet_83 rfl (rc_85) rfl rfl rfl rfl (Nat.le_of_ble_eq_true rfl) (hc83) ?_
          refine ok_reti eX11_sheet_86 rfl ?_
          refine ⟨rfl, _, rfl, ?_⟩
          refine ok_step (ps := []) (L' := [some (.ref 94), some (.int (nI 2)), some (.int (nI 8)), some (.int (nI m)), none]) (st' := [.int (nI 2)]) (σ' := (rf_r (rf_w (rf_w α 86 2 (nI 8)) 87 2 (nI m)) 91 (fl 0 40 (nI 0) ((rf_w (rf_w α 86 2 (nI 8)) 87 2 (nI m)) 91)), μ)) (pc' := 1) kX12_sheet_0 rfl rfl rf_a0 ?_
          refine ok_S (As := [.int (nI 2)]) (st := []) mkX12_isSheet qX12_sheet_1 rfl rfl rfl rfl rfl (Nat.le_of_ble_eq_true rfl) (m_isSheet) ?_
          rw [show bI (wi (nI 2) (nI 0) (nI 3)) = nI 1 from rfl]
          refine ok_if_eq bX12_sheet_4 (fun g4 => absurd g4 ((by decide))) (fun _ => ?_)
          refine ok_step (ps := []) (L' := [some (.ref 94), some (.int (nI 2)), some (.int (nI 8)), some (.int (nI m)), none]) (st' := [.int (nI 8)]) (σ' := (rf_r (rf_w (rf_w α 86 2 (nI 8)) 87 2 (nI m)) 91 (fl 0 40 (nI 0) ((rf_w (rf_w α 86 2 (nI 8)) 87 2 (nI m)) 91)), μ)) (pc' := 8) kX12_sheet_7 rfl rfl rf_a0 ?_
          refine ok_if_eq bX12_sheet_8 (fun g8 => absurd g8 ((by decide))) (fun _ => ?_)
          refine ok_step (ps := []) (L' := [some (.ref 94), some (.int (nI 2)), some (.int (nI 8)), some (.int (nI m)), none]) (st' := [.int (nI 8), .int (nI 8)]) (σ' := (rf_r (rf_w (rf_w α 86 2 (nI 8)) 87 2 (nI m)) 91 (fl 0 40 (nI 0) ((rf_w (rf_w α 86 2 (nI 8)) 87 2 (nI m)) 91)), μ)) (pc' := 14) kX12_sheet_11 rfl rfl rf_a0 ?_
          refine ok_icmp_eq bX12_sheet_14 (fun _ => ?_) (fun g14 => absurd ((by decide)) g14)
          refine ok_step (ps := []) (L' := [some (.ref 94), some (.int (nI 2)), some (.int (nI 8)), some (.int (nI m)), none]) (st' := [.int (nI 8)]) (σ' := (rf_r (rf_w (rf_w α 86 2 (nI 8)) 87 2 (nI m)) 91 (fl 0 40 (nI 0) ((rf_w (rf_w α 86 2 (nI 8)) 87 2 (nI m)) 91)), μ)) (pc' := 36) kX12_sheet_35 rfl rfl rf_a0 ?_
          refine ok_if_eq bX12_sheet_36 (fun g36 => absurd g36 ((by decide))) (fun _ => ?_)
          refine ok_step (ps := []) (L' := [some (.ref 94), some (.int (nI 2)), some (.int (nI 8)), some (.int (nI m)), none]) (st' := [.int (nI m)]) (σ' := (rf_r (rf_w (rf_w α 86 2 (nI 8)) 87 2 (nI m)) 91 (fl 0 40 (nI 0) ((rf_w (rf_w α 86 2 (nI 8)) 87 2 (nI m)) 91)), μ)) (pc' := 40) kX12_sheet_39 rfl rfl rf_a0 ?_
          refine ok_if_ge bX12_sheet_40 (fun _ => ?_) (fun g40 => absurd (h53) g40)
          refine ok_step (ps := []) (L' := [some (.ref 94), some (.int (nI 2)), some (.int (nI 8)), some (.int (nI m)), none]) (st' := [.int (nI 8)]) (σ' := (rf_r (rf_w (rf_w α 86 2 (nI 8)) 87 2 (nI m)) 91 (fl 0 40 (nI 0) ((rf_w (rf_w α 86 2 (nI 8)) 87 2 (nI m)) 91)), μ)) (pc' := 50) kX12_sheet_49 rfl rfl rf_a0 ?_
          refine ok_if_eq bX12_sheet_50 (fun g50 => absurd g50 ((by decide))) (fun _ => ?_)
          refine ok_step (ps := []) (L' := [some (.ref 94), some (.int (nI 2)), some (.int (nI 8)), some (.int (nI m)), none]) (st' := [.int (nI 40), .int (nI m)]) (σ' := (rf_r (rf_w (rf_w α 86 2 (nI 8)) 87 2 (nI m)) 91 (fl 0 40 (nI 0) ((rf_w (rf_w α 86 2 (nI 8)) 87 2 (nI m)) 91)), μ)) (pc' := 56) kX12_sheet_53 rfl rfl rf_a0 ?_
          refine ok_icmp_le bX12_sheet_56 (fun _ => ?_) (fun g56 => absurd (h66) g56)
          refine ok_step (ps := [rf_in (nI 2) 4]) (L' := [some (.ref 94), some (.int (nI 2)), some (.int (nI 8)), some (.int (nI m)), none]) (st' := [.int (nI 8), .int (nI 2), .ref 105]) (σ' := (rf_r (rf_w (rf_w α 86 2 (nI 8)) 87 2 (nI m)) 91 (fl 0 40 (nI 0) ((rf_w (rf_w α 86 2 (nI 8)) 87 2 (nI m)) 91)), rf_w μ 104 ((nI 2).toNatClampNeg) (nI 8))) (pc' := 78) kX12_sheet_65 rfl rfl (rf_a1 (rf_in_n (a := 2) rfl (by omega)) rf_a0) ?_
          try rw [(show (nI 2).toNatClampNeg = 2 from rf_cl_n rfl (by omega))]
          refine ok_if_ne bX12_sheet_78 (fun _ => ?_) (fun g78 => absurd g78 ((by decide)))
          refine ok_step (ps := []) (L' := [some (.ref 94), some (.int (nI 2)), some (.int (nI 8)), some (.int (nI m)), none]) (st' := [.int (nI m), .int (nI 2), .ref 105]) (σ' := (rf_r (rf_w (rf_w α 86 2 (nI 8)) 87 2 (nI m)) 91 (fl 0 40 (nI 0) ((rf_w (rf_w α 86 2 (nI 8)) 87 2 (nI m)) 91)), rf_w μ 104 2 (nI 8))) (pc' := 86) kX12_sheet_85 rfl rfl rf_a0 ?_
          refine ok_step (ps := [rf_in (nI 2) 4]) (L' := [some (.ref 94), some (.int (nI 2)), some (.int (nI 8)), some (.int (nI m)), some (.int (nI 0))]) (st' := []) (σ' := (rf_r (rf_w (rf_w α 86 2 (nI 8)) 87 2 (nI m)) 91 (fl 0 40 (nI 0) ((rf_w (rf_w α 86 2 (nI 8)) 87 2 (nI m)) 91)), rf_w (rf_w μ 104 2 (nI 8)) 105 ((nI 2).toNatClampNeg) (nI m))) (pc' := 90) kX12_sheet_86 rfl rfl (rf_a1 (rf_in_n (a := 2) rfl (by omega)) rf_a0) ?_
          try rw [(show (nI 2).toNatClampNeg = 2 from rf_cl_n rfl (by omega))]
          refine m_clr2 ?_
          exact ⟨rfl, _, rfl, hJ.sclr (s := 2) (by decide) (by decide) (by omega) rfl rfl rfl⟩
        · refine ok_step (ps := []) (L' := [some (.ref 0), some (.int (nI 2)), some (.int (nI 8)), some (.int n)]) (st' := [.int (-1000000001), .ref 0]) (σ' := (α, μ)) (pc' := 72) kX11_sheet_69 rfl rfl rf_a0 ?_
          refine ok_V (As := [.int (-1000000001)]) (b := 0) (st := []) mkX11_error qX11_sheet_72 rfl (rc_0) rfl rfl rfl rfl (Nat.le_of_ble_eq_true rfl) (c_error (k := 1) (by decide) (by decide) (by decide)) ?_
          refine ok_reti eX11_sheet_75 rfl ?_
          refine ⟨rfl, _, rfl, ?_⟩
          refine ok_step (ps := []) (L' := [some (.ref 94), some (.int (nI 2)), some (.int (nI 8)), some (.int n), none]) (st' := [.int (nI 2)]) (σ' := (rf_w α 93 1 (α 93 1 + nI 1), μ)) (pc' := 1) kX12_sheet_0 rfl rfl rf_a0 ?_
          refine ok_S (As := [.int (nI 2)]) (st := []) mkX12_isSheet qX12_sheet_1 rfl rfl rfl rfl rfl (Nat.le_of_ble_eq_true rfl) (m_isSheet) ?_
          rw [show bI (wi (nI 2) (nI 0) (nI 3)) = nI 1 from rfl]
          refine ok_if_eq bX12_sheet_4 (fun g4 => absurd g4 ((by decide))) (fun _ => ?_)
          refine ok_step (ps := []) (L' := [some (.ref 94), some (.int (nI 2)), some (.int (nI 8)), some (.int n), none]) (st' := [.int (nI 8)]) (σ' := (rf_w α 93 1 (α 93 1 + nI 1), μ)) (pc' := 8) kX12_sheet_7 rfl rfl rf_a0 ?_
          refine ok_if_eq bX12_sheet_8 (fun g8 => absurd g8 ((by decide))) (fun _ => ?_)
          refine ok_step (ps := []) (L' := [some (.ref 94), some (.int (nI 2)), some (.int (nI 8)), some (.int n), none]) (st' := [.int (nI 8), .int (nI 8)]) (σ' := (rf_w α 93 1 (α 93 1 + nI 1), μ)) (pc' := 14) kX12_sheet_11 rfl rfl rf_a0 ?_
          refine ok_icmp_eq bX12_sheet_14 (fun _ => ?_) (fun g14 => absurd ((by decide)) g14)
          refine ok_step (ps := []) (L' := [some (.ref 94), some (.int (nI 2)), some (.int (nI 8)), some (.int n), none]) (st' := [.int (nI 8)]) (σ' := (rf_w α 93 1 (α 93 1 + nI 1), μ)) (pc' := 36) kX12_sheet_35 rfl rfl rf_a0 ?_
          refine ok_if_eq bX12_sheet_36 (fun g36 => absurd g36 ((by decide))) (fun _ => ?_)
          refine ok_step (ps := []) (L' := [some (.ref 94), some (.int (nI 2)), some (.int (nI 8)), some (.int n), none]) (st' := [.int n]) (σ' := (rf_w α 93 1 (α 93 1 + nI 1), μ)) (pc' := 40) kX12_sheet_39 rfl rfl rf_a0 ?_
          refine ok_if_ge bX12_sheet_40 (fun _ => ?_) (fun g40 => absurd (h53) g40)
          refine ok_step (ps := []) (L' := [some (.ref 94), some (.int (nI 2)), some (.int (nI 8)), some (.int n), none]) (st' := [.int (nI 8)]) (σ' := (rf_w α 93 1 (α 93 1 + nI 1), μ)) (pc' := 50) kX12_sheet_49 rfl rfl rf_a0 ?_
          refine ok_if_eq bX12_sheet_50 (fun g50 => absurd g50 ((by decide))) (fun _ => ?_)
          refine ok_step (ps := []) (L' := [some (.ref 94), some (.int (nI 2)), some (.int (nI 8)), some (.int n), none]) (st' := [.int (nI 40), .int n]) (σ' := (rf_w α 93 1 (α 93 1 + nI 1), μ)) (pc' := 56) kX12_sheet_53 rfl rfl rf_a0 ?_
          refine ok_icmp_le bX12_sheet_56 (fun g56 => absurd g56 (h66)) (fun _ => ?_)
          refine ok_step (ps := []) (L' := [some (.ref 94), some (.int (nI 2)), some (.int (nI 8)), some (.int n), none]) (st' := [.int (nI 1), .ref 94]) (σ' := (rf_w α 93 1 (α 93 1 + nI 1), μ)) (pc' := 61) kX12_sheet_59 rfl rfl rf_a0 ?_
          refine ok_V (As := [.int (nI 1)]) (b := 94) (st := []) mkX12_finds qX12_sheet_61 rfl (rc_94) rfl rfl rfl rfl (Nat.le_of_ble_eq_true rfl) (m_finds (k := 1) (by decide)) ?_
          refine ok_reti eX12_sheet_64 rfl ?_
          exact ⟨rfl, _, rfl, hJ.err (k := 1) (by decide)⟩
      · refine ok_step (ps := []) (L' := [some (.ref 0), some (.int (nI 2)), some (.int (nI 8)), some (.int n)]) (st' := [.int (-1000000003), .ref 0]) (σ' := (α, μ)) (pc' := 59) kX11_sheet_56 rfl rfl rf_a0 ?_
        refine ok_V (As := [.int (-1000000003)]) (b := 0) (st := []) mkX11_error qX11_sheet_59 rfl (rc_0) rfl rfl rfl rfl (Nat.le_of_ble_eq_true rfl) (c_error (k := 3) (by decide) (by decide) (by decide)) ?_
        refine ok_reti eX11_sheet_62 rfl ?_
        refine ⟨rfl, _, rfl, ?_⟩
        refine ok_step (ps := []) (L' := [some (.ref 94), some (.int (nI 2)), some (.int (nI 8)), some (.int n), none]) (st' := [.int (nI 2)]) (σ' := (rf_w α 93 3 (α 93 3 + nI 1), μ)) (pc' := 1) kX12_sheet_0 rfl rfl rf_a0 ?_
        refine ok_S (As := [.int (nI 2)]) (st := []) mkX12_isSheet qX12_sheet_1 rfl rfl rfl rfl rfl (Nat.le_of_ble_eq_true rfl) (m_isSheet) ?_
        rw [show bI (wi (nI 2) (nI 0) (nI 3)) = nI 1 from rfl]
        refine ok_if_eq bX12_sheet_4 (fun g4 => absurd g4 ((by decide))) (fun _ => ?_)
        refine ok_step (ps := []) (L' := [some (.ref 94), some (.int (nI 2)), some (.int (nI 8)), some (.int n), none]) (st' := [.int (nI 8)]) (σ' := (rf_w α 93 3 (α 93 3 + nI 1), μ)) (pc' := 8) kX12_sheet_7 rfl rfl rf_a0 ?_
        refine ok_if_eq bX12_sheet_8 (fun g8 => absurd g8 ((by decide))) (fun _ => ?_)
        refine ok_step (ps := []) (L' := [some (.ref 94), some (.int (nI 2)), some (.int (nI 8)), some (.int n), none]) (st' := [.int (nI 8), .int (nI 8)]) (σ' := (rf_w α 93 3 (α 93 3 + nI 1), μ)) (pc' := 14) kX12_sheet_11 rfl rfl rf_a0 ?_
        refine ok_icmp_eq bX12_sheet_14 (fun _ => ?_) (fun g14 => absurd ((by decide)) g14)
        refine ok_step (ps := []) (L' := [some (.ref 94), some (.int (nI 2)), some (.int (nI 8)), some (.int n), none]) (st' := [.int (nI 8)]) (σ' := (rf_w α 93 3 (α 93 3 + nI 1), μ)) (pc' := 36) kX12_sheet_35 rfl rfl rf_a0 ?_
        refine ok_if_eq bX12_sheet_36 (fun g36 => absurd g36 ((by decide))) (fun _ => ?_)
        refine ok_step (ps := []) (L' := [some (.ref 94), some (.int (nI 2)), some (.int (nI 8)), some (.int n), none]) (st' := [.int n]) (σ' := (rf_w α 93 3 (α 93 3 + nI 1), μ)) (pc' := 40) kX12_sheet_39 rfl rfl rf_a0 ?_
        refine ok_if_ge bX12_sheet_40 (fun g40 => absurd g40 (h53)) (fun _ => ?_)
        refine ok_step (ps := []) (L' := [some (.ref 94), some (.int (nI 2)), some (.int (nI 8)), some (.int n), none]) (st' := [.int (nI 3), .ref 94]) (σ' := (rf_w α 93 3 (α 93 3 + nI 1), μ)) (pc' := 45) kX12_sheet_43 rfl rfl rf_a0 ?_
        refine ok_V (As := [.int (nI 3)]) (b := 94) (st := []) mkX12_finds qX12_sheet_45 rfl (rc_94) rfl rfl rfl rfl (Nat.le_of_ble_eq_true rfl) (m_finds (k := 3) (by decide)) ?_
        refine ok_reti eX12_sheet_48 rfl ?_
        exact ⟨rfl, _, rfl, hJ.err (k := 3) (by decide)⟩
    · refine ok_step (ps := []) (L' := [some (.ref 0), some (.int (nI 2)), some (.int bits), some (.int n)]) (st' := [.int (nI 16), .int bits]) (σ' := (α, μ)) (pc' := 21) kX11_sheet_18 rfl rfl rf_a0 ?_
      refine ok_icmp_eq bX11_sheet_21 (fun h21 => ?_) (fun h21 => ?_)
      · obtain rfl : bits = nI 16 := h21
        refine ok_step (ps := []) (L' := [some (.ref 0), some (.int (nI 2)), some (.int (nI 16)), some (.int n)]) (st' := [.int (nI 16)]) (σ' := (α, μ)) (pc' := 38) kX11_sheet_37 rfl rfl rf_a0 ?_
        refine ok_if_ne bX11_sheet_38 (fun _ => ?_) (fun h38 => absurd h38 ((by decide)))
        refine ok_step (ps := []) (L' := [some (.ref 0), some (.int (nI 2)), some (.int (nI 16)), some (.int n)]) (st' := [.int n]) (σ' := (α, μ)) (pc' := 53) kX11_sheet_52 rfl rfl rf_a0 ?_
        refine ok_if_ge bX11_sheet_53 (fun h53 => ?_) (fun h53 => ?_)
        · refine ok_step (ps := []) (L' := [some (.ref 0), some (.int (nI 2)), some (.int (nI 16)), some (.int n)]) (st' := [.int (nI 40), .int n]) (σ' := (α, μ)) (pc' := 66) kX11_sheet_63 rfl rfl rf_a0 ?_
          refine ok_icmp_le bX11_sheet_66 (fun h66 => ?_) (fun h66 => ?_)
          · obtain ⟨m, hm, rfl⟩ := i_of h53 h66 (by omega)
            refine ok_step (ps := []) (L' := [some (.ref 0), some (.int (nI 2)), some (.int (nI 16)), some (.int (nI m))]) (st' := [.int (nI m), .int (nI 16), .int (nI 2), .ref 85]) (σ' := (α, μ)) (pc' := 83) kX11_sheet_76 rfl rfl rf_a0 ?_
            have hc83 : rf_At (rf_T Ln xs) MX6_clear 50 0 ([some (.ref 85), some (.int (nI 2)), some (.int (nI 16)), some (.int (nI m))], [], 108, (α, μ)) (some (.int (nI 1))) 108 (rf_r (rf_w (rf_w α 86 2 (nI 16)) 87 2 (nI m)) 91 (fl 0 40 (nI 0) ((rf_w (rf_w α 86 2 (nI 16)) 87 2 (nI m)) 91)), μ) := by
              refine rf_pa ?_
              refine ok_step (ps := [rf_in (nI 2) 4, rf_in (nI 2) 4, rf_in (nI 2) 4]) (L' := [some (.ref 85), some (.int (nI 2)), some (.int (nI 16)), some (.int (nI m))]) (st' := [.int (nI 0), .ref 91]) (σ' := (rf_w (rf_w α 86 ((nI 2).toNatClampNeg) (nI 16)) 87 ((nI 2).toNatClampNeg) (nI m), μ)) (pc' := 21) kX6_clear_0 rfl rfl (rf_a1 (rf_in_n (a := 2) rfl (by omega)) (rf_a1 (rf_in_n (a := 2) rfl (by omega)) (rf_a1 (rf_in_n (a := 2) rfl (by omega)) rf_a0))) ?_
              try rw [(show (nI 2).toNatClampNeg = 2 from rf_cl_n rfl (by omega))]
              refine ok_S (As := [.ref 91, .int (nI 0)]) (st := []) mkJ7_fill_53178 qX6_clear_21 rfl rfl rfl rfl rfl (Nat.le_of_ble_eq_true rfl) (fill91) ?_
              refine ok_step (ps := []) (L' := [some (.ref 85), some (.int (nI 2)), some (.int (nI 16)), some (.int (nI m))]) (st' := [.int (nI 1)]) (σ' := (rf_r (rf_w (rf_w α 86 2 (nI 16)) 87 2 (nI m)) 91 (fl 0 40 (nI 0) ((rf_w (rf_w α 86 2 (nI 16)) 87 2 (nI m)) 91)), μ)) (pc' := 25) kX6_clear_24 rfl rfl rf_a0 ?_
              refine ok_reti eX6_clear_25 rfl ?_
              exact ⟨rfl, rfl⟩
            refine ok_V (As := [.int (nI 2), .int (nI 16), .int (nI m)]) (b := 85) (st := []) mkX6_clear qX11_sheet_83 rfl (rc_85) rfl rfl rfl rfl (Nat.le_of_ble_eq_true rfl) (hc83) ?_
            refine ok_reti eX11_sheet_86 rfl ?_
            refine ⟨rfl, _, rfl, ?_⟩
            refine ok_step (ps := []) (L' := [some (.ref 94), some (.int (nI 2)), some (.int (nI 16)), some (.int (nI m)), none]) (st' := [.int (nI 2)]) (σ' := (rf_r (rf_w (rf_w α 86 2 (nI 16)) 87 2 (nI m)) 91 (fl 0 40 (nI 0) ((rf_w (rf_w α 86 2 (nI 16)) 87 2 (nI m)) 91)), μ)) (pc' := 1) kX12_sheet_0 rfl rfl rf_a0 ?_
            refine ok_S (As := [.int (nI 2)]) (st := []) mkX12_isSheet qX12_sheet_1 rfl rfl rfl rfl rfl (Nat.le_of_ble_eq_true rfl) (m_isSheet) ?_
            rw [show bI (wi (nI 2) (nI 0) (nI 3)) = nI 1 from rfl]
            refine ok_if_eq bX12_sheet_4 (fun g4 => absurd g4 ((by decide))) (fun _ => ?_)
            refine ok_step (ps := []) (L' := [some (.ref 94), some (.int (nI 2)), some (.int (nI 16)), some (.int (nI m)), none]) (st' := [.int (nI 16)]) (σ' := (rf_r (rf_w (rf_w α 86 2 (nI 16)) 87 2 (nI m)) 91 (fl 0 40 (nI 0) ((rf_w (rf_w α 86 2 (nI 16)) 87 2 (nI m)) 91)), μ)) (pc' := 8) kX12_sheet_7 rfl rfl rf_a0 ?_
            refine ok_if_eq bX12_sheet_8 (fun g8 => absurd g8 ((by decide))) (fun _ => ?_)
            refine ok_step (ps := []) (L' := [some (.ref 94), some (.int (nI 2)), some (.int (nI 16)), some (.int (nI m)), none]) (st' := [.int (nI 8), .int (nI 16)]) (σ' := (rf_r (rf_w (rf_w α 86 2 (nI 16)) 87 2 (nI m)) 91 (fl 0 40 (nI 0) ((rf_w (rf_w α 86 2 (nI 16)) 87 2 (nI m)) 91)), μ)) (pc' := 14) kX12_sheet_11 rfl rfl rf_a0 ?_
            refine ok_icmp_eq bX12_sheet_14 (fun g14 => absurd g14 ((by decide))) (fun _ => ?_)
            refine ok_step (ps := []) (L' := [some (.ref 94), some (.int (nI 2)), some (.int (nI 16)), some (.int (nI m)), none]) (st' := [.int (nI 16), .int (nI 16)]) (σ' := (rf_r (rf_w (rf_w α 86 2 (nI 16)) 87 2 (nI m)) 91 (fl 0 40 (nI 0) ((rf_w (rf_w α 86 2 (nI 16)) 87 2 (nI m)) 91)), μ)) (pc' := 20) kX12_sheet_17 rfl rfl rf_a0 ?_
            refine ok_icmp_eq bX12_sheet_20 (fun _ => ?_) (fun g20 => absurd ((by decide)) g20)
            refine ok_step (ps := []) (L' := [some (.ref 94), some (.int (nI 2)), some (.int (nI 16)), some (.int (nI m)), none]) (st' := [.int (nI 16)]) (σ' := (rf_r (rf_w (rf_w α 86 2 (nI 16)) 87 2 (nI m)) 91 (fl 0 40 (nI 0) ((rf_w (rf_w α 86 2 (nI 16)) 87 2 (nI m)) 91)), μ)) (pc' := 36) kX12_sheet_35 rfl rfl rf_a0 ?_
            refine ok_if_eq bX12_sheet_36 (fun g36 => absurd g36 ((by decide))) (fun _ => ?_)
            refine ok_step (ps := []) (L' := [some (.ref 94), some (.int (nI 2)), some (.int (nI 16)), some (.int (nI m)), none]) (st' := [.int (nI m)]) (σ' := (rf_r (rf_w (rf_w α 86 2 (nI 16)) 87 2 (nI m)) 91 (fl 0 40 (nI 0) ((rf_w (rf_w α 86 2 (nI 16)) 87 2 (nI m)) 91)), μ)) (pc' := 40) kX12_sheet_39 rfl rfl rf_a0 ?_
            refine ok_if_ge bX12_sheet_40 (fun _ => ?_) (fun g40 => absurd (h53) g40)
            refine ok_step (ps := []) (L' := [some (.ref 94), some (.int (nI 2)), some (.int (nI 16)), some (.int (nI m)), none]) (st' := [.int (nI 16)]) (σ' := (rf_r (rf_w (rf_w α 86 2 (nI 16)) 87 2 (nI m)) 91 (fl 0 40 (nI 0) ((rf_w (rf_w α 86 2 (nI 16)) 87 2 (nI m)) 91)), μ)) (pc' := 50) kX12_sheet_49 rfl rfl rf_a0 ?_
            refine ok_if_eq bX12_sheet_50 (fun g50 => absurd g50 ((by decide))) (fun _ => ?_)
            refine ok_step (ps := []) (L' := [some (.ref 94), some (.int (nI 2)), some (.int (nI 16)), some (.int (nI m)), none]) (st' := [.int (nI 40), .int (nI m)]) (σ' := (rf_r (rf_w (rf_w α 86 2 (nI 16)) 87 2 (nI m)) 91 (fl 0 40 (nI 0) ((rf_w (rf_w α 86 2 (nI 16)) 87 2 (nI m)) 91)), μ)) (pc' := 56) kX12_sheet_53 rfl rfl rf_a0 ?_
            refine ok_icmp_le bX12_sheet_56 (fun _ => ?_) (fun g56 => absurd (h66) g56)
            refine ok_step (ps := [rf_in (nI 2) 4]) (L' := [some (.ref 94), some (.int (nI 2)), some (.int (nI 16)), some (.int (nI m)), none]) (st' := [.int (nI 16), .int (nI 2), .ref 105]) (σ' := (rf_r (rf_w (rf_w α 86 2 (nI 16)) 87 2 (nI m)) 91 (fl 0 40 (nI 0) ((rf_w (rf_w α 86 2 (nI 16)) 87 2 (nI m)) 91)), rf_w μ 104 ((nI 2).toNatClampNeg) (nI 16))) (pc' := 78) kX12_sheet_65 rfl rfl (rf_a1 (rf_in_n (a := 2) rfl (by omega)) rf_a0) ?_
            try rw [(show (nI 2).toNatClampNeg = 2 from rf_cl_n rfl (by omega))]
            refine ok_if_ne bX12_sheet_78 (fun _ => ?_) (fun g78 => absurd g78 ((by decide)))
            refine ok_step (ps := []) (L' := [some (.ref 94), some (.int (nI 2)), some (.int (nI 16)), some (.int (nI m)), none]) (st' := [.int (nI m), .int (nI 2), .ref 105]) (σ' := (rf_r (rf_w (rf_w α 86 2 (nI 16)) 87 2 (nI m)) 91 (fl 0 40 (nI 0) ((rf_w (rf_w α 86 2 (nI 16)) 87 2 (nI m)) 91)), rf_w μ 104 2 (nI 16))) (pc' := 86) kX12_sheet_85 rfl rfl rf_a0 ?_
            refine ok_step (ps := [rf_in (nI 2) 4]) (L' := [some (.ref 94), some (.int (nI 2)), some (.int (nI 16)), some (.int (nI m)), some (.int (nI 0))]) (st' := []) (σ' := (rf_r (rf_w (rf_w α 86 2 (nI 16)) 87 2 (nI m)) 91 (fl 0 40 (nI 0) ((rf_w (rf_w α 86 2 (nI 16)) 87 2 (nI m)) 91)), rf_w (rf_w μ 104 2 (nI 16)) 105 ((nI 2).toNatClampNeg) (nI m))) (pc' := 90) kX12_sheet_86 rfl rfl (rf_a1 (rf_in_n (a := 2) rfl (by omega)) rf_a0) ?_
            try rw [(show (nI 2).toNatClampNeg = 2 from rf_cl_n rfl (by omega))]
            refine m_clr2 ?_
            exact ⟨rfl, _, rfl, hJ.sclr (s := 2) (by decide) (by decide) (by omega) rfl rfl rfl⟩
          · refine ok_step (ps := []) (L' := [some (.ref 0), some (.int (nI 2)), some (.int (nI 16)), some (.int n)]) (st' := [.int (-1000000001), .ref 0]) (σ' := (α, μ)) (pc' := 72) kX11_sheet_69 rfl rfl rf_a0 ?_
            refine ok_V (As := [.int (-1000000001)]) (b := 0) (st := []) mkX11_error qX11_sheet_72 rfl (rc_0) rfl rfl rfl rfl (Nat.le_of_ble_eq_true rfl) (c_error (k := 1) (by decide) (by decide) (by decide)) ?_
            refine ok_reti eX11_sheet_75 rfl ?_
            refine ⟨rfl, _, rfl, ?_⟩
            refine ok_step (ps := []) (L' := [some (.ref 94), some (.int (nI 2)), some (.int (nI 16)), some (.int n), none]) (st' := [.int (nI 2)]) (σ' := (rf_w α 93 1 (α 93 1 + nI 1), μ)) (pc' := 1) kX12_sheet_0 rfl rfl rf_a0 ?_
            refine ok_S (As := [.int (nI 2)]) (st := []) mkX12_isSheet qX12_sheet_1 rfl rfl rfl rfl rfl (Nat.le_of_ble_eq_true rfl) (m_isSheet) ?_
            rw [show bI (wi (nI 2) (nI 0) (nI 3)) = nI 1 from rfl]
            refine ok_if_eq bX12_sheet_4 (fun g4 => absurd g4 ((by decide))) (fun _ => ?_)
            refine ok_step (ps := []) (L' := [some (.ref 94), some (.int (nI 2)), some (.int (nI 16)), some (.int n), none]) (st' := [.int (nI 16)]) (σ' := (rf_w α 93 1 (α 93 1 + nI 1), μ)) (pc' := 8) kX12_sheet_7 rfl rfl rf_a0 ?_
            refine ok_if_eq bX12_sheet_8 (fun g8 => absurd g8 ((by decide))) (fun _ => ?_)
            refine ok_step (ps := []) (L' := [some (.ref 94), some (.int (nI 2)), some (.int (nI 16)), some (.int n), none]) (st' := [.int (nI 8), .int (nI 16)]) (σ' := (rf_w α 93 1 (α 93 1 + nI 1), μ)) (pc' := 14) kX12_sheet_11 rfl rfl rf_a0 ?_
            refine ok_icmp_eq bX12_sheet_14 (fun g14 => absurd g14 ((by decide))) (fun _ => ?_)
            refine ok_step (ps := []) (L' := [some (.ref 94), some (.int (nI 2)), some (.int (nI 16)), some (.int n), none]) (st' := [.int (nI 16), .int (nI 16)]) (σ' := (rf_w α 93 1 (α 93 1 + nI 1), μ)) (pc' := 20) kX12_sheet_17 rfl rfl rf_a0 ?_
            refine ok_icmp_eq bX12_sheet_20 (fun _ => ?_) (fun g20 => absurd ((by decide)) g20)
            refine ok_step (ps := []) (L' := [some (.ref 94), some (.int (nI 2)), some (.int (nI 16)), some (.int n), none]) (st' := [.int (nI 16)]) (σ' := (rf_w α 93 1 (α 93 1 + nI 1), μ)) (pc' := 36) kX12_sheet_35 rfl rfl rf_a0 ?_
            refine ok_if_eq bX12_sheet_36 (fun g36 => absurd g36 ((by decide))) (fun _ => ?_)
            refine ok_step (ps := []) (L' := [some (.ref 94), some (.int (nI 2)), some (.int (nI 16)), some (.int n), none]) (st' := [.int n]) (σ' := (rf_w α 93 1 (α 93 1 + nI 1), μ)) (pc' := 40) kX12_sheet_39 rfl rfl rf_a0 ?_
            refine ok_if_ge bX12_sheet_40 (fun _ => ?_) (fun g40 => absurd (h53) g40)
            refine ok_step (ps := []) (L' := [some (.ref 94), some (.int (nI 2)), some (.int (nI 16)), some (.int n), none]) (st' := [.int (nI 16)]) (σ' := (rf_w α 93 1 (α 93 1 + nI 1), μ)) (pc' := 50) kX12_sheet_49 rfl rfl rf_a0 ?_
            refine ok_if_eq bX12_sheet_50 (fun g50 => absurd g50 ((by decide))) (fun _ => ?_)
            refine ok_step (ps := []) (L' := [some (.ref 94), some (.int (nI 2)), some (.int (nI 16)), some (.int n), none]) (st' := [.int (nI 40), .int n]) (σ' := (rf_w α 93 1 (α 93 1 + nI 1), μ)) (pc' := 56) kX12_sheet_53 rfl rfl rf_a0 ?_
            refine ok_icmp_le bX12_sheet_56 (fun g56 => absurd g56 (h66)) (fun _ => ?_)
            refine ok_step (ps := []) (L' := [some (.ref 94), some (.int (nI 2)), some (.int (nI 16)), some (.int n), none]) (st' := [.int (nI 1), .ref 94]) (σ' := (rf_w α 93 1 (α 93 1 + nI 1), μ)) (pc' := 61) kX12_sheet_59 rfl rfl rf_a0 ?_
            refine ok_V (As := [.int (nI 1)]) (b := 94) (st := []) mkX12_finds qX12_sheet_61 rfl (rc_94) rfl rfl rfl rfl (Nat.le_of_ble_eq_true rfl) (m_finds (k := 1) (by decide)) ?_
            refine ok_reti eX12_sheet_64 rfl ?_
            exact ⟨rfl, _, rfl, hJ.err (k := 1) (by decide)⟩
        · refine ok_step (ps := []) (L' := [some (.ref 0), some (.int (nI 2)), some (.int (nI 16)), some (.int n)]) (st' := [.int (-1000000003), .ref 0]) (σ' := (α, μ)) (pc' := 59) kX11_sheet_56 rfl rfl rf_a0 ?_
          refine ok_V (As := [.int (-1000000003)]) (b := 0) (st := []) mkX11_error qX11_sheet_59 rfl (rc_0) rfl rfl rfl rfl (Nat.le_of_ble_eq_true rfl) (c_error (k := 3) (by decide) (by decide) (by decide)) ?_
          refine ok_reti eX11_sheet_62 rfl ?_
          refine ⟨rfl, _, rfl, ?_⟩
          refine ok_step (ps := []) (L' := [some (.ref 94), some (.int (nI 2)), some (.int (nI 16)), some (.int n), none]) (st' := [.int (nI 2)]) (σ' := (rf_w α 93 3 (α 93 3 + nI 1), μ)) (pc' := 1) kX12_sheet_0 rfl rfl rf_a0 ?_
          refine ok_S (As := [.int (nI 2)]) (st := []) mkX12_isSheet qX12_sheet_1 rfl rfl rfl rfl rfl (Nat.le_of_ble_eq_true rfl) (m_isSheet) ?_
          rw [show bI (wi (nI 2) (nI 0) (nI 3)) = nI 1 from rfl]
          refine ok_if_eq bX12_sheet_4 (fun g4 => absurd g4 ((by decide))) (fun _ => ?_)
          refine ok_step (ps := []) (L' := [some (.ref 94), some (.int (nI 2)), some (.int (nI 16)), some (.int n), none]) (st' := [.int (nI 16)]) (σ' := (rf_w α 93 3 (α 93 3 + nI 1), μ)) (pc' := 8) kX12_sheet_7 rfl rfl rf_a0 ?_
          refine ok_if_eq bX12_sheet_8 (fun g8 => absurd g8 ((by decide))) (fun _ => ?_)
          refine ok_step (ps := []) (L' := [some (.ref 94), some (.int (nI 2)), some (.int (nI 16)), some (.int n), none]) (st' := [.int (nI 8), .int (nI 16)]) (σ' := (rf_w α 93 3 (α 93 3 + nI 1), μ)) (pc' := 14) kX12_sheet_11 rfl rfl rf_a0 ?_
          refine ok_icmp_eq bX12_sheet_14 (fun g14 => absurd g14 ((by decide))) (fun _ => ?_)
          refine ok_step (ps := []) (L' := [some (.ref 94), some (.int (nI 2)), some (.int (nI 16)), some (.int n), none]) (st' := [.int (nI 16), .int (nI 16)]) (σ' := (rf_w α 93 3 (α 93 3 + nI 1), μ)) (pc' := 20) kX12_sheet_17 rfl rfl rf_a0 ?_
          refine ok_icmp_eq bX12_sheet_20 (fun _ => ?_) (fun g20 => absurd ((by decide)) g20)
          refine ok_step (ps := []) (L' := [some (.ref 94), some (.int (nI 2)), some (.int (nI 16)), some (.int n), none]) (st' := [.int (nI 16)]) (σ' := (rf_w α 93 3 (α 93 3 + nI 1), μ)) (pc' := 36) kX12_sheet_35 rfl rfl rf_a0 ?_
          refine ok_if_eq bX12_sheet_36 (fun g36 => absurd g36 ((by decide))) (fun _ => ?_)
          refine ok_step (ps := []) (L' := [some (.ref 94), some (.int (nI 2)), some (.int (nI 16)), some (.int n), none]) (st' := [.int n]) (σ' := (rf_w α 93 3 (α 93 3 + nI 1), μ)) (pc' := 40) kX12_sheet_39 rfl rfl rf_a0 ?_
          refine ok_if_ge bX12_sheet_40 (fun g40 => absurd g40 (h53)) (fun _ => ?_)
          refine ok_step (ps := []) (L' := [some (.ref 94), some (.int (nI 2)), some (.int (nI 16)), some (.int n), none]) (st' := [.int (nI 3), .ref 94]) (σ' := (rf_w α 93 3 (α 93 3 + nI 1), μ)) (pc' := 45) kX12_sheet_43 rfl rfl rf_a0 ?_
          refine ok_V (As := [.int (nI 3)]) (b := 94) (st := []) mkX12_finds qX12_sheet_45 rfl (rc_94) rfl rfl rfl rfl (Nat.le_of_ble_eq_true rfl) (m_finds (k := 3) (by decide)) ?_
          refine ok_reti eX12_sheet_48 rfl ?_
          exact ⟨rfl, _, rfl, hJ.err (k := 3) (by decide)⟩
      · refine ok_step (ps := []) (L' := [some (.ref 0), some (.int (nI 2)), some (.int bits), some (.int n)]) (st' := [.int (nI 32), .int bits]) (σ' := (α, μ)) (pc' := 27) kX11_sheet_24 rfl rfl rf_a0 ?_
        refine ok_icmp_eq bX11_sheet_27 (fun h27 => ?_) (fun h27 => ?_)
        · obtain rfl : bits = nI 32 := h27
          refine ok_step (ps := []) (L' := [some (.ref 0), some (.int (nI 2)), some (.int (nI 32)), some (.int n)]) (st' := [.int (nI 32)]) (σ' := (α, μ)) (pc' := 38) kX11_sheet_37 rfl rfl rf_a0 ?_
          refine ok_if_ne bX11_sheet_38 (fun _ => ?_) (fun h38 => absurd h38 ((by decide)))
          refine ok_step (ps := []) (L' := [some (.ref 0), some (.int (nI 2)), some (.int (nI 32)), some (.int n)]) (st' := [.int n]) (σ' := (α, μ)) (pc' := 53) kX11_sheet_52 rfl rfl rf_a0 ?_
          refine ok_if_ge bX11_sheet_53 (fun h53 => ?_) (fun h53 => ?_)
          · refine ok_step (ps := []) (L' := [some (.ref 0), some (.int (nI 2)), some (.int (nI 32)), some (.int n)]) (st' := [.int (nI 40), .int n]) (σ' := (α, μ)) (pc' := 66) kX11_sheet_63 rfl rfl rf_a0 ?_
            refine ok_icmp_le bX11_sheet_66 (fun h66 => ?_) (fun h66 => ?_)
            · obtain ⟨m, hm, rfl⟩ := i_of h53 h66 (by omega)
              refine ok_step (ps := []) (L' := [some (.ref 0), some (.int (nI 2)), some (.int (nI 32)), some (.int (nI m))]) (st' := [.int (nI m), .int (nI 32), .int (nI 2), .ref 85]) (σ' := (α, μ)) (pc' := 83) kX11_sheet_76 rfl rfl rf_a0 ?_
              have hc83 : rf_At (rf_T Ln xs) MX6_clear 50 0 ([some (.ref 85), some (.int (nI 2)), some (.int (nI 32)), some (.int (nI m))], [], 108, (α, μ)) (some (.int (nI 1))) 108 (rf_r (rf_w (rf_w α 86 2 (nI 32)) 87 2 (nI m)) 91 (fl 0 40 (nI 0) ((rf_w (rf_w α 86 2 (nI 32)) 87 2 (nI m)) 91)), μ) := by
                refine rf_pa ?_
                refine ok_step (ps := [rf_in (nI 2) 4, rf_in (nI 2) 4, rf_in (nI 2) 4]) (L' := [some (.ref 85), some (.int (nI 2)), some (.int (nI 32)), some (.int (nI m))]) (st' := [.int (nI 0), .ref 91]) (σ' := (rf_w (rf_w α 86 ((nI 2).toNatClampNeg) (nI 32)) 87 ((nI 2).toNatClampNeg) (nI m), μ)) (pc' := 21) kX6_clear_0 rfl rfl (rf_a1 (rf_in_n (a := 2) rfl (by omega)) (rf_a1 (rf_in_n (a := 2) rfl (by omega)) (rf_a1 (rf_in_n (a := 2) rfl (by omega)) rf_a0))) ?_
                try rw [(show (nI 2).toNatClampNeg = 2 from rf_cl_n rfl (by omega))]
                refine ok_S (As := [.ref 91, .int (nI 0)]) (st := []) mkJ7_fill_53178 qX6_clear_21 rfl rfl rfl rfl rfl (Nat.le_of_ble_eq_true rfl) (fill91) ?_
                refine ok_step (ps := []) (L' := [some (.ref 85), some (.int (nI 2)), some (.int (nI 32)), some (.int (nI m))]) (st' := [.int (nI 1)]) (σ' := (rf_r (rf_w (rf_w α 86 2 (nI 32)) 87 2 (nI m)) 91 (fl 0 40 (nI 0) ((rf_w (rf_w α 86 2 (nI 32)) 87 2 (nI m)) 91)), μ)) (pc' := 25) kX6_clear_24 rfl rfl rf_a0 ?_
                refine ok_reti eX6_clear_25 rfl ?_
                exact ⟨rfl, rfl⟩
              refine ok_V (As := [.int (nI 2), .int (nI 32), .int (nI m)]) (b := 85) (st := []) mkX6_clear qX11_sheet_83 rfl (rc_85) rfl rfl rfl rfl (Nat.le_of_ble_eq_true rfl) (hc83) ?_
              refine ok_reti eX11_sheet_86 rfl ?_
              refine ⟨rfl, _, rfl, ?_⟩
              refine ok_step (ps := []) (L' := [some (.ref 94), some (.int (nI 2)), some (.int (nI 32)), some (.int (nI m)), none]) (st' := [.int (nI 2)]) (σ' := (rf_r (rf_w (rf_w α 86 2 (nI 32)) 87 2 (nI m)) 91 (fl 0 40 (nI 0) ((rf_w (rf_w α 86 2 (nI 32)) 87 2 (nI m)) 91)), μ)) (pc' := 1) kX12_sheet_0 rfl rfl rf_a0 ?_
              refine ok_S (As := [.int (nI 2)]) (st := []) mkX12_isSheet qX12_sheet_1 rfl rfl rfl rfl rfl (Nat.le_of_ble_eq_true rfl) (m_isSheet) ?_
              rw [show bI (wi (nI 2) (nI 0) (nI 3)) = nI 1 from rfl]
              refine ok_if_eq bX12_sheet_4 (fun g4 => absurd g4 ((by decide))) (fun _ => ?_)
              refine ok_step (ps := []) (L' := [some (.ref 94), some (.int (nI 2)), some (.int (nI 32)), some (.int (nI m)), none]) (st' := [.int (nI 32)]) (σ' := (rf_r (rf_w (rf_w α 86 2 (nI 32)) 87 2 (nI m)) 91 (fl 0 40 (nI 0) ((rf_w (rf_w α 86 2 (nI 32)) 87 2 (nI m)) 91)), μ)) (pc' := 8) kX12_sheet_7 rfl rfl rf_a0 ?_
              refine ok_if_eq bX12_sheet_8 (fun g8 => absurd g8 ((by decide))) (fun _ => ?_)
              refine ok_step (ps := []) (L' := [some (.ref 94), some (.int (nI 2)), some (.int (nI 32)), some (.int (nI m)), none]) (st' := [.int (nI 8), .int (nI 32)]) (σ' := (rf_r (rf_w (rf_w α 86 2 (nI 32)) 87 2 (nI m)) 91 (fl 0 40 (nI 0) ((rf_w (rf_w α 86 2 (nI 32)) 87 2 (nI m)) 91)), μ)) (pc' := 14) kX12_sheet_11 rfl rfl rf_a0 ?_
              refine ok_icmp_eq bX12_sheet_14 (fun g14 => absurd g14 ((by decide))) (fun _ => ?_)
              refine ok_step (ps := []) (L' := [some (.ref 94), some (.int (nI 2)), some (.int (nI 32)), some (.int (nI m)), none]) (st' := [.int (nI 16), .int (nI 32)]) (σ' := (rf_r (rf_w (rf_w α 86 2 (nI 32)) 87 2 (nI m)) 91 (fl 0 40 (nI 0) ((rf_w (rf_w α 86 2 (nI 32)) 87 2 (nI m)) 91)), μ)) (pc' := 20) kX12_sheet_17 rfl rfl rf_a0 ?_
              refine ok_icmp_eq bX12_sheet_20 (fun g20 => absurd g20 ((by decide))) (fun _ => ?_)
              refine ok_step (ps := []) (L' := [some (.ref 94), some (.int (nI 2)), some (.int (nI 32)), some (.int (nI m)), none]) (st' := [.int (nI 32), .int (nI 32)]) (σ' := (rf_r (rf_w (rf_w α 86 2 (nI 32)) 87 2 (nI m)) 91 (fl 0 40 (nI 0) ((rf_w (rf_w α 86 2 (nI 32)) 87 2 (nI m)) 91)), μ)) (pc' := 26) kX12_sheet_23 rfl rfl rf_a0 ?_
              refine ok_icmp_eq bX12_sheet_26 (fun _ => ?_) (fun g26 => absurd ((by decide)) g26)
              refine ok_step (ps := []) (L' := [some (.ref 94), some (.int (nI 2)), some (.int (nI 32)), some (.int (nI m)), none]) (st' := [.int (nI 32)]) (σ' := (rf_r (rf_w (rf_w α 86 2 (nI 32)) 87 2 (nI m)) 91 (fl 0 40 (nI 0) ((rf_w (rf_w α 86 2 (nI 32)) 87 2 (nI m)) 91)), μ)) (pc' := 36) kX12_sheet_35 rfl rfl rf_a0 ?_
              refine ok_if_eq bX12_sheet_36 (fun g36 => absurd g36 ((by decide))) (fun _ => ?_)
              refine ok_step (ps := []) (L' := [some (.ref 94), some (.int (nI 2)), some (.int (nI 32)), some (.int (nI m)), none]) (st' := [.int (nI m)]) (σ' := (rf_r (rf_w (rf_w α 86 2 (nI 32)) 87 2 (nI m)) 91 (fl 0 40 (nI 0) ((rf_w (rf_w α 86 2 (nI 32)) 87 2 (nI m)) 91)), μ)) (pc' := 40) kX12_sheet_39 rfl rfl rf_a0 ?_
              refine ok_if_ge bX12_sheet_40 (fun _ => ?_) (fun g40 => absurd (h53) g40)
              refine ok_step (ps := []) (L' := [some (.ref 94), some (.int (nI 2)), some (.int (nI 32)), some (.int (nI m)), none]) (st' := [.int (nI 32)]) (σ' := (rf_r (rf_w (rf_w α 86 2 (nI 32)) 87 2 (nI m)) 91 (fl 0 40 (nI 0) ((rf_w (rf_w α 86 2 (nI 32)) 87 2 (nI m)) 91)), μ)) (pc' := 50) kX12_sheet_49 rfl rfl rf_a0 ?_
              refine ok_if_eq bX12_sheet_50 (fun g50 => absurd g50 ((by decide))) (fun _ => ?_)
              refine ok_step (ps := []) (L' := [some (.ref 94), some (.int (nI 2)), some (.int (nI 32)), some (.int (nI m)), none]) (st' := [.int (nI 40), .int (nI m)]) (σ' := (rf_r (rf_w (rf_w α 86 2 (nI 32)) 87 2 (nI m)) 91 (fl 0 40 (nI 0) ((rf_w (rf_w α 86 2 (nI 32)) 87 2 (nI m)) 91)), μ)) (pc' := 56) kX12_sheet_53 rfl rfl rf_a0 ?_
              refine ok_icmp_le bX12_sheet_56 (fun _ => ?_) (fun g56 => absurd (h66) g56)
              refine ok_step (ps := [rf_in (nI 2) 4]) (L' := [some (.ref 94), some (.int (nI 2)), some (.int (nI 32)), some (.int (nI m)), none]) (st' := [.int (nI 32), .int (nI 2), .ref 105]) (σ' := (rf_r (rf_w (rf_w α 86 2 (nI 32)) 87 2 (nI m)) 91 (fl 0 40 (nI 0) ((rf_w (rf_w α 86 2 (nI 32)) 87 2 (nI m)) 91)), rf_w μ 104 ((nI 2).toNatClampNeg) (nI 32))) (pc' := 78) kX12_sheet_65 rfl rfl (rf_a1 (rf_in_n (a := 2) rfl (by omega)) rf_a0) ?_
              try rw [(show (nI 2).toNatClampNeg = 2 from rf_cl_n rfl (by omega))]
              refine ok_if_ne bX12_sheet_78 (fun _ => ?_) (fun g78 => absurd g78 ((by decide)))
              refine ok_step (ps := []) (L' := [some (.ref 94), some (.int (nI 2)), some (.int (nI 32)), some (.int (nI m)), none]) (st' := [.int (nI m), .int (nI 2), .ref 105]) (σ' := (rf_r (rf_w (rf_w α 86 2 (nI 32)) 87 2 (nI m)) 91 (fl 0 40 (nI 0) ((rf_w (rf_w α 86 2 (nI 32)) 87 2 (nI m)) 91)), rf_w μ 104 2 (nI 32))) (pc' := 86) kX12_sheet_85 rfl rfl rf_a0 ?_
              refine ok_step (ps := [rf_in (nI 2) 4]) (L' := [some (.ref 94), some (.int (nI 2)), some (.int (nI 32)), some (.int (nI m)), some (.int (nI 0))]) (st' := []) (σ' := (rf_r (rf_w (rf_w α 86 2 (nI 32)) 87 2 (nI m)) 91 (fl 0 40 (nI 0) ((rf_w (rf_w α 86 2 (nI 32)) 87 2 (nI m)) 91)), rf_w (rf_w μ 104 2 (nI 32)) 105 ((nI 2).toNatClampNeg) (nI m))) (pc' := 90) kX12_sheet_86 rfl rfl (rf_a1 (rf_in_n (a := 2) rfl (by omega)) rf_a0) ?_
              try rw [(show (nI 2).toNatClampNeg = 2 from rf_cl_n rfl (by omega))]
              refine m_clr2 ?_
              exact ⟨rfl, _, rfl, hJ.sclr (s := 2) (by decide) (by decide) (by omega) rfl rfl rfl⟩
            · refine ok_step (ps := []) (L' := [some (.ref 0), some (.int (nI 2)), some (.int (nI 32)), some (.int n)]) (st' := [.int (-1000000001), .ref 0]) (σ' := (α, μ)) (pc' := 72) kX11_sheet_69 rfl rfl rf_a0 ?_
              refine ok_V (As := [.int (-1000000001)]) (b := 0) (st := []) mkX11_error qX11_sheet_72 rfl (rc_0) rfl rfl rfl rfl (Nat.le_of_ble_eq_true rfl) (c_error (k := 1) (by decide) (by decide) (by decide)) ?_
              refine ok_reti eX11_sheet_75 rfl ?_
              refine ⟨rfl, _, rfl, ?_⟩
              refine ok_step (ps := []) (L' := [some (.ref 94), some (.int (nI 2)), some (.int (nI 32)), some (.int n), none]) (st' := [.int (nI 2)]) (σ' := (rf_w α 93 1 (α 93 1 + nI 1), μ)) (pc' := 1) kX12_sheet_0 rfl rfl rf_a0 ?_
              refine ok_S (As := [.int (nI 2)]) (st := []) mkX12_isSheet qX12_sheet_1 rfl rfl rfl rfl rfl (Nat.le_of_ble_eq_true rfl) (m_isSheet) ?_
              rw [show bI (wi (nI 2) (nI 0) (nI 3)) = nI 1 from rfl]
              refine ok_if_eq bX12_sheet_4 (fun g4 => absurd g4 ((by decide))) (fun _ => ?_)
              refine ok_step (ps := []) (L' := [some (.ref 94), some (.int (nI 2)), some (.int (nI 32)), some (.int n), none]) (st' := [.int (nI 32)]) (σ' := (rf_w α 93 1 (α 93 1 + nI 1), μ)) (pc' := 8) kX12_sheet_7 rfl rfl rf_a0 ?_
              refine ok_if_eq bX12_sheet_8 (fun g8 => absurd g8 ((by decide))) (fun _ => ?_)
              refine ok_step (ps := []) (L' := [some (.ref 94), some (.int (nI 2)), some (.int (nI 32)), some (.int n), none]) (st' := [.int (nI 8), .int (nI 32)]) (σ' := (rf_w α 93 1 (α 93 1 + nI 1), μ)) (pc' := 14) kX12_sheet_11 rfl rfl rf_a0 ?_
              refine ok_icmp_eq bX12_sheet_14 (fun g14 => absurd g14 ((by decide))) (fun _ => ?_)
              refine ok_step (ps := []) (L' := [some (.ref 94), some (.int (nI 2)), some (.int (nI 32)), some (.int n), none]) (st' := [.int (nI 16), .int (nI 32)]) (σ' := (rf_w α 93 1 (α 93 1 + nI 1), μ)) (pc' := 20) kX12_sheet_17 rfl rfl rf_a0 ?_
              refine ok_icmp_eq bX12_sheet_20 (fun g20 => absurd g20 ((by decide))) (fun _ => ?_)
              refine ok_step (ps := []) (L' := [some (.ref 94), some (.int (nI 2)), some (.int (nI 32)), some (.int n), none]) (st' := [.int (nI 32), .int (nI 32)]) (σ' := (rf_w α 93 1 (α 93 1 + nI 1), μ)) (pc' := 26) kX12_sheet_23 rfl rfl rf_a0 ?_
              refine ok_icmp_eq bX12_sheet_26 (fun _ => ?_) (fun g26 => absurd ((by decide)) g26)
              refine ok_step (ps := []) (L' := [some (.ref 94), some (.int (nI 2)), some (.int (nI 32)), some (.int n), none]) (st' := [.int (nI 32)]) (σ' := (rf_w α 93 1 (α 93 1 + nI 1), μ)) (pc' := 36) kX12_sheet_35 rfl rfl rf_a0 ?_
              refine ok_if_eq bX12_sheet_36 (fun g36 => absurd g36 ((by decide))) (fun _ => ?_)
              refine ok_step (ps := []) (L' := [some (.ref 94), some (.int (nI 2)), some (.int (nI 32)), some (.int n), none]) (st' := [.int n]) (σ' := (rf_w α 93 1 (α 93 1 + nI 1), μ)) (pc' := 40) kX12_sheet_39 rfl rfl rf_a0 ?_
              refine ok_if_ge bX12_sheet_40 (fun _ => ?_) (fun g40 => absurd (h53) g40)
              refine ok_step (ps := []) (L' := [some (.ref 94), some (.int (nI 2)), some (.int (nI 32)), some (.int n), none]) (st' := [.int (nI 32)]) (σ' := (rf_w α 93 1 (α 93 1 + nI 1), μ)) (pc' := 50) kX12_sheet_49 rfl rfl rf_a0 ?_
              refine ok_if_eq bX12_sheet_50 (fun g50 => absurd g50 ((by decide))) (fun _ => ?_)
              refine ok_step (ps := []) (L' := [some (.ref 94), some (.int (nI 2)), some (.int (nI 32)), some (.int n), none]) (st' := [.int (nI 40), .int n]) (σ' := (rf_w α 93 1 (α 93 1 + nI 1), μ)) (pc' := 56) kX12_sheet_53 rfl rfl rf_a0 ?_
              refine ok_icmp_le bX12_sheet_56 (fun g56 => absurd g56 (h66)) (fun _ => ?_)
              refine ok_step (ps := []) (L' := [some (.ref 94), some (.int (nI 2)), some (.int (nI 32)), some (.int n), none]) (st' := [.int (nI 1), .ref 94]) (σ' := (rf_w α 93 1 (α 93 1 + nI 1), μ)) (pc' := 61) kX12_sheet_59 rfl rfl rf_a0 ?_
              refine ok_V (As := [.int (nI 1)]) (b := 94) (st := []) mkX12_finds qX12_sheet_61 rfl (rc_94) rfl rfl rfl rfl (Nat.le_of_ble_eq_true rfl) (m_finds (k := 1) (by decide)) ?_
              refine ok_reti eX12_sheet_64 rfl ?_
              exact ⟨rfl, _, rfl, hJ.err (k := 1) (by decide)⟩
          · refine ok_step (ps := []) (L' := [some (.ref 0), some (.int (nI 2)), some (.int (nI 32)), some (.int n)]) (st' := [.int (-1000000003), .ref 0]) (σ' := (α, μ)) (pc' := 59) kX11_sheet_56 rfl rfl rf_a0 ?_
            refine ok_V (As := [.int (-1000000003)]) (b := 0) (st := []) mkX11_error qX11_sheet_59 rfl (rc_0) rfl rfl rfl rfl (Nat.le_of_ble_eq_true rfl) (c_error (k := 3) (by decide) (by decide) (by decide)) ?_
            refine ok_reti eX11_sheet_62 rfl ?_
            refine ⟨rfl, _, rfl, ?_⟩
            refine ok_step (ps := []) (L' := [some (.ref 94), some (.int (nI 2)), some (.int (nI 32)), some (.int n), none]) (st' := [.int (nI 2)]) (σ' := (rf_w α 93 3 (α 93 3 + nI 1), μ)) (pc' := 1) kX12_sheet_0 rfl rfl rf_a0 ?_
            refine ok_S (As := [.int (nI 2)]) (st := []) mkX12_isSheet qX12_sheet_1 rfl rfl rfl rfl rfl (Nat.le_of_ble_eq_true rfl) (m_isSheet) ?_
            rw [show bI (wi (nI 2) (nI 0) (nI 3)) = nI 1 from rfl]
            refine ok_if_eq bX12_sheet_4 (fun g4 => absurd g4 ((by decide))) (fun _ => ?_)
            refine ok_step (ps := []) (L' := [some (.ref 94), some (.int (nI 2)), some (.int (nI 32)), some (.int n), none]) (st' := [.int (nI 32)]) (σ' := (rf_w α 93 3 (α 93 3 + nI 1), μ)) (pc' := 8) kX12_sheet_7 rfl rfl rf_a0 ?_
            refine ok_if_eq bX12_sheet_8 (fun g8 => absurd g8 ((by decide))) (fun _ => ?_)
            refine ok_step (ps := []) (L' := [some (.ref 94), some (.int (nI 2)), some (.int (nI 32)), some (.int n), none]) (st' := [.int (nI 8), .int (nI 32)]) (σ' := (rf_w α 93 3 (α 93 3 + nI 1), μ)) (pc' := 14) kX12_sheet_11 rfl rfl rf_a0 ?_
            refine ok_icmp_eq bX12_sheet_14 (fun g14 => absurd g14 ((by decide))) (fun _ => ?_)
            refine ok_step (ps := []) (L' := [some (.ref 94), some (.int (nI 2)), some (.int (nI 32)), some (.int n), none]) (st' := [.int (nI 16), .int (nI 32)]) (σ' := (rf_w α 93 3 (α 93 3 + nI 1), μ)) (pc' := 20) kX12_sheet_17 rfl rfl rf_a0 ?_
            refine ok_icmp_eq bX12_sheet_20 (fun g20 => absurd g20 ((by decide))) (fun _ => ?_)
            refine ok_step (ps := []) (L' := [some (.ref 94), some (.int (nI 2)), some (.int (nI 32)), some (.int n), none]) (st' := [.int (nI 32), .int (nI 32)]) (σ' := (rf_w α 93 3 (α 93 3 + nI 1), μ)) (pc' := 26) kX12_sheet_23 rfl rfl rf_a0 ?_
            refine ok_icmp_eq bX12_sheet_26 (fun _ => ?_) (fun g26 => absurd ((by decide)) g26)
            refine ok_step (ps := []) (L' := [some (.ref 94), some (.int (nI 2)), some (.int (nI 32)), some (.int n), none]) (st' := [.int (nI 32)]) (σ' := (rf_w α 93 3 (α 93 3 + nI 1), μ)) (pc' := 36) kX12_sheet_35 rfl rfl rf_a0 ?_
            refine ok_if_eq bX12_sheet_36 (fun g36 => absurd g36 ((by decide))) (fun _ => ?_)
            refine ok_step (ps := []) (L' := [some (.ref 94), some (.int (nI 2)), some (.int (nI 32)), some (.int n), none]) (st' := [.int n]) (σ' := (rf_w α 93 3 (α 93 3 + nI 1), μ)) (pc' := 40) kX12_sheet_39 rfl rfl rf_a0 ?_
            refine ok_if_ge bX12_sheet_40 (fun g40 => absurd g40 (h53)) (fun _ => ?_)
            refine ok_step (ps := []) (L' := [some (.ref 94), some (.int (nI 2)), some (.int (nI 32)), some (.int n), none]) (st' := [.int (nI 3), .ref 94]) (σ' := (rf_w α 93 3 (α 93 3 + nI 1), μ)) (pc' := 45) kX12_sheet_43 rfl rfl rf_a0 ?_
            refine ok_V (As := [.int (nI 3)]) (b := 94) (st := []) mkX12_finds qX12_sheet_45 rfl (rc_94) rfl rfl rfl rfl (Nat.le_of_ble_eq_true rfl) (m_finds (k := 3) (by decide)) ?_
            refine ok_reti eX12_sheet_48 rfl ?_
            exact ⟨rfl, _, rfl, hJ.err (k := 3) (by decide)⟩
        · refine ok_step (ps := []) (L' := [some (.ref 0), some (.int (nI 2)), some (.int bits), some (.int n)]) (st' := [.int (-1000000001), .ref 0]) (σ' := (α, μ)) (pc' := 33) kX11_sheet_30 rfl rfl rf_a0 ?_
          refine ok_V (As := [.int (-1000000001)]) (b := 0) (st := []) mkX11_error qX11_sheet_33 rfl (rc_0) rfl rfl rfl rfl (Nat.le_of_ble_eq_true rfl) (c_error (k := 1) (by decide) (by decide) (by decide)) ?_
          refine ok_reti eX11_sheet_36 rfl ?_
          refine ⟨rfl, _, rfl, ?_⟩
          refine ok_step (ps := []) (L' := [some (.ref 94), some (.int (nI 2)), some (.int bits), some (.int n), none]) (st' := [.int (nI 2)]) (σ' := (rf_w α 93 1 (α 93 1 + nI 1), μ)) (pc' := 1) kX12_sheet_0 rfl rfl rf_a0 ?_
          refine ok_S (As := [.int (nI 2)]) (st := []) mkX12_isSheet qX12_sheet_1 rfl rfl rfl rfl rfl (Nat.le_of_ble_eq_true rfl) (m_isSheet) ?_
          rw [show bI (wi (nI 2) (nI 0) (nI 3)) = nI 1 from rfl]
          refine ok_if_eq bX12_sheet_4 (fun g4 => absurd g4 ((by decide))) (fun _ => ?_)
          refine ok_step (ps := []) (L' := [some (.ref 94), some (.int (nI 2)), some (.int bits), some (.int n), none]) (st' := [.int bits]) (σ' := (rf_w α 93 1 (α 93 1 + nI 1), μ)) (pc' := 8) kX12_sheet_7 rfl rfl rf_a0 ?_
          refine ok_if_eq bX12_sheet_8 (fun g8 => absurd g8 (h9)) (fun _ => ?_)
          refine ok_step (ps := []) (L' := [some (.ref 94), some (.int (nI 2)), some (.int bits), some (.int n), none]) (st' := [.int (nI 8), .int bits]) (σ' := (rf_w α 93 1 (α 93 1 + nI 1), μ)) (pc' := 14) kX12_sheet_11 rfl rfl rf_a0 ?_
          refine ok_icmp_eq bX12_sheet_14 (fun g14 => absurd g14 (h15)) (fun _ => ?_)
          refine ok_step (ps := []) (L' := [some (.ref 94), some (.int (nI 2)), some (.int bits), some (.int n), none]) (st' := [.int (nI 16), .int bits]) (σ' := (rf_w α 93 1 (α 93 1 + nI 1), μ)) (pc' := 20) kX12_sheet_17 rfl rfl rf_a0 ?_
          refine ok_icmp_eq bX12_sheet_20 (fun g20 => absurd g20 (h21)) (fun _ => ?_)
          refine ok_step (ps := []) (L' := [some (.ref 94), some (.int (nI 2)), some (.int bits), some (.int n), none]) (st' := [.int (nI 32), .int bits]) (σ' := (rf_w α 93 1 (α 93 1 + nI 1), μ)) (pc' := 26) kX12_sheet_23 rfl rfl rf_a0 ?_
          refine ok_icmp_eq bX12_sheet_26 (fun g26 => absurd g26 (h27)) (fun _ => ?_)
          refine ok_step (ps := []) (L' := [some (.ref 94), some (.int (nI 2)), some (.int bits), some (.int n), none]) (st' := [.int (nI 1), .ref 94]) (σ' := (rf_w α 93 1 (α 93 1 + nI 1), μ)) (pc' := 31) kX12_sheet_29 rfl rfl rf_a0 ?_
          refine ok_V (As := [.int (nI 1)]) (b := 94) (st := []) mkX12_finds qX12_sheet_31 rfl (rc_94) rfl rfl rfl rfl (Nat.le_of_ble_eq_true rfl) (m_finds (k := 1) (by decide)) ?_
          refine ok_reti eX12_sheet_34 rfl ?_
          exact ⟨rfl, _, rfl, hJ.err (k := 1) (by decide)⟩
theorem m_clr3_l {b n : Int32} {β : Nat → Nat → Int32}  : ∀ (j i : Nat), i + j = 40 → rf_Ok (rf_T Ln xs) MX12_sheet 60 90 [some (.ref 94), some (.int (nI 3)), some (.int b), some (.int n), some (.int (nI i))] [] (α, rf_r β 106 (fl 120 i (nI 0) (β 106))) (fun r s => r = some (.int (nI 1)) ∧ s = (α, rf_r β 106 (fl 120 40 (nI 0) (β 106)))) := by
  intro j
  induction j with
  | zero =>
    intro i hj
    have hj : i = 40 := by omega
    refine ok_step (ps := []) (L' := [some (.ref 94), some (.int (nI 3)), some (.int b), some (.int n), some (.int (nI i))]) (st' := [.int (nI 40), .int (nI i)]) (σ' := (α, rf_r β 106 (fl 120 i (nI 0) (β 106)))) (pc' := 94) kX12_sheet_90 rfl rfl rf_a0 ?_
    refine ok_icmp_ge bX12_sheet_94 (fun _ => ?_) (fun h94 => absurd (nI_le (by omega) (by omega)) h94)
    refine ok_step (ps := []) (L' := [some (.ref 94), some (.int (nI 3)), some (.int b), some (.int n), some (.int (nI i))]) (st' := [.int (nI 1)]) (σ' := (α, rf_r β 106 (fl 120 i (nI 0) (β 106)))) (pc' := 117) kX12_sheet_116 rfl rfl rf_a0 ?_
    refine ok_reti eX12_sheet_117 rfl ?_
    exact ⟨rfl, by rw [hj]⟩
  | succ j ih =>
    intro i hj
    refine ok_step (ps := []) (L' := [some (.ref 94), some (.int (nI 3)), some (.int b), some (.int n), some (.int (nI i))]) (st' := [.int (nI 40), .int (nI i)]) (σ' := (α, rf_r β 106 (fl 120 i (nI 0) (β 106)))) (pc' := 94) kX12_sheet_90 rfl rfl rf_a0 ?_
    refine ok_icmp_ge bX12_sheet_94 (fun h94 => absurd h94 (nI_ge (by omega) (by omega))) (fun _ => ?_)
    refine ok_step (ps := [rf_in (((nI 40) * (nI 3)) + (nI i)) 160]) (L' := [some (.ref 94), some (.int (nI 3)), some (.int b), some (.int n), some (.int ((nI i) + (nI 1)))]) (st' := []) (σ' := (α, rf_w (rf_r β 106 (fl 120 i (nI 0) (β 106))) 106 ((((nI 40) * (nI 3)) + (nI i)).toNatClampNeg) (nI 0))) (pc' := 113) kX12_sheet_97 rfl rfl (rf_a1 (rf_in_n (a := (120 + i)) (by (try rw [(show ((nI 40) * (nI 3)) = nI 120 from rf_eq (rf_nmul (x := nI 40) (y := nI 3) rfl rfl) (by omega))]); (try rw [(show ((nI 120) + (nI i)) = nI (120 + i) from rf_eq (rf_nadd (x := nI 120) (y := nI i) rfl rfl) (by omega))]); all_goals exact rfl) (by omega)) rf_a0) ?_
    try rw [(show ((nI 40) * (nI 3)) = nI 120 from rf_eq (rf_nmul (x := nI 40) (y := nI 3) rfl rfl) (by omega))]
    try rw [(show ((nI 120) + (nI i)) = nI (120 + i) from rf_eq (rf_nadd (x := nI 120) (y := nI i) rfl rfl) (by omega))]
    try rw [(show (nI (120 + i)).toNatClampNeg = (120 + i) from rf_cl_n rfl (by omega))]
    try rw [(show ((nI i) + (nI 1)) = nI (i + 1) from nI_add _ _)]
    refine ok_goto bX12_sheet_113 ?_
    rw [rfw_fl (by omega)]
    exact ih (i + 1) (by omega)
theorem m_clr3 {b n : Int32} {β : Nat → Nat → Int32} {Q : Option Value → rf_Mem → Prop} (hq : Q (some (.int (nI 1))) (α, rf_r β 106 (fl 120 40 (nI 0) (β 106)))) : rf_Ok (rf_T Ln xs) MX12_sheet 60 90 [some (.ref 94), some (.int (nI 3)), some (.int b), some (.int n), some (.int (nI 0))] [] (α, β) Q := by
  have hl := m_clr3_l (Ln := Ln) (xs := xs) (α := α) (b := b) (n := n) (β := β) 40 0 (by omega)
  rw [rfr_0] at hl
  obtain ⟨r, s, h1, h2, h3⟩ := hl
  exact ⟨r, s, h1, by rw [h2, h3]; exact hq⟩
theorem op_sheet3 {bits n : Int32} (hJ : J α μ)  : Op (rf_T Ln xs) MX11_sheet MX12_sheet [some (.ref 0), some (.int (nI 3)), some (.int bits), some (.int n)] [some (.ref 94), some (.int (nI 3)), some (.int bits), some (.int n), none] α μ := by
  have hR := hJ.1.1.1
  have hI := hJ.2
  have b0 := hI.le0
  have b1 := hI.le1
  have b2 := hI.le2
  have b3 := hI.le3
  have b4 := hI.le4
  have b5 := hI.le5
  have b6 := hI.le6
  have b8 := hI.le8
  have b9 := hI.le9
  have b11 := hI.le11
  have b12 := hI.le12
  refine ok_step (ps := []) (L' := [some (.ref 0), some (.int (nI 3)), some (.int bits), some (.int n)]) (st' := [.int (nI 3), .ref 0]) (σ' := (α, μ)) (pc' := 2) kX11_sheet_0 rfl rfl rf_a0 ?_
  refine ok_V (As := [.int (nI 3)]) (b := 0) (st := []) mkX11_isSheet qX11_sheet_2 rfl (rc_0) rfl rfl rfl rfl (Nat.le_of_ble_eq_true rfl) (c_isSheet) ?_
  rw [show bI (wi (nI 3) (nI 0) (nI 3)) = nI 1 from rfl]
  refine ok_if_eq bX11_sheet_5 (fun h5 => absurd h5 ((by decide))) (fun _ => ?_)
  refine ok_step (ps := []) (L' := [some (.ref 0), some (.int (nI 3)), some (.int bits), some (.int n)]) (st' := [.int bits]) (σ' := (α, μ)) (pc' := 9) kX11_sheet_8 rfl rfl rf_a0 ?_
  refine ok_if_eq bX11_sheet_9 (fun h9 => ?_) (fun h9 => ?_)
  · obtain rfl : bits = nI 0 := h9
    refine ok_step (ps := []) (L' := [some (.ref 0), some (.int (nI 3)), some (.int (nI 0)), some (.int n)]) (st' := [.int (nI 0)]) (σ' := (α, μ)) (pc' := 38) kX11_sheet_37 rfl rfl rf_a0 ?_
    refine ok_if_ne bX11_sheet_38 (fun h38 => absurd ((by decide)) h38) (fun _ => ?_)
    refine ok_step (ps := []) (L' := [some (.ref 0), some (.int (nI 3)), some (.int (nI 0)), some (.int n)]) (st' := [.int (nI 0), .int (nI 0), .int (nI 3), .ref 85]) (σ' := (α, μ)) (pc' := 48) kX11_sheet_41 rfl rfl rf_a0 ?_
    have hc48 : rf_At (rf_T Ln xs) MX6_clear 50 0 ([some (.ref 85), some (.int (nI 3)), some (.int (nI 0)), some (.int (nI 0))], [], 108, (α, μ)) (some (.int (nI 1))) 108 (rf_r (rf_w (rf_w α 86 3 (nI 0)) 87 3 (nI 0)) 92 (fl 0 40 (nI 0) ((rf_w (rf_w α 86 3 (nI 0)) 87 3 (nI 0)) 92)), μ) := by
      refine rf_pa ?_
      refine ok_step (ps := [rf_in (nI 3) 4, rf_in (nI 3) 4, rf_in (nI 3) 4]) (L' := [some (.ref 85), some (.int (nI 3)), some (.int (nI 0)), some (.int (nI 0))]) (st' := [.int (nI 0), .ref 92]) (σ' := (rf_w (rf_w α 86 ((nI 3).toNatClampNeg) (nI 0)) 87 ((nI 3).toNatClampNeg) (nI 0), μ)) (pc' := 21) kX6_clear_0 rfl rfl (rf_a1 (rf_in_n (a := 3) rfl (by omega)) (rf_a1 (rf_in_n (a := 3) rfl (by omega)) (rf_a1 (rf_in_n (a := 3) rfl (by omega)) rf_a0))) ?_
      try rw [(show (nI 3).toNatClampNeg = 3 from rf_cl_n rfl (by omega))]
      refine ok_S (As := [.ref 92, .int (nI 0)]) (st := []) mkJ7_fill_53178 qX6_clear_21 rfl rfl rfl rfl rfl (Nat.le_of_ble_eq_true rfl) (fill92) ?_
      refine ok_step (ps := []) (L' := [some (.ref 85), some (.int (nI 3)), some (.int (nI 0)), some (.int (nI 0))]) (st' := [.int (nI 1)]) (σ' := (rf_r (rf_w (rf_w α 86 3 (nI 0)) 87 3 (nI 0)) 92 (fl 0 40 (nI 0) ((rf_w (rf_w α 86 3 (nI 0)) 87 3 (nI 0)) 92)), μ)) (pc' := 25) kX6_clear_24 rfl rfl rf_a0 ?_
      refine ok_reti eX6_clear_25 rfl ?_
      exact ⟨rfl, rfl⟩
    refine ok_V (As := [.int (nI 3), .int (nI 0), .int (nI 0)]) (b := 85) (st := []) mkX6_clear qX11_sheet_48 rfl (rc_85) rfl rfl rfl rfl (Nat.le_of_ble_eq_true rfl) (hc48) ?_
    refine ok_reti eX11_sheet_51 rfl ?_
    refine ⟨rfl, _, rfl, ?_⟩
    refine ok_step (ps := []) (L' := [some (.ref 94), some (.int (nI 3)), some (.int (nI 0)), some (.int n), none]) (st' := [.int (nI 3)]) (σ' := (rf_r (rf_w (rf_w α 86 3 (nI 0)) 87 3 (nI 0)) 92 (fl 0 40 (nI 0) ((rf_w (rf_w α 86 3 (nI 0)) 87 3 (nI 0)) 92)), μ)) (pc' := 1) kX12_sheet_0 rfl rfl rf_a0 ?_
    refine ok_S (As := [.int (nI 3)]) (st := []) mkX12_isSheet qX12_sheet_1 rfl rfl rfl rfl rfl (Nat.le_of_ble_eq_true rfl) (m_isSheet) ?_
    rw [show bI (wi (nI 3) (nI 0) (nI 3)) = nI 1 from rfl]
    refine ok_if_eq bX12_sheet_4 (fun g4 => absurd g4 ((by decide))) (fun _ => ?_)
    refine ok_step (ps := []) (L' := [some (.ref 94), some (.int (nI 3)), some (.int (nI 0)), some (.int n), none]) (st' := [.int (nI 0)]) (σ' := (rf_r (rf_w (rf_w α 86 3 (nI 0)) 87 3 (nI 0)) 92 (fl 0 40 (nI 0) ((rf_w (rf_w α 86 3 (nI 0)) 87 3 (nI 0)) 92)), μ)) (pc' := 8) kX12_sheet_7 rfl rfl rf_a0 ?_
    refine ok_if_eq bX12_sheet_8 (fun _ => ?_) (fun g8 => absurd ((by decide)) g8)
    refine ok_step (ps := []) (L' := [some (.ref 94), some (.int (nI 3)), some (.int (nI 0)), some (.int n), none]) (st' := [.int (nI 0)]) (σ' := (rf_r (rf_w (rf_w α 86 3 (nI 0)) 87 3 (nI 0)) 92 (fl 0 40 (nI 0) ((rf_w (rf_w α 86 3 (nI 0)) 87 3 (nI 0)) 92)), μ)) (pc' := 36) kX12_sheet_35 rfl rfl rf_a0 ?_
    refine ok_if_eq bX12_sheet_36 (fun _ => ?_) (fun g36 => absurd ((by decide)) g36)
    refine ok_step (ps := []) (L' := [some (.ref 94), some (.int (nI 3)), some (.int (nI 0)), some (.int n), none]) (st' := [.int (nI 0)]) (σ' := (rf_r (rf_w (rf_w α 86 3 (nI 0)) 87 3 (nI 0)) 92 (fl 0 40 (nI 0) ((rf_w (rf_w α 86 3 (nI 0)) 87 3 (nI 0)) 92)), μ)) (pc' := 50) kX12_sheet_49 rfl rfl rf_a0 ?_
    refine ok_if_eq bX12_sheet_50 (fun _ => ?_) (fun g50 => absurd ((by decide)) g50)
    refine ok_step (ps := [rf_in (nI 3) 4]) (L' := [some (.ref 94), some (.int (nI 3)), some (.int (nI 0)), some (.int n), none]) (st' := [.int (nI 0), .int (nI 3), .ref 105]) (σ' := (rf_r (rf_w (rf_w α 86 3 (nI 0)) 87 3 (nI 0)) 92 (fl 0 40 (nI 0) ((rf_w (rf_w α 86 3 (nI 0)) 87 3 (nI 0)) 92)), rf_w μ 104 ((nI 3).toNatClampNeg) (nI 0))) (pc' := 78) kX12_sheet_65 rfl rfl (rf_a1 (rf_in_n (a := 3) rfl (by omega)) rf_a0) ?_
    try rw [(show (nI 3).toNatClampNeg = 3 from rf_cl_n rfl (by omega))]
    refine ok_if_ne bX12_sheet_78 (fun g78 => absurd ((by decide)) g78) (fun _ => ?_)
    refine ok_step (ps := []) (L' := [some (.ref 94), some (.int (nI 3)), some (.int (nI 0)), some (.int n), none]) (st' := [.int (nI 0), .int (nI 3), .ref 105]) (σ' := (rf_r (rf_w (rf_w α 86 3 (nI 0)) 87 3 (nI 0)) 92 (fl 0 40 (nI 0) ((rf_w (rf_w α 86 3 (nI 0)) 87 3 (nI 0)) 92)), rf_w μ 104 3 (nI 0))) (pc' := 82) kX12_sheet_81 rfl rfl rf_a0 ?_
    refine ok_goto bX12_sheet_82 ?_
    refine ok_step (ps := [rf_in (nI 3) 4]) (L' := [some (.ref 94), some (.int (nI 3)), some (.int (nI 0)), some (.int n), some (.int (nI 0))]) (st' := []) (σ' := (rf_r (rf_w (rf_w α 86 3 (nI 0)) 87 3 (nI 0)) 92 (fl 0 40 (nI 0) ((rf_w (rf_w α 86 3 (nI 0)) 87 3 (nI 0)) 92)), rf_w (rf_w μ 104 3 (nI 0)) 105 ((nI 3).toNatClampNeg) (nI 0))) (pc' := 90) kX12_sheet_86 rfl rfl (rf_a1 (rf_in_n (a := 3) rfl (by omega)) rf_a0) ?_
    try rw [(show (nI 3).toNatClampNeg = 3 from rf_cl_n rfl (by omega))]
    refine m_clr3 ?_
    exact ⟨rfl, _, rfl, hJ.sclr (s := 3) (by decide) (by decide) (by omega) rfl rfl rfl⟩
  · refine ok_step (ps := []) (L' := [some (.ref 0), some (.int (nI 3)), some (.int bits), some (.int n)]) (st' := [.int (nI 8), .int bits]) (σ' := (α, μ)) (pc' := 15) kX11_sheet_12 rfl rfl rf_a0 ?_
    refine ok_icmp_eq bX11_sheet_15 (fun h15 => ?_) (fun h15 => ?_)
    · obtain rfl : bits = nI 8 := h15
      refine ok_step (ps := []) (L' := [some (.ref 0), some (.int (nI 3)), some (.int (nI 8)), some (.int n)]) (st' := [.int (nI 8)]) (σ' := (α, μ)) (pc' := 38) kX11_sheet_37 rfl rfl rf_a0 ?_
      refine ok_if_ne bX11_sheet_38 (fun _ => ?_) (fun h38 => absurd h38 ((by decide)))
      refine ok_step (ps := []) (L' := [some (.ref 0), some (.int (nI 3)), some (.int (nI 8)), some (.int n)]) (st' := [.int n]) (σ' := (α, μ)) (pc' := 53) kX11_sheet_52 rfl rfl rf_a0 ?_
      refine ok_if_ge bX11_sheet_53 (fun h53 => ?_) (fun h53 => ?_)
      · refine ok_step (ps := []) (L' := [some (.ref 0), some (.int (nI 3)), some (.int (nI 8)), some (.int n)]) (st' := [.int (nI 40), .int n]) (σ' := (α, μ)) (pc' := 66) kX11_sheet_63 rfl rfl rf_a0 ?_
        refine ok_icmp_le bX11_sheet_66 (fun h66 => ?_) (fun h66 => ?_)
        · obtain ⟨m, hm, rfl⟩ := i_of h53 h66 (by omega)
          refine ok_step (ps := []) (L' := [some (.ref 0), some (.int (nI 3)), some (.int (nI 8)), some (.int (nI m))]) (st' := [.int (nI m), .int (nI 8), .int (nI 3), .ref 85]) (σ' := (α, μ)) (pc' := 83) kX11_sheet_76 rfl rfl rf_a0 ?_
          have hc83 : rf_At (rf_T Ln xs) MX6_clear 50 0 ([some (.ref 85), some (.int (nI 3)), some (.int (nI 8)), some (.int (nI m))], [], 108, (α, μ)) (some (.int (nI 1))) 108 (rf_r (rf_w (rf_w α 86 3 (nI 8)) 87 3 (nI m)) 92 (fl 0 40 (nI 0) ((rf_w (rf_w α 86 3 (nI 8)) 87 3 (nI m)) 92)), μ) := by
            refine rf_pa ?_
            refine ok_step (ps := [rf_in (nI 3) 4, rf_in (nI 3) 4, rf_in (nI 3) 4]) (L' := [some (.ref 85), some (.int (nI 3)), some (.int (nI 8)), some (.int (nI m))]) (st' := [.int (nI 0), .ref 92]) (σ' := (rf_w (rf_w α 86 ((nI 3).toNatClampNeg) (nI 8)) 87 ((nI 3).toNatClampNeg) (nI m), μ)) (pc' := 21) kX6_clear_0 rfl rfl (rf_a1 (rf_in_n (a := 3) rfl (by omega)) (rf_a1 (rf_in_n (a := 3) rfl (by omega)) (rf_a1 (rf_in_n (a := 3) rfl (by omega)) rf_a0))) ?_
            try rw [(show (nI 3).toNatClampNeg = 3 from rf_cl_n rfl (by omega))]
            refine ok_S (As := [.ref 92, .int (nI 0)]) (st := []) mkJ7_fill_53178 qX6_clear_21 rfl rfl rfl rfl rfl (Nat.le_of_ble_eq_true rfl) (fill92) ?_
            refine ok_step (ps := []) (L' := [some (.ref 85), some (.int (nI 3)), some (.int (nI 8)), some (.int (nI m))]) (st' := [.int (nI 1)]) (σ' := (rf_r (rf_w (rf_w α 86 3 (nI 8)) 87 3 (nI m)) 92 (fl 0 40 (nI 0) ((rf_w (rf_w α 86 3 (nI 8)) 87 3 (nI m)) 92)), μ)) (pc' := 25) kX6_clear_24 rfl rfl rf_a0 ?_
            refine ok_reti eX6_clear_25 rfl ?_
            exact ⟨rfl, rfl⟩
          refine ok_V (As := [.int (nI 3), .int (nI 8), .int (nI m)]) (b := 85) (st := []) mkX6_clear qX11_sheet_83 rfl (rc_85) rfl rfl rfl rfl (Nat.le_of_ble_eq_true rfl) (hc83) ?_
          refine ok_reti eX11_sheet_86 rfl ?_
          refine ⟨rfl, _, rfl, ?_⟩
          refine ok_step (ps := []) (L' := [some (.ref 94), some (.int (nI 3)), some (.int (nI 8)), some (.int (nI m)), none]) (st' := [.int (nI 3)]) (σ' := (rf_r (rf_w (rf_w α 86 3 (nI 8)) 87 3 (nI m)) 92 (fl 0 40 (nI 0) ((rf_w (rf_w α 86 3 (nI 8)) 87 3 (nI m)) 92)), μ)) (pc' := 1) kX12_sheet_0 rfl rfl rf_a0 ?_
          refine ok_S (As := [.int (nI 3)]) (st := []) mkX12_isSheet qX12_sheet_1 rfl rfl rfl rfl rfl (Nat.le_of_ble_eq_true rfl) (m_isSheet) ?_
          rw [show bI (wi (nI 3) (nI 0) (nI 3)) = nI 1 from rfl]
          refine ok_if_eq bX12_sheet_4 (fun g4 => absurd g4 ((by decide))) (fun _ => ?_)
          refine ok_step (ps := []) (L' := [some (.ref 94), some (.int (nI 3)), some (.int (nI 8)), some (.int (nI m)), none]) (st' := [.int (nI 8)]) (σ' := (rf_r (rf_w (rf_w α 86 3 (nI 8)) 87 3 (nI m)) 92 (fl 0 40 (nI 0) ((rf_w (rf_w α 86 3 (nI 8)) 87 3 (nI m)) 92)), μ)) (pc' := 8) kX12_sheet_7 rfl rfl rf_a0 ?_
          refine ok_if_eq bX12_sheet_8 (fun g8 => absurd g8 ((by decide))) (fun _ => ?_)
          refine ok_step (ps := []) (L' := [some (.ref 94), some (.int (nI 3)), some (.int (nI 8)), some (.int (nI m)), none]) (st' := [.int (nI 8), .int (nI 8)]) (σ' := (rf_r (rf_w (rf_w α 86 3 (nI 8)) 87 3 (nI m)) 92 (fl 0 40 (nI 0) ((rf_w (rf_w α 86 3 (nI 8)) 87 3 (nI m)) 92)), μ)) (pc' := 14) kX12_sheet_11 rfl rfl rf_a0 ?_
          refine ok_icmp_eq bX12_sheet_14 (fun _ => ?_) (fun g14 => absurd ((by decide)) g14)
          refine ok_step (ps := []) (L' := [some (.ref 94), some (.int (nI 3)), some (.int (nI 8)), some (.int (nI m)), none]) (st' := [.int (nI 8)]) (σ' := (rf_r (rf_w (rf_w α 86 3 (nI 8)) 87 3 (nI m)) 92 (fl 0 40 (nI 0) ((rf_w (rf_w α 86 3 (nI 8)) 87 3 (nI m)) 92)), μ)) (pc' := 36) kX12_sheet_35 rfl rfl rf_a0 ?_
          refine ok_if_eq bX12_sheet_36 (fun g36 => absurd g36 ((by decide))) (fun _ => ?_)
          refine ok_step (ps := []) (L' := [some (.ref 94), some (.int (nI 3)), some (.int (nI 8)), some (.int (nI m)), none]) (st' := [.int (nI m)]) (σ' := (rf_r (rf_w (rf_w α 86 3 (nI 8)) 87 3 (nI m)) 92 (fl 0 40 (nI 0) ((rf_w (rf_w α 86 3 (nI 8)) 87 3 (nI m)) 92)), μ)) (pc' := 40) kX12_sheet_39 rfl rfl rf_a0 ?_
          refine ok_if_ge bX12_sheet_40 (fun _ => ?_) (fun g40 => absurd (h53) g40)
          refine ok_step (ps := []) (L' := [some (.ref 94), some (.int (nI 3)), some (.int (nI 8)), some (.int (nI m)), none]) (st' := [.int (nI 8)]) (σ' := (rf_r (rf_w (rf_w α 86 3 (nI 8)) 87 3 (nI m)) 92 (fl 0 40 (nI 0) ((rf_w (rf_w α 86 3 (nI 8)) 87 3 (nI m)) 92)), μ)) (pc' := 50) kX12_sheet_49 rfl rfl rf_a0 ?_
          refine ok_if_eq bX12_sheet_50 (fun g50 => absurd g50 ((by decide))) (fun _ => ?_)
          refine ok_step (ps := []) (L' := [some (.ref 94), some (.int (nI 3)), some (.int (nI 8)), some (.int (nI m)), none]) (st' := [.int (nI 40), .int (nI m)]) (σ' := (rf_r (rf_w (rf_w α 86 3 (nI 8)) 87 3 (nI m)) 92 (fl 0 40 (nI 0) ((rf_w (rf_w α 86 3 (nI 8)) 87 3 (nI m)) 92)), μ)) (pc' := 56) kX12_sheet_53 rfl rfl rf_a0 ?_
          refine ok_icmp_le bX12_sheet_56 (fun _ => ?_) (fun g56 => absurd (h66) g56)
          refine ok_step (ps := [rf_in (nI 3) 4]) (L' := [some (.ref 94), some (.int (nI 3)), some (.int (nI 8)), some (.int (nI m)), none]) (st' := [.int (nI 8), .int (nI 3), .ref 105]) (σ' := (rf_r (rf_w (rf_w α 86 3 (nI 8)) 87 3 (nI m)) 92 (fl 0 40 (nI 0) ((rf_w (rf_w α 86 3 (nI 8)) 87 3 (nI m)) 92)), rf_w μ 104 ((nI 3).toNatClampNeg) (nI 8))) (pc' := 78) kX12_sheet_65 rfl rfl (rf_a1 (rf_in_n (a := 3) rfl (by omega)) rf_a0) ?_
          try rw [(show (nI 3).toNatClampNeg = 3 from rf_cl_n rfl (by omega))]
          refine ok_if_ne bX12_sheet_78 (fun _ => ?_) (fun g78 => absurd g78 ((by decide)))
          refine ok_step (ps := []) (L' := [some (.ref 94), some (.int (nI 3)), some (.int (nI 8)), some (.int (nI m)), none]) (st' := [.int (nI m), .int (nI 3), .ref 105]) (σ' := (rf_r (rf_w (rf_w α 86 3 (nI 8)) 87 3 (nI m)) 92 (fl 0 40 (nI 0) ((rf_w (rf_w α 86 3 (nI 8)) 87 3 (nI m)) 92)), rf_w μ 104 3 (nI 8))) (pc' := 86) kX12_sheet_85 rfl rfl rf_a0 ?_
          refine ok_step (ps := [rf_in (nI 3) 4]) (L' := [some (.ref 94), some (.int (nI 3)), some (.int (nI 8)), some (.int (nI m)), some (.int (nI 0))]) (st' := []) (σ' := (rf_r (rf_w (rf_w α 86 3 (nI 8)) 87 3 (nI m)) 92 (fl 0 40 (nI 0) ((rf_w (rf_w α 86 3 (nI 8)) 87 3 (nI m)) 92)), rf_w (rf_w μ 104 3 (nI 8)) 105 ((nI 3).toNatClampNeg) (nI m))) (pc' := 90) kX12_sheet_86 rfl rfl (rf_a1 (rf_in_n (a := 3) rfl (by omega)) rf_a0) ?_
          try rw [(show (nI 3).toNatClampNeg = 3 from rf_cl_n rfl (by omega))]
          refine m_clr3 ?_
          exact ⟨rfl, _, rfl, hJ.sclr (s := 3) (by decide) (by decide) (by omega) rfl rfl rfl⟩
        · refine ok_step (ps := []) (L' := [some (.ref 0), some (.int (nI 3)), some (.int (nI 8)), some (.int n)]) (st' := [.int (-1000000001), .ref 0]) (σ' := (α, μ)) (pc' := 72) kX11_sheet_69 rfl rfl rf_a0 ?_
          refine ok_V (As := [.int (-1000000001)]) (b := 0) (st := []) mkX11_error qX11_sheet_72 rfl (rc_0) rfl rfl rfl rfl (Nat.le_of_ble_eq_true rfl) (c_error (k := 1) (by decide) (by decide) (by decide)) ?_
          refine ok_reti eX11_sheet_75 rfl ?_
          refine ⟨rfl, _, rfl, ?_⟩
          refine ok_step (ps := []) (L' := [some (.ref 94), some (.int (nI 3)), some (.int (nI 8)), some (.int n), none]) (st' := [.int (nI 3)]) (σ' := (rf_w α 93 1 (α 93 1 + nI 1), μ)) (pc' := 1) kX12_sheet_0 rfl rfl rf_a0 ?_
          refine ok_S (As := [.int (nI 3)]) (st := []) mkX12_isSheet qX12_sheet_1 rfl rfl rfl rfl rfl (Nat.le_of_ble_eq_true rfl) (m_isSheet) ?_
          rw [show bI (wi (nI 3) (nI 0) (nI 3)) = nI 1 from rfl]
          refine ok_if_eq bX12_sheet_4 (fun g4 => absurd g4 ((by decide))) (fun _ => ?_)
          refine ok_step (ps := []) (L' := [some (.ref 94), some (.int (nI 3)), some (.int (nI 8)), some (.int n), none]) (st' := [.int (nI 8)]) (σ' := (rf_w α 93 1 (α 93 1 + nI 1), μ)) (pc' := 8) kX12_sheet_7 rfl rfl rf_a0 ?_
          refine ok_if_eq bX12_sheet_8 (fun g8 => absurd g8 ((by decide))) (fun _ => ?_)
          refine ok_step (ps := []) (L' := [some (.ref 94), some (.int (nI 3)), some (.int (nI 8)), some (.int n), none]) (st' := [.int (nI 8), .int (nI 8)]) (σ' := (rf_w α 93 1 (α 93 1 + nI 1), μ)) (pc' := 14) kX12_sheet_11 rfl rfl rf_a0 ?_
          refine ok_icmp_eq bX12_sheet_14 (fun _ => ?_) (fun g14 => absurd ((by decide)) g14)
          refine ok_step (ps := []) (L' := [some (.ref 94), some (.int (nI 3)), some (.int (nI 8)), some (.int n), none]) (st' := [.int (nI 8)]) (σ' := (rf_w α 93 1 (α 93 1 + nI 1), μ)) (pc' := 36) kX12_sheet_35 rfl rfl rf_a0 ?_
          refine ok_if_eq bX12_sheet_36 (fun g36 => absurd g36 ((by decide))) (fun _ => ?_)
          refine ok_step (ps := []) (L' := [some (.ref 94), some (.int (nI 3)), some (.int (nI 8)), some (.int n), none]) (st' := [.int n]) (σ' := (rf_w α 93 1 (α 93 1 + nI 1), μ)) (pc' := 40) kX12_sheet_39 rfl rfl rf_a0 ?_
          refine ok_if_ge bX12_sheet_40 (fun _ => ?_) (fun g40 => absurd (h53) g40)
          refine ok_step (ps := []) (L' := [some (.ref 94), some (.int (nI 3)), some (.int (nI 8)), some (.int n), none]) (st' := [.int (nI 8)]) (σ' := (rf_w α 93 1 (α 93 1 + nI 1), μ)) (pc' := 50) kX12_sheet_49 rfl rfl rf_a0 ?_
          refine ok_if_eq bX12_sheet_50 (fun g50 => absurd g50 ((by decide))) (fun _ => ?_)
          refine ok_step (ps := []) (L' := [some (.ref 94), some (.int (nI 3)), some (.int (nI 8)), some (.int n), none]) (st' := [.int (nI 40), .int n]) (σ' := (rf_w α 93 1 (α 93 1 + nI 1), μ)) (pc' := 56) kX12_sheet_53 rfl rfl rf_a0 ?_
          refine ok_icmp_le bX12_sheet_56 (fun g56 => absurd g56 (h66)) (fun _ => ?_)
          refine ok_step (ps := []) (L' := [some (.ref 94), some (.int (nI 3)), some (.int (nI 8)), some (.int n), none]) (st' := [.int (nI 1), .ref 94]) (σ' := (rf_w α 93 1 (α 93 1 + nI 1), μ)) (pc' := 61) kX12_sheet_59 rfl rfl rf_a0 ?_
          refine ok_V (As := [.int (nI 1)]) (b := 94) (st := []) mkX12_finds qX12_sheet_61 rfl (rc_94) rfl rfl rfl rfl (Nat.le_of_ble_eq_true rfl) (m_finds (k := 1) (by decide)) ?_
          refine ok_reti eX12_sheet_64 rfl ?_
          exact ⟨rfl, _, rfl, hJ.err (k := 1) (by decide)⟩
      · refine ok_step (ps := []) (L' := [some (.ref 0), some (.int (nI 3)), some (.int (nI 8)), some (.int n)]) (st' := [.int (-1000000003), .ref 0]) (σ' := (α, μ)) (pc' := 59) kX11_sheet_56 rfl rfl rf_a0 ?_
        refine ok_V (As := [.int (-1000000003)]) (b := 0) (st := []) mkX11_error qX11_sheet_59 rfl (rc_0) rfl rfl rfl rfl (Nat.le_of_ble_eq_true rfl) (c_error (k := 3) (by decide) (by decide) (by decide)) ?_
        refine ok_reti eX11_sheet_62 rfl ?_
        refine ⟨rfl, _, rfl, ?_⟩
        refine ok_step (ps := []) (L' := [some (.ref 94), some (.int (nI 3)), some (.int (nI 8)), some (.int n), none]) (st' := [.int (nI 3)]) (σ' := (rf_w α 93 3 (α 93 3 + nI 1), μ)) (pc' := 1) kX12_sheet_0 rfl rfl rf_a0 ?_
        refine ok_S (As := [.int (nI 3)]) (st := []) mkX12_isSheet qX12_sheet_1 rfl rfl rfl rfl rfl (Nat.le_of_ble_eq_true rfl) (m_isSheet) ?_
        rw [show bI (wi (nI 3) (nI 0) (nI 3)) = nI 1 from rfl]
        refine ok_if_eq bX12_sheet_4 (fun g4 => absurd g4 ((by decide))) (fun _ => ?_)
        refine ok_step (ps := []) (L' := [some (.ref 94), some (.int (nI 3)), some (.int (nI 8)), some (.int n), none]) (st' := [.int (nI 8)]) (σ' := (rf_w α 93 3 (α 93 3 + nI 1), μ)) (pc' := 8) kX12_sheet_7 rfl rfl rf_a0 ?_
        refine ok_if_eq bX12_sheet_8 (fun g8 => absurd g8 ((by decide))) (fun _ => ?_)
        refine ok_step (ps := []) (L' := [some (.ref 94), some (.int (nI 3)), some (.int (nI 8)), some (.int n), none]) (st' := [.int (nI 8), .int (nI 8)]) (σ' := (rf_w α 93 3 (α 93 3 + nI 1), μ)) (pc' := 14) kX12_sheet_11 rfl rfl rf_a0 ?_
        refine ok_icmp_eq bX12_sheet_14 (fun _ => ?_) (fun g14 => absurd ((by decide)) g14)
        refine ok_step (ps := []) (L' := [some (.ref 94), some (.int (nI 3)), some (.int (nI 8)), some (.int n), none]) (st' := [.int (nI 8)]) (σ' := (rf_w α 93 3 (α 93 3 + nI 1), μ)) (pc' := 36) kX12_sheet_35 rfl rfl rf_a0 ?_
        refine ok_if_eq bX12_sheet_36 (fun g36 => absurd g36 ((by decide))) (fun _ => ?_)
        refine ok_step (ps := []) (L' := [some (.ref 94), some (.int (nI 3)), some (.int (nI 8)), some (.int n), none]) (st' := [.int n]) (σ' := (rf_w α 93 3 (α 93 3 + nI 1), μ)) (pc' := 40) kX12_sheet_39 rfl rfl rf_a0 ?_
        refine ok_if_ge bX12_sheet_40 (fun g40 => absurd g40 (h53)) (fun _ => ?_)
        refine ok_step (ps := []) (L' := [some (.ref 94), some (.int (nI 3)), some (.int (nI 8)), some (.int n), none]) (st' := [.int (nI 3), .ref 94]) (σ' := (rf_w α 93 3 (α 93 3 + nI 1), μ)) (pc' := 45) kX12_sheet_43 rfl rfl rf_a0 ?_
        refine ok_V (As := [.int (nI 3)]) (b := 94) (st := []) mkX12_finds qX12_sheet_45 rfl (rc_94) rfl rfl rfl rfl (Nat.le_of_ble_eq_true rfl) (m_finds (k := 3) (by decide)) ?_
        refine ok_reti eX12_sheet_48 rfl ?_
        exact ⟨rfl, _, rfl, hJ.err (k := 3) (by decide)⟩
    · refine ok_step (ps := []) (L' := [some (.ref 0), some (.int (nI 3)), some (.int bits), some (.int n)]) (st' := [.int (nI 16), .int bits]) (σ' := (α, μ)) (pc' := 21) kX11_sheet_18 rfl rfl rf_a0 ?_
      refine ok_icmp_eq bX11_sheet_21 (fun h21 => ?_) (fun h21 => ?_)
      · obtain rfl : bits = nI 16 := h21
        refine ok_step (ps := []) (L' := [some (.ref 0), some (.int (nI 3)), some (.int (nI 16)), some (.int n)]) (st' := [.int (nI 16)]) (σ' := (α, μ)) (pc' := 38) kX11_sheet_37 rfl rfl rf_a0 ?_
        refine ok_if_ne bX11_sheet_38 (fun _ => ?_) (fun h38 => absurd h38 ((by decide)))
        refine ok_step (ps := []) (L' := [some (.ref 0), some (.int (nI 3)), some (.int (nI 16)), some (.int n)]) (st' := [.int n]) (σ' := (α, μ)) (pc' := 53) kX11_sheet_52 rfl rfl rf_a0 ?_
        refine ok_if_ge bX11_sheet_53 (fun h53 => ?_) (fun h53 => ?_)
        · refine ok_step (ps := []) (L' := [some (.ref 0), some (.int (nI 3)), some (.int (nI 16)), some (.int n)]) (st' := [.int (nI 40), .int n]) (σ' := (α, μ)) (pc' := 66) kX11_sheet_63 rfl rfl rf_a0 ?_
          refine ok_icmp_le bX11_sheet_66 (fun h66 => ?_) (fun h66 => ?_)
          · obtain ⟨m, hm, rfl⟩ := i_of h53 h66 (by omega)
            refine ok_step (ps := []) (L' := [some (.ref 0), some (.int (nI 3)), some (.int (nI 16)), some (.int (nI m))]) (st' := [.int (nI m), .int (nI 16), .int (nI 3), .ref 85]) (σ' := (α, μ)) (pc' := 83) kX11_sheet_76 rfl rfl rf_a0 ?_
            have hc83 : rf_At (rf_T Ln xs) MX6_clear 50 0 ([some (.ref 85), some (.int (nI 3)), some (.int (nI 16)), some (.int (nI m))], [], 108, (α, μ)) (some (.int (nI 1))) 108 (rf_r (rf_w (rf_w α 86 3 (nI 16)) 87 3 (nI m)) 92 (fl 0 40 (nI 0) ((rf_w (rf_w α 86 3 (nI 16)) 87 3 (nI m)) 92)), μ) := by
              refine rf_pa ?_
              refine ok_step (ps := [rf_in (nI 3) 4, rf_in (nI 3) 4, rf_in (nI 3) 4]) (L' := [some (.ref 85), some (.int (nI 3)), some (.int (nI 16)), some (.int (nI m))]) (st' := [.int (nI 0), .ref 92]) (σ' := (rf_w (rf_w α 86 ((nI 3).toNatClampNeg) (nI 16)) 87 ((nI 3).toNatClampNeg) (nI m), μ)) (pc' := 21) kX6_clear_0 rfl rfl (rf_a1 (rf_in_n (a := 3) rfl (by omega)) (rf_a1 (rf_in_n (a := 3) rfl (by omega)) (rf_a1 (rf_in_n (a := 3) rfl (by omega)) rf_a0))) ?_
              try rw [(show (nI 3).toNatClampNeg = 3 from rf_cl_n rfl (by omega))]
              refine ok_S (As := [.ref 92, .int (nI 0)]) (st := []) mkJ7_fill_53178 qX6_clear_21 rfl rfl rfl rfl rfl (Nat.le_of_ble_eq_true rfl) (fill92) ?_
              refine ok_step (ps := []) (L' := [some (.ref 85), some (.int (nI 3)), some (.int (nI 16)), some (.int (nI m))]) (st' := [.int (nI 1)]) (σ' := (rf_r (rf_w (rf_w α 86 3 (nI 16)) 87 3 (nI m)) 92 (fl 0 40 (nI 0) ((rf_w (rf_w α 86 3 (nI 16)) 87 3 (nI m)) 92)), μ)) (pc' := 25) kX6_clear_24 rfl rfl rf_a0 ?_
              refine ok_reti eX6_clear_25 rfl ?_
              exact ⟨rfl, rfl⟩
            refine ok_V (As := [.int (nI 3), .int (nI 16), .int (nI m)]) (b := 85) (st := []) mkX6_clear qX11_sheet_83 rfl (rc_85) rfl rfl rfl rfl (Nat.le_of_ble_eq_true rfl) (hc83) ?_
            refine ok_reti eX11_sheet_86 rfl ?_
            refine ⟨rfl, _, rfl, ?_⟩
            refine ok_step (ps := []) (L' := [some (.ref 94), some (.int (nI 3)), some (.int (nI 16)), some (.int (nI m)), none]) (st' := [.int (nI 3)]) (σ' := (rf_r (rf_w (rf_w α 86 3 (nI 16)) 87 3 (nI m)) 92 (fl 0 40 (nI 0) ((rf_w (rf_w α 86 3 (nI 16)) 87 3 (nI m)) 92)), μ)) (pc' := 1) kX12_sheet_0 rfl rfl rf_a0 ?_
            refine ok_S (As := [.int (nI 3)]) (st := []) mkX12_isSheet qX12_sheet_1 rfl rfl rfl rfl rfl (Nat.le_of_ble_eq_true rfl) (m_isSheet) ?_
            rw [show bI (wi (nI 3) (nI 0) (nI 3)) = nI 1 from rfl]
            refine ok_if_eq bX12_sheet_4 (fun g4 => absurd g4 ((by decide))) (fun _ => ?_)
            refine ok_step (ps := []) (L' := [some (.ref 94), some (.int (nI 3)), some (.int (nI 16)), some (.int (nI m)), none]) (st' := [.int (nI 16)]) (σ' := (rf_r (rf_w (rf_w α 86 3 (nI 16)) 87 3 (nI m)) 92 (fl 0 40 (nI 0) ((rf_w (rf_w α 86 3 (nI 16)) 87 3 (nI m)) 92)), μ)) (pc' := 8) kX12_sheet_7 rfl rfl rf_a0 ?_
            refine ok_if_eq bX12_sheet_8 (fun g8 => absurd g8 ((by decide))) (fun _ => ?_)
            refine ok_step (ps := []) (L' := [some (.ref 94), some (.int (nI 3)), some (.int (nI 16)), some (.int (nI m)), none]) (st' := [.int (nI 8), .int (nI 16)]) (σ' := (rf_r (rf_w (rf_w α 86 3 (nI 16)) 87 3 (nI m)) 92 (fl 0 40 (nI 0) ((rf_w (rf_w α 86 3 (nI 16)) 87 3 (nI m)) 92)), μ)) (pc' := 14) kX12_sheet_11 rfl rfl rf_a0 ?_
            refine ok_icmp_eq bX12_sheet_14 (fun g14 => absurd g14 ((by decide))) (fun _ => ?_)
            refine ok_step (ps := []) (L' := [some (.ref 94), some (.int (nI 3)), some (.int (nI 16)), some (.int (nI m)), none]) (st' := [.int (nI 16), .int (nI 16)]) (σ' := (rf_r (rf_w (rf_w α 86 3 (nI 16)) 87 3 (nI m)) 92 (fl 0 40 (nI 0) ((rf_w (rf_w α 86 3 (nI 16)) 87 3 (nI m)) 92)), μ)) (pc' := 20) kX12_sheet_17 rfl rfl rf_a0 ?_
            refine ok_icmp_eq bX12_sheet_20 (fun _ => ?_) (fun g20 => absurd ((by decide)) g20)
            refine ok_step (ps := []) (L' := [some (.ref 94), some (.int (nI 3)), some (.int (nI 16)), some (.int (nI m)), none]) (st' := [.int (nI 16)]) (σ' := (rf_r (rf_w (rf_w α 86 3 (nI 16)) 87 3 (nI m)) 92 (fl 0 40 (nI 0) ((rf_w (rf_w α 86 3 (nI 16)) 87 3 (nI m)) 92)), μ)) (pc' := 36) kX12_sheet_35 rfl rfl rf_a0 ?_
            refine ok_if_eq bX12_sheet_36 (fun g36 => absurd g36 ((by decide))) (fun _ => ?_)
            refine ok_step (ps := []) (L' := [some (.ref 94), some (.int (nI 3)), some (.int (nI 16)), some (.int (nI m)), none]) (st' := [.int (nI m)]) (σ' := (rf_r (rf_w (rf_w α 86 3 (nI 16)) 87 3 (nI m)) 92 (fl 0 40 (nI 0) ((rf_w (rf_w α 86 3 (nI 16)) 87 3 (nI m)) 92)), μ)) (pc' := 40) kX12_sheet_39 rfl rfl rf_a0 ?_
            refine ok_if_ge bX12_sheet_40 (fun _ => ?_) (fun g40 => absurd (h53) g40)
            refine ok_step (ps := []) (L' := [some (.ref 94), some (.int (nI 3)), some (.int (nI 16)), some (.int (nI m)), none]) (st' := [.int (nI 16)]) (σ' := (rf_r (rf_w (rf_w α 86 3 (nI 16)) 87 3 (nI m)) 92 (fl 0 40 (nI 0) ((rf_w (rf_w α 86 3 (nI 16)) 87 3 (nI m)) 92)), μ)) (pc' := 50) kX12_sheet_49 rfl rfl rf_a0 ?_
            refine ok_if_eq bX12_sheet_50 (fun g50 => absurd g50 ((by decide))) (fun _ => ?_)
            refine ok_step (ps := []) (L' := [some (.ref 94), some (.int (nI 3)), some (.int (nI 16)), some (.int (nI m)), none]) (st' := [.int (nI 40), .int (nI m)]) (σ' := (rf_r (rf_w (rf_w α 86 3 (nI 16)) 87 3 (nI m)) 92 (fl 0 40 (nI 0) ((rf_w (rf_w α 86 3 (nI 16)) 87 3 (nI m)) 92)), μ)) (pc' := 56) kX12_sheet_53 rfl rfl rf_a0 ?_
            refine ok_icmp_le bX12_sheet_56 (fun _ => ?_) (fun g56 => absurd (h66) g56)
            refine ok_step (ps := [rf_in (nI 3) 4]) (L' := [some (.ref 94), some (.int (nI 3)), some (.int (nI 16)), some (.int (nI m)), none]) (st' := [.int (nI 16), .int (nI 3), .ref 105]) (σ' := (rf_r (rf_w (rf_w α 86 3 (nI 16)) 87 3 (nI m)) 92 (fl 0 40 (nI 0) ((rf_w (rf_w α 86 3 (nI 16)) 87 3 (nI m)) 92)), rf_w μ 104 ((nI 3).toNatClampNeg) (nI 16))) (pc' := 78) kX12_sheet_65 rfl rfl (rf_a1 (rf_in_n (a := 3) rfl (by omega)) rf_a0) ?_
            try rw [(show (nI 3).toNatClampNeg = 3 from rf_cl_n rfl (by omega))]
            refine ok_if_ne bX12_sheet_78 (fun _ => ?_) (fun g78 => absurd g78 ((by decide)))
            refine ok_step (ps := []) (L' := [some (.ref 94), some (.int (nI 3)), some (.int (nI 16)), some (.int (nI m)), none]) (st' := [.int (nI m), .int (nI 3), .ref 105]) (σ' := (rf_r (rf_w (rf_w α 86 3 (nI 16)) 87 3 (nI m)) 92 (fl 0 40 (nI 0) ((rf_w (rf_w α 86 3 (nI 16)) 87 3 (nI m)) 92)), rf_w μ 104 3 (nI 16))) (pc' := 86) kX12_sheet_85 rfl rfl rf_a0 ?_
            refine ok_step (ps := [rf_in (nI 3) 4]) (L' := [some (.ref 94), some (.int (nI 3)), some (.int (nI 16)), some (.int (nI m)), some (.int (nI 0))]) (st' := []) (σ' := (rf_r (rf_w (rf_w α 86 3 (nI 16)) 87 3 (nI m)) 92 (fl 0 40 (nI 0) ((rf_w (rf_w α 86 3 (nI 16)) 87 3 (nI m)) 92)), rf_w (rf_w μ 104 3 (nI 16)) 105 ((nI 3).toNatClampNeg) (nI m))) (pc' := 90) kX12_sheet_86 rfl rfl (rf_a1 (rf_in_n (a := 3) rfl (by omega)) rf_a0) ?_
            try rw [(show (nI 3).toNatClampNeg = 3 from rf_cl_n rfl (by omega))]
            refine m_clr3 ?_
            exact ⟨rfl, _, rfl, hJ.sclr (s := 3) (by decide) (by decide) (by omega) rfl rfl rfl⟩
          · refine ok_step (ps := []) (L' := [some (.ref 0), some (.int (nI 3)), some (.int (nI 16)), some (.int n)]) (st' := [.int (-1000000001), .ref 0]) (σ' := (α, μ)) (pc' := 72) kX11_sheet_69 rfl rfl rf_a0 ?_
            refine ok_V (As := [.int (-1000000001)]) (b := 0) (st := []) mkX11_error qX11_sheet_72 rfl (rc_0) rfl rfl rfl rfl (Nat.le_of_ble_eq_true rfl) (c_error (k := 1) (by decide) (by decide) (by decide)) ?_
            refine ok_reti eX11_sheet_75 rfl ?_
            refine ⟨rfl, _, rfl, ?_⟩
            refine ok_step (ps := []) (L' := [some (.ref 94), some (.int (nI 3)), some (.int (nI 16)), some (.int n), none]) (st' := [.int (nI 3)]) (σ' := (rf_w α 93 1 (α 93 1 + nI 1), μ)) (pc' := 1) kX12_sheet_0 rfl rfl rf_a0 ?_
            refine ok_S (As := [.int (nI 3)]) (st := []) mkX12_isSheet qX12_sheet_1 rfl rfl rfl rfl rfl (Nat.le_of_ble_eq_true rfl) (m_isSheet) ?_
            rw [show bI (wi (nI 3) (nI 0) (nI 3)) = nI 1 from rfl]
            refine ok_if_eq bX12_sheet_4 (fun g4 => absurd g4 ((by decide))) (fun _ => ?_)
            refine ok_step (ps := []) (L' := [some (.ref 94), some (.int (nI 3)), some (.int (nI 16)), some (.int n), none]) (st' := [.int (nI 16)]) (σ' := (rf_w α 93 1 (α 93 1 + nI 1), μ)) (pc' := 8) kX12_sheet_7 rfl rfl rf_a0 ?_
            refine ok_if_eq bX12_sheet_8 (fun g8 => absurd g8 ((by decide))) (fun _ => ?_)
            refine ok_step (ps := []) (L' := [some (.ref 94), some (.int (nI 3)), some (.int (nI 16)), some (.int n), none]) (st' := [.int (nI 8), .int (nI 16)]) (σ' := (rf_w α 93 1 (α 93 1 + nI 1), μ)) (pc' := 14) kX12_sheet_11 rfl rfl rf_a0 ?_
            refine ok_icmp_eq bX12_sheet_14 (fun g14 => absurd g14 ((by decide))) (fun _ => ?_)
            refine ok_step (ps := []) (L' := [some (.ref 94), some (.int (nI 3)), some (.int (nI 16)), some (.int n), none]) (st' := [.int (nI 16), .int (nI 16)]) (σ' := (rf_w α 93 1 (α 93 1 + nI 1), μ)) (pc' := 20) kX12_sheet_17 rfl rfl rf_a0 ?_
            refine ok_icmp_eq bX12_sheet_20 (fun _ => ?_) (fun g20 => absurd ((by decide)) g20)
            refine ok_step (ps := []) (L' := [some (.ref 94), some (.int (nI 3)), some (.int (nI 16)), some (.int n), none]) (st' := [.int (nI 16)]) (σ' := (rf_w α 93 1 (α 93 1 + nI 1), μ)) (pc' := 36) kX12_sheet_35 rfl rfl rf_a0 ?_
            refine ok_if_eq bX12_sheet_36 (fun g36 => absurd g36 ((by decide))) (fun _ => ?_)
            refine ok_step (ps := []) (L' := [some (.ref 94), some (.int (nI 3)), some (.int (nI 16)), some (.int n), none]) (st' := [.int n]) (σ' := (rf_w α 93 1 (α 93 1 + nI 1), μ)) (pc' := 40) kX12_sheet_39 rfl rfl rf_a0 ?_
            refine ok_if_ge bX12_sheet_40 (fun _ => ?_) (fun g40 => absurd (h53) g40)
            refine ok_step (ps := []) (L' := [some (.ref 94), some (.int (nI 3)), some (.int (nI 16)), some (.int n), none]) (st' := [.int (nI 16)]) (σ' := (rf_w α 93 1 (α 93 1 + nI 1), μ)) (pc' := 50) kX12_sheet_49 rfl rfl rf_a0 ?_
            refine ok_if_eq bX12_sheet_50 (fun g50 => absurd g50 ((by decide))) (fun _ => ?_)
            refine ok_step (ps := []) (L' := [some (.ref 94), some (.int (nI 3)), some (.int (nI 16)), some (.int n), none]) (st' := [.int (nI 40), .int n]) (σ' := (rf_w α 93 1 (α 93 1 + nI 1), μ)) (pc' := 56) kX12_sheet_53 rfl rfl rf_a0 ?_
            refine ok_icmp_le bX12_sheet_56 (fun g56 => absurd g56 (h66)) (fun _ => ?_)
            refine ok_step (ps := []) (L' := [some (.ref 94), some (.int (nI 3)), some (.int (nI 16)), some (.int n), none]) (st' := [.int (nI 1), .ref 94]) (σ' := (rf_w α 93 1 (α 93 1 + nI 1), μ)) (pc' := 61) kX12_sheet_59 rfl rfl rf_a0 ?_
            refine ok_V (As := [.int (nI 1)]) (b := 94) (st := []) mkX12_finds qX12_sheet_61 rfl (rc_94) rfl rfl rfl rfl (Nat.le_of_ble_eq_true rfl) (m_finds (k := 1) (by decide)) ?_
            refine ok_reti eX12_sheet_64 rfl ?_
            exact ⟨rfl, _, rfl, hJ.err (k := 1) (by decide)⟩
        · refine ok_step (ps := []) (L' := [some (.ref 0), some (.int (nI 3)), some (.int (nI 16)), some (.int n)]) (st' := [.int (-1000000003), .ref 0]) (σ' := (α, μ)) (pc' := 59) kX11_sheet_56 rfl rfl rf_a0 ?_
          refine ok_V (As := [.int (-1000000003)]) (b := 0) (st := []) mkX11_error qX11_sheet_59 rfl (rc_0) rfl rfl rfl rfl (Nat.le_of_ble_eq_true rfl) (c_error (k := 3) (by decide) (by decide) (by decide)) ?_
          refine ok_reti eX11_sheet_62 rfl ?_
          refine ⟨rfl, _, rfl, ?_⟩
          refine ok_step (ps := []) (L' := [some (.ref 94), some (.int (nI 3)), some (.int (nI 16)), some (.int n), none]) (st' := [.int (nI 3)]) (σ' := (rf_w α 93 3 (α 93 3 + nI 1), μ)) (pc' := 1) kX12_sheet_0 rfl rfl rf_a0 ?_
          refine ok_S (As := [.int (nI 3)]) (st := []) mkX12_isSheet qX12_sheet_1 rfl rfl rfl rfl rfl (Nat.le_of_ble_eq_true rfl) (m_isSheet) ?_
          rw [show bI (wi (nI 3) (nI 0) (nI 3)) = nI 1 from rfl]
          refine ok_if_eq bX12_sheet_4 (fun g4 => absurd g4 ((by decide))) (fun _ => ?_)
          refine ok_step (ps := []) (L' := [some (.ref 94), some (.int (nI 3)), some (.int (nI 16)), some (.int n), none]) (st' := [.int (nI 16)]) (σ' := (rf_w α 93 3 (α 93 3 + nI 1), μ)) (pc' := 8) kX12_sheet_7 rfl rfl rf_a0 ?_
          refine ok_if_eq bX12_sheet_8 (fun g8 => absurd g8 ((by decide))) (fun _ => ?_)
          refine ok_step (ps := []) (L' := [some (.ref 94), some (.int (nI 3)), some (.int (nI 16)), some (.int n), none]) (st' := [.int (nI 8), .int (nI 16)]) (σ' := (rf_w α 93 3 (α 93 3 + nI 1), μ)) (pc' := 14) kX12_sheet_11 rfl rfl rf_a0 ?_
          refine ok_icmp_eq bX12_sheet_14 (fun g14 => absurd g14 ((by decide))) (fun _ => ?_)
          refine ok_step (ps := []) (L' := [some (.ref 94), some (.int (nI 3)), some (.int (nI 16)), some (.int n), none]) (st' := [.int (nI 16), .int (nI 16)]) (σ' := (rf_w α 93 3 (α 93 3 + nI 1), μ)) (pc' := 20) kX12_sheet_17 rfl rfl rf_a0 ?_
          refine ok_icmp_eq bX12_sheet_20 (fun _ => ?_) (fun g20 => absurd ((by decide)) g20)
          refine ok_step (ps := []) (L' := [some (.ref 94), some (.int (nI 3)), some (.int (nI 16)), some (.int n), none]) (st' := [.int (nI 16)]) (σ' := (rf_w α 93 3 (α 93 3 + nI 1), μ)) (pc' := 36) kX12_sheet_35 rfl rfl rf_a0 ?_
          refine ok_if_eq bX12_sheet_36 (fun g36 => absurd g36 ((by decide))) (fun _ => ?_)
          refine ok_step (ps := []) (L' := [some (.ref 94), some (.int (nI 3)), some (.int (nI 16)), some (.int n), none]) (st' := [.int n]) (σ' := (rf_w α 93 3 (α 93 3 + nI 1), μ)) (pc' := 40) kX12_sheet_39 rfl rfl rf_a0 ?_
          refine ok_if_ge bX12_sheet_40 (fun g40 => absurd g40 (h53)) (fun _ => ?_)
          refine ok_step (ps := []) (L' := [some (.ref 94), some (.int (nI 3)), some (.int (nI 16)), some (.int n), none]) (st' := [.int (nI 3), .ref 94]) (σ' := (rf_w α 93 3 (α 93 3 + nI 1), μ)) (pc' := 45) kX12_sheet_43 rfl rfl rf_a0 ?_
          refine ok_V (As := [.int (nI 3)]) (b := 94) (st := []) mkX12_finds qX12_sheet_45 rfl (rc_94) rfl rfl rfl rfl (Nat.le_of_ble_eq_true rfl) (m_finds (k := 3) (by decide)) ?_
          refine ok_reti eX12_sheet_48 rfl ?_
          exact ⟨rfl, _, rfl, hJ.err (k := 3) (by decide)⟩
      · refine ok_step (ps := []) (L' := [some (.ref 0), some (.int (nI 3)), some (.int bits), some (.int n)]) (st' := [.int (nI 32), .int bits]) (σ' := (α, μ)) (pc' := 27) kX11_sheet_24 rfl rfl rf_a0 ?_
        refine ok_icmp_eq bX11_sheet_27 (fun h27 => ?_) (fun h27 => ?_)
        · obtain rfl : bits = nI 32 := h27
          refine ok_step (ps := []) (L' := [some (.ref 0), some (.int (nI 3)), some (.int (nI 32)), some (.int n)]) (st' := [.int (nI 32)]) (σ' := (α, μ)) (pc' := 38) kX11_sheet_37 rfl rfl rf_a0 ?_
          refine ok_if_ne bX11_sheet_38 (fun _ => ?_) (fun h38 => absurd h38 ((by decide)))
          refine ok_step (ps := []) (L' := [some (.ref 0), some (.int (nI 3)), some (.int (nI 32)), some (.int n)]) (st' := [.int n]) (σ' := (α, μ)) (pc' := 53) kX11_sheet_52 rfl rfl rf_a0 ?_
          refine ok_if_ge bX11_sheet_53 (fun h53 => ?_) (fun h53 => ?_)
          · refine ok_step (ps := []) (L' := [some (.ref 0), some (.int (nI 3)), some (.int (nI 32)), some (.int n)]) (st' := [.int (nI 40), .int n]) (σ' := (α, μ)) (pc' := 66) kX11_sheet_63 rfl rfl rf_a0 ?_
            refine ok_icmp_le bX11_sheet_66 (fun h66 => ?_) (fun h66 => ?_)
            · obtain ⟨m, hm, rfl⟩ := i_of h53 h66 (by omega)
              refine ok_step (ps := []) (L' := [some (.ref 0), some (.int (nI 3)), some (.int (nI 32)), some (.int (nI m))]) (st' := [.int (nI m), .int (nI 32), .int (nI 3), .ref 85]) (σ' := (α, μ)) (pc' := 83) kX11_sheet_76 rfl rfl rf_a0 ?_
              have hc83 : rf_At (rf_T Ln xs) MX6_clear 50 0 ([some (.ref 85), some (.int (nI 3)), some (.int (nI 32)), some (.int (nI m))], [], 108, (α, μ)) (some (.int (nI 1))) 108 (rf_r (rf_w (rf_w α 86 3 (nI 32)) 87 3 (nI m)) 92 (fl 0 40 (nI 0) ((rf_w (rf_w α 86 3 (nI 32)) 87 3 (nI m)) 92)), μ) := by
                refine rf_pa ?_
                refine ok_step (ps := [rf_in (nI 3) 4, rf_in (nI 3) 4, rf_in (nI 3) 4]) (L' := [some (.ref 85), some (.int (nI 3)), some (.int (nI 32)), some (.int (nI m))]) (st' := [.int (nI 0), .ref 92]) (σ' := (rf_w (rf_w α 86 ((nI 3).toNatClampNeg) (nI 32)) 87 ((nI 3).toNatClampNeg) (nI m), μ)) (pc' := 21) kX6_clear_0 rfl rfl (rf_a1 (rf_in_n (a := 3) rfl (by omega)) (rf_a1 (rf_in_n (a := 3) rfl (by omega)) (rf_a1 (rf_in_n (a := 3) rfl (by omega)) rf_a0))) ?_
                try rw [(show (nI 3).toNatClampNeg = 3 from rf_cl_n rfl (by omega))]
                refine ok_S (As := [.ref 92, .int (nI 0)]) (st := []) mkJ7_fill_53178 qX6_clear_21 rfl rfl rfl rfl rfl (Nat.le_of_ble_eq_true rfl) (fill92) ?_
                refine ok_step (ps := []) (L' := [some (.ref 85), some (.int (nI 3)), some (.int (nI 32)), some (.int (nI m))]) (st' := [.int (nI 1)]) (σ' := (rf_r (rf_w (rf_w α 86 3 (nI 32)) 87 3 (nI m)) 92 (fl 0 40 (nI 0) ((rf_w (rf_w α 86 3 (nI 32)) 87 3 (nI m)) 92)), μ)) (pc' := 25) kX6_clear_24 rfl rfl rf_a0 ?_
                refine ok_reti eX6_clear_25 rfl ?_
                exact ⟨rfl, rfl⟩
              refine ok_V (As := [.int (nI 3), .int (nI 32), .int (nI m)]) (b := 85) (st := []) mkX6_clear qX11_sheet_83 rfl (rc_85) rfl rfl rfl rfl (Nat.le_of_ble_eq_true rfl) (hc83) ?_
              refine ok_reti eX11_sheet_86 rfl ?_
              refine ⟨rfl, _, rfl, ?_⟩
              refine ok_step (ps := []) (L' := [some (.ref 94), some (.int (nI 3)), some (.int (nI 32)), some (.int (nI m)), none]) (st' := [.int (nI 3)]) (σ' := (rf_r (rf_w (rf_w α 86 3 (nI 32)) 87 3 (nI m)) 92 (fl 0 40 (nI 0) ((rf_w (rf_w α 86 3 (nI 32)) 87 3 (nI m)) 92)), μ)) (pc' := 1) kX12_sheet_0 rfl rfl rf_a0 ?_
              refine ok_S (As := [.int (nI 3)]) (st := []) mkX12_isSheet qX12_sheet_1 rfl rfl rfl rfl rfl (Nat.le_of_ble_eq_true rfl) (m_isSheet) ?_
              rw [show bI (wi (nI 3) (nI 0) (nI 3)) = nI 1 from rfl]
              refine ok_if_eq bX12_sheet_4 (fun g4 => absurd g4 ((by decide))) (fun _ => ?_)
              refine ok_step (ps := []) (L' := [some (.ref 94), some (.int (nI 3)), some (.int (nI 32)), some (.int (nI m)), none]) (st' := [.int (nI 32)]) (σ' := (rf_r (rf_w (rf_w α 86 3 (nI 32)) 87 3 (nI m)) 92 (fl 0 40 (nI 0) ((rf_w (rf_w α 86 3 (nI 32)) 87 3 (nI m)) 92)), μ)) (pc' := 8) kX12_sheet_7 rfl rfl rf_a0 ?_
              refine ok_if_eq bX12_sheet_8 (fun g8 => absurd g8 ((by decide))) (fun _ => ?_)
              refine ok_step (ps := []) (L' := [some (.ref 94), some (.int (nI 3)), some (.int (nI 32)), some (.int (nI m)), none]) (st' := [.int (nI 8), .int (nI 32)]) (σ' := (rf_r (rf_w (rf_w α 86 3 (nI 32)) 87 3 (nI m)) 92 (fl 0 40 (nI 0) ((rf_w (rf_w α 86 3 (nI 32)) 87 3 (nI m)) 92)), μ)) (pc' := 14) kX12_sheet_11 rfl rfl rf_a0 ?_
              refine ok_icmp_eq bX12_sheet_14 (fun g14 => absurd g14 ((by decide))) (fun _ => ?_)
              refine ok_step (ps := []) (L' := [some (.ref 94), some (.int (nI 3)), some (.int (nI 32)), some (.int (nI m)), none]) (st' := [.int (nI 16), .int (nI 32)]) (σ' := (rf_r (rf_w (rf_w α 86 3 (nI 32)) 87 3 (nI m)) 92 (fl 0 40 (nI 0) ((rf_w (rf_w α 86 3 (nI 32)) 87 3 (nI m)) 92)), μ)) (pc' := 20) kX12_sheet_17 rfl rfl rf_a0 ?_
              refine ok_icmp_eq bX12_sheet_20 (fun g20 => absurd g20 ((by decide))) (fun _ => ?_)
              refine ok_step (ps := []) (L' := [some (.ref 94), some (.int (nI 3)), some (.int (nI 32)), some (.int (nI m)), none]) (st' := [.int (nI 32), .int (nI 32)]) (σ' := (rf_r (rf_w (rf_w α 86 3 (nI 32)) 87 3 (nI m)) 92 (fl 0 40 (nI 0) ((rf_w (rf_w α 86 3 (nI 32)) 87 3 (nI m)) 92)), μ)) (pc' := 26) kX12_sheet_23 rfl rfl rf_a0 ?_
              refine ok_icmp_eq bX12_sheet_26 (fun _ => ?_) (fun g26 => absurd ((by decide)) g26)
              refine ok_step (ps := []) (L' := [some (.ref 94), some (.int (nI 3)), some (.int (nI 32)), some (.int (nI m)), none]) (st' := [.int (nI 32)]) (σ' := (rf_r (rf_w (rf_w α 86 3 (nI 32)) 87 3 (nI m)) 92 (fl 0 40 (nI 0) ((rf_w (rf_w α 86 3 (nI 32)) 87 3 (nI m)) 92)), μ)) (pc' := 36) kX12_sheet_35 rfl rfl rf_a0 ?_
              refine ok_if_eq bX12_sheet_36 (fun g36 => absurd g36 ((by decide))) (fun _ => ?_)
              refine ok_step (ps := []) (L' := [some (.ref 94), some (.int (nI 3)), some (.int (nI 32)), some (.int (nI m)), none]) (st' := [.int (nI m)]) (σ' := (rf_r (rf_w (rf_w α 86 3 (nI 32)) 87 3 (nI m)) 92 (fl 0 40 (nI 0) ((rf_w (rf_w α 86 3 (nI 32)) 87 3 (nI m)) 92)), μ)) (pc' := 40) kX12_sheet_39 rfl rfl rf_a0 ?_
              refine ok_if_ge bX12_sheet_40 (fun _ => ?_) (fun g40 => absurd (h53) g40)
              refine ok_step (ps := []) (L' := [some (.ref 94), some (.int (nI 3)), some (.int (nI 32)), some (.int (nI m)), none]) (st' := [.int (nI 32)]) (σ' := (rf_r (rf_w (rf_w α 86 3 (nI 32)) 87 3 (nI m)) 92 (fl 0 40 (nI 0) ((rf_w (rf_w α 86 3 (nI 32)) 87 3 (nI m)) 92)), μ)) (pc' := 50) kX12_sheet_49 rfl rfl rf_a0 ?_
              refine ok_if_eq bX12_sheet_50 (fun g50 => absurd g50 ((by decide))) (fun _ => ?_)
              refine ok_step (ps := []) (L' := [some (.ref 94), some (.int (nI 3)), some (.int (nI 32)), some (.int (nI m)), none]) (st' := [.int (nI 40), .int (nI m)]) (σ' := (rf_r (rf_w (rf_w α 86 3 (nI 32)) 87 3 (nI m)) 92 (fl 0 40 (nI 0) ((rf_w (rf_w α 86 3 (nI 32)) 87 3 (nI m)) 92)), μ)) (pc' := 56) kX12_sheet_53 rfl rfl rf_a0 ?_
              refine ok_icmp_le bX12_sheet_56 (fun _ => ?_) (fun g56 => absurd (h66) g56)
              refine ok_step (ps := [rf_in (nI 3) 4]) (L' := [some (.ref 94), some (.int (nI 3)), some (.int (nI 32)), some (.int (nI m)), none]) (st' := [.int (nI 32), .int (nI 3), .ref 105]) (σ' := (rf_r (rf_w (rf_w α 86 3 (nI 32)) 87 3 (nI m)) 92 (fl 0 40 (nI 0) ((rf_w (rf_w α 86 3 (nI 32)) 87 3 (nI m)) 92)), rf_w μ 104 ((nI 3).toNatClampNeg) (nI 32))) (pc' := 78) kX12_sheet_65 rfl rfl (rf_a1 (rf_in_n (a := 3) rfl (by omega)) rf_a0) ?_
              try rw [(show (nI 3).toNatClampNeg = 3 from rf_cl_n rfl (by omega))]
              refine ok_if_ne bX12_sheet_78 (fun _ => ?_) (fun g78 => absurd g78 ((by decide)))
              refine ok_step (ps := []) (L' := [some (.ref 94), some (.int (nI 3)), some (.int (nI 32)), some (.int (nI m)), none]) (st' := [.int (nI m), .int (nI 3), .ref 105]) (σ' := (rf_r (rf_w (rf_w α 86 3 (nI 32)) 87 3 (nI m)) 92 (fl 0 40 (nI 0) ((rf_w (rf_w α 86 3 (nI 32)) 87 3 (nI m)) 92)), rf_w μ 104 3 (nI 32))) (pc' := 86) kX12_sheet_85 rfl rfl rf_a0 ?_
              refine ok_step (ps := [rf_in (nI 3) 4]) (L' := [some (.ref 94), some (.int (nI 3)), some (.int (nI 32)), some (.int (nI m)), some (.int (nI 0))]) (st' := []) (σ' := (rf_r (rf_w (rf_w α 86 3 (nI 32)) 87 3 (nI m)) 92 (fl 0 40 (nI 0) ((rf_w (rf_w α 86 3 (nI 32)) 87 3 (nI m)) 92)), rf_w (rf_w μ 104 3 (nI 32)) 105 ((nI 3).toNatClampNeg) (nI m))) (pc' := 90) kX12_sheet_86 rfl rfl (rf_a1 (rf_in_n (a := 3) rfl (by omega)) rf_a0) ?_
              try rw [(show (nI 3).toNatClampNeg = 3 from rf_cl_n rfl (by omega))]
              refine m_clr3 ?_
              exact ⟨rfl, _, rfl, hJ.sclr (s := 3) (by decide) (by decide) (by omega) rfl rfl rfl⟩
            · refine ok_step (ps := []) (L' := [some (.ref 0), some (.int (nI 3)), some (.int (nI 32)), some (.int n)]) (st' := [.int (-1000000001), .ref 0]) (σ' := (α, μ)) (pc' := 72) kX11_sheet_69 rfl rfl rf_a0 ?_
              refine ok_V (As := [.int (-1000000001)]) (b := 0) (st := []) mkX11_error qX11_sheet_72 rfl (rc_0) rfl rfl rfl rfl (Nat.le_of_ble_eq_true rfl) (c_error (k := 1) (by decide) (by decide) (by decide)) ?_
              refine ok_reti eX11_sheet_75 rfl ?_
              refine ⟨rfl, _, rfl, ?_⟩
              refine ok_step (ps := []) (L' := [some (.ref 94), some (.int (nI 3)), some (.int (nI 32)), some (.int n), none]) (st' := [.int (nI 3)]) (σ' := (rf_w α 93 1 (α 93 1 + nI 1), μ)) (pc' := 1) kX12_sheet_0 rfl rfl rf_a0 ?_
              refine ok_S (As := [.int (nI 3)]) (st := []) mkX12_isSheet qX12_sheet_1 rfl rfl rfl rfl rfl (Nat.le_of_ble_eq_true rfl) (m_isSheet) ?_
              rw [show bI (wi (nI 3) (nI 0) (nI 3)) = nI 1 from rfl]
              refine ok_if_eq bX12_sheet_4 (fun g4 => absurd g4 ((by decide))) (fun _ => ?_)
              refine ok_step (ps := []) (L' := [some (.ref 94), some (.int (nI 3)), some (.int (nI 32)), some (.int n), none]) (st' := [.int (nI 32)]) (σ' := (rf_w α 93 1 (α 93 1 + nI 1), μ)) (pc' := 8) kX12_sheet_7 rfl rfl rf_a0 ?_
              refine ok_if_eq bX12_sheet_8 (fun g8 => absurd g8 ((by decide))) (fun _ => ?_)
              refine ok_step (ps := []) (L' := [some (.ref 94), some (.int (nI 3)), some (.int (nI 32)), some (.int n), none]) (st' := [.int (nI 8), .int (nI 32)]) (σ' := (rf_w α 93 1 (α 93 1 + nI 1), μ)) (pc' := 14) kX12_sheet_11 rfl rfl rf_a0 ?_
              refine ok_icmp_eq bX12_sheet_14 (fun g14 => absurd g14 ((by decide))) (fun _ => ?_)
              refine ok_step (ps := []) (L' := [some (.ref 94), some (.int (nI 3)), some (.int (nI 32)), some (.int n), none]) (st' := [.int (nI 16), .int (nI 32)]) (σ' := (rf_w α 93 1 (α 93 1 + nI 1), μ)) (pc' := 20) kX12_sheet_17 rfl rfl rf_a0 ?_
              refine ok_icmp_eq bX12_sheet_20 (fun g20 => absurd g20 ((by decide))) (fun _ => ?_)
              refine ok_step (ps := []) (L' := [some (.ref 94), some (.int (nI 3)), some (.int (nI 32)), some (.int n), none]) (st' := [.int (nI 32), .int (nI 32)]) (σ' := (rf_w α 93 1 (α 93 1 + nI 1), μ)) (pc' := 26) kX12_sheet_23 rfl rfl rf_a0 ?_
              refine ok_icmp_eq bX12_sheet_26 (fun _ => ?_) (fun g26 => absurd ((by decide)) g26)
              refine ok_step (ps := []) (L' := [some (.ref 94), some (.int (nI 3)), some (.int (nI 32)), some (.int n), none]) (st' := [.int (nI 32)]) (σ' := (rf_w α 93 1 (α 93 1 + nI 1), μ)) (pc' := 36) kX12_sheet_35 rfl rfl rf_a0 ?_
              refine ok_if_eq bX12_sheet_36 (fun g36 => absurd g36 ((by decide))) (fun _ => ?_)
              refine ok_step (ps := []) (L' := [some (.ref 94), some (.int (nI 3)), some (.int (nI 32)), some (.int n), none]) (st' := [.int n]) (σ' := (rf_w α 93 1 (α 93 1 + nI 1), μ)) (pc' := 40) kX12_sheet_39 rfl rfl rf_a0 ?_
              refine ok_if_ge bX12_sheet_40 (fun _ => ?_) (fun g40 => absurd (h53) g40)
              refine ok_step (ps := []) (L' := [some (.ref 94), some (.int (nI 3)), some (.int (nI 32)), some (.int n), none]) (st' := [.int (nI 32)]) (σ' := (rf_w α 93 1 (α 93 1 + nI 1), μ)) (pc' := 50) kX12_sheet_49 rfl rfl rf_a0 ?_
              refine ok_if_eq bX12_sheet_50 (fun g50 => absurd g50 ((by decide))) (fun _ => ?_)
              refine ok_step (ps := []) (L' := [some (.ref 94), some (.int (nI 3)), some (.int (nI 32)), some (.int n), none]) (st' := [.int (nI 40), .int n]) (σ' := (rf_w α 93 1 (α 93 1 + nI 1), μ)) (pc' := 56) kX12_sheet_53 rfl rfl rf_a0 ?_
              refine ok_icmp_le bX12_sheet_56 (fun g56 => absurd g56 (h66)) (fun _ => ?_)
              refine ok_step (ps := []) (L' := [some (.ref 94), some (.int (nI 3)), some (.int (nI 32)), some (.int n), none]) (st' := [.int (nI 1), .ref 94]) (σ' := (rf_w α 93 1 (α 93 1 + nI 1), μ)) (pc' := 61) kX12_sheet_59 rfl rfl rf_a0 ?_
              refine ok_V (As := [.int (nI 1)]) (b := 94) (st := []) mkX12_finds qX12_sheet_61 rfl (rc_94) rfl rfl rfl rfl (Nat.le_of_ble_eq_true rfl) (m_finds (k := 1) (by decide)) ?_
              refine ok_reti eX12_sheet_64 rfl ?_
              exact ⟨rfl, _, rfl, hJ.err (k := 1) (by decide)⟩
          · refine ok_step (ps := []) (L' := [some (.ref 0), some (.int (nI 3)), some (.int (nI 32)), some (.int n)]) (st' := [.int (-1000000003), .ref 0]) (σ' := (α, μ)) (pc' := 59) kX11_sheet_56 rfl rfl rf_a0 ?_
            refine ok_V (As := [.int (-1000000003)]) (b := 0) (st := []) mkX11_error qX11_sheet_59 rfl (rc_0) rfl rfl rfl rfl (Nat.le_of_ble_eq_true rfl) (c_error (k := 3) (by decide) (by decide) (by decide)) ?_
            refine ok_reti eX11_sheet_62 rfl ?_
            refine ⟨rfl, _, rfl, ?_⟩
            refine ok_step (ps := []) (L' := [some (.ref 94), some (.int (nI 3)), some (.int (nI 32)), some (.int n), none]) (st' := [.int (nI 3)]) (σ' := (rf_w α 93 3 (α 93 3 + nI 1), μ)) (pc' := 1) kX12_sheet_0 rfl rfl rf_a0 ?_
            refine ok_S (As := [.int (nI 3)]) (st := []) mkX12_isSheet qX12_sheet_1 rfl rfl rfl rfl rfl (Nat.le_of_ble_eq_true rfl) (m_isSheet) ?_
            rw [show bI (wi (nI 3) (nI 0) (nI 3)) = nI 1 from rfl]
            refine ok_if_eq bX12_sheet_4 (fun g4 => absurd g4 ((by decide))) (fun _ => ?_)
            refine ok_step (ps := []) (L' := [some (.ref 94), some (.int (nI 3)), some (.int (nI 32)), some (.int n), none]) (st' := [.int (nI 32)]) (σ' := (rf_w α 93 3 (α 93 3 + nI 1), μ)) (pc' := 8) kX12_sheet_7 rfl rfl rf_a0 ?_
            refine ok_if_eq bX12_sheet_8 (fun g8 => absurd g8 ((by decide))) (fun _ => ?_)
            refine ok_step (ps := []) (L' := [some (.ref 94), some (.int (nI 3)), some (.int (nI 32)), some (.int n), none]) (st' := [.int (nI 8), .int (nI 32)]) (σ' := (rf_w α 93 3 (α 93 3 + nI 1), μ)) (pc' := 14) kX12_sheet_11 rfl rfl rf_a0 ?_
            refine ok_icmp_eq bX12_sheet_14 (fun g14 => absurd g14 ((by decide))) (fun _ => ?_)
            refine ok_step (ps := []) (L' := [some (.ref 94), some (.int (nI 3)), some (.int (nI 32)), some (.int n), none]) (st' := [.int (nI 16), .int (nI 32)]) (σ' := (rf_w α 93 3 (α 93 3 + nI 1), μ)) (pc' := 20) kX12_sheet_17 rfl rfl rf_a0 ?_
            refine ok_icmp_eq bX12_sheet_20 (fun g20 => absurd g20 ((by decide))) (fun _ => ?_)
            refine ok_step (ps := []) (L' := [some (.ref 94), some (.int (nI 3)), some (.int (nI 32)), some (.int n), none]) (st' := [.int (nI 32), .int (nI 32)]) (σ' := (rf_w α 93 3 (α 93 3 + nI 1), μ)) (pc' := 26) kX12_sheet_23 rfl rfl rf_a0 ?_
            refine ok_icmp_eq bX12_sheet_26 (fun _ => ?_) (fun g26 => absurd ((by decide)) g26)
            refine ok_step (ps := []) (L' := [some (.ref 94), some (.int (nI 3)), some (.int (nI 32)), some (.int n), none]) (st' := [.int (nI 32)]) (σ' := (rf_w α 93 3 (α 93 3 + nI 1), μ)) (pc' := 36) kX12_sheet_35 rfl rfl rf_a0 ?_
            refine ok_if_eq bX12_sheet_36 (fun g36 => absurd g36 ((by decide))) (fun _ => ?_)
            refine ok_step (ps := []) (L' := [some (.ref 94), some (.int (nI 3)), some (.int (nI 32)), some (.int n), none]) (st' := [.int n]) (σ' := (rf_w α 93 3 (α 93 3 + nI 1), μ)) (pc' := 40) kX12_sheet_39 rfl rfl rf_a0 ?_
            refine ok_if_ge bX12_sheet_40 (fun g40 => absurd g40 (h53)) (fun _ => ?_)
            refine ok_step (ps := []) (L' := [some (.ref 94), some (.int (nI 3)), some (.int (nI 32)), some (.int n), none]) (st' := [.int (nI 3), .ref 94]) (σ' := (rf_w α 93 3 (α 93 3 + nI 1), μ)) (pc' := 45) kX12_sheet_43 rfl rfl rf_a0 ?_
            refine ok_V (As := [.int (nI 3)]) (b := 94) (st := []) mkX12_finds qX12_sheet_45 rfl (rc_94) rfl rfl rfl rfl (Nat.le_of_ble_eq_true rfl) (m_finds (k := 3) (by decide)) ?_
            refine ok_reti eX12_sheet_48 rfl ?_
            exact ⟨rfl, _, rfl, hJ.err (k := 3) (by decide)⟩
        · refine ok_step (ps := []) (L' := [some (.ref 0), some (.int (nI 3)), some (.int bits), some (.int n)]) (st' := [.int (-1000000001), .ref 0]) (σ' := (α, μ)) (pc' := 33) kX11_sheet_30 rfl rfl rf_a0 ?_
          refine ok_V (As := [.int (-1000000001)]) (b := 0) (st := []) mkX11_error qX11_sheet_33 rfl (rc_0) rfl rfl rfl rfl (Nat.le_of_ble_eq_true rfl) (c_error (k := 1) (by decide) (by decide) (by decide)) ?_
          refine ok_reti eX11_sheet_36 rfl ?_
          refine ⟨rfl, _, rfl, ?_⟩
          refine ok_step (ps := []) (L' := [some (.ref 94), some (.int (nI 3)), some (.int bits), some (.int n), none]) (st' := [.int (nI 3)]) (σ' := (rf_w α 93 1 (α 93 1 + nI 1), μ)) (pc' := 1) kX12_sheet_0 rfl rfl rf_a0 ?_
          refine ok_S (As := [.int (nI 3)]) (st := []) mkX12_isSheet qX12_sheet_1 rfl rfl rfl rfl rfl (Nat.le_of_ble_eq_true rfl) (m_isSheet) ?_
          rw [show bI (wi (nI 3) (nI 0) (nI 3)) = nI 1 from rfl]
          refine ok_if_eq bX12_sheet_4 (fun g4 => absurd g4 ((by decide))) (fun _ => ?_)
          refine ok_step (ps := []) (L' := [some (.ref 94), some (.int (nI 3)), some (.int bits), some (.int n), none]) (st' := [.int bits]) (σ' := (rf_w α 93 1 (α 93 1 + nI 1), μ)) (pc' := 8) kX12_sheet_7 rfl rfl rf_a0 ?_
          refine ok_if_eq bX12_sheet_8 (fun g8 => absurd g8 (h9)) (fun _ => ?_)
          refine ok_step (ps := []) (L' := [some (.ref 94), some (.int (nI 3)), some (.int bits), some (.int n), none]) (st' := [.int (nI 8), .int bits]) (σ' := (rf_w α 93 1 (α 93 1 + nI 1), μ)) (pc' := 14) kX12_sheet_11 rfl rfl rf_a0 ?_
          refine ok_icmp_eq bX12_sheet_14 (fun g14 => absurd g14 (h15)) (fun _ => ?_)
          refine ok_step (ps := []) (L' := [some (.ref 94), some (.int (nI 3)), some (.int bits), some (.int n), none]) (st' := [.int (nI 16), .int bits]) (σ' := (rf_w α 93 1 (α 93 1 + nI 1), μ)) (pc' := 20) kX12_sheet_17 rfl rfl rf_a0 ?_
          refine ok_icmp_eq bX12_sheet_20 (fun g20 => absurd g20 (h21)) (fun _ => ?_)
          refine ok_step (ps := []) (L' := [some (.ref 94), some (.int (nI 3)), some (.int bits), some (.int n), none]) (st' := [.int (nI 32), .int bits]) (σ' := (rf_w α 93 1 (α 93 1 + nI 1), μ)) (pc' := 26) kX12_sheet_23 rfl rfl rf_a0 ?_
          refine ok_icmp_eq bX12_sheet_26 (fun g26 => absurd g26 (h27)) (fun _ => ?_)
          refine ok_step (ps := []) (L' := [some (.ref 94), some (.int (nI 3)), some (.int bits), some (.int n), none]) (st' := [.int (nI 1), .ref 94]) (σ' := (rf_w α 93 1 (α 93 1 + nI 1), μ)) (pc' := 31) kX12_sheet_29 rfl rfl rf_a0 ?_
          refine ok_V (As := [.int (nI 1)]) (b := 94) (st := []) mkX12_finds qX12_sheet_31 rfl (rc_94) rfl rfl rfl rfl (Nat.le_of_ble_eq_true rfl) (m_finds (k := 1) (by decide)) ?_
          refine ok_reti eX12_sheet_34 rfl ?_
          exact ⟨rfl, _, rfl, hJ.err (k := 1) (by decide)⟩
theorem op_sheetx {sheet : Int32} {bits : Int32} {n : Int32} (hJ : J α μ) (hx : bI (wi sheet (nI 0) (nI 3)) = 0) : Op (rf_T Ln xs) MX11_sheet MX12_sheet [some (.ref 0), some (.int sheet), some (.int bits), some (.int n)] [some (.ref 94), some (.int sheet), some (.int bits), some (.int n), none] α μ := by
  have hR := hJ.1.1.1
  have hI := hJ.2
  have b0 := hI.le0
  have b1 := hI.le1
  have b2 := hI.le2
  have b3 := hI.le3
  have b4 := hI.le4
  have b5 := hI.le5
  have b6 := hI.le6
  have b8 := hI.le8
  have b9 := hI.le9
  have b11 := hI.le11
  have b12 := hI.le12
  refine ok_step (ps := []) (L' := [some (.ref 0), some (.int sheet), some (.int bits), some (.int n)]) (st' := [.int sheet, .ref 0]) (σ' := (α, μ)) (pc' := 2) kX11_sheet_0 rfl rfl rf_a0 ?_
  refine ok_V (As := [.int sheet]) (b := 0) (st := []) mkX11_isSheet qX11_sheet_2 rfl (rc_0) rfl rfl rfl rfl (Nat.le_of_ble_eq_true rfl) (c_isSheet) ?_
  refine ok_if_eq bX11_sheet_5 (fun _ => ?_) (fun h5 => absurd (hx) h5)
  refine ok_step (ps := []) (L' := [some (.ref 0), some (.int sheet), some (.int bits), some (.int n)]) (st' := [.int (-1000000001), .ref 0]) (σ' := (α, μ)) (pc' := 33) kX11_sheet_30 rfl rfl rf_a0 ?_
  refine ok_V (As := [.int (-1000000001)]) (b := 0) (st := []) mkX11_error qX11_sheet_33 rfl (rc_0) rfl rfl rfl rfl (Nat.le_of_ble_eq_true rfl) (c_error (k := 1) (by decide) (by decide) (by decide)) ?_
  refine ok_reti eX11_sheet_36 rfl ?_
  refine ⟨rfl, _, rfl, ?_⟩
  refine ok_step (ps := []) (L' := [some (.ref 94), some (.int sheet), some (.int bits), some (.int n), none]) (st' := [.int sheet]) (σ' := (rf_w α 93 1 (α 93 1 + nI 1), μ)) (pc' := 1) kX12_sheet_0 rfl rfl rf_a0 ?_
  refine ok_S (As := [.int sheet]) (st := []) mkX12_isSheet qX12_sheet_1 rfl rfl rfl rfl rfl (Nat.le_of_ble_eq_true rfl) (m_isSheet) ?_
  refine ok_if_eq bX12_sheet_4 (fun _ => ?_) (fun g4 => absurd (hx) g4)
  refine ok_step (ps := []) (L' := [some (.ref 94), some (.int sheet), some (.int bits), some (.int n), none]) (st' := [.int (nI 1), .ref 94]) (σ' := (rf_w α 93 1 (α 93 1 + nI 1), μ)) (pc' := 31) kX12_sheet_29 rfl rfl rf_a0 ?_
  refine ok_V (As := [.int (nI 1)]) (b := 94) (st := []) mkX12_finds qX12_sheet_31 rfl (rc_94) rfl rfl rfl rfl (Nat.le_of_ble_eq_true rfl) (m_finds (k := 1) (by decide)) ?_
  refine ok_reti eX12_sheet_34 rfl ?_
  exact ⟨rfl, _, rfl, hJ.err (k := 1) (by decide)⟩
theorem op_sheet {sheet bits n : Int32} (hJ : J α μ) : Op (rf_T Ln xs) MX11_sheet MX12_sheet [some (.ref 0), some (.int sheet), some (.int bits), some (.int n)] [some (.ref 94), some (.int sheet), some (.int bits), some (.int n), none] α μ := by_sheet (C := fun s => Op (rf_T Ln xs) MX11_sheet MX12_sheet [some (.ref 0), some (.int s), some (.int bits), some (.int n)] [some (.ref 94), some (.int s), some (.int bits), some (.int n), none] α μ) (op_sheet0 hJ) (op_sheet1 hJ) (op_sheet2 hJ) (op_sheet3 hJ) (fun s hx => op_sheetx hJ hx) sheet
end H35
