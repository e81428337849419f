/-- n places from b on are g's -/
def cps (b n : Nat) (g f : Nat → Int32) : Nat → Int32 := fun x => if b ≤ x ∧ x < b + n then g (x - b) else f x
theorem rfw_cps {m : Nat → Nat → Int32} {k b i x : Nat} {v : Int32} {g f : Nat → Int32} (hv : v = g i) (hx : x = b + i) : rf_w (rf_r m k (cps b i g f)) k x v = rf_r m k (cps b (i + 1) g f) := by
  subst hv
  subst hx
  funext y z
  rw [rf_w_at]
  simp only [rf_r]
  by_cases h : y = k
  · subst h
    simp only [true_and, if_true]
    unfold cps
    by_cases h2 : z = b + i
    · subst h2
      rw [if_pos rfl, if_pos ⟨by omega, by omega⟩, show b + i - b = i by omega]
    · rw [if_neg h2]
      by_cases h3 : b ≤ z ∧ z < b + i
      · rw [if_pos h3, if_pos (by omega)]
      · rw [if_neg h3, if_neg (by omega)]
  · simp [h]
theorem rfr_s0 {m : Nat → Nat → Int32} {k b : Nat} {g : Nat → Int32} : rf_r m k (cps b 0 g (m k)) = m := by
  funext x y
  simp only [rf_r]
  by_cases h : x = k
  · subst h
    unfold cps
    rw [if_pos rfl, if_neg (by omega)]
  · simp [h]
theorem J.move {α μ : Nat → Nat → Int32} (h : J α μ) {s o i j n k k2 : Nat} {f107 : Nat → Int32} (hs : s < 4) (ho : o < 4) (hi : i + n ≤ 40) (hj : j + n ≤ 40) (hk : k = 89 + s) (hk2 : k2 = 89 + o) : J (rf_r α k2 (va_cpy (α k) (α k2) i j n)) (rf_r (rf_r μ 107 f107) 106 (cps (40 * o + j) n (fun x => μ 106 (40 * s + i + x)) (μ 106))) := by
  subst hk
  subst hk2
  refine h.sh (fun k i hk => by rw [rfr_row (by omega)]) (fun k i hk => by rw [rfr_row (by omega), rfr_row (by omega)]) (fun s' hs' => ?_)
  obtain ⟨s1, s2, s3, s4, s5⟩ := h.1.2.2.2.2.2 s' hs'
  refine ⟨?_, ?_, ?_, ?_, fun i' hi' => ?_⟩
  · rw [rfr_row (by omega), rfr_row (by omega), rfr_row (by omega)]; exact s1
  · rw [rfr_row (by omega), rfr_row (by omega), rfr_row (by omega)]; exact s2
  · rw [rfr_row (by omega), rfr_row (by omega)]; exact s3
  · rw [rfr_row (by omega), rfr_row (by omega)]; exact s4
  · rw [rfr_self]
    unfold cps
    by_cases e : s' = o
    · subst e
      rw [rfr_self]
      unfold va_cpy
      by_cases e2 : j ≤ i' ∧ i' < j + n
      · rw [if_pos e2, if_pos (by omega), (h.1.2.2.2.2.2 s hs).2.2.2.2 _ (by omega)]
        exact congrArg (μ 106) (by omega)
      · rw [if_neg e2, if_neg (by omega)]
        exact s5 i' hi'
    · rw [rfr_row (by omega), if_neg (by omega)]
      exact s5 i' hi'
theorem sub_toI {a b : Nat} (ha : a < 1000) (hb : b < 2147483648) : (nI a - nI b).toInt = (a : Int) - b := by
  rw [Int32.toInt_sub, nI_toInt (by omega), nI_toInt (by omega)]
  rw [Int.bmod_eq_of_le (by omega) (by omega)]
/-- when a move fits -/
theorem mv_ok {i n sz : Int32} {m : Nat} (hsz : sz = nI m) (hm : m ≤ 40) (hn : ¬ n < 0) : wi i (nI 0) (sz - n) = true ↔ ¬ i < 0 ∧ ¬ sz - i < n := by
  subst hsz
  obtain ⟨k, hk, rfl⟩ := ge_0 (Int32.not_lt.mp hn)
  by_cases hi : i < 0
  · have h1 := Int32.lt_iff_toInt_lt.mp hi
    refine ⟨fun h => ?_, fun h => absurd hi h.1⟩
    unfold wi at h
    simp only [Bool.and_eq_true, decide_eq_true_eq] at h
    exact absurd hi (Int32.not_lt.mpr h.1)
  · obtain ⟨a, ha, rfl⟩ := ge_0 (Int32.not_lt.mp hi)
    have e1 : (nI m - nI k).toInt = (m : Int) - k := sub_toI (by omega) hk
    have e2 : (nI m - nI a).toInt = (m : Int) - a := sub_toI (by omega) ha
    have e3 : (nI a).toInt = a := nI_toInt (by omega)
    have e4 : (nI k).toInt = k := nI_toInt (by omega)
    unfold wi
    simp only [Bool.and_eq_true, decide_eq_true_eq, Int32.le_iff_toInt_le, Int32.lt_iff_toInt_lt, e1, e2, e3, e4]
    have e5 : (nI 0).toInt = 0 := rfl
    have e6 : (0 : Int32).toInt = 0 := rfl
    rw [e5, e6]
    omega
theorem mv_nat {a k m : Nat} {sz : Int32} (hsz : sz = nI m) (hm : m ≤ 40) (ha : a < 2147483648) (hk : k < 2147483648) (h : ¬ sz - nI a < nI k) : a + k ≤ m := by
  subst hsz
  rw [Int32.lt_iff_toInt_lt, sub_toI (by omega) ha, nI_toInt (by omega)] at h
  omega
section H51
variable {Ln : Nat} {xs : Nat → Int32} {α μ γ : Nat → Nat → Int32}
theorem m_mv2 {ρ : Nat → Nat → Int32} {g : Nat → Int32} {s o i j n : Nat} (hs : s < 4) (ho : o < 4) (hi : i + n ≤ 40) (hj : j + n ≤ 40) (hg : ∀ k, k < n → ρ 107 k = g k) : ∀ (q k : Nat), k + q = n → rf_Ok (rf_T Ln xs) MX12_move 60 152 [some (.ref 94), some (.int (nI s)), some (.int (nI i)), some (.int (nI o)), some (.int (nI j)), some (.int (nI n)), some (.int (nI k))] [] (γ, rf_r ρ 106 (cps (40 * o + j) k g (ρ 106))) (fun r t => r = some (.int (nI n)) ∧ t = (γ, rf_r ρ 106 (cps (40 * o + j) n g (ρ 106)))) := by
  intro q
  induction q with
  | zero =>
    intro k hk
    obtain rfl : k = n := by omega
    refine ok_step (ps := []) (L' := [some (.ref 94), some (.int (nI s)), some (.int (nI i)), some (.int (nI o)), some (.int (nI j)), some (.int (nI k)), some (.int (nI k))]) (st' := [.int (nI k), .int (nI k)]) (σ' := (γ, rf_r ρ 106 (cps (40 * o + j) k g (ρ 106)))) (pc' := 156) kX12_move_152 rfl rfl rf_a0 ?_
    refine ok_icmp_ge bX12_move_156 (fun _ => ?_) (fun h156 => absurd (nI_le (by omega) (by omega)) h156)
    refine ok_step (ps := []) (L' := [some (.ref 94), some (.int (nI s)), some (.int (nI i)), some (.int (nI o)), some (.int (nI j)), some (.int (nI k)), some (.int (nI k))]) (st' := [.int (nI k)]) (σ' := (γ, rf_r ρ 106 (cps (40 * o + j) k g (ρ 106)))) (pc' := 189) kX12_move_187 rfl rfl rf_a0 ?_
    refine ok_reti eX12_move_189 rfl ?_
    exact ⟨rfl, rfl⟩
  | succ q ih =>
    intro k hk
    refine ok_step (ps := []) (L' := [some (.ref 94), some (.int (nI s)), some (.int (nI i)), some (.int (nI o)), some (.int (nI j)), some (.int (nI n)), some (.int (nI k))]) (st' := [.int (nI n), .int (nI k)]) (σ' := (γ, rf_r ρ 106 (cps (40 * o + j) k g (ρ 106)))) (pc' := 156) kX12_move_152 rfl rfl rf_a0 ?_
    refine ok_icmp_ge bX12_move_156 (fun h156 => absurd h156 (nI_ge (by omega) (by omega))) (fun _ => ?_)
    refine ok_step (ps := [rf_in (nI k) 40, rf_in ((((nI 40) * (nI o)) + (nI j)) + (nI k)) 160]) (L' := [some (.ref 94), some (.int (nI s)), some (.int (nI i)), some (.int (nI o)), some (.int (nI j)), some (.int (nI n)), some (.int ((nI k) + (nI 1)))]) (st' := []) (σ' := (γ, rf_w (rf_r ρ 106 (cps (40 * o + j) k g (ρ 106))) 106 (((((nI 40) * (nI o)) + (nI j)) + (nI k)).toNatClampNeg) ((rf_r ρ 106 (cps (40 * o + j) k g (ρ 106))) 107 ((nI k).toNatClampNeg)))) (pc' := 184) kX12_move_159 rfl rfl (rf_a1 (rf_in_n (a := k) rfl (by omega)) (rf_a1 (rf_in_n (a := (40 * o + j + k)) (by (try rw [(show ((nI 40) * (nI o)) = nI (40 * o) from rf_eq (rf_nmul (x := nI 40) (y := nI o) rfl rfl) (by omega))]); (try rw [(show ((nI (40 * o)) + (nI j)) = nI (40 * o + j) from rf_eq (rf_nadd (x := nI (40 * o)) (y := nI j) rfl rfl) (by omega))]); (try rw [(show ((nI (40 * o + j)) + (nI k)) = nI (40 * o + j + k) from rf_eq (rf_nadd (x := nI (40 * o + j)) (y := nI k) rfl rfl) (by omega))]); (try rw [(show (nI k).toNatClampNeg = k from rf_cl_n rfl (by omega))]); (try rw [(show (rf_r ρ 106 (cps (40 * o + j) k g (ρ 106))) 107 k = ρ 107 k from congrFun (rfr_row (by decide)) _)]); all_goals exact rfl) (by omega)) rf_a0)) ?_
    try rw [(show ((nI 40) * (nI o)) = nI (40 * o) from rf_eq (rf_nmul (x := nI 40) (y := nI o) rfl rfl) (by omega))]
    try rw [(show ((nI (40 * o)) + (nI j)) = nI (40 * o + j) from rf_eq (rf_nadd (x := nI (40 * o)) (y := nI j) rfl rfl) (by omega))]
    try rw [(show ((nI (40 * o + j)) + (nI k)) = nI (40 * o + j + k) from rf_eq (rf_nadd (x := nI (40 * o + j)) (y := nI k) rfl rfl) (by omega))]
    try rw [(show (nI k).toNatClampNeg = k from rf_cl_n rfl (by omega))]
    try rw [(show (rf_r ρ 106 (cps (40 * o + j) k g (ρ 106))) 107 k = ρ 107 k from congrFun (rfr_row (by decide)) _)]
    try rw [(show (nI (40 * o + j + k)).toNatClampNeg = (40 * o + j + k) from rf_cl_n rfl (by omega))]
    try rw [(show ((nI k) + (nI 1)) = nI (k + 1) from nI_add _ _)]
    refine ok_goto bX12_move_184 ?_
    rw [rfw_cps (hg k (by omega)) (by omega)]
    exact ih (k + 1) (by omega)
theorem m_mv1 {s o i j n : Nat} (hs : s < 4) (ho : o < 4) (hi : i + n ≤ 40) (hj : j + n ≤ 40) : ∀ (q k : Nat), k + q = n → rf_Ok (rf_T Ln xs) MX12_move 60 115 [some (.ref 94), some (.int (nI s)), some (.int (nI i)), some (.int (nI o)), some (.int (nI j)), some (.int (nI n)), some (.int (nI k))] [] (γ, rf_r μ 107 (cpn k (fun x => μ 106 (40 * s + i + x)) (μ 107))) (fun r t => r = some (.int (nI n)) ∧ t = (γ, rf_r (rf_r μ 107 (cpn n (fun x => μ 106 (40 * s + i + x)) (μ 107))) 106 (cps (40 * o + j) n (fun x => μ 106 (40 * s + i + x)) (μ 106)))) := by
  intro q
  induction q with
  | zero =>
    intro k hk
    obtain rfl : k = n := by omega
    refine ok_step (ps := []) (L' := [some (.ref 94), some (.int (nI s)), some (.int (nI i)), some (.int (nI o)), some (.int (nI j)), some (.int (nI k)), some (.int (nI k))]) (st' := [.int (nI k), .int (nI k)]) (σ' := (γ, rf_r μ 107 (cpn k (fun x => μ 106 (40 * s + i + x)) (μ 107)))) (pc' := 119) kX12_move_115 rfl rfl rf_a0 ?_
    refine ok_icmp_ge bX12_move_119 (fun _ => ?_) (fun h119 => absurd (nI_le (by omega) (by omega)) h119)
    refine ok_step (ps := []) (L' := [some (.ref 94), some (.int (nI s)), some (.int (nI i)), some (.int (nI o)), some (.int (nI j)), some (.int (nI k)), some (.int (nI 0))]) (st' := []) (σ' := (γ, rf_r μ 107 (cpn k (fun x => μ 106 (40 * s + i + x)) (μ 107)))) (pc' := 152) kX12_move_149 rfl rfl rf_a0 ?_
    have h2 := m_mv2 (Ln := Ln) (xs := xs) (γ := γ) (ρ := rf_r μ 107 (cpn k (fun x => μ 106 (40 * s + i + x)) (μ 107))) (g := (fun x => μ 106 (40 * s + i + x))) (s := s) (i := i) hs ho hi hj (fun q hq => by rw [rfr_self]; exact if_pos hq) k 0 (by omega)
    rw [rfr_s0, show (rf_r μ 107 (cpn k (fun x => μ 106 (40 * s + i + x)) (μ 107))) 106 = μ 106 from rfr_row (by decide)] at h2
    exact h2
  | succ q ih =>
    intro k hk
    refine ok_step (ps := []) (L' := [some (.ref 94), some (.int (nI s)), some (.int (nI i)), some (.int (nI o)), some (.int (nI j)), some (.int (nI n)), some (.int (nI k))]) (st' := [.int (nI n), .int (nI k)]) (σ' := (γ, rf_r μ 107 (cpn k (fun x => μ 106 (40 * s + i + x)) (μ 107)))) (pc' := 119) kX12_move_115 rfl rfl rf_a0 ?_
    refine ok_icmp_ge bX12_move_119 (fun h119 => absurd h119 (nI_ge (by omega) (by omega))) (fun _ => ?_)
    refine ok_step (ps := [rf_in ((((nI 40) * (nI s)) + (nI i)) + (nI k)) 160, rf_in (nI k) 40]) (L' := [some (.ref 94), some (.int (nI s)), some (.int (nI i)), some (.int (nI o)), some (.int (nI j)), some (.int (nI n)), some (.int ((nI k) + (nI 1)))]) (st' := []) (σ' := (γ, rf_w (rf_r μ 107 (cpn k (fun x => μ 106 (40 * s + i + x)) (μ 107))) 107 ((nI k).toNatClampNeg) ((rf_r μ 107 (cpn k (fun x => μ 106 (40 * s + i + x)) (μ 107))) 106 (((((nI 40) * (nI s)) + (nI i)) + (nI k)).toNatClampNeg)))) (pc' := 146) kX12_move_122 rfl rfl (rf_a1 (rf_in_n (a := (40 * s + i + k)) (by (try rw [(show ((nI 40) * (nI s)) = nI (40 * s) from rf_eq (rf_nmul (x := nI 40) (y := nI s) rfl rfl) (by omega))]); (try rw [(show ((nI (40 * s)) + (nI i)) = nI (40 * s + i) from rf_eq (rf_nadd (x := nI (40 * s)) (y := nI i) rfl rfl) (by omega))]); (try rw [(show ((nI (40 * s + i)) + (nI k)) = nI (40 * s + i + k) from rf_eq (rf_nadd (x := nI (40 * s + i)) (y := nI k) rfl rfl) (by omega))]); all_goals exact rfl) (by omega)) (rf_a1 (rf_in_n (a := k) rfl (by omega)) rf_a0)) ?_
    try rw [(show ((nI 40) * (nI s)) = nI (40 * s) from rf_eq (rf_nmul (x := nI 40) (y := nI s) rfl rfl) (by omega))]
    try rw [(show ((nI (40 * s)) + (nI i)) = nI (40 * s + i) from rf_eq (rf_nadd (x := nI (40 * s)) (y := nI i) rfl rfl) (by omega))]
    try rw [(show ((nI (40 * s + i)) + (nI k)) = nI (40 * s + i + k) from rf_eq (rf_nadd (x := nI (40 * s + i)) (y := nI k) rfl rfl) (by omega))]
    try rw [(show (nI (40 * s + i + k)).toNatClampNeg = (40 * s + i + k) from rf_cl_n rfl (by omega))]
    try rw [(show (rf_r μ 107 (cpn k (fun x => μ 106 (40 * s + i + x)) (μ 107))) 106 (40 * s + i + k) = μ 106 (40 * s + i + k) from congrFun (rfr_row (by decide)) _)]
    try rw [(show (nI k).toNatClampNeg = k from rf_cl_n rfl (by omega))]
    try rw [(show ((nI k) + (nI 1)) = nI (k + 1) from nI_add _ _)]
    refine ok_goto bX12_move_146 ?_
    rw [show 40 * s + i + k = 40 * s + i + k from rfl, rfw_cpn (g := (fun x => μ 106 (40 * s + i + x))) rfl]
    exact ih (k + 1) (by omega)
def mgood (μ : Nat → Nat → Int32) (s o : Nat) (i j n : Int32) : Prop := ¬ μ 104 s = 0 ∧ ¬ μ 104 o = 0 ∧ μ 104 s = μ 104 o ∧ ¬ n < 0 ∧ wi i (nI 0) (μ 105 s - n) = true ∧ wi j (nI 0) (μ 105 o - n) = true
theorem op_move_b {s o : Nat} {i j n : Int32} (hJ : J α μ) (hs : s < 4) (ho : o < 4) (hg : ¬ mgood μ s o i j n) : Op (rf_T Ln xs) MX11_move MX12_move [some (.ref 0), some (.int (nI s)), some (.int i), some (.int (nI o)), some (.int j), some (.int n)] [some (.ref 94), some (.int (nI s)), some (.int i), some (.int (nI o)), some (.int j), some (.int n), none] α μ := by
  have hR := hJ.1.1.1
  have hI := hJ.2
  have b0 := hI.le0
  have b1 := hI.le1
  have b2 := hI.le2
  have b3 := hI.le3
  have b4 := hI.le4
  have b5 := hI.le5
  have b6 := hI.le6
  have b8 := hI.le8
  have b9 := hI.le9
  have b11 := hI.le11
  have b12 := hI.le12
  obtain ⟨m1, hm1, e1⟩ := (hJ.1.2.2.2.2.2 s hs).2.2.1
  obtain ⟨m2, hm2, e2⟩ := (hJ.1.2.2.2.2.2 o ho).2.2.1
  refine ok_step (ps := []) (L' := [some (.ref 0), some (.int (nI s)), some (.int i), some (.int (nI o)), some (.int j), some (.int n)]) (st' := [.int (nI s), .ref 0]) (σ' := (α, μ)) (pc' := 2) kX11_move_0 rfl rfl rf_a0 ?_
  refine ok_V (As := [.int (nI s)]) (b := 0) (st := []) mkX11_isSheet qX11_move_2 rfl (rc_0) rfl rfl rfl rfl (Nat.le_of_ble_eq_true rfl) (c_isSheet) ?_
  refine ok_if_eq bX11_move_5 (fun h5 => absurd h5 ((bI_n0.mpr (wi_n (by omega) (by omega) (by omega))))) (fun _ => ?_)
  refine ok_step (ps := []) (L' := [some (.ref 0), some (.int (nI s)), some (.int i), some (.int (nI o)), some (.int j), some (.int n)]) (st' := [.int (nI o), .ref 0]) (σ' := (α, μ)) (pc' := 10) kX11_move_8 rfl rfl rf_a0 ?_
  refine ok_V (As := [.int (nI o)]) (b := 0) (st := []) mkX11_isSheet qX11_move_10 rfl (rc_0) rfl rfl rfl rfl (Nat.le_of_ble_eq_true rfl) (c_isSheet) ?_
  refine ok_if_ne bX11_move_13 (fun _ => ?_) (fun h13 => absurd h13 ((bI_n0.mpr (wi_n (by omega) (by omega) (by omega)))))
  refine ok_step (ps := [rf_in (nI s) 4]) (L' := [some (.ref 0), some (.int (nI s)), some (.int i), some (.int (nI o)), some (.int j), some (.int n)]) (st' := [.int (α 86 ((nI s).toNatClampNeg))]) (σ' := (α, μ)) (pc' := 32) kX11_move_23 rfl rfl (rf_a1 (rf_in_n (a := s) rfl (by omega)) rf_a0) ?_
  try rw [(show (nI s).toNatClampNeg = s from rf_cl_n rfl (by omega))]
  try rw [(show α 86 s = μ 104 s from (hJ.1.2.2.2.2.2 _ (by omega)).1)]
  refine ok_if_eq bX11_move_32 (fun h32 => ?_) (fun h32 => ?_)
  · refine ok_step (ps := []) (L' := [some (.ref 0), some (.int (nI s)), some (.int i), some (.int (nI o)), some (.int j), some (.int n)]) (st' := [.int (-1000000002), .ref 0]) (σ' := (α, μ)) (pc' := 50) kX11_move_47 rfl rfl rf_a0 ?_
    refine ok_V (As := [.int (-1000000002)]) (b := 0) (st := []) mkX11_error qX11_move_50 rfl (rc_0) rfl rfl rfl rfl (Nat.le_of_ble_eq_true rfl) (c_error (k := 2) (by decide) (by decide) (by decide)) ?_
    refine ok_reti eX11_move_53 rfl ?_
    refine ⟨rfl, _, rfl, ?_⟩
    refine ok_step (ps := []) (L' := [some (.ref 94), some (.int (nI s)), some (.int i), some (.int (nI o)), some (.int j), some (.int n), none]) (st' := [.int (nI s)]) (σ' := (rf_w α 93 2 (α 93 2 + nI 1), μ)) (pc' := 1) kX12_move_0 rfl rfl rf_a0 ?_
    refine ok_S (As := [.int (nI s)]) (st := []) mkX12_isSheet qX12_move_1 rfl rfl rfl rfl rfl (Nat.le_of_ble_eq_true rfl) (m_isSheet) ?_
    refine ok_if_eq bX12_move_4 (fun g4 => absurd g4 ((bI_n0.mpr (wi_n (by omega) (by omega) (by omega))))) (fun _ => ?_)
    refine ok_step (ps := []) (L' := [some (.ref 94), some (.int (nI s)), some (.int i), some (.int (nI o)), some (.int j), some (.int n), none]) (st' := [.int (nI o)]) (σ' := (rf_w α 93 2 (α 93 2 + nI 1), μ)) (pc' := 8) kX12_move_7 rfl rfl rf_a0 ?_
    refine ok_S (As := [.int (nI o)]) (st := []) mkX12_isSheet qX12_move_8 rfl rfl rfl rfl rfl (Nat.le_of_ble_eq_true rfl) (m_isSheet) ?_
    refine ok_if_ne bX12_move_11 (fun _ => ?_) (fun g11 => absurd g11 ((bI_n0.mpr (wi_n (by omega) (by omega) (by omega)))))
    refine ok_step (ps := [rf_in (nI s) 4]) (L' := [some (.ref 94), some (.int (nI s)), some (.int i), some (.int (nI o)), some (.int j), some (.int n), none]) (st' := [.int (μ 104 ((nI s).toNatClampNeg))]) (σ' := (rf_w α 93 2 (α 93 2 + nI 1), μ)) (pc' := 26) kX12_move_20 rfl rfl (rf_a1 (rf_in_n (a := s) rfl (by omega)) rf_a0) ?_
    try rw [(show (nI s).toNatClampNeg = s from rf_cl_n rfl (by omega))]
    refine ok_if_eq bX12_move_26 (fun _ => ?_) (fun g26 => absurd (h32) g26)
    refine ok_step (ps := []) (L' := [some (.ref 94), some (.int (nI s)), some (.int i), some (.int (nI o)), some (.int j), some (.int n), none]) (st' := [.int (nI 2), .ref 94]) (σ' := (rf_w α 93 2 (α 93 2 + nI 1), μ)) (pc' := 40) kX12_move_38 rfl rfl rf_a0 ?_
    refine ok_V (As := [.int (nI 2)]) (b := 94) (st := []) mkX12_finds qX12_move_40 rfl (rc_94) rfl rfl rfl rfl (Nat.le_of_ble_eq_true rfl) (m_finds (k := 2) (by decide)) ?_
    refine ok_reti eX12_move_43 rfl ?_
    exact ⟨rfl, _, rfl, hJ.err (k := 2) (by decide)⟩
  · refine ok_step (ps := [rf_in (nI o) 4]) (L' := [some (.ref 0), some (.int (nI s)), some (.int i), some (.int (nI o)), some (.int j), some (.int n)]) (st' := [.int (α 86 ((nI o).toNatClampNeg))]) (σ' := (α, μ)) (pc' := 44) kX11_move_35 rfl rfl (rf_a1 (rf_in_n (a := o) rfl (by omega)) rf_a0) ?_
    try rw [(show (nI o).toNatClampNeg = o from rf_cl_n rfl (by omega))]
    try rw [(show α 86 o = μ 104 o from (hJ.1.2.2.2.2.2 _ (by omega)).1)]
    refine ok_if_ne bX11_move_44 (fun h44 => ?_) (fun h44 => ?_)
    · refine ok_step (ps := [rf_in (nI s) 4, rf_in (nI o) 4]) (L' := [some (.ref 0), some (.int (nI s)), some (.int i), some (.int (nI o)), some (.int j), some (.int n)]) (st' := [.int (α 86 ((nI o).toNatClampNeg)), .int (α 86 ((nI s).toNatClampNeg))]) (σ' := (α, μ)) (pc' := 72) kX11_move_54 rfl rfl (rf_a1 (rf_in_n (a := s) rfl (by omega)) (rf_a1 (rf_in_n (a := o) rfl (by omega)) rf_a0)) ?_
      try rw [(show (nI s).toNatClampNeg = s from rf_cl_n rfl (by omega))]
      try rw [(show α 86 s = μ 104 s from (hJ.1.2.2.2.2.2 _ (by omega)).1)]
      try rw [(show (nI o).toNatClampNeg = o from rf_cl_n rfl (by omega))]
      try rw [(show α 86 o = μ 104 o from (hJ.1.2.2.2.2.2 _ (by omega)).1)]
      refine ok_icmp_eq bX11_move_72 (fun h72 => ?_) (fun h72 => ?_)
      · refine ok_step (ps := []) (L' := [some (.ref 0), some (.int (nI s)), some (.int i), some (.int (nI o)), some (.int j), some (.int n)]) (st' := [.int n]) (σ' := (α, μ)) (pc' := 84) kX11_move_82 rfl rfl rf_a0 ?_
        refine ok_if_lt bX11_move_84 (fun h84 => ?_) (fun h84 => ?_)
        · refine ok_step (ps := []) (L' := [some (.ref 0), some (.int (nI s)), some (.int i), some (.int (nI o)), some (.int j), some (.int n)]) (st' := [.int (-1000000001), .ref 0]) (σ' := (α, μ)) (pc' := 131) kX11_move_128 rfl rfl rf_a0 ?_
          refine ok_V (As := [.int (-1000000001)]) (b := 0) (st := []) mkX11_error qX11_move_131 rfl (rc_0) rfl rfl rfl rfl (Nat.le_of_ble_eq_true rfl) (c_error (k := 1) (by decide) (by decide) (by decide)) ?_
          refine ok_reti eX11_move_134 rfl ?_
          refine ⟨rfl, _, rfl, ?_⟩
          refine ok_step (ps := []) (L' := [some (.ref 94), some (.int (nI s)), some (.int i), some (.int (nI o)), some (.int j), some (.int n), none]) (st' := [.int (nI s)]) (σ' := (rf_w α 93 1 (α 93 1 + nI 1), μ)) (pc' := 1) kX12_move_0 rfl rfl rf_a0 ?_
          refine ok_S (As := [.int (nI s)]) (st := []) mkX12_isSheet qX12_move_1 rfl rfl rfl rfl rfl (Nat.le_of_ble_eq_true rfl) (m_isSheet) ?_
          refine ok_if_eq bX12_move_4 (fun g4 => absurd g4 ((bI_n0.mpr (wi_n (by omega) (by omega) (by omega))))) (fun _ => ?_)
          refine ok_step (ps := []) (L' := [some (.ref 94), some (.int (nI s)), some (.int i), some (.int (nI o)), some (.int j), some (.int n), none]) (st' := [.int (nI o)]) (σ' := (rf_w α 93 1 (α 93 1 + nI 1), μ)) (pc' := 8) kX12_move_7 rfl rfl rf_a0 ?_
          refine ok_S (As := [.int (nI o)]) (st := []) mkX12_isSheet qX12_move_8 rfl rfl rfl rfl rfl (Nat.le_of_ble_eq_true rfl) (m_isSheet) ?_
          refine ok_if_ne bX12_move_11 (fun _ => ?_) (fun g11 => absurd g11 ((bI_n0.mpr (wi_n (by omega) (by omega) (by omega)))))
          refine ok_step (ps := [rf_in (nI s) 4]) (L' := [some (.ref 94), some (.int (nI s)), some (.int i), some (.int (nI o)), some (.int j), some (.int n), none]) (st' := [.int (μ 104 ((nI s).toNatClampNeg))]) (σ' := (rf_w α 93 1 (α 93 1 + nI 1), μ)) (pc' := 26) kX12_move_20 rfl rfl (rf_a1 (rf_in_n (a := s) rfl (by omega)) rf_a0) ?_
          try rw [(show (nI s).toNatClampNeg = s from rf_cl_n rfl (by omega))]
          refine ok_if_eq bX12_move_26 (fun g26 => absurd g26 (h32)) (fun _ => ?_)
          refine ok_step (ps := [rf_in (nI o) 4]) (L' := [some (.ref 94), some (.int (nI s)), some (.int i), some (.int (nI o)), some (.int j), some (.int n), none]) (st' := [.int (μ 104 ((nI o).toNatClampNeg))]) (σ' := (rf_w α 93 1 (α 93 1 + nI 1), μ)) (pc' := 35) kX12_move_29 rfl rfl (rf_a1 (rf_in_n (a := o) rfl (by omega)) rf_a0) ?_
          try rw [(show (nI o).toNatClampNeg = o from rf_cl_n rfl (by omega))]
          refine ok_if_ne bX12_move_35 (fun _ => ?_) (fun g35 => absurd g35 (h44))
          refine ok_step (ps := [rf_in (nI s) 4, rf_in (nI o) 4]) (L' := [some (.ref 94), some (.int (nI s)), some (.int i), some (.int (nI o)), some (.int j), some (.int n), none]) (st' := [.int (μ 104 ((nI o).toNatClampNeg)), .int (μ 104 ((nI s).toNatClampNeg))]) (σ' := (rf_w α 93 1 (α 93 1 + nI 1), μ)) (pc' := 56) kX12_move_44 rfl rfl (rf_a1 (rf_in_n (a := s) rfl (by omega)) (rf_a1 (rf_in_n (a := o) rfl (by omega)) rf_a0)) ?_
          try rw [(show (nI s).toNatClampNeg = s from rf_cl_n rfl (by omega))]
          try rw [(show (nI o).toNatClampNeg = o from rf_cl_n rfl (by omega))]
          refine ok_icmp_eq bX12_move_56 (fun _ => ?_) (fun g56 => absurd (h72) g56)
          refine ok_step (ps := []) (L' := [some (.ref 94), some (.int (nI s)), some (.int i), some (.int (nI o)), some (.int j), some (.int n), none]) (st' := [.int n]) (σ' := (rf_w α 93 1 (α 93 1 + nI 1), μ)) (pc' := 67) kX12_move_65 rfl rfl rf_a0 ?_
          refine ok_if_lt bX12_move_67 (fun _ => ?_) (fun g67 => absurd (h84) g67)
          refine ok_step (ps := []) (L' := [some (.ref 94), some (.int (nI s)), some (.int i), some (.int (nI o)), some (.int j), some (.int n), none]) (st' := [.int (nI 1), .ref 94]) (σ' := (rf_w α 93 1 (α 93 1 + nI 1), μ)) (pc' := 108) kX12_move_106 rfl rfl rf_a0 ?_
          refine ok_V (As := [.int (nI 1)]) (b := 94) (st := []) mkX12_finds qX12_move_108 rfl (rc_94) rfl rfl rfl rfl (Nat.le_of_ble_eq_true rfl) (m_finds (k := 1) (by decide)) ?_
          refine ok_reti eX12_move_111 rfl ?_
          exact ⟨rfl, _, rfl, hJ.err (k := 1) (by decide)⟩
        · refine ok_step (ps := [rf_in (nI s) 4]) (L' := [some (.ref 0), some (.int (nI s)), some (.int i), some (.int (nI o)), some (.int j), some (.int n)]) (st' := [.int ((α 87 ((nI s).toNatClampNeg)) - n), .int (nI 0), .int i]) (σ' := (α, μ)) (pc' := 101) kX11_move_87 rfl rfl (rf_a1 (rf_in_n (a := s) rfl (by omega)) rf_a0) ?_
          try rw [(show (nI s).toNatClampNeg = s from rf_cl_n rfl (by omega))]
          try rw [(show α 87 s = μ 105 s from (hJ.1.2.2.2.2.2 _ (by omega)).2.1)]
          refine ok_S (As := [.int i, .int (nI 0), .int ((μ 105 s) - n)]) (st := []) mkX11_within qX11_move_101 rfl rfl rfl rfl rfl (Nat.le_of_ble_eq_true rfl) (c_within) ?_
          refine ok_if_eq bX11_move_104 (fun h104 => ?_) (fun h104 => ?_)
          · refine ok_step (ps := []) (L' := [some (.ref 0), some (.int (nI s)), some (.int i), some (.int (nI o)), some (.int j), some (.int n)]) (st' := [.int (-1000000001), .ref 0]) (σ' := (α, μ)) (pc' := 131) kX11_move_128 rfl rfl rf_a0 ?_
            refine ok_V (As := [.int (-1000000001)]) (b := 0) (st := []) mkX11_error qX11_move_131 rfl (rc_0) rfl rfl rfl rfl (Nat.le_of_ble_eq_true rfl) (c_error (k := 1) (by decide) (by decide) (by decide)) ?_
            refine ok_reti eX11_move_134 rfl ?_
            refine ⟨rfl, _, rfl, ?_⟩
            refine ok_step (ps := []) (L' := [some (.ref 94), some (.int (nI s)), some (.int i), some (.int (nI o)), some (.int j), some (.int n), none]) (st' := [.int (nI s)]) (σ' := (rf_w α 93 1 (α 93 1 + nI 1), μ)) (pc' := 1) kX12_move_0 rfl rfl rf_a0 ?_
            refine ok_S (As := [.int (nI s)]) (st := []) mkX12_isSheet qX12_move_1 rfl rfl rfl rfl rfl (Nat.le_of_ble_eq_true rfl) (m_isSheet) ?_
            refine ok_if_eq bX12_move_4 (fun g4 => absurd g4 ((bI_n0.mpr (wi_n (by omega) (by omega) (by omega))))) (fun _ => ?_)
            refine ok_step (ps := []) (L' := [some (.ref 94), some (.int (nI s)), some (.int i), some (.int (nI o)), some (.int j), some (.int n), none]) (st' := [.int (nI o)]) (σ' := (rf_w α 93 1 (α 93 1 + nI 1), μ)) (pc' := 8) kX12_move_7 rfl rfl rf_a0 ?_
            refine ok_S (As := [.int (nI o)]) (st := []) mkX12_isSheet qX12_move_8 rfl rfl rfl rfl rfl (Nat.le_of_ble_eq_true rfl) (m_isSheet) ?_
            refine ok_if_ne bX12_move_11 (fun _ => ?_) (fun g11 => absurd g11 ((bI_n0.mpr (wi_n (by omega) (by omega) (by omega)))))
            refine ok_step (ps := [rf_in (nI s) 4]) (L' := [some (.ref 94), some (.int (nI s)), some (.int i), some (.int (nI o)), some (.int j), some (.int n), none]) (st' := [.int (μ 104 ((nI s).toNatClampNeg))]) (σ' := (rf_w α 93 1 (α 93 1 + nI 1), μ)) (pc' := 26) kX12_move_20 rfl rfl (rf_a1 (rf_in_n (a := s) rfl (by omega)) rf_a0) ?_
            try rw [(show (nI s).toNatClampNeg = s from rf_cl_n rfl (by omega))]
            refine ok_if_eq bX12_move_26 (fun g26 => absurd g26 (h32)) (fun _ => ?_)
            refine ok_step (ps := [rf_in (nI o) 4]) (L' := [some (.ref 94), some (.int (nI s)), some (.int i), some (.int (nI o)), some (.int j), some (.int n), none]) (st' := [.int (μ 104 ((nI o).toNatClampNeg))]) (σ' := (rf_w α 93 1 (α 93 1 + nI 1), μ)) (pc' := 35) kX12_move_29 rfl rfl (rf_a1 (rf_in_n (a := o) rfl (by omega)) rf_a0) ?_
            try rw [(show (nI o).toNatClampNeg = o from rf_cl_n rfl (by omega))]
            refine ok_if_ne bX12_move_35 (fun _ => ?_) (fun g35 => absurd g35 (h44))
            refine ok_step (ps := [rf_in (nI s) 4, rf_in (nI o) 4]) (L' := [some (.ref 94), some (.int (nI s)), some (.int i), some (.int (nI o)), some (.int j), some (.int n), none]) (st' := [.int (μ 104 ((nI o).toNatClampNeg)), .int (μ 104 ((nI s).toNatClampNeg))]) (σ' := (rf_w α 93 1 (α 93 1 + nI 1), μ)) (pc' := 56) kX12_move_44 rfl rfl (rf_a1 (rf_in_n (a := s) rfl (by omega)) (rf_a1 (rf_in_n (a := o) rfl (by omega)) rf_a0)) ?_
            try rw [(show (nI s).toNatClampNeg = s from rf_cl_n rfl (by omega))]
            try rw [(show (nI o).toNatClampNeg = o from rf_cl_n rfl (by omega))]
            refine ok_icmp_eq bX12_move_56 (fun _ => ?_) (fun g56 => absurd (h72) g56)
            refine ok_step (ps := []) (L' := [some (.ref 94), some (.int (nI s)), some (.int i), some (.int (nI o)), some (.int j), some (.int n), none]) (st' := [.int n]) (σ' := (rf_w α 93 1 (α 93 1 + nI 1), μ)) (pc' := 67) kX12_move_65 rfl rfl rf_a0 ?_
            refine ok_if_lt bX12_move_67 (fun g67 => absurd g67 (h84)) (fun _ => ?_)
            refine ok_step (ps := []) (L' := [some (.ref 94), some (.int (nI s)), some (.int i), some (.int (nI o)), some (.int j), some (.int n), none]) (st' := [.int i]) (σ' := (rf_w α 93 1 (α 93 1 + nI 1), μ)) (pc' := 71) kX12_move_70 rfl rfl rf_a0 ?_
            refine ok_if_lt bX12_move_71 (fun g71 => ?_) (fun g71 => ?_)
            · refine ok_step (ps := []) (L' := [some (.ref 94), some (.int (nI s)), some (.int i), some (.int (nI o)), some (.int j), some (.int n), none]) (st' := [.int (nI 1), .ref 94]) (σ' := (rf_w α 93 1 (α 93 1 + nI 1), μ)) (pc' := 108) kX12_move_106 rfl rfl rf_a0 ?_
              refine ok_V (As := [.int (nI 1)]) (b := 94) (st := []) mkX12_finds qX12_move_108 rfl (rc_94) rfl rfl rfl rfl (Nat.le_of_ble_eq_true rfl) (m_finds (k := 1) (by decide)) ?_
              refine ok_reti eX12_move_111 rfl ?_
              exact ⟨rfl, _, rfl, hJ.err (k := 1) (by decide)⟩
            · refine ok_step (ps := []) (L' := [some (.ref 94), some (.int (nI s)), some (.int i), some (.int (nI o)), some (.int j), some (.int n), none]) (st' := [.int j]) (σ' := (rf_w α 93 1 (α 93 1 + nI 1), μ)) (pc' := 76) kX12_move_74 rfl rfl rf_a0 ?_
              refine ok_if_lt bX12_move_76 (fun g76 => ?_) (fun g76 => ?_)
              · refine ok_step (ps := []) (L' := [some (.ref 94), some (.int (nI s)), some (.int i), some (.int (nI o)), some (.int j), some (.int n), none]) (st' := [.int (nI 1), .ref 94]) (σ' := (rf_w α 93 1 (α 93 1 + nI 1), μ)) (pc' := 108) kX12_move_106 rfl rfl rf_a0 ?_
                refine ok_V (As := [.int (nI 1)]) (b := 94) (st := []) mkX12_finds qX12_move_108 rfl (rc_94) rfl rfl rfl rfl (Nat.le_of_ble_eq_true rfl) (m_finds (k := 1) (by decide)) ?_
                refine ok_reti eX12_move_111 rfl ?_
                exact ⟨rfl, _, rfl, hJ.err (k := 1) (by decide)⟩
              · refine ok_step (ps := [rf_in (nI s) 4]) (L' := [some (.ref 94), some (.int (nI s)), some (.int i), some (.int (nI o)), some (.int j), some (.int n), none]) (st' := [.int ((μ 105 ((nI s).toNatClampNeg)) - i), .int n]) (σ' := (rf_w α 93 1 (α 93 1 + nI 1), μ)) (pc' := 89) kX12_move_79 rfl rfl (rf_a1 (rf_in_n (a := s) rfl (by omega)) rf_a0) ?_
                try rw [(show (nI s).toNatClampNeg = s from rf_cl_n rfl (by omega))]
                refine ok_icmp_gt bX12_move_89 (fun g89 => ?_) (fun g89 => ?_)
                · refine ok_step (ps := []) (L' := [some (.ref 94), some (.int (nI s)), some (.int i), some (.int (nI o)), some (.int j), some (.int n), none]) (st' := [.int (nI 1), .ref 94]) (σ' := (rf_w α 93 1 (α 93 1 + nI 1), μ)) (pc' := 108) kX12_move_106 rfl rfl rf_a0 ?_
                  refine ok_V (As := [.int (nI 1)]) (b := 94) (st := []) mkX12_finds qX12_move_108 rfl (rc_94) rfl rfl rfl rfl (Nat.le_of_ble_eq_true rfl) (m_finds (k := 1) (by decide)) ?_
                  refine ok_reti eX12_move_111 rfl ?_
                  exact ⟨rfl, _, rfl, hJ.err (k := 1) (by decide)⟩
                · refine ok_step (ps := [rf_in (nI o) 4]) (L' := [some (.ref 94), some (.int (nI s)), some (.int i), some (.int (nI o)), some (.int j), some (.int n), none]) (st' := [.int ((μ 105 ((nI o).toNatClampNeg)) - j), .int n]) (σ' := (rf_w α 93 1 (α 93 1 + nI 1), μ)) (pc' := 103) kX12_move_92 rfl rfl (rf_a1 (rf_in_n (a := o) rfl (by omega)) rf_a0) ?_
                  try rw [(show (nI o).toNatClampNeg = o from rf_cl_n rfl (by omega))]
                  refine ok_icmp_le bX12_move_103 (fun g103 => absurd g103 (fun e => hg ⟨h32, h44, h72, h84, (mv_ok e1 hm1 h84).mpr ⟨g71, g89⟩, (mv_ok e2 hm2 h84).mpr ⟨g76, Int32.not_lt.mpr e⟩⟩)) (fun _ => ?_)
                  refine ok_step (ps := []) (L' := [some (.ref 94), some (.int (nI s)), some (.int i), some (.int (nI o)), some (.int j), some (.int n), none]) (st' := [.int (nI 1), .ref 94]) (σ' := (rf_w α 93 1 (α 93 1 + nI 1), μ)) (pc' := 108) kX12_move_106 rfl rfl rf_a0 ?_
                  refine ok_V (As := [.int (nI 1)]) (b := 94) (st := []) mkX12_finds qX12_move_108 rfl (rc_94) rfl rfl rfl rfl (Nat.le_of_ble_eq_true rfl) (m_finds (k := 1) (by decide)) ?_
                  refine ok_reti eX12_move_111 rfl ?_
                  exact ⟨rfl, _, rfl, hJ.err (k := 1) (by decide)⟩
          · refine ok_step (ps := [rf_in (nI o) 4]) (L' := [some (.ref 0), some (.int (nI s)), some (.int i), some (.int (nI o)), some (.int j), some (.int n)]) (st' := [.int ((α 87 ((nI o).toNatClampNeg)) - n), .int (nI 0), .int j]) (σ' := (α, μ)) (pc' := 122) kX11_move_107 rfl rfl (rf_a1 (rf_in_n (a := o) rfl (by omega)) rf_a0) ?_
            try rw [(show (nI o).toNatClampNeg = o from rf_cl_n rfl (by omega))]
            try rw [(show α 87 o = μ 105 o from (hJ.1.2.2.2.2.2 _ (by omega)).2.1)]
            refine ok_S (As := [.int j, .int (nI 0), .int ((μ 105 o) - n)]) (st := []) mkX11_within qX11_move_122 rfl rfl rfl rfl rfl (Nat.le_of_ble_eq_true rfl) (c_within) ?_
            refine ok_if_ne bX11_move_125 (fun h125 => absurd (bI_0.mpr (Bool.eq_false_iff.mpr (fun e => hg ⟨h32, h44, h72, h84, bI_n0.mp h104, e⟩))) h125) (fun _ => ?_)
            refine ok_step (ps := []) (L' := [some (.ref 0), some (.int (nI s)), some (.int i), some (.int (nI o)), some (.int j), some (.int n)]) (st' := [.int (-1000000001), .ref 0]) (σ' := (α, μ)) (pc' := 131) kX11_move_128 rfl rfl rf_a0 ?_
            refine ok_V (As := [.int (-1000000001)]) (b := 0) (st := []) mkX11_error qX11_move_131 rfl (rc_0) rfl rfl rfl rfl (Nat.le_of_ble_eq_true rfl) (c_error (k := 1) (by decide) (by decide) (by decide)) ?_
            refine ok_reti eX11_move_134 rfl ?_
            refine ⟨rfl, _, rfl, ?_⟩
            refine ok_step (ps := []) (L' := [some (.ref 94), some (.int (nI s)), some (.int i), some (.int (nI o)), some (.int j), some (.int n), none]) (st' := [.int (nI s)]) (σ' := (rf_w α 93 1 (α 93 1 + nI 1), μ)) (pc' := 1) kX12_move_0 rfl rfl rf_a0 ?_
            refine ok_S (As := [.int (nI s)]) (st := []) mkX12_isSheet qX12_move_1 rfl rfl rfl rfl rfl (Nat.le_of_ble_eq_true rfl) (m_isSheet) ?_
            refine ok_if_eq bX12_move_4 (fun g4 => absurd g4 ((bI_n0.mpr (wi_n (by omega) (by omega) (by omega))))) (fun _ => ?_)
            refine ok_step (ps := []) (L' := [some (.ref 94), some (.int (nI s)), some (.int i), some (.int (nI o)), some (.int j), some (.int n), none]) (st' := [.int (nI o)]) (σ' := (rf_w α 93 1 (α 93 1 + nI 1), μ)) (pc' := 8) kX12_move_7 rfl rfl rf_a0 ?_
            refine ok_S (As := [.int (nI o)]) (st := []) mkX12_isSheet qX12_move_8 rfl rfl rfl rfl rfl (Nat.le_of_ble_eq_true rfl) (m_isSheet) ?_
            refine ok_if_ne bX12_move_11 (fun _ => ?_) (fun g11 => absurd g11 ((bI_n0.mpr (wi_n (by omega) (by omega) (by omega)))))
            refine ok_step (ps := [rf_in (nI s) 4]) (L' := [some (.ref 94), some (.int (nI s)), some (.int i), some (.int (nI o)), some (.int j), some (.int n), none]) (st' := [.int (μ 104 ((nI s).toNatClampNeg))]) (σ' := (rf_w α 93 1 (α 93 1 + nI 1), μ)) (pc' := 26) kX12_move_20 rfl rfl (rf_a1 (rf_in_n (a := s) rfl (by omega)) rf_a0) ?_
            try rw [(show (nI s).toNatClampNeg = s from rf_cl_n rfl (by omega))]
            refine ok_if_eq bX12_move_26 (fun g26 => absurd g26 (h32)) (fun _ => ?_)
            refine ok_step (ps := [rf_in (nI o) 4]) (L' := [some (.ref 94), some (.int (nI s)), some (.int i), some (.int (nI o)), some (.int j), some (.int n), none]) (st' := [.int (μ 104 ((nI o).toNatClampNeg))]) (σ' := (rf_w α 93 1 (α 93 1 + nI 1), μ)) (pc' := 35) kX12_move_29 rfl rfl (rf_a1 (rf_in_n (a := o) rfl (by omega)) rf_a0) ?_
            try rw [(show (nI o).toNatClampNeg = o from rf_cl_n rfl (by omega))]
            refine ok_if_ne bX12_move_35 (fun _ => ?_) (fun g35 => absurd g35 (h44))
            refine ok_step (ps := [rf_in (nI s) 4, rf_in (nI o) 4]) (L' := [some (.ref 94), some (.int (nI s)), some (.int i), some (.int (nI o)), some (.int j), some (.int n), none]) (st' := [.int (μ 104 ((nI o).toNatClampNeg)), .int (μ 104 ((nI s).toNatClampNeg))]) (σ' := (rf_w α 93 1 (α 93 1 + nI 1), μ)) (pc' := 56) kX12_move_44 rfl rfl (rf_a1 (rf_in_n (a := s) rfl (by omega)) (rf_a1 (rf_in_n (a := o) rfl (by omega)) rf_a0)) ?_
            try rw [(show (nI s).toNatClampNeg = s from rf_cl_n rfl (by omega))]
            try rw [(show (nI o).toNatClampNeg = o from rf_cl_n rfl (by omega))]
            refine ok_icmp_eq bX12_move_56 (fun _ => ?_) (fun g56 => absurd (h72) g56)
            refine ok_step (ps := []) (L' := [some (.ref 94), some (.int (nI s)), some (.int i), some (.int (nI o)), some (.int j), some (.int n), none]) (st' := [.int n]) (σ' := (rf_w α 93 1 (α 93 1 + nI 1), μ)) (pc' := 67) kX12_move_65 rfl rfl rf_a0 ?_
            refine ok_if_lt bX12_move_67 (fun g67 => absurd g67 (h84)) (fun _ => ?_)
            refine ok_step (ps := []) (L' := [some (.ref 94), some (.int (nI s)), some (.int i), some (.int (nI o)), some (.int j), some (.int n), none]) (st' := [.int i]) (σ' := (rf_w α 93 1 (α 93 1 + nI 1), μ)) (pc' := 71) kX12_move_70 rfl rfl rf_a0 ?_
            refine ok_if_lt bX12_move_71 (fun g71 => ?_) (fun g71 => ?_)
            · refine ok_step (ps := []) (L' := [some (.ref 94), some (.int (nI s)), some (.int i), some (.int (nI o)), some (.int j), some (.int n), none]) (st' := [.int (nI 1), .ref 94]) (σ' := (rf_w α 93 1 (α 93 1 + nI 1), μ)) (pc' := 108) kX12_move_106 rfl rfl rf_a0 ?_
              refine ok_V (As := [.int (nI 1)]) (b := 94) (st := []) mkX12_finds qX12_move_108 rfl (rc_94) rfl rfl rfl rfl (Nat.le_of_ble_eq_true rfl) (m_finds (k := 1) (by decide)) ?_
              refine ok_reti eX12_move_111 rfl ?_
              exact ⟨rfl, _, rfl, hJ.err (k := 1) (by decide)⟩
            · refine ok_step (ps := []) (L' := [some (.ref 94), some (.int (nI s)), some (.int i), some (.int (nI o)), some (.int j), some (.int n), none]) (st' := [.int j]) (σ' := (rf_w α 93 1 (α 93 1 + nI 1), μ)) (pc' := 76) kX12_move_74 rfl rfl rf_a0 ?_
              refine ok_if_lt bX12_move_76 (fun g76 => ?_) (fun g76 => ?_)
              · refine ok_step (ps := []) (L' := [some (.ref 94), some (.int (nI s)), some (.int i), some (.int (nI o)), some (.int j), some (.int n), none]) (st' := [.int (nI 1), .ref 94]) (σ' := (rf_w α 93 1 (α 93 1 + nI 1), μ)) (pc' := 108) kX12_move_106 rfl rfl rf_a0 ?_
                refine ok_V (As := [.int (nI 1)]) (b := 94) (st := []) mkX12_finds qX12_move_108 rfl (rc_94) rfl rfl rfl rfl (Nat.le_of_ble_eq_true rfl) (m_finds (k := 1) (by decide)) ?_
                refine ok_reti eX12_move_111 rfl ?_
                exact ⟨rfl, _, rfl, hJ.err (k := 1) (by decide)⟩
              · refine ok_step (ps := [rf_in (nI s) 4]) (L' := [some (.ref 94), some (.int (nI s)), some (.int i), some (.int (nI o)), some (.int j), some (.int n), none]) (st' := [.int ((μ 105 ((nI s).toNatClampNeg)) - i), .int n]) (σ' := (rf_w α 93 1 (α 93 1 + nI 1), μ)) (pc' := 89) kX12_move_79 rfl rfl (rf_a1 (rf_in_n (a := s) rfl (by omega)) rf_a0) ?_
                try rw [(show (nI s).toNatClampNeg = s from rf_cl_n rfl (by omega))]
                refine ok_icmp_gt bX12_move_89 (fun g89 => ?_) (fun g89 => ?_)
                · refine ok_step (ps := []) (L' := [some (.ref 94), some (.int (nI s)), some (.int i), some (.int (nI o)), some (.int j), some (.int n), none]) (st' := [.int (nI 1), .ref 94]) (σ' := (rf_w α 93 1 (α 93 1 + nI 1), μ)) (pc' := 108) kX12_move_106 rfl rfl rf_a0 ?_
                  refine ok_V (As := [.int (nI 1)]) (b := 94) (st := []) mkX12_finds qX12_move_108 rfl (rc_94) rfl rfl rfl rfl (Nat.le_of_ble_eq_true rfl) (m_finds (k := 1) (by decide)) ?_
                  refine ok_reti eX12_move_111 rfl ?_
                  exact ⟨rfl, _, rfl, hJ.err (k := 1) (by decide)⟩
                · refine ok_step (ps := [rf_in (nI o) 4]) (L' := [some (.ref 94), some (.int (nI s)), some (.int i), some (.int (nI o)), some (.int j), some (.int n), none]) (st' := [.int ((μ 105 ((nI o).toNatClampNeg)) - j), .int n]) (σ' := (rf_w α 93 1 (α 93 1 + nI 1), μ)) (pc' := 103) kX12_move_92 rfl rfl (rf_a1 (rf_in_n (a := o) rfl (by omega)) rf_a0) ?_
                  try rw [(show (nI o).toNatClampNeg = o from rf_cl_n rfl (by omega))]
                  refine ok_icmp_le bX12_move_103 (fun g103 => absurd g103 (fun e => hg ⟨h32, h44, h72, h84, (mv_ok e1 hm1 h84).mpr ⟨g71, g89⟩, (mv_ok e2 hm2 h84).mpr ⟨g76, Int32.not_lt.mpr e⟩⟩)) (fun _ => ?_)
                  refine ok_step (ps := []) (L' := [some (.ref 94), some (.int (nI s)), some (.int i), some (.int (nI o)), some (.int j), some (.int n), none]) (st' := [.int (nI 1), .ref 94]) (σ' := (rf_w α 93 1 (α 93 1 + nI 1), μ)) (pc' := 108) kX12_move_106 rfl rfl rf_a0 ?_
                  refine ok_V (As := [.int (nI 1)]) (b := 94) (st := []) mkX12_finds qX12_move_108 rfl (rc_94) rfl rfl rfl rfl (Nat.le_of_ble_eq_true rfl) (m_finds (k := 1) (by decide)) ?_
                  refine ok_reti eX12_move_111 rfl ?_
                  exact ⟨rfl, _, rfl, hJ.err (k := 1) (by decide)⟩
      · refine ok_step (ps := []) (L' := [some (.ref 0), some (.int (nI s)), some (.int i), some (.int (nI o)), some (.int j), some (.int n)]) (st' := [.int (-1000000005), .ref 0]) (σ' := (α, μ)) (pc' := 78) kX11_move_75 rfl rfl rf_a0 ?_
        refine ok_V (As := [.int (-1000000005)]) (b := 0) (st := []) mkX11_error qX11_move_78 rfl (rc_0) rfl rfl rfl rfl (Nat.le_of_ble_eq_true rfl) (c_error (k := 5) (by decide) (by decide) (by decide)) ?_
        refine ok_reti eX11_move_81 rfl ?_
        refine ⟨rfl, _, rfl, ?_⟩
        refine ok_step (ps := []) (L' := [some (.ref 94), some (.int (nI s)), some (.int i), some (.int (nI o)), some (.int j), some (.int n), none]) (st' := [.int (nI s)]) (σ' := (rf_w α 93 5 (α 93 5 + nI 1), μ)) (pc' := 1) kX12_move_0 rfl rfl rf_a0 ?_
        refine ok_S (As := [.int (nI s)]) (st := []) mkX12_isSheet qX12_move_1 rfl rfl rfl rfl rfl (Nat.le_of_ble_eq_true rfl) (m_isSheet) ?_
        refine ok_if_eq bX12_move_4 (fun g4 => absurd g4 ((bI_n0.mpr (wi_n (by omega) (by omega) (by omega))))) (fun _ => ?_)
        refine ok_step (ps := []) (L' := [some (.ref 94), some (.int (nI s)), some (.int i), some (.int (nI o)), some (.int j), some (.int n), none]) (st' := [.int (nI o)]) (σ' := (rf_w α 93 5 (α 93 5 + nI 1), μ)) (pc' := 8) kX12_move_7 rfl rfl rf_a0 ?_
        refine ok_S (As := [.int (nI o)]) (st := []) mkX12_isSheet qX12_move_8 rfl rfl rfl rfl rfl (Nat.le_of_ble_eq_true rfl) (m_isSheet) ?_
        refine ok_if_ne bX12_move_11 (fun _ => ?_) (fun g11 => absurd g11 ((bI_n0.mpr (wi_n (by omega) (by omega) (by omega)))))
        refine ok_step (ps := [rf_in (nI s) 4]) (L' := [some (.ref 94), some (.int (nI s)), some (.int i), some (.int (nI o)), some (.int j), some (.int n), none]) (st' := [.int (μ 104 ((nI s).toNatClampNeg))]) (σ' := (rf_w α 93 5 (α 93 5 + nI 1), μ)) (pc' := 26) kX12_move_20 rfl rfl (rf_a1 (rf_in_n (a := s) rfl (by omega)) rf_a0) ?_
        try rw [(show (nI s).toNatClampNeg = s from rf_cl_n rfl (by omega))]
        refine ok_if_eq bX12_move_26 (fun g26 => absurd g26 (h32)) (fun _ => ?_)
        refine ok_step (ps := [rf_in (nI o) 4]) (L' := [some (.ref 94), some (.int (nI s)), some (.int i), some (.int (nI o)), some (.int j), some (.int n), none]) (st' := [.int (μ 104 ((nI o).toNatClampNeg))]) (σ' := (rf_w α 93 5 (α 93 5 + nI 1), μ)) (pc' := 35) kX12_move_29 rfl rfl (rf_a1 (rf_in_n (a := o) rfl (by omega)) rf_a0) ?_
        try rw [(show (nI o).toNatClampNeg = o from rf_cl_n rfl (by omega))]
        refine ok_if_ne bX12_move_35 (fun _ => ?_) (fun g35 => absurd g35 (h44))
        refine ok_step (ps := [rf_in (nI s) 4, rf_in (nI o) 4]) (L' := [some (.ref 94), some (.int (nI s)), some (.int i), some (.int (nI o)), some (.int j), some (.int n), none]) (st' := [.int (μ 104 ((nI o).toNatClampNeg)), .int (μ 104 ((nI s).toNatClampNeg))]) (σ' := (rf_w α 93 5 (α 93 5 + nI 1), μ)) (pc' := 56) kX12_move_44 rfl rfl (rf_a1 (rf_in_n (a := s) rfl (by omega)) (rf_a1 (rf_in_n (a := o) rfl (by omega)) rf_a0)) ?_
        try rw [(show (nI s).toNatClampNeg = s from rf_cl_n rfl (by omega))]
        try rw [(show (nI o).toNatClampNeg = o from rf_cl_n rfl (by omega))]
        refine ok_icmp_eq bX12_move_56 (fun g56 => absurd g56 (h72)) (fun _ => ?_)
        refine ok_step (ps := []) (L' := [some (.ref 94), some (.int (nI s)), some (.int i), some (.int (nI o)), some (.int j), some (.int n), none]) (st' := [.int (nI 5), .ref 94]) (σ' := (rf_w α 93 5 (α 93 5 + nI 1), μ)) (pc' := 61) kX12_move_59 rfl rfl rf_a0 ?_
        refine ok_V (As := [.int (nI 5)]) (b := 94) (st := []) mkX12_finds qX12_move_61 rfl (rc_94) rfl rfl rfl rfl (Nat.le_of_ble_eq_true rfl) (m_finds (k := 5) (by decide)) ?_
        refine ok_reti eX12_move_64 rfl ?_
        exact ⟨rfl, _, rfl, hJ.err (k := 5) (by decide)⟩
    · refine ok_step (ps := []) (L' := [some (.ref 0), some (.int (nI s)), some (.int i), some (.int (nI o)), some (.int j), some (.int n)]) (st' := [.int (-1000000002), .ref 0]) (σ' := (α, μ)) (pc' := 50) kX11_move_47 rfl rfl rf_a0 ?_
      refine ok_V (As := [.int (-1000000002)]) (b := 0) (st := []) mkX11_error qX11_move_50 rfl (rc_0) rfl rfl rfl rfl (Nat.le_of_ble_eq_true rfl) (c_error (k := 2) (by decide) (by decide) (by decide)) ?_
      refine ok_reti eX11_move_53 rfl ?_
      refine ⟨rfl, _, rfl, ?_⟩
      refine ok_step (ps := []) (L' := [some (.ref 94), some (.int (nI s)), some (.int i), some (.int (nI o)), some (.int j), some (.int n), none]) (st' := [.int (nI s)]) (σ' := (rf_w α 93 2 (α 93 2 + nI 1), μ)) (pc' := 1) kX12_move_0 rfl rfl rf_a0 ?_
      refine ok_S (As := [.int (nI s)]) (st := []) mkX12_isSheet qX12_move_1 rfl rfl rfl rfl rfl (Nat.le_of_ble_eq_true rfl) (m_isSheet) ?_
      refine ok_if_eq bX12_move_4 (fun g4 => absurd g4 ((bI_n0.mpr (wi_n (by omega) (by omega) (by omega))))) (fun _ => ?_)
      refine ok_step (ps := []) (L' := [some (.ref 94), some (.int (nI s)), some (.int i), some (.int (nI o)), some (.int j), some (.int n), none]) (st' := [.int (nI o)]) (σ' := (rf_w α 93 2 (α 93 2 + nI 1), μ)) (pc' := 8) kX12_move_7 rfl rfl rf_a0 ?_
      refine ok_S (As := [.int (nI o)]) (st := []) mkX12_isSheet qX12_move_8 rfl rfl rfl rfl rfl (Nat.le_of_ble_eq_true rfl) (m_isSheet) ?_
      refine ok_if_ne bX12_move_11 (fun _ => ?_) (fun g11 => absurd g11 ((bI_n0.mpr (wi_n (by omega) (by omega) (by omega)))))
      refine ok_step (ps := [rf_in (nI s) 4]) (L' := [some (.ref 94), some (.int (nI s)), some (.int i), some (.int (nI o)), some (.int j), some (.int n), none]) (st' := [.int (μ 104 ((nI s).toNatClampNeg))]) (σ' := (rf_w α 93 2 (α 93 2 + nI 1), μ)) (pc' := 26) kX12_move_20 rfl rfl (rf_a1 (rf_in_n (a := s) rfl (by omega)) rf_a0) ?_
      try rw [(show (nI s).toNatClampNeg = s from rf_cl_n rfl (by omega))]
      refine ok_if_eq bX12_move_26 (fun g26 => absurd g26 (h32)) (fun _ => ?_)
      refine ok_step (ps := [rf_in (nI o) 4]) (L' := [some (.ref 94), some (.int (nI s)), some (.int i), some (.int (nI o)), some (.int j), some (.int n), none]) (st' := [.int (μ 104 ((nI o).toNatClampNeg))]) (σ' := (rf_w α 93 2 (α 93 2 + nI 1), μ)) (pc' := 35) kX12_move_29 rfl rfl (rf_a1 (rf_in_n (a := o) rfl (by omega)) rf_a0) ?_
      try rw [(show (nI o).toNatClampNeg = o from rf_cl_n rfl (by omega))]
      refine ok_if_ne bX12_move_35 (fun g35 => absurd (h44) g35) (fun _ => ?_)
      refine ok_step (ps := []) (L' := [some (.ref 94), some (.int (nI s)), some (.int i), some (.int (nI o)), some (.int j), some (.int n), none]) (st' := [.int (nI 2), .ref 94]) (σ' := (rf_w α 93 2 (α 93 2 + nI 1), μ)) (pc' := 40) kX12_move_38 rfl rfl rf_a0 ?_
      refine ok_V (As := [.int (nI 2)]) (b := 94) (st := []) mkX12_finds qX12_move_40 rfl (rc_94) rfl rfl rfl rfl (Nat.le_of_ble_eq_true rfl) (m_finds (k := 2) (by decide)) ?_
      refine ok_reti eX12_move_43 rfl ?_
      exact ⟨rfl, _, rfl, hJ.err (k := 2) (by decide)⟩
theorem op_move_00 {i0 j0 n0 : Int32} (hJ : J α μ) (hg : mgood μ 0 0 i0 j0 n0) : Op (rf_T Ln xs) MX11_move MX12_move [some (.ref 0), some (.int (nI 0)), some (.int i0), some (.int (nI 0)), some (.int j0), some (.int n0)] [some (.ref 94), some (.int (nI 0)), some (.int i0), some (.int (nI 0)), some (.int j0), some (.int n0), none] α μ := by
  have hR := hJ.1.1.1
  have hI := hJ.2
  obtain ⟨h1, h2, h3, h4, h5, h6⟩ := hg
  obtain ⟨m1, hm1, e1⟩ := (hJ.1.2.2.2.2.2 0 (by decide)).2.2.1
  obtain ⟨m2, hm2, e2⟩ := (hJ.1.2.2.2.2.2 0 (by decide)).2.2.1
  have h5 := (mv_ok e1 hm1 h4).mp h5
  have h6 := (mv_ok e2 hm2 h4).mp h6
  obtain ⟨n, hn, rfl⟩ := ge_0 (Int32.not_lt.mp h4)
  obtain ⟨i, hi, rfl⟩ := ge_0 (Int32.not_lt.mp h5.1)
  obtain ⟨j, hj, rfl⟩ := ge_0 (Int32.not_lt.mp h6.1)
  have a1 := mv_nat e1 hm1 hi hn h5.2
  have a2 := mv_nat e2 hm2 hj hn h6.2
  refine ok_step (ps := []) (L' := [some (.ref 0), some (.int (nI 0)), some (.int (nI i)), some (.int (nI 0)), some (.int (nI j)), some (.int (nI n))]) (st' := [.int (nI 0), .ref 0]) (σ' := (α, μ)) (pc' := 2) kX11_move_0 rfl rfl rf_a0 ?_
  refine ok_V (As := [.int (nI 0)]) (b := 0) (st := []) mkX11_isSheet qX11_move_2 rfl (rc_0) rfl rfl rfl rfl (Nat.le_of_ble_eq_true rfl) (c_isSheet) ?_
  rw [show bI (wi (nI 0) (nI 0) (nI 3)) = nI 1 from rfl]
  refine ok_if_eq bX11_move_5 (fun h5 => absurd h5 ((by decide))) (fun _ => ?_)
  refine ok_step (ps := []) (L' := [some (.ref 0), some (.int (nI 0)), some (.int (nI i)), some (.int (nI 0)), some (.int (nI j)), some (.int (nI n))]) (st' := [.int (nI 0), .ref 0]) (σ' := (α, μ)) (pc' := 10) kX11_move_8 rfl rfl rf_a0 ?_
  refine ok_V (As := [.int (nI 0)]) (b := 0) (st := []) mkX11_isSheet qX11_move_10 rfl (rc_0) rfl rfl rfl rfl (Nat.le_of_ble_eq_true rfl) (c_isSheet) ?_
  rw [show bI (wi (nI 0) (nI 0) (nI 3)) = nI 1 from rfl]
  refine ok_if_ne bX11_move_13 (fun _ => ?_) (fun h13 => absurd h13 ((by decide)))
  refine ok_step (ps := [rf_in (nI 0) 4]) (L' := [some (.ref 0), some (.int (nI 0)), some (.int (nI i)), some (.int (nI 0)), some (.int (nI j)), some (.int (nI n))]) (st' := [.int (α 86 ((nI 0).toNatClampNeg))]) (σ' := (α, μ)) (pc' := 32) kX11_move_23 rfl rfl (rf_a1 (rf_in_n (a := 0) rfl (by omega)) rf_a0) ?_
  try rw [(show (nI 0).toNatClampNeg = 0 from rf_cl_n rfl (by omega))]
  try rw [(show α 86 0 = μ 104 0 from (hJ.1.2.2.2.2.2 _ (by omega)).1)]
  refine ok_if_eq bX11_move_32 (fun h32 => absurd h32 (h2)) (fun _ => ?_)
  refine ok_step (ps := [rf_in (nI 0) 4]) (L' := [some (.ref 0), some (.int (nI 0)), some (.int (nI i)), some (.int (nI 0)), some (.int (nI j)), some (.int (nI n))]) (st' := [.int (α 86 ((nI 0).toNatClampNeg))]) (σ' := (α, μ)) (pc' := 44) kX11_move_35 rfl rfl (rf_a1 (rf_in_n (a := 0) rfl (by omega)) rf_a0) ?_
  try rw [(show (nI 0).toNatClampNeg = 0 from rf_cl_n rfl (by omega))]
  try rw [(show α 86 0 = μ 104 0 from (hJ.1.2.2.2.2.2 _ (by omega)).1)]
  refine ok_if_ne bX11_move_44 (fun _ => ?_) (fun h44 => absurd h44 (h2))
  refine ok_step (ps := [rf_in (nI 0) 4, rf_in (nI 0) 4]) (L' := [some (.ref 0), some (.int (nI 0)), some (.int (nI i)), some (.int (nI 0)), some (.int (nI j)), some (.int (nI n))]) (st' := [.int (α 86 ((nI 0).toNatClampNeg)), .int (α 86 ((nI 0).toNatClampNeg))]) (σ' := (α, μ)) (pc' := 72) kX11_move_54 rfl rfl (rf_a1 (rf_in_n (a := 0) rfl (by omega)) (rf_a1 (rf_in_n (a := 0) rfl (by omega)) rf_a0)) ?_
  try rw [(show (nI 0).toNatClampNeg = 0 from rf_cl_n rfl (by omega))]
  try rw [(show α 86 0 = μ 104 0 from (hJ.1.2.2.2.2.2 _ (by omega)).1)]
  try rw [(show (nI 0).toNatClampNeg = 0 from rf_cl_n rfl (by omega))]
  try rw [(show α 86 0 = μ 104 0 from (hJ.1.2.2.2.2.2 _ (by omega)).1)]
  refine ok_icmp_eq bX11_move_72 (fun _ => ?_) (fun h72 => absurd (h3) h72)
  refine ok_step (ps := []) (L' := [some (.ref 0), some (.int (nI 0)), some (.int (nI i)), some (.int (nI 0)), some (.int (nI j)), some (.int (nI n))]) (st' := [.int (nI n)]) (σ' := (α, μ)) (pc' := 84) kX11_move_82 rfl rfl rf_a0 ?_
  refine ok_if_lt bX11_move_84 (fun h84 => absurd h84 (h4)) (fun _ => ?_)
  refine ok_step (ps := [rf_in (nI 0) 4]) (L' := [some (.ref 0), some (.int (nI 0)), some (.int (nI i)), some (.int (nI 0)), some (.int (nI j)), some (.int (nI n))]) (st' := [.int ((α 87 ((nI 0).toNatClampNeg)) - (nI n)), .int (nI 0), .int (nI i)]) (σ' := (α, μ)) (pc' := 101) kX11_move_87 rfl rfl (rf_a1 (rf_in_n (a := 0) rfl (by omega)) rf_a0) ?_
  try rw [(show (nI 0).toNatClampNeg = 0 from rf_cl_n rfl (by omega))]
  try rw [(show α 87 0 = μ 105 0 from (hJ.1.2.2.2.2.2 _ (by omega)).2.1)]
  refine ok_S (As := [.int (nI i), .int (nI 0), .int ((μ 105 0) - (nI n))]) (st := []) mkX11_within qX11_move_101 rfl rfl rfl rfl rfl (Nat.le_of_ble_eq_true rfl) (c_within) ?_
  refine ok_if_eq bX11_move_104 (fun h104 => absurd h104 (bI_n0.mpr ((mv_ok e1 hm1 h4).mpr h5))) (fun _ => ?_)
  refine ok_step (ps := [rf_in (nI 0) 4]) (L' := [some (.ref 0), some (.int (nI 0)), some (.int (nI i)), some (.int (nI 0)), some (.int (nI j)), some (.int (nI n))]) (st' := [.int ((α 87 ((nI 0).toNatClampNeg)) - (nI n)), .int (nI 0), .int (nI j)]) (σ' := (α, μ)) (pc' := 122) kX11_move_107 rfl rfl (rf_a1 (rf_in_n (a := 0) rfl (by omega)) rf_a0) ?_
  try rw [(show (nI 0).toNatClampNeg = 0 from rf_cl_n rfl (by omega))]
  try rw [(show α 87 0 = μ 105 0 from (hJ.1.2.2.2.2.2 _ (by omega)).2.1)]
  refine ok_S (As := [.int (nI j), .int (nI 0), .int ((μ 105 0) - (nI n))]) (st := []) mkX11_within qX11_move_122 rfl rfl rfl rfl rfl (Nat.le_of_ble_eq_true rfl) (c_within) ?_
  refine ok_if_ne bX11_move_125 (fun _ => ?_) (fun h125 => absurd h125 (bI_n0.mpr ((mv_ok e2 hm2 h4).mpr h6)))
  refine ok_step (ps := [rf_in (nI 0) 4, rf_in (nI 0) 4, rf_cp (nI i) (nI j) (nI n) 40 40]) (L' := [some (.ref 0), some (.int (nI 0)), some (.int (nI i)), some (.int (nI 0)), some (.int (nI j)), some (.int (nI n))]) (st' := [.int (nI n)]) (σ' := (rf_r α 89 (va_cpy (α 89) (α 89) ((nI i).toNatClampNeg) ((nI j).toNatClampNeg) ((nI n).toNatClampNeg)), μ)) (pc' := 163) kX11_move_135 rfl rfl (rf_a1 (rf_in_n (a := 0) rfl (by omega)) (rf_a1 (rf_in_n (a := 0) rfl (by omega)) (rf_a1 (by simp only [rf_cp, Bool.and_eq_true, decide_eq_true_eq]; refine ⟨⟨⟨⟨nI_pos' (by omega), nI_pos' (by omega)⟩, nI_pos' (by omega)⟩, ?_⟩, ?_⟩ <;> rw [nI_clamp (by omega), nI_clamp (by omega)] <;> omega) rf_a0))) ?_
  try rw [(show (nI i).toNatClampNeg = i from rf_cl_n rfl (by omega))]
  try rw [(show (nI j).toNatClampNeg = j from rf_cl_n rfl (by omega))]
  try rw [(show (nI n).toNatClampNeg = n from rf_cl_n rfl (by omega))]
  refine ok_reti eX11_move_163 rfl ?_
  refine ⟨rfl, _, rfl, ?_⟩
  refine ok_step (ps := []) (L' := [some (.ref 94), some (.int (nI 0)), some (.int (nI i)), some (.int (nI 0)), some (.int (nI j)), some (.int (nI n)), none]) (st' := [.int (nI 0)]) (σ' := (rf_r α 89 (va_cpy (α 89) (α 89) i j n), μ)) (pc' := 1) kX12_move_0 rfl rfl rf_a0 ?_
  refine ok_S (As := [.int (nI 0)]) (st := []) mkX12_isSheet qX12_move_1 rfl rfl rfl rfl rfl (Nat.le_of_ble_eq_true rfl) (m_isSheet) ?_
  rw [show bI (wi (nI 0) (nI 0) (nI 3)) = nI 1 from rfl]
  refine ok_if_eq bX12_move_4 (fun g4 => absurd g4 ((by decide))) (fun _ => ?_)
  refine ok_step (ps := []) (L' := [some (.ref 94), some (.int (nI 0)), some (.int (nI i)), some (.int (nI 0)), some (.int (nI j)), some (.int (nI n)), none]) (st' := [.int (nI 0)]) (σ' := (rf_r α 89 (va_cpy (α 89) (α 89) i j n), μ)) (pc' := 8) kX12_move_7 rfl rfl rf_a0 ?_
  refine ok_S (As := [.int (nI 0)]) (st := []) mkX12_isSheet qX12_move_8 rfl rfl rfl rfl rfl (Nat.le_of_ble_eq_true rfl) (m_isSheet) ?_
  rw [show bI (wi (nI 0) (nI 0) (nI 3)) = nI 1 from rfl]
  refine ok_if_ne bX12_move_11 (fun _ => ?_) (fun g11 => absurd g11 ((by decide)))
  refine ok_step (ps := [rf_in (nI 0) 4]) (L' := [some (.ref 94), some (.int (nI 0)), some (.int (nI i)), some (.int (nI 0)), some (.int (nI j)), some (.int (nI n)), none]) (st' := [.int (μ 104 ((nI 0).toNatClampNeg))]) (σ' := (rf_r α 89 (va_cpy (α 89) (α 89) i j n), μ)) (pc' := 26) kX12_move_20 rfl rfl (rf_a1 (rf_in_n (a := 0) rfl (by omega)) rf_a0) ?_
  try rw [(show (nI 0).toNatClampNeg = 0 from rf_cl_n rfl (by omega))]
  refine ok_if_eq bX12_move_26 (fun g26 => absurd g26 (h2)) (fun _ => ?_)
  refine ok_step (ps := [rf_in (nI 0) 4]) (L' := [some (.ref 94), some (.int (nI 0)), some (.int (nI i)), some (.int (nI 0)), some (.int (nI j)), some (.int (nI n)), none]) (st' := [.int (μ 104 ((nI 0).toNatClampNeg))]) (σ' := (rf_r α 89 (va_cpy (α 89) (α 89) i j n), μ)) (pc' := 35) kX12_move_29 rfl rfl (rf_a1 (rf_in_n (a := 0) rfl (by omega)) rf_a0) ?_
  try rw [(show (nI 0).toNatClampNeg = 0 from rf_cl_n rfl (by omega))]
  refine ok_if_ne bX12_move_35 (fun _ => ?_) (fun g35 => absurd g35 (h2))
  refine ok_step (ps := [rf_in (nI 0) 4, rf_in (nI 0) 4]) (L' := [some (.ref 94), some (.int (nI 0)), some (.int (nI i)), some (.int (nI 0)), some (.int (nI j)), some (.int (nI n)), none]) (st' := [.int (μ 104 ((nI 0).toNatClampNeg)), .int (μ 104 ((nI 0).toNatClampNeg))]) (σ' := (rf_r α 89 (va_cpy (α 89) (α 89) i j n), μ)) (pc' := 56) kX12_move_44 rfl rfl (rf_a1 (rf_in_n (a := 0) rfl (by omega)) (rf_a1 (rf_in_n (a := 0) rfl (by omega)) rf_a0)) ?_
  try rw [(show (nI 0).toNatClampNeg = 0 from rf_cl_n rfl (by omega))]
  refine ok_icmp_eq bX12_move_56 (fun _ => ?_) (fun g56 => absurd (h3) g56)
  refine ok_step (ps := []) (L' := [some (.ref 94), some (.int (nI 0)), some (.int (nI i)), some (.int (nI 0)), some (.int (nI j)), some (.int (nI n)), none]) (st' := [.int (nI n)]) (σ' := (rf_r α 89 (va_cpy (α 89) (α 89) i j n), μ)) (pc' := 67) kX12_move_65 rfl rfl rf_a0 ?_
  refine ok_if_lt bX12_move_67 (fun g67 => absurd g67 (h4)) (fun _ => ?_)
  refine ok_step (ps := []) (L' := [some (.ref 94), some (.int (nI 0)), some (.int (nI i)), some (.int (nI 0)), some (.int (nI j)), some (.int (nI n)), none]) (st' := [.int (nI i)]) (σ' := (rf_r α 89 (va_cpy (α 89) (α 89) i j n), μ)) (pc' := 71) kX12_move_70 rfl rfl rf_a0 ?_
  refine ok_if_lt bX12_move_71 (fun g71 => absurd g71 (h5.1)) (fun _ => ?_)
  refine ok_step (ps := []) (L' := [some (.ref 94), some (.int (nI 0)), some (.int (nI i)), some (.int (nI 0)), some (.int (nI j)), some (.int (nI n)), none]) (st' := [.int (nI j)]) (σ' := (rf_r α 89 (va_cpy (α 89) (α 89) i j n), μ)) (pc' := 76) kX12_move_74 rfl rfl rf_a0 ?_
  refine ok_if_lt bX12_move_76 (fun g76 => absurd g76 (h6.1)) (fun _ => ?_)
  refine ok_step (ps := [rf_in (nI 0) 4]) (L' := [some (.ref 94), some (.int (nI 0)), some (.int (nI i)), some (.int (nI 0)), some (.int (nI j)), some (.int (nI n)), none]) (st' := [.int ((μ 105 ((nI 0).toNatClampNeg)) - (nI i)), .int (nI n)]) (σ' := (rf_r α 89 (va_cpy (α 89) (α 89) i j n), μ)) (pc' := 89) kX12_move_79 rfl rfl (rf_a1 (rf_in_n (a := 0) rfl (by omega)) rf_a0) ?_
  try rw [(show (nI 0).toNatClampNeg = 0 from rf_cl_n rfl (by omega))]
  refine ok_icmp_gt bX12_move_89 (fun g89 => absurd g89 (h5.2)) (fun _ => ?_)
  refine ok_step (ps := [rf_in (nI 0) 4]) (L' := [some (.ref 94), some (.int (nI 0)), some (.int (nI i)), some (.int (nI 0)), some (.int (nI j)), some (.int (nI n)), none]) (st' := [.int ((μ 105 ((nI 0).toNatClampNeg)) - (nI j)), .int (nI n)]) (σ' := (rf_r α 89 (va_cpy (α 89) (α 89) i j n), μ)) (pc' := 103) kX12_move_92 rfl rfl (rf_a1 (rf_in_n (a := 0) rfl (by omega)) rf_a0) ?_
  try rw [(show (nI 0).toNatClampNeg = 0 from rf_cl_n rfl (by omega))]
  refine ok_icmp_le bX12_move_103 (fun _ => ?_) (fun g103 => absurd (Int32.not_lt.mp h6.2) g103)
  refine ok_step (ps := []) (L' := [some (.ref 94), some (.int (nI 0)), some (.int (nI i)), some (.int (nI 0)), some (.int (nI j)), some (.int (nI n)), some (.int (nI 0))]) (st' := []) (σ' := (rf_r α 89 (va_cpy (α 89) (α 89) i j n), μ)) (pc' := 115) kX12_move_112 rfl rfl rf_a0 ?_
  have hm := m_mv1 (Ln := Ln) (xs := xs) (γ := rf_r α 89 (va_cpy (α 89) (α 89) i j n)) (μ := μ) (s := 0) (o := 0) (i := i) (j := j) (n := n) (by decide) (by decide) (by omega) (by omega) n 0 (by omega)
  rw [rfr_c0] at hm
  refine hm.mono (fun r t hq => ?_)
  obtain ⟨rfl, rfl⟩ := hq
  exact ⟨rfl, _, rfl, hJ.move (by decide) (by decide) (by omega) (by omega) rfl rfl⟩
theorem op_move_01 {i0 j0 n0 : Int32} (hJ : J α μ) (hg : mgood μ 0 1 i0 j0 n0) : Op (rf_T Ln xs) MX11_move MX12_move [some (.ref 0), some (.int (nI 0)), some (.int i0), some (.int (nI 1)), some (.int j0), some (.int n0)] [some (.ref 94), some (.int (nI 0)), some (.int i0), some (.int (nI 1)), some (.int j0), some (.int n0), none] α μ := by
  have hR := hJ.1.1.1
  have hI := hJ.2
  obtain ⟨h1, h2, h3, h4, h5, h6⟩ := hg
  obtain ⟨m1, hm1, e1⟩ := (hJ.1.2.2.2.2.2 0 (by decide)).2.2.1
  obtain ⟨m2, hm2, e2⟩ := (hJ.1.2.2.2.2.2 1 (by decide)).2.2.1
  have h5 := (mv_ok e1 hm1 h4).mp h5
  have h6 := (mv_ok e2 hm2 h4).mp h6
  obtain ⟨n, hn, rfl⟩ := ge_0 (Int32.not_lt.mp h4)
  obtain ⟨i, hi, rfl⟩ := ge_0 (Int32.not_lt.mp h5.1)
  obtain ⟨j, hj, rfl⟩ := ge_0 (Int32.not_lt.mp h6.1)
  have a1 := mv_nat e1 hm1 hi hn h5.2
  have a2 := mv_nat e2 hm2 hj hn h6.2
  refine ok_step (ps := []) (L' := [some (.ref 0), some (.int (nI 0)), some (.int (nI i)), some (.int (nI 1)), some (.int (nI j)), some (.int (nI n))]) (st' := [.int (nI 0), .ref 0]) (σ' := (α, μ)) (pc' := 2) kX11_move_0 rfl rfl rf_a0 ?_
  refine ok_V (As := [.int (nI 0)]) (b := 0) (st := []) mkX11_isSheet qX11_move_2 rfl (rc_0) rfl rfl rfl rfl (Nat.le_of_ble_eq_true rfl) (c_isSheet) ?_
  rw [show bI (wi (nI 0) (nI 0) (nI 3)) = nI 1 from rfl]
  refine ok_if_eq bX11_move_5 (fun h5 => absurd h5 ((by decide))) (fun _ => ?_)
  refine ok_step (ps := []) (L' := [some (.ref 0), some (.int (nI 0)), some (.int (nI i)), some (.int (nI 1)), some (.int (nI j)), some (.int (nI n))]) (st' := [.int (nI 1), .ref 0]) (σ' := (α, μ)) (pc' := 10) kX11_move_8 rfl rfl rf_a0 ?_
  refine ok_V (As := [.int (nI 1)]) (b := 0) (st := []) mkX11_isSheet qX11_move_10 rfl (rc_0) rfl rfl rfl rfl (Nat.le_of_ble_eq_true rfl) (c_isSheet) ?_
  rw [show bI (wi (nI 1) (nI 0) (nI 3)) = nI 1 from rfl]
  refine ok_if_ne bX11_move_13 (fun _ => ?_) (fun h13 => absurd h13 ((by decide)))
  refine ok_step (ps := [rf_in (nI 0) 4]) (L' := [some (.ref 0), some (.int (nI 0)), some (.int (nI i)), some (.int (nI 1)), some (.int (nI j)), some (.int (nI n))]) (st' := [.int (α 86 ((nI 0).toNatClampNeg))]) (σ' := (α, μ)) (pc' := 32) kX11_move_23 rfl rfl (rf_a1 (rf_in_n (a := 0) rfl (by omega)) rf_a0) ?_
  try rw [(show (nI 0).toNatClampNeg = 0 from rf_cl_n rfl (by omega))]
  try rw [(show α 86 0 = μ 104 0 from (hJ.1.2.2.2.2.2 _ (by omega)).1)]
  refine ok_if_eq bX11_move_32 (fun h32 => absurd h32 (h1)) (fun _ => ?_)
  refine ok_step (ps := [rf_in (nI 1) 4]) (L' := [some (.ref 0), some (.int (nI 0)), some (.int (nI i)), some (.int (nI 1)), some (.int (nI j)), some (.int (nI n))]) (st' := [.int (α 86 ((nI 1).toNatClampNeg))]) (σ' := (α, μ)) (pc' := 44) kX11_move_35 rfl rfl (rf_a1 (rf_in_n (a := 1) rfl (by omega)) rf_a0) ?_
  try rw [(show (nI 1).toNatClampNeg = 1 from rf_cl_n rfl (by omega))]
  try rw [(show α 86 1 = μ 104 1 from (hJ.1.2.2.2.2.2 _ (by omega)).1)]
  refine ok_if_ne bX11_move_44 (fun _ => ?_) (fun h44 => absurd h44 (h2))
  refine ok_step (ps := [rf_in (nI 0) 4, rf_in (nI 1) 4]) (L' := [some (.ref 0), some (.int (nI 0)), some (.int (nI i)), some (.int (nI 1)), some (.int (nI j)), some (.int (nI n))]) (st' := [.int (α 86 ((nI 1).toNatClampNeg)), .int (α 86 ((nI 0).toNatClampNeg))]) (σ' := (α, μ)) (pc' := 72) kX11_move_54 rfl rfl (rf_a1 (rf_in_n (a := 0) rfl (by omega)) (rf_a1 (rf_in_n (a := 1) rfl (by omega)) rf_a0)) ?_
  try rw [(show (nI 0).toNatClampNeg = 0 from rf_cl_n rfl (by omega))]
  try rw [(show α 86 0 = μ 104 0 from (hJ.1.2.2.2.2.2 _ (by omega)).1)]
  try rw [(show (nI 1).toNatClampNeg = 1 from rf_cl_n rfl (by omega))]
  try rw [(show α 86 1 = μ 104 1 from (hJ.1.2.2.2.2.2 _ (by omega)).1)]
  refine ok_icmp_eq bX11_move_72 (fun _ => ?_) (fun h72 => absurd (h3) h72)
  refine ok_step (ps := []) (L' := [some (.ref 0), some (.int (nI 0)), some (.int (nI i)), some (.int (nI 1)), some (.int (nI j)), some (.int (nI n))]) (st' := [.int (nI n)]) (σ' := (α, μ)) (pc' := 84) kX11_move_82 rfl rfl rf_a0 ?_
  refine ok_if_lt bX11_move_84 (fun h84 => absurd h84 (h4)) (fun _ => ?_)
  refine ok_step (ps := [rf_in (nI 0) 4]) (L' := [some (.ref 0), some (.int (nI 0)), some (.int (nI i)), some (.int (nI 1)), some (.int (nI j)), some (.int (nI n))]) (st' := [.int ((α 87 ((nI 0).toNatClampNeg)) - (nI n)), .int (nI 0), .int (nI i)]) (σ' := (α, μ)) (pc' := 101) kX11_move_87 rfl rfl (rf_a1 (rf_in_n (a := 0) rfl (by omega)) rf_a0) ?_
  try rw [(show (nI 0).toNatClampNeg = 0 from rf_cl_n rfl (by omega))]
  try rw [(show α 87 0 = μ 105 0 from (hJ.1.2.2.2.2.2 _ (by omega)).2.1)]
  refine ok_S (As := [.int (nI i), .int (nI 0), .int ((μ 105 0) - (nI n))]) (st := []) mkX11_within qX11_move_101 rfl rfl rfl rfl rfl (Nat.le_of_ble_eq_true rfl) (c_within) ?_
  refine ok_if_eq bX11_move_104 (fun h104 => absurd h104 (bI_n0.mpr ((mv_ok e1 hm1 h4).mpr h5))) (fun _ => ?_)
  refine ok_step (ps := [rf_in (nI 1) 4]) (L' := [some (.ref 0), some (.int (nI 0)), some (.int (nI i)), some (.int (nI 1)), some (.int (nI j)), some (.int (nI n))]) (st' := [.int ((α 87 ((nI 1).toNatClampNeg)) - (nI n)), .int (nI 0), .int (nI j)]) (σ' := (α, μ)) (pc' := 122) kX11_move_107 rfl rfl (rf_a1 (rf_in_n (a := 1) rfl (by omega)) rf_a0) ?_
  try rw [(show (nI 1).toNatClampNeg = 1 from rf_cl_n rfl (by omega))]
  try rw [(show α 87 1 = μ 105 1 from (hJ.1.2.2.2.2.2 _ (by omega)).2.1)]
  refine ok_S (As := [.int (nI j), .int (nI 0), .int ((μ 105 1) - (nI n))]) (st := []) mkX11_within qX11_move_122 rfl rfl rfl rfl rfl (Nat.le_of_ble_eq_true rfl) (c_within) ?_
  refine ok_if_ne bX11_move_125 (fun _ => ?_) (fun h125 => absurd h125 (bI_n0.mpr ((mv_ok e2 hm2 h4).mpr h6)))
  refine ok_step (ps := [rf_in (nI 0) 4, rf_in (nI 1) 4, rf_cp (nI i) (nI j) (nI n) 40 40]) (L' := [some (.ref 0), some (.int (nI 0)), some (.int (nI i)), some (.int (nI 1)), some (.int (nI j)), some (.int (nI n))]) (st' := [.int (nI n)]) (σ' := (rf_r α 90 (va_cpy (α 89) (α 90) ((nI i).toNatClampNeg) ((nI j).toNatClampNeg) ((nI n).toNatClampNeg)), μ)) (pc' := 163) kX11_move_135 rfl rfl (rf_a1 (rf_in_n (a := 0) rfl (by omega)) (rf_a1 (rf_in_n (a := 1) rfl (by omega)) (rf_a1 (by simp only [rf_cp, Bool.and_eq_true, decide_eq_true_eq]; refine ⟨⟨⟨⟨nI_pos' (by omega), nI_pos' (by omega)⟩, nI_pos' (by omega)⟩, ?_⟩, ?_⟩ <;> rw [nI_clamp (by omega), nI_clamp (by omega)] <;> omega) rf_a0))) ?_
  try rw [(show (nI i).toNatClampNeg = i from rf_cl_n rfl (by omega))]
  try rw [(show (nI j).toNatClampNeg = j from rf_cl_n rfl (by omega))]
  try rw [(show (nI n).toNatClampNeg = n from rf_cl_n rfl (by omega))]
  refine ok_reti eX11_move_163 rfl ?_
  refine ⟨rfl, _, rfl, ?_⟩
  refine ok_step (ps := []) (L' := [some (.ref 94), some (.int (nI 0)), some (.int (nI i)), some (.int (nI 1)), some (.int (nI j)), some (.int (nI n)), none]) (st' := [.int (nI 0)]) (σ' := (rf_r α 90 (va_cpy (α 89) (α 90) i j n), μ)) (pc' := 1) kX12_move_0 rfl rfl rf_a0 ?_
  refine ok_S (As := [.int (nI 0)]) (st := []) mkX12_isSheet qX12_move_1 rfl rfl rfl rfl rfl (Nat.le_of_ble_eq_true rfl) (m_isSheet) ?_
  rw [show bI (wi (nI 0) (nI 0) (nI 3)) = nI 1 from rfl]
  refine ok_if_eq bX12_move_4 (fun g4 => absurd g4 ((by decide))) (fun _ => ?_)
  refine ok_step (ps := []) (L' := [some (.ref 94), some (.int (nI 0)), some (.int (nI i)), some (.int (nI 1)), some (.int (nI j)), some (.int (nI n)), none]) (st' := [.int (nI 1)]) (σ' := (rf_r α 90 (va_cpy (α 89) (α 90) i j n), μ)) (pc' := 8) kX12_move_7 rfl rfl rf_a0 ?_
  refine ok_S (As := [.int (nI 1)]) (st := []) mkX12_isSheet qX12_move_8 rfl rfl rfl rfl rfl (Nat.le_of_ble_eq_true rfl) (m_isSheet) ?_
  rw [show bI (wi (nI 1) (nI 0) (nI 3)) = nI 1 from rfl]
  refine ok_if_ne bX12_move_11 (fun _ => ?_) (fun g11 => absurd g11 ((by decide)))
  refine ok_step (ps := [rf_in (nI 0) 4]) (L' := [some (.ref 94), some (.int (nI 0)), some (.int (nI i)), some (.int (nI 1)), some (.int (nI j)), some (.int (nI n)), none]) (st' := [.int (μ 104 ((nI 0).toNatClampNeg))]) (σ' := (rf_r α 90 (va_cpy (α 89) (α 90) i j n), μ)) (pc' := 26) kX12_move_20 rfl rfl (rf_a1 (rf_in_n (a := 0) rfl (by omega)) rf_a0) ?_
  try rw [(show (nI 0).toNatClampNeg = 0 from rf_cl_n rfl (by omega))]
  refine ok_if_eq bX12_move_26 (fun g26 => absurd g26 (h1)) (fun _ => ?_)
  refine ok_step (ps := [rf_in (nI 1) 4]) (L' := [some (.ref 94), some (.int (nI 0)), some (.int (nI i)), some (.int (nI 1)), some (.int (nI j)), some (.int (nI n)), none]) (st' := [.int (μ 104 ((nI 1).toNatClampNeg))]) (σ' := (rf_r α 90 (va_cpy (α 89) (α 90) i j n), μ)) (pc' := 35) kX12_move_29 rfl rfl (rf_a1 (rf_in_n (a := 1) rfl (by omega)) rf_a0) ?_
  try rw [(show (nI 1).toNatClampNeg = 1 from rf_cl_n rfl (by omega))]
  refine ok_if_ne bX12_move_35 (fun _ => ?_) (fun g35 => absurd g35 (h2))
  refine ok_step (ps := [rf_in (nI 0) 4, rf_in (nI 1) 4]) (L' := [some (.ref 94), some (.int (nI 0)), some (.int (nI i)), some (.int (nI 1)), some (.int (nI j)), some (.int (nI n)), none]) (st' := [.int (μ 104 ((nI 1).toNatClampNeg)), .int (μ 104 ((nI 0).toNatClampNeg))]) (σ' := (rf_r α 90 (va_cpy (α 89) (α 90) i j n), μ)) (pc' := 56) kX12_move_44 rfl rfl (rf_a1 (rf_in_n (a := 0) rfl (by omega)) (rf_a1 (rf_in_n (a := 1) rfl (by omega)) rf_a0)) ?_
  try rw [(show (nI 0).toNatClampNeg = 0 from rf_cl_n rfl (by omega))]
  try rw [(show (nI 1).toNatClampNeg = 1 from rf_cl_n rfl (by omega))]
  refine ok_icmp_eq bX12_move_56 (fun _ => ?_) (fun g56 => absurd (h3) g56)
  refine ok_step (ps := []) (L' := [some (.ref 94), some (.int (nI 0)), some (.int (nI i)), some (.int (nI 1)), some (.int (nI j)), some (.int (nI n)), none]) (st' := [.int (nI n)]) (σ' := (rf_r α 90 (va_cpy (α 89) (α 90) i j n), μ)) (pc' := 67) kX12_move_65 rfl rfl rf_a0 ?_
  refine ok_if_lt bX12_move_67 (fun g67 => absurd g67 (h4)) (fun _ => ?_)
  refine ok_step (ps := []) (L' := [some (.ref 94), some (.int (nI 0)), some (.int (nI i)), some (.int (nI 1)), some (.int (nI j)), some (.int (nI n)), none]) (st' := [.int (nI i)]) (σ' := (rf_r α 90 (va_cpy (α 89) (α 90) i j n), μ)) (pc' := 71) kX12_move_70 rfl rfl rf_a0 ?_
  refine ok_if_lt bX12_move_71 (fun g71 => absurd g71 (h5.1)) (fun _ => ?_)
  refine ok_step (ps := []) (L' := [some (.ref 94), some (.int (nI 0)), some (.int (nI i)), some (.int (nI 1)), some (.int (nI j)), some (.int (nI n)), none]) (st' := [.int (nI j)]) (σ' := (rf_r α 90 (va_cpy (α 89) (α 90) i j n), μ)) (pc' := 76) kX12_move_74 rfl rfl rf_a0 ?_
  refine ok_if_lt bX12_move_76 (fun g76 => absurd g76 (h6.1)) (fun _ => ?_)
  refine ok_step (ps := [rf_in (nI 0) 4]) (L' := [some (.ref 94), some (.int (nI 0)), some (.int (nI i)), some (.int (nI 1)), some (.int (nI j)), some (.int (nI n)), none]) (st' := [.int ((μ 105 ((nI 0).toNatClampNeg)) - (nI i)), .int (nI n)]) (σ' := (rf_r α 90 (va_cpy (α 89) (α 90) i j n), μ)) (pc' := 89) kX12_move_79 rfl rfl (rf_a1 (rf_in_n (a := 0) rfl (by omega)) rf_a0) ?_
  try rw [(show (nI 0).toNatClampNeg = 0 from rf_cl_n rfl (by omega))]
  refine ok_icmp_gt bX12_move_89 (fun g89 => absurd g89 (h5.2)) (fun _ => ?_)
  refine ok_step (ps := [rf_in (nI 1) 4]) (L' := [some (.ref 94), some (.int (nI 0)), some (.int (nI i)), some (.int (nI 1)), some (.int (nI j)), some (.int (nI n)), none]) (st' := [.int ((μ 105 ((nI 1).toNatClampNeg)) - (nI j)), .int (nI n)]) (σ' := (rf_r α 90 (va_cpy (α 89) (α 90) i j n), μ)) (pc' := 103) kX12_move_92 rfl rfl (rf_a1 (rf_in_n (a := 1) rfl (by omega)) rf_a0) ?_
  try rw [(show (nI 1).toNatClampNeg = 1 from rf_cl_n rfl (by omega))]
  refine ok_icmp_le bX12_move_103 (fun _ => ?_) (fun g103 => absurd (Int32.not_lt.mp h6.2) g103)
  refine ok_step (ps := []) (L' := [some (.ref 94), some (.int (nI 0)), some (.int (nI i)), some (.int (nI 1)), some (.int (nI j)), some (.int (nI n)), some (.int (nI 0))]) (st' := []) (σ' := (rf_r α 90 (va_cpy (α 89) (α 90) i j n), μ)) (pc' := 115) kX12_move_112 rfl rfl rf_a0 ?_
  have hm := m_mv1 (Ln := Ln) (xs := xs) (γ := rf_r α 90 (va_cpy (α 89) (α 90) i j n)) (μ := μ) (s := 0) (o := 1) (i := i) (j := j) (n := n) (by decide) (by decide) (by omega) (by omega) n 0 (by omega)
  rw [rfr_c0] at hm
  refine hm.mono (fun r t hq => ?_)
  obtain ⟨rfl, rfl⟩ := hq
  exact ⟨rfl, _, rfl, hJ.move (by decide) (by decide) (by omega) (by omega) rfl rfl⟩
theorem op_move_02 {i0 j0 n0 : Int32} (hJ : J α μ) (hg : mgood μ 0 2 i0 j0 n0) : Op (rf_T Ln xs) MX11_move MX12_move [some (.ref 0), some (.int (nI 0)), some (.int i0), some (.int (nI 2)), some (.int j0), some (.int n0)] [some (.ref 94), some (.int (nI 0)), some (.int i0), some (.int (nI 2)), some (.int j0), some (.int n0), none] α μ := by
  have hR := hJ.1.1.1
  have hI := hJ.2
  obtain ⟨h1, h2, h3, h4, h5, h6⟩ := hg
  obtain ⟨m1, hm1, e1⟩ := (hJ.1.2.2.2.2.2 0 (by decide)).2.2.1
  obtain ⟨m2, hm2, e2⟩ := (hJ.1.2.2.2.2.2 2 (by decide)).2.2.1
  have h5 := (mv_ok e1 hm1 h4).mp h5
  have h6 := (mv_ok e2 hm2 h4).mp h6
  obtain ⟨n, hn, rfl⟩ := ge_0 (Int32.not_lt.mp h4)
  obtain ⟨i, hi, rfl⟩ := ge_0 (Int32.not_lt.mp h5.1)
  obtain ⟨j, hj, rfl⟩ := ge_0 (Int32.not_lt.mp h6.1)
  have a1 := mv_nat e1 hm1 hi hn h5.2
  have a2 := mv_nat e2 hm2 hj hn h6.2
  refine ok_step (ps := []) (L' := [some (.ref 0), some (.int (nI 0)), some (.int (nI i)), some (.int (nI 2)), some (.int (nI j)), some (.int (nI n))]) (st' := [.int (nI 0), .ref 0]) (σ' := (α, μ)) (pc' := 2) kX11_move_0 rfl rfl rf_a0 ?_
  refine ok_V (As := [.int (nI 0)]) (b := 0) (st := []) mkX11_isSheet qX11_move_2 rfl (rc_0) rfl rfl rfl rfl (Nat.le_of_ble_eq_true rfl) (c_isSheet) ?_
  rw [show bI (wi (nI 0) (nI 0) (nI 3)) = nI 1 from rfl]
  refine ok_if_eq bX11_move_5 (fun h5 => absurd h5 ((by decide))) (fun _ => ?_)
  refine ok_step (ps := []) (L' := [some (.ref 0), some (.int (nI 0)), some (.int (nI i)), some (.int (nI 2)), some (.int (nI j)), some (.int (nI n))]) (st' := [.int (nI 2), .ref 0]) (σ' := (α, μ)) (pc' := 10) kX11_move_8 rfl rfl rf_a0 ?_
  refine ok_V (As := [.int (nI 2)]) (b := 0) (st := []) mkX11_isSheet qX11_move_10 rfl (rc_0) rfl rfl rfl rfl (Nat.le_of_ble_eq_true rfl) (c_isSheet) ?_
  rw [show bI (wi (nI 2) (nI 0) (nI 3)) = nI 1 from rfl]
  refine ok_if_ne bX11_move_13 (fun _ => ?_) (fun h13 => absurd h13 ((by decide)))
  refine ok_step (ps := [rf_in (nI 0) 4]) (L' := [some (.ref 0), some (.int (nI 0)), some (.int (nI i)), some (.int (nI 2)), some (.int (nI j)), some (.int (nI n))]) (st' := [.int (α 86 ((nI 0).toNatClampNeg))]) (σ' := (α, μ)) (pc' := 32) kX11_move_23 rfl rfl (rf_a1 (rf_in_n (a := 0) rfl (by omega)) rf_a0) ?_
  try rw [(show (nI 0).toNatClampNeg = 0 from rf_cl_n rfl (by omega))]
  try rw [(show α 86 0 = μ 104 0 from (hJ.1.2.2.2.2.2 _ (by omega)).1)]
  refine ok_if_eq bX11_move_32 (fun h32 => absurd h32 (h1)) (fun _ => ?_)
  refine ok_step (ps := [rf_in (nI 2) 4]) (L' := [some (.ref 0), some (.int (nI 0)), some (.int (nI i)), some (.int (nI 2)), some (.int (nI j)), some (.int (nI n))]) (st' := [.int (α 86 ((nI 2).toNatClampNeg))]) (σ' := (α, μ)) (pc' := 44) kX11_move_35 rfl rfl (rf_a1 (rf_in_n (a := 2) rfl (by omega)) rf_a0) ?_
  try rw [(show (nI 2).toNatClampNeg = 2 from rf_cl_n rfl (by omega))]
  try rw [(show α 86 2 = μ 104 2 from (hJ.1.2.2.2.2.2 _ (by omega)).1)]
  refine ok_if_ne bX11_move_44 (fun _ => ?_) (fun h44 => absurd h44 (h2))
  refine ok_step (ps := [rf_in (nI 0) 4, rf_in (nI 2) 4]) (L' := [some (.ref 0), some (.int (nI 0)), some (.int (nI i)), some (.int (nI 2)), some (.int (nI j)), some (.int (nI n))]) (st' := [.int (α 86 ((nI 2).toNatClampNeg)), .int (α 86 ((nI 0).toNatClampNeg))]) (σ' := (α, μ)) (pc' := 72) kX11_move_54 rfl rfl (rf_a1 (rf_in_n (a := 0) rfl (by omega)) (rf_a1 (rf_in_n (a := 2) rfl (by omega)) rf_a0)) ?_
  try rw [(show (nI 0).toNatClampNeg = 0 from rf_cl_n rfl (by omega))]
  try rw [(show α 86 0 = μ 104 0 from (hJ.1.2.2.2.2.2 _ (by omega)).1)]
  try rw [(show (nI 2).toNatClampNeg = 2 from rf_cl_n rfl (by omega))]
  try rw [(show α 86 2 = μ 104 2 from (hJ.1.2.2.2.2.2 _ (by omega)).1)]
  refine ok_icmp_eq bX11_move_72 (fun _ => ?_) (fun h72 => absurd (h3) h72)
  refine ok_step (ps := []) (L' := [some (.ref 0), some (.int (nI 0)), some (.int (nI i)), some (.int (nI 2)), some (.int (nI j)), some (.int (nI n))]) (st' := [.int (nI n)]) (σ' := (α, μ)) (pc' := 84) kX11_move_82 rfl rfl rf_a0 ?_
  refine ok_if_lt bX11_move_84 (fun h84 => absurd h84 (h4)) (fun _ => ?_)
  refine ok_step (ps := [rf_in (nI 0) 4]) (L' := [some (.ref 0), some (.int (nI 0)), some (.int (nI i)), some (.int (nI 2)), some (.int (nI j)), some (.int (nI n))]) (st' := [.int ((α 87 ((nI 0).toNatClampNeg)) - (nI n)), .int (nI 0), .int (nI i)]) (σ' := (α, μ)) (pc' := 101) kX11_move_87 rfl rfl (rf_a1 (rf_in_n (a := 0) rfl (by omega)) rf_a0) ?_
  try rw [(show (nI 0).toNatClampNeg = 0 from rf_cl_n rfl (by omega))]
  try rw [(show α 87 0 = μ 105 0 from (hJ.1.2.2.2.2.2 _ (by omega)).2.1)]
  refine ok_S (As := [.int (nI i), .int (nI 0), .int ((μ 105 0) - (nI n))]) (st := []) mkX11_within qX11_move_101 rfl rfl rfl rfl rfl (Nat.le_of_ble_eq_true rfl) (c_within) ?_
  refine ok_if_eq bX11_move_104 (fun h104 => absurd h104 (bI_n0.mpr ((mv_ok e1 hm1 h4).mpr h5))) (fun _ => ?_)
  refine ok_step (ps := [rf_in (nI 2) 4]) (L' := [some (.ref 0), some (.int (nI 0)), some (.int (nI i)), some (.int (nI 2)), some (.int (nI j)), some (.int (nI n))]) (st' := [.int ((α 87 ((nI 2).toNatClampNeg)) - (nI n)), .int (nI 0), .int (nI j)]) (σ' := (α, μ)) (pc' := 122) kX11_move_107 rfl rfl (rf_a1 (rf_in_n (a := 2) rfl (by omega)) rf_a0) ?_
  try rw [(show (nI 2).toNatClampNeg = 2 from rf_cl_n rfl (by omega))]
  try rw [(show α 87 2 = μ 105 2 from (hJ.1.2.2.2.2.2 _ (by omega)).2.1)]
  refine ok_S (As := [.int (nI j), .int (nI 0), .int ((μ 105 2) - (nI n))]) (st := []) mkX11_within qX11_move_122 rfl rfl rfl rfl rfl (Nat.le_of_ble_eq_true rfl) (c_within) ?_
  refine ok_if_ne bX11_move_125 (fun _ => ?_) (fun h125 => absurd h125 (bI_n0.mpr ((mv_ok e2 hm2 h4).mpr h6)))
  refine ok_step (ps := [rf_in (nI 0) 4, rf_in (nI 2) 4, rf_cp (nI i) (nI j) (nI n) 40 40]) (L' := [some (.ref 0), some (.int (nI 0)), some (.int (nI i)), some (.int (nI 2)), some (.int (nI j)), some (.int (nI n))]) (st' := [.int (nI n)]) (σ' := (rf_r α 91 (va_cpy (α 89) (α 91) ((nI i).toNatClampNeg) ((nI j).toNatClampNeg) ((nI n).toNatClampNeg)), μ)) (pc' := 163) kX11_move_135 rfl rfl (rf_a1 (rf_in_n (a := 0) rfl (by omega)) (rf_a1 (rf_in_n (a := 2) rfl (by omega)) (rf_a1 (by simp only [rf_cp, Bool.and_eq_true, decide_eq_true_eq]; refine ⟨⟨⟨⟨nI_pos' (by omega), nI_pos' (by omega)⟩, nI_pos' (by omega)⟩, ?_⟩, ?_⟩ <;> rw [nI_clamp (by omega), nI_clamp (by omega)] <;> omega) rf_a0))) ?_
  try rw [(show (nI i).toNatClampNeg = i from rf_cl_n rfl (by omega))]
  try rw [(show (nI j).toNatClampNeg = j from rf_cl_n rfl (by omega))]
  try rw [(show (nI n).toNatClampNeg = n from rf_cl_n rfl (by omega))]
  refine ok_reti eX11_move_163 rfl ?_
  refine ⟨rfl, _, rfl, ?_⟩
  refine ok_step (ps := []) (L' := [some (.ref 94), some (.int (nI 0)), some (.int (nI i)), some (.int (nI 2)), some (.int (nI j)), some (.int (nI n)), none]) (st' := [.int (nI 0)]) (σ' := (rf_r α 91 (va_cpy (α 89) (α 91) i j n), μ)) (pc' := 1) kX12_move_0 rfl rfl rf_a0 ?_
  refine ok_S (As := [.int (nI 0)]) (st := []) mkX12_isSheet qX12_move_1 rfl rfl rfl rfl rfl (Nat.le_of_ble_eq_true rfl) (m_isSheet) ?_
  rw [show bI (wi (nI 0) (nI 0) (nI 3)) = nI 1 from rfl]
  refine ok_if_eq bX12_move_4 (fun g4 => absurd g4 ((by decide))) (fun _ => ?_)
  refine ok_step (ps := []) (L' := [some (.ref 94), some (.int (nI 0)), some (.int (nI i)), some (.int (nI 2)), some (.int (nI j)), some (.int (nI n)), none]) (st' := [.int (nI 2)]) (σ' := (rf_r α 91 (va_cpy (α 89) (α 91) i j n), μ)) (pc' := 8) kX12_move_7 rfl rfl rf_a0 ?_
  refine ok_S (As := [.int (nI 2)]) (st := []) mkX12_isSheet qX12_move_8 rfl rfl rfl rfl rfl (Nat.le_of_ble_eq_true rfl) (m_isSheet) ?_
  rw [show bI (wi (nI 2) (nI 0) (nI 3)) = nI 1 from rfl]
  refine ok_if_ne bX12_move_11 (fun _ => ?_) (fun g11 => absurd g11 ((by decide)))
  refine ok_step (ps := [rf_in (nI 0) 4]) (L' := [some (.ref 94), some (.int (nI 0)), some (.int (nI i)), some (.int (nI 2)), some (.int (nI j)), some (.int (nI n)), none]) (st' := [.int (μ 104 ((nI 0).toNatClampNeg))]) (σ' := (rf_r α 91 (va_cpy (α 89) (α 91) i j n), μ)) (pc' := 26) kX12_move_20 rfl rfl (rf_a1 (rf_in_n (a := 0) rfl (by omega)) rf_a0) ?_
  try rw [(show (nI 0).toNatClampNeg = 0 from rf_cl_n rfl (by omega))]
  refine ok_if_eq bX12_move_26 (fun g26 => absurd g26 (h1)) (fun _ => ?_)
  refine ok_step (ps := [rf_in (nI 2) 4]) (L' := [some (.ref 94), some (.int (nI 0)), some (.int (nI i)), some (.int (nI 2)), some (.int (nI j)), some (.int (nI n)), none]) (st' := [.int (μ 104 ((nI 2).toNatClampNeg))]) (σ' := (rf_r α 91 (va_cpy (α 89) (α 91) i j n), μ)) (pc' := 35) kX12_move_29 rfl rfl (rf_a1 (rf_in_n (a := 2) rfl (by omega)) rf_a0) ?_
  try rw [(show (nI 2).toNatClampNeg = 2 from rf_cl_n rfl (by omega))]
  refine ok_if_ne bX12_move_35 (fun _ => ?_) (fun g35 => absurd g35 (h2))
  refine ok_step (ps := [rf_in (nI 0) 4, rf_in (nI 2) 4]) (L' := [some (.ref 94), some (.int (nI 0)), some (.int (nI i)), some (.int (nI 2)), some (.int (nI j)), some (.int (nI n)), none]) (st' := [.int (μ 104 ((nI 2).toNatClampNeg)), .int (μ 104 ((nI 0).toNatClampNeg))]) (σ' := (rf_r α 91 (va_cpy (α 89) (α 91) i j n), μ)) (pc' := 56) kX12_move_44 rfl rfl (rf_a1 (rf_in_n (a := 0) rfl (by omega)) (rf_a1 (rf_in_n (a := 2) rfl (by omega)) rf_a0)) ?_
  try rw [(show (nI 0).toNatClampNeg = 0 from rf_cl_n rfl (by omega))]
  try rw [(show (nI 2).toNatClampNeg = 2 from rf_cl_n rfl (by omega))]
  refine ok_icmp_eq bX12_move_56 (fun _ => ?_) (fun g56 => absurd (h3) g56)
  refine ok_step (ps := []) (L' := [some (.ref 94), some (.int (nI 0)), some (.int (nI i)), some (.int (nI 2)), some (.int (nI j)), some (.int (nI n)), none]) (st' := [.int (nI n)]) (σ' := (rf_r α 91 (va_cpy (α 89) (α 91) i j n), μ)) (pc' := 67) kX12_move_65 rfl rfl rf_a0 ?_
  refine ok_if_lt bX12_move_67 (fun g67 => absurd g67 (h4)) (fun _ => ?_)
  refine ok_step (ps := []) (L' := [some (.ref 94), some (.int (nI 0)), some (.int (nI i)), some (.int (nI 2)), some (.int (nI j)), some (.int (nI n)), none]) (st' := [.int (nI i)]) (σ' := (rf_r α 91 (va_cpy (α 89) (α 91) i j n), μ)) (pc' := 71) kX12_move_70 rfl rfl rf_a0 ?_
  refine ok_if_lt bX12_move_71 (fun g71 => absurd g71 (h5.1)) (fun _ => ?_)
  refine ok_step (ps := []) (L' := [some (.ref 94), some (.int (nI 0)), some (.int (nI i)), some (.int (nI 2)), some (.int (nI j)), some (.int (nI n)), none]) (st' := [.int (nI j)]) (σ' := (rf_r α 91 (va_cpy (α 89) (α 91) i j n), μ)) (pc' := 76) kX12_move_74 rfl rfl rf_a0 ?_
  refine ok_if_lt bX12_move_76 (fun g76 => absurd g76 (h6.1)) (fun _ => ?_)
  refine ok_step (ps := [rf_in (nI 0) 4]) (L' := [some (.ref 94), some (.int (nI 0)), some (.int (nI i)), some (.int (nI 2)), some (.int (nI j)), some (.int (nI n)), none]) (st' := [.int ((μ 105 ((nI 0).toNatClampNeg)) - (nI i)), .int (nI n)]) (σ' := (rf_r α 91 (va_cpy (α 89) (α 91) i j n), μ)) (pc' := 89) kX12_move_79 rfl rfl (rf_a1 (rf_in_n (a := 0) rfl (by omega)) rf_a0) ?_
  try rw [(show (nI 0).toNatClampNeg = 0 from rf_cl_n rfl (by omega))]
  refine ok_icmp_gt bX12_move_89 (fun g89 => absurd g89 (h5.2)) (fun _ => ?_)
  refine ok_step (ps := [rf_in (nI 2) 4]) (L' := [some (.ref 94), some (.int (nI 0)), some (.int (nI i)), some (.int (nI 2)), some (.int (nI j)), some (.int (nI n)), none]) (st' := [.int ((μ 105 ((nI 2).toNatClampNeg)) - (nI j)), .int (nI n)]) (σ' := (rf_r α 91 (va_cpy (α 89) (α 91) i j n), μ)) (pc' := 103) kX12_move_92 rfl rfl (rf_a1 (rf_in_n (a := 2) rfl (by omega)) rf_a0) ?_
  try rw [(show (nI 2).toNatClampNeg = 2 from rf_cl_n rfl (by omega))]
  refine ok_icmp_le bX12_move_103 (fun _ => ?_) (fun g103 => absurd (Int32.not_lt.mp h6.2) g103)
  refine ok_step (ps := []) (L' := [some (.ref 94), some (.int (nI 0)), some (.int (nI i)), some (.int (nI 2)), some (.int (nI j)), some (.int (nI n)), some (.int (nI 0))]) (st' := []) (σ' := (rf_r α 91 (va_cpy (α 89) (α 91) i j n), μ)) (pc' := 115) kX12_move_112 rfl rfl rf_a0 ?_
  have hm := m_mv1 (Ln := Ln) (xs := xs) (γ := rf_r α 91 (va_cpy (α 89) (α 91) i j n)) (μ := μ) (s := 0) (o := 2) (i := i) (j := j) (n := n) (by decide) (by decide) (by omega) (by omega) n 0 (by omega)
  rw [rfr_c0] at hm
  refine hm.mono (fun r t hq => ?_)
  obtain ⟨rfl, rfl⟩ := hq
  exact ⟨rfl, _, rfl, hJ.move (by decide) (by decide) (by omega) (by omega) rfl rfl⟩
theorem op_move_03 {i0 j0 n0 : Int32} (hJ : J α μ) (hg : mgood μ 0 3 i0 j0 n0) : Op (rf_T Ln xs) MX11_move MX12_move [some (.ref 0), some (.int (nI 0)), some (.int i0), some (.int (nI 3)), some (.int j0), some (.int n0)] [some (.ref 94), some (.int (nI 0)), some (.int i0), some (.int (nI 3)), some (.int j0), some (.int n0), none] α μ := by
  have hR := hJ.1.1.1
  have hI := hJ.2
  obtain ⟨h1, h2, h3, h4, h5, h6⟩ := hg
  obtain ⟨m1, hm1, e1⟩ := (hJ.1.2.2.2.2.2 0 (by decide)).2.2.1
  obtain ⟨m2, hm2, e2⟩ := (hJ.1.2.2.2.2.2 3 (by decide)).2.2.1
  have h5 := (mv_ok e1 hm1 h4).mp h5
  have h6 := (mv_ok e2 hm2 h4).mp h6
  obtain ⟨n, hn, rfl⟩ := ge_0 (Int32.not_lt.mp h4)
  obtain ⟨i, hi, rfl⟩ := ge_0 (Int32.not_lt.mp h5.1)
  obtain ⟨j, hj, rfl⟩ := ge_0 (Int32.not_lt.mp h6.1)
  have a1 := mv_nat e1 hm1 hi hn h5.2
  have a2 := mv_nat e2 hm2 hj hn h6.2
  refine ok_step (ps := []) (L' := [some (.ref 0), some (.int (nI 0)), some (.int (nI i)), some (.int (nI 3)), some (.int (nI j)), some (.int (nI n))]) (st' := [.int (nI 0), .ref 0]) (σ' := (α, μ)) (pc' := 2) kX11_move_0 rfl rfl rf_a0 ?_
  refine ok_V (As := [.int (nI 0)]) (b := 0) (st := []) mkX11_isSheet qX11_move_2 rfl (rc_0) rfl rfl rfl rfl (Nat.le_of_ble_eq_true rfl) (c_isSheet) ?_
  rw [show bI (wi (nI 0) (nI 0) (nI 3)) = nI 1 from rfl]
  refine ok_if_eq bX11_move_5 (fun h5 => absurd h5 ((by decide))) (fun _ => ?_)
  refine ok_step (ps := []) (L' := [some (.ref 0), some (.int (nI 0)), some (.int (nI i)), some (.int (nI 3)), some (.int (nI j)), some (.int (nI n))]) (st' := [.int (nI 3), .ref 0]) (σ' := (α, μ)) (pc' := 10) kX11_move_8 rfl rfl rf_a0 ?_
  refine ok_V (As := [.int (nI 3)]) (b := 0) (st := []) mkX11_isSheet qX11_move_10 rfl (rc_0) rfl rfl rfl rfl (Nat.le_of_ble_eq_true rfl) (c_isSheet) ?_
  rw [show bI (wi (nI 3) (nI 0) (nI 3)) = nI 1 from rfl]
  refine ok_if_ne bX11_move_13 (fun _ => ?_) (fun h13 => absurd h13 ((by decide)))
  refine ok_step (ps := [rf_in (nI 0) 4]) (L' := [some (.ref 0), some (.int (nI 0)), some (.int (nI i)), some (.int (nI 3)), some (.int (nI j)), some (.int (nI n))]) (st' := [.int (α 86 ((nI 0).toNatClampNeg))]) (σ' := (α, μ)) (pc' := 32) kX11_move_23 rfl rfl (rf_a1 (rf_in_n (a := 0) rfl (by omega)) rf_a0) ?_
  try rw [(show (nI 0).toNatClampNeg = 0 from rf_cl_n rfl (by omega))]
  try rw [(show α 86 0 = μ 104 0 from (hJ.1.2.2.2.2.2 _ (by omega)).1)]
  refine ok_if_eq bX11_move_32 (fun h32 => absurd h32 (h1)) (fun _ => ?_)
  refine ok_step (ps := [rf_in (nI 3) 4]) (L' := [some (.ref 0), some (.int (nI 0)), some (.int (nI i)), some (.int (nI 3)), some (.int (nI j)), some (.int (nI n))]) (st' := [.int (α 86 ((nI 3).toNatClampNeg))]) (σ' := (α, μ)) (pc' := 44) kX11_move_35 rfl rfl (rf_a1 (rf_in_n (a := 3) rfl (by omega)) rf_a0) ?_
  try rw [(show (nI 3).toNatClampNeg = 3 from rf_cl_n rfl (by omega))]
  try rw [(show α 86 3 = μ 104 3 from (hJ.1.2.2.2.2.2 _ (by omega)).1)]
  refine ok_if_ne bX11_move_44 (fun _ => ?_) (fun h44 => absurd h44 (h2))
  refine ok_step (ps := [rf_in (nI 0) 4, rf_in (nI 3) 4]) (L' := [some (.ref 0), some (.int (nI 0)), some (.int (nI i)), some (.int (nI 3)), some (.int (nI j)), some (.int (nI n))]) (st' := [.int (α 86 ((nI 3).toNatClampNeg)), .int (α 86 ((nI 0).toNatClampNeg))]) (σ' := (α, μ)) (pc' := 72) kX11_move_54 rfl rfl (rf_a1 (rf_in_n (a := 0) rfl (by omega)) (rf_a1 (rf_in_n (a := 3) rfl (by omega)) rf_a0)) ?_
  try rw [(show (nI 0).toNatClampNeg = 0 from rf_cl_n rfl (by omega))]
  try rw [(show α 86 0 = μ 104 0 from (hJ.1.2.2.2.2.2 _ (by omega)).1)]
  try rw [(show (nI 3).toNatClampNeg = 3 from rf_cl_n rfl (by omega))]
  try rw [(show α 86 3 = μ 104 3 from (hJ.1.2.2.2.2.2 _ (by omega)).1)]
  refine ok_icmp_eq bX11_move_72 (fun _ => ?_) (fun h72 => absurd (h3) h72)
  refine ok_step (ps := []) (L' := [some (.ref 0), some (.int (nI 0)), some (.int (nI i)), some (.int (nI 3)), some (.int (nI j)), some (.int (nI n))]) (st' := [.int (nI n)]) (σ' := (α, μ)) (pc' := 84) kX11_move_82 rfl rfl rf_a0 ?_
  refine ok_if_lt bX11_move_84 (fun h84 => absurd h84 (h4)) (fun _ => ?_)
  refine ok_step (ps := [rf_in (nI 0) 4]) (L' := [some (.ref 0), some (.int (nI 0)), some (.int (nI i)), some (.int (nI 3)), some (.int (nI j)), some (.int (nI n))]) (st' := [.int ((α 87 ((nI 0).toNatClampNeg)) - (nI n)), .int (nI 0), .int (nI i)]) (σ' := (α, μ)) (pc' := 101) kX11_move_87 rfl rfl (rf_a1 (rf_in_n (a := 0) rfl (by omega)) rf_a0) ?_
  try rw [(show (nI 0).toNatClampNeg = 0 from rf_cl_n rfl (by omega))]
  try rw [(show α 87 0 = μ 105 0 from (hJ.1.2.2.2.2.2 _ (by omega)).2.1)]
  refine ok_S (As := [.int (nI i), .int (nI 0), .int ((μ 105 0) - (nI n))]) (st := []) mkX11_within qX11_move_101 rfl rfl rfl rfl rfl (Nat.le_of_ble_eq_true rfl) (c_within) ?_
  refine ok_if_eq bX11_move_104 (fun h104 => absurd h104 (bI_n0.mpr ((mv_ok e1 hm1 h4).mpr h5))) (fun _ => ?_)
  refine ok_step (ps := [rf_in (nI 3) 4]) (L' := [some (.ref 0), some (.int (nI 0)), some (.int (nI i)), some (.int (nI 3)), some (.int (nI j)), some (.int (nI n))]) (st' := [.int ((α 87 ((nI 3).toNatClampNeg)) - (nI n)), .int (nI 0), .int (nI j)]) (σ' := (α, μ)) (pc' := 122) kX11_move_107 rfl rfl (rf_a1 (rf_in_n (a := 3) rfl (by omega)) rf_a0) ?_
  try rw [(show (nI 3).toNatClampNeg = 3 from rf_cl_n rfl (by omega))]
  try rw [(show α 87 3 = μ 105 3 from (hJ.1.2.2.2.2.2 _ (by omega)).2.1)]
  refine ok_S (As := [.int (nI j), .int (nI 0), .int ((μ 105 3) - (nI n))]) (st := []) mkX11_within qX11_move_122 rfl rfl rfl rfl rfl (Nat.le_of_ble_eq_true rfl) (c_within) ?_
  refine ok_if_ne bX11_move_125 (fun _ => ?_) (fun h125 => absurd h125 (bI_n0.mpr ((mv_ok e2 hm2 h4).mpr h6)))
  refine ok_step (ps := [rf_in (nI 0) 4, rf_in (nI 3) 4, rf_cp (nI i) (nI j) (nI n) 40 40]) (L' := [some (.ref 0), some (.int (nI 0)), some (.int (nI i)), some (.int (nI 3)), some (.int (nI j)), some (.int (nI n))]) (st' := [.int (nI n)]) (σ' := (rf_r α 92 (va_cpy (α 89) (α 92) ((nI i).toNatClampNeg) ((nI j).toNatClampNeg) ((nI n).toNatClampNeg)), μ)) (pc' := 163) kX11_move_135 rfl rfl (rf_a1 (rf_in_n (a := 0) rfl (by omega)) (rf_a1 (rf_in_n (a := 3) rfl (by omega)) (rf_a1 (by simp only [rf_cp, Bool.and_eq_true, decide_eq_true_eq]; refine ⟨⟨⟨⟨nI_pos' (by omega), nI_pos' (by omega)⟩, nI_pos' (by omega)⟩, ?_⟩, ?_⟩ <;> rw [nI_clamp (by omega), nI_clamp (by omega)] <;> omega) rf_a0))) ?_
  try rw [(show (nI i).toNatClampNeg = i from rf_cl_n rfl (by omega))]
  try rw [(show (nI j).toNatClampNeg = j from rf_cl_n rfl (by omega))]
  try rw [(show (nI n).toNatClampNeg = n from rf_cl_n rfl (by omega))]
  refine ok_reti eX11_move_163 rfl ?_
  refine ⟨rfl, _, rfl, ?_⟩
  refine ok_step (ps := []) (L' := [some (.ref 94), some (.int (nI 0)), some (.int (nI i)), some (.int (nI 3)), some (.int (nI j)), some (.int (nI n)), none]) (st' := [.int (nI 0)]) (σ' := (rf_r α 92 (va_cpy (α 89) (α 92) i j n), μ)) (pc' := 1) kX12_move_0 rfl rfl rf_a0 ?_
  refine ok_S (As := [.int (nI 0)]) (st := []) mkX12_isSheet qX12_move_1 rfl rfl rfl rfl rfl (Nat.le_of_ble_eq_true rfl) (m_isSheet) ?_
  rw [show bI (wi (nI 0) (nI 0) (nI 3)) = nI 1 from rfl]
  refine ok_if_eq bX12_move_4 (fun g4 => absurd g4 ((by decide))) (fun _ => ?_)
  refine ok_step (ps := []) (L' := [some (.ref 94), some (.int (nI 0)), some (.int (nI i)), some (.int (nI 3)), some (.int (nI j)), some (.int (nI n)), none]) (st' := [.int (nI 3)]) (σ' := (rf_r α 92 (va_cpy (α 89) (α 92) i j n), μ)) (pc' := 8) kX12_move_7 rfl rfl rf_a0 ?_
  refine ok_S (As := [.int (nI 3)]) (st := []) mkX12_isSheet qX12_move_8 rfl rfl rfl rfl rfl (Nat.le_of_ble_eq_true rfl) (m_isSheet) ?_
  rw [show bI (wi (nI 3) (nI 0) (nI 3)) = nI 1 from rfl]
  refine ok_if_ne bX12_move_11 (fun _ => ?_) (fun g11 => absurd g11 ((by decide)))
  refine ok_step (ps := [rf_in (nI 0) 4]) (L' := [some (.ref 94), some (.int (nI 0)), some (.int (nI i)), some (.int (nI 3)), some (.int (nI j)), some (.int (nI n)), none]) (st' := [.int (μ 104 ((nI 0).toNatClampNeg))]) (σ' := (rf_r α 92 (va_cpy (α 89) (α 92) i j n), μ)) (pc' := 26) kX12_move_20 rfl rfl (rf_a1 (rf_in_n (a := 0) rfl (by omega)) rf_a0) ?_
  try rw [(show (nI 0).toNatClampNeg = 0 from rf_cl_n rfl (by omega))]
  refine ok_if_eq bX12_move_26 (fun g26 => absurd g26 (h1)) (fun _ => ?_)
  refine ok_step (ps := [rf_in (nI 3) 4]) (L' := [some (.ref 94), some (.int (nI 0)), some (.int (nI i)), some (.int (nI 3)), some (.int (nI j)), some (.int (nI n)), none]) (st' := [.int (μ 104 ((nI 3).toNatClampNeg))]) (σ' := (rf_r α 92 (va_cpy (α 89) (α 92) i j n), μ)) (pc' := 35) kX12_move_29 rfl rfl (rf_a1 (rf_in_n (a := 3) rfl (by omega)) rf_a0) ?_
  try rw [(show (nI 3).toNatClampNeg = 3 from rf_cl_n rfl (by omega))]
  refine ok_if_ne bX12_move_35 (fun _ => ?_) (fun g35 => absurd g35 (h2))
  refine ok_step (ps := [rf_in (nI 0) 4, rf_in (nI 3) 4]) (L' := [some (.ref 94), some (.int (nI 0)), some (.int (nI i)), some (.int (nI 3)), some (.int (nI j)), some (.int (nI n)), none]) (st' := [.int (μ 104 ((nI 3).toNatClampNeg)), .int (μ 104 ((nI 0).toNatClampNeg))]) (σ' := (rf_r α 92 (va_cpy (α 89) (α 92) i j n), μ)) (pc' := 56) kX12_move_44 rfl rfl (rf_a1 (rf_in_n (a := 0) rfl (by omega)) (rf_a1 (rf_in_n (a := 3) rfl (by omega)) rf_a0)) ?_
  try rw [(show (nI 0).toNatClampNeg = 0 from rf_cl_n rfl (by omega))]
  try rw [(show (nI 3).toNatClampNeg = 3 from rf_cl_n rfl (by omega))]
  refine ok_icmp_eq bX12_move_56 (fun _ => ?_) (fun g56 => absurd (h3) g56)
  refine ok_step (ps := []) (L' := [some (.ref 94), some (.int (nI 0)), some (.int (nI i)), some (.int (nI 3)), some (.int (nI j)), some (.int (nI n)), none]) (st' := [.int (nI n)]) (σ' := (rf_r α 92 (va_cpy (α 89) (α 92) i j n), μ)) (pc' := 67) kX12_move_65 rfl rfl rf_a0 ?_
  refine ok_if_lt bX12_move_67 (fun g67 => absurd g67 (h4)) (fun _ => ?_)
  refine ok_step (ps := []) (L' := [some (.ref 94), some (.int (nI 0)), some (.int (nI i)), some (.int (nI 3)), some (.int (nI j)), some (.int (nI n)), none]) (st' := [.int (nI i)]) (σ' := (rf_r α 92 (va_cpy (α 89) (α 92) i j n), μ)) (pc' := 71) kX12_move_70 rfl rfl rf_a0 ?_
  refine ok_if_lt bX12_move_71 (fun g71 => absurd g71 (h5.1)) (fun _ => ?_)
  refine ok_step (ps := []) (L' := [some (.ref 94), some (.int (nI 0)), some (.int (nI i)), some (.int (nI 3)), some (.int (nI j)), some (.int (nI n)), none]) (st' := [.int (nI j)]) (σ' := (rf_r α 92 (va_cpy (α 89) (α 92) i j n), μ)) (pc' := 76) kX12_move_74 rfl rfl rf_a0 ?_
  refine ok_if_lt bX12_move_76 (fun g76 => absurd g76 (h6.1)) (fun _ => ?_)
  refine ok_step (ps := [rf_in (nI 0) 4]) (L' := [some (.ref 94), some (.int (nI 0)), some (.int (nI i)), some (.int (nI 3)), some (.int (nI j)), some (.int (nI n)), none]) (st' := [.int ((μ 105 ((nI 0).toNatClampNeg)) - (nI i)), .int (nI n)]) (σ' := (rf_r α 92 (va_cpy (α 89) (α 92) i j n), μ)) (pc' := 89) kX12_move_79 rfl rfl (rf_a1 (rf_in_n (a := 0) rfl (by omega)) rf_a0) ?_
  try rw [(show (nI 0).toNatClampNeg = 0 from rf_cl_n rfl (by omega))]
  refine ok_icmp_gt bX12_move_89 (fun g89 => absurd g89 (h5.2)) (fun _ => ?_)
  refine ok_step (ps := [rf_in (nI 3) 4]) (L' := [some (.ref 94), some (.int (nI 0)), some (.int (nI i)), some (.int (nI 3)), some (.int (nI j)), some (.int (nI n)), none]) (st' := [.int ((μ 105 ((nI 3).toNatClampNeg)) - (nI j)), .int (nI n)]) (σ' := (rf_r α 92 (va_cpy (α 89) (α 92) i j n), μ)) (pc' := 103) kX12_move_92 rfl rfl (rf_a1 (rf_in_n (a := 3) rfl (by omega)) rf_a0) ?_
  try rw [(show (nI 3).toNatClampNeg = 3 from rf_cl_n rfl (by omega))]
  refine ok_icmp_le bX12_move_103 (fun _ => ?_) (fun g103 => absurd (Int32.not_lt.mp h6.2) g103)
  refine ok_step (ps := []) (L' := [some (.ref 94), some (.int (nI 0)), some (.int (nI i)), some (.int (nI 3)), some (.int (nI j)), some (.int (nI n)), some (.int (nI 0))]) (st' := []) (σ' := (rf_r α 92 (va_cpy (α 89) (α 92) i j n), μ)) (pc' := 115) kX12_move_112 rfl rfl rf_a0 ?_
  have hm := m_mv1 (Ln := Ln) (xs := xs) (γ := rf_r α 92 (va_cpy (α 89) (α 92) i j n)) (μ := μ) (s := 0) (o := 3) (i := i) (j := j) (n := n) (by decide) (by decide) (by omega) (by omega) n 0 (by omega)
  rw [rfr_c0] at hm
  refine hm.mono (fun r t hq => ?_)
  obtain ⟨rfl, rfl⟩ := hq
  exact ⟨rfl, _, rfl, hJ.move (by decide) (by decide) (by omega) (by omega) rfl rfl⟩
theorem op_move_10 {i0 j0 n0 : Int32} (hJ : J α μ) (hg : mgood μ 1 0 i0 j0 n0) : Op (rf_T Ln xs) MX11_move MX12_move [some (.ref 0), some (.int (nI 1)), some (.int i0), some (.int (nI 0)), some (.int j0), some (.int n0)] [some (.ref 94), some (.int (nI 1)), some (.int i0), some (.int (nI 0)), some (.int j0), some (.int n0), none] α μ := by
  have hR := hJ.1.1.1
  have hI := hJ.2
  obtain ⟨h1, h2, h3, h4, h5, h6⟩ := hg
  obtain ⟨m1, hm1, e1⟩ := (hJ.1.2.2.2.2.2 1 (by decide)).2.2.1
  obtain ⟨m2, hm2, e2⟩ := (hJ.1.2.2.2.2.2 0 (by decide)).2.2.1
  have h5 := (mv_ok e1 hm1 h4).mp h5
  have h6 := (mv_ok e2 hm2 h4).mp h6
  obtain ⟨n, hn, rfl⟩ := ge_0 (Int32.not_lt.mp h4)
  obtain ⟨i, hi, rfl⟩ := ge_0 (Int32.not_lt.mp h5.1)
  obtain ⟨j, hj, rfl⟩ := ge_0 (Int32.not_lt.mp h6.1)
  have a1 := mv_nat e1 hm1 hi hn h5.2
  have a2 := mv_nat e2 hm2 hj hn h6.2
  refine ok_step (ps := []) (L' := [some (.ref 0), some (.int (nI 1)), some (.int (nI i)), some (.int (nI 0)), some (.int (nI j)), some (.int (nI n))]) (st' := [.int (nI 1), .ref 0]) (σ' := (α, μ)) (pc' := 2) kX11_move_0 rfl rfl rf_a0 ?_
  refine ok_V (As := [.int (nI 1)]) (b := 0) (st := []) mkX11_isSheet qX11_move_2 rfl (rc_0) rfl rfl rfl rfl (Nat.le_of_ble_eq_true rfl) (c_isSheet) ?_
  rw [show bI (wi (nI 1) (nI 0) (nI 3)) = nI 1 from rfl]
  refine ok_if_eq bX11_move_5 (fun h5 => absurd h5 ((by decide))) (fun _ => ?_)
  refine ok_step (ps := []) (L' := [some (.ref 0), some (.int (nI 1)), some (.int (nI i)), some (.int (nI 0)), some (.int (nI j)), some (.int (nI n))]) (st' := [.int (nI 0), .ref 0]) (σ' := (α, μ)) (pc' := 10) kX11_move_8 rfl rfl rf_a0 ?_
  refine ok_V (As := [.int (nI 0)]) (b := 0) (st := []) mkX11_isSheet qX11_move_10 rfl (rc_0) rfl rfl rfl rfl (Nat.le_of_ble_eq_true rfl) (c_isSheet) ?_
  rw [show bI (wi (nI 0) (nI 0) (nI 3)) = nI 1 from rfl]
  refine ok_if_ne bX11_move_13 (fun _ => ?_) (fun h13 => absurd h13 ((by decide)))
  refine ok_step (ps := [rf_in (nI 1) 4]) (L' := [some (.ref 0), some (.int (nI 1)), some (.int (nI i)), some (.int (nI 0)), some (.int (nI j)), some (.int (nI n))]) (st' := [.int (α 86 ((nI 1).toNatClampNeg))]) (σ' := (α, μ)) (pc' := 32) kX11_move_23 rfl rfl (rf_a1 (rf_in_n (a := 1) rfl (by omega)) rf_a0) ?_
  try rw [(show (nI 1).toNatClampNeg = 1 from rf_cl_n rfl (by omega))]
  try rw [(show α 86 1 = μ 104 1 from (hJ.1.2.2.2.2.2 _ (by omega)).1)]
  refine ok_if_eq bX11_move_32 (fun h32 => absurd h32 (h1)) (fun _ => ?_)
  refine ok_step (ps := [rf_in (nI 0) 4]) (L' := [some (.ref 0), some (.int (nI 1)), some (.int (nI i)), some (.int (nI 0)), some (.int (nI j)), some (.int (nI n))]) (st' := [.int (α 86 ((nI 0).toNatClampNeg))]) (σ' := (α, μ)) (pc' := 44) kX11_move_35 rfl rfl (rf_a1 (rf_in_n (a := 0) rfl (by omega)) rf_a0) ?_
  try rw [(show (nI 0).toNatClampNeg = 0 from rf_cl_n rfl (by omega))]
  try rw [(show α 86 0 = μ 104 0 from (hJ.1.2.2.2.2.2 _ (by omega)).1)]
  refine ok_if_ne bX11_move_44 (fun _ => ?_) (fun h44 => absurd h44 (h2))
  refine ok_step (ps := [rf_in (nI 1) 4, rf_in (nI 0) 4]) (L' := [some (.ref 0), some (.int (nI 1)), some (.int (nI i)), some (.int (nI 0)), some (.int (nI j)), some (.int (nI n))]) (st' := [.int (α 86 ((nI 0).toNatClampNeg)), .int (α 86 ((nI 1).toNatClampNeg))]) (σ' := (α, μ)) (pc' := 72) kX11_move_54 rfl rfl (rf_a1 (rf_in_n (a := 1) rfl (by omega)) (rf_a1 (rf_in_n (a := 0) rfl (by omega)) rf_a0)) ?_
  try rw [(show (nI 1).toNatClampNeg = 1 from rf_cl_n rfl (by omega))]
  try rw [(show α 86 1 = μ 104 1 from (hJ.1.2.2.2.2.2 _ (by omega)).1)]
  try rw [(show (nI 0).toNatClampNeg = 0 from rf_cl_n rfl (by omega))]
  try rw [(show α 86 0 = μ 104 0 from (hJ.1.2.2.2.2.2 _ (by omega)).1)]
  refine ok_icmp_eq bX11_move_72 (fun _ => ?_) (fun h72 => absurd (h3) h72)
  refine ok_step (ps := []) (L' := [some (.ref 0), some (.int (nI 1)), some (.int (nI i)), some (.int (nI 0)), some (.int (nI j)), some (.int (nI n))]) (st' := [.int (nI n)]) (σ' := (α, μ)) (pc' := 84) kX11_move_82 rfl rfl rf_a0 ?_
  refine ok_if_lt bX11_move_84 (fun h84 => absurd h84 (h4)) (fun _ => ?_)
  refine ok_step (ps := [rf_in (nI 1) 4]) (L' := [some (.ref 0), some (.int (nI 1)), some (.int (nI i)), some (.int (nI 0)), some (.int (nI j)), some (.int (nI n))]) (st' := [.int ((α 87 ((nI 1).toNatClampNeg)) - (nI n)), .int (nI 0), .int (nI i)]) (σ' := (α, μ)) (pc' := 101) kX11_move_87 rfl rfl (rf_a1 (rf_in_n (a := 1) rfl (by omega)) rf_a0) ?_
  try rw [(show (nI 1).toNatClampNeg = 1 from rf_cl_n rfl (by omega))]
  try rw [(show α 87 1 = μ 105 1 from (hJ.1.2.2.2.2.2 _ (by omega)).2.1)]
  refine ok_S (As := [.int (nI i), .int (nI 0), .int ((μ 105 1) - (nI n))]) (st := []) mkX11_within qX11_move_101 rfl rfl rfl rfl rfl (Nat.le_of_ble_eq_true rfl) (c_within) ?_
  refine ok_if_eq bX11_move_104 (fun h104 => absurd h104 (bI_n0.mpr ((mv_ok e1 hm1 h4).mpr h5))) (fun _ => ?_)
  refine ok_step (ps := [rf_in (nI 0) 4]) (L' := [some (.ref 0), some (.int (nI 1)), some (.int (nI i)), some (.int (nI 0)), some (.int (nI j)), some (.int (nI n))]) (st' := [.int ((α 87 ((nI 0).toNatClampNeg)) - (nI n)), .int (nI 0), .int (nI j)]) (σ' := (α, μ)) (pc' := 122) kX11_move_107 rfl rfl (rf_a1 (rf_in_n (a := 0) rfl (by omega)) rf_a0) ?_
  try rw [(show (nI 0).toNatClampNeg = 0 from rf_cl_n rfl (by omega))]
  try rw [(show α 87 0 = μ 105 0 from (hJ.1.2.2.2.2.2 _ (by omega)).2.1)]
  refine ok_S (As := [.int (nI j), .int (nI 0), .int ((μ 105 0) - (nI n))]) (st := []) mkX11_within qX11_move_122 rfl rfl rfl rfl rfl (Nat.le_of_ble_eq_true rfl) (c_within) ?_
  refine ok_if_ne bX11_move_125 (fun _ => ?_) (fun h125 => absurd h125 (bI_n0.mpr ((mv_ok e2 hm2 h4).mpr h6)))
  refine ok_step (ps := [rf_in (nI 1) 4, rf_in (nI 0) 4, rf_cp (nI i) (nI j) (nI n) 40 40]) (L' := [some (.ref 0), some (.int (nI 1)), some (.int (nI i)), some (.int (nI 0)), some (.int (nI j)), some (.int (nI n))]) (st' := [.int (nI n)]) (σ' := (rf_r α 89 (va_cpy (α 90) (α 89) ((nI i).toNatClampNeg) ((nI j).toNatClampNeg) ((nI n).toNatClampNeg)), μ)) (pc' := 163) kX11_move_135 rfl rfl (rf_a1 (rf_in_n (a := 1) rfl (by omega)) (rf_a1 (rf_in_n (a := 0) rfl (by omega)) (rf_a1 (by simp only [rf_cp, Bool.and_eq_true, decide_eq_true_eq]; refine ⟨⟨⟨⟨nI_pos' (by omega), nI_pos' (by omega)⟩, nI_pos' (by omega)⟩, ?_⟩, ?_⟩ <;> rw [nI_clamp (by omega), nI_clamp (by omega)] <;> omega) rf_a0))) ?_
  try rw [(show (nI i).toNatClampNeg = i from rf_cl_n rfl (by omega))]
  try rw [(show (nI j).toNatClampNeg = j from rf_cl_n rfl (by omega))]
  try rw [(show (nI n).toNatClampNeg = n from rf_cl_n rfl (by omega))]
  refine ok_reti eX11_move_163 rfl ?_
  refine ⟨rfl, _, rfl, ?_⟩
  refine ok_step (ps := []) (L' := [some (.ref 94), some (.int (nI 1)), some (.int (nI i)), some (.int (nI 0)), some (.int (nI j)), some (.int (nI n)), none]) (st' := [.int (nI 1)]) (σ' := (rf_r α 89 (va_cpy (α 90) (α 89) i j n), μ)) (pc' := 1) kX12_move_0 rfl rfl rf_a0 ?_
  refine ok_S (As := [.int (nI 1)]) (st := []) mkX12_isSheet qX12_move_1 rfl rfl rfl rfl rfl (Nat.le_of_ble_eq_true rfl) (m_isSheet) ?_
  rw [show bI (wi (nI 1) (nI 0) (nI 3)) = nI 1 from rfl]
  refine ok_if_eq bX12_move_4 (fun g4 => absurd g4 ((by decide))) (fun _ => ?_)
  refine ok_step (ps := []) (L' := [some (.ref 94), some (.int (nI 1)), some (.int (nI i)), some (.int (nI 0)), some (.int (nI j)), some (.int (nI n)), none]) (st' := [.int (nI 0)]) (σ' := (rf_r α 89 (va_cpy (α 90) (α 89) i j n), μ)) (pc' := 8) kX12_move_7 rfl rfl rf_a0 ?_
  refine ok_S (As := [.int (nI 0)]) (st := []) mkX12_isSheet qX12_move_8 rfl rfl rfl rfl rfl (Nat.le_of_ble_eq_true rfl) (m_isSheet) ?_
  rw [show bI (wi (nI 0) (nI 0) (nI 3)) = nI 1 from rfl]
  refine ok_if_ne bX12_move_11 (fun _ => ?_) (fun g11 => absurd g11 ((by decide)))
  refine ok_step (ps := [rf_in (nI 1) 4]) (L' := [some (.ref 94), some (.int (nI 1)), some (.int (nI i)), some (.int (nI 0)), some (.int (nI j)), some (.int (nI n)), none]) (st' := [.int (μ 104 ((nI 1).toNatClampNeg))]) (σ' := (rf_r α 89 (va_cpy (α 90) (α 89) i j n), μ)) (pc' := 26) kX12_move_20 rfl rfl (rf_a1 (rf_in_n (a := 1) rfl (by omega)) rf_a0) ?_
  try rw [(show (nI 1).toNatClampNeg = 1 from rf_cl_n rfl (by omega))]
  refine ok_if_eq bX12_move_26 (fun g26 => absurd g26 (h1)) (fun _ => ?_)
  refine ok_step (ps := [rf_in (nI 0) 4]) (L' := [some (.ref 94), some (.int (nI 1)), some (.int (nI i)), some (.int (nI 0)), some (.int (nI j)), some (.int (nI n)), none]) (st' := [.int (μ 104 ((nI 0).toNatClampNeg))]) (σ' := (rf_r α 89 (va_cpy (α 90) (α 89) i j n), μ)) (pc' := 35) kX12_move_29 rfl rfl (rf_a1 (rf_in_n (a := 0) rfl (by omega)) rf_a0) ?_
  try rw [(show (nI 0).toNatClampNeg = 0 from rf_cl_n rfl (by omega))]
  refine ok_if_ne bX12_move_35 (fun _ => ?_) (fun g35 => absurd g35 (h2))
  refine ok_step (ps := [rf_in (nI 1) 4, rf_in (nI 0) 4]) (L' := [some (.ref 94), some (.int (nI 1)), some (.int (nI i)), some (.int (nI 0)), some (.int (nI j)), some (.int (nI n)), none]) (st' := [.int (μ 104 ((nI 0).toNatClampNeg)), .int (μ 104 ((nI 1).toNatClampNeg))]) (σ' := (rf_r α 89 (va_cpy (α 90) (α 89) i j n), μ)) (pc' := 56) kX12_move_44 rfl rfl (rf_a1 (rf_in_n (a := 1) rfl (by omega)) (rf_a1 (rf_in_n (a := 0) rfl (by omega)) rf_a0)) ?_
  try rw [(show (nI 1).toNatClampNeg = 1 from rf_cl_n rfl (by omega))]
  try rw [(show (nI 0).toNatClampNeg = 0 from rf_cl_n rfl (by omega))]
  refine ok_icmp_eq bX12_move_56 (fun _ => ?_) (fun g56 => absurd (h3) g56)
  refine ok_step (ps := []) (L' := [some (.ref 94), some (.int (nI 1)), some (.int (nI i)), some (.int (nI 0)), some (.int (nI j)), some (.int (nI n)), none]) (st' := [.int (nI n)]) (σ' := (rf_r α 89 (va_cpy (α 90) (α 89) i j n), μ)) (pc' := 67) kX12_move_65 rfl rfl rf_a0 ?_
  refine ok_if_lt bX12_move_67 (fun g67 => absurd g67 (h4)) (fun _ => ?_)
  refine ok_step (ps := []) (L' := [some (.ref 94), some (.int (nI 1)), some (.int (nI i)), some (.int (nI 0)), some (.int (nI j)), some (.int (nI n)), none]) (st' := [.int (nI i)]) (σ' := (rf_r α 89 (va_cpy (α 90) (α 89) i j n), μ)) (pc' := 71) kX12_move_70 rfl rfl rf_a0 ?_
  refine ok_if_lt bX12_move_71 (fun g71 => absurd g71 (h5.1)) (fun _ => ?_)
  refine ok_step (ps := []) (L' := [some (.ref 94), some (.int (nI 1)), some (.int (nI i)), some (.int (nI 0)), some (.int (nI j)), some (.int (nI n)), none]) (st' := [.int (nI j)]) (σ' := (rf_r α 89 (va_cpy (α 90) (α 89) i j n), μ)) (pc' := 76) kX12_move_74 rfl rfl rf_a0 ?_
  refine ok_if_lt bX12_move_76 (fun g76 => absurd g76 (h6.1)) (fun _ => ?_)
  refine ok_step (ps := [rf_in (nI 1) 4]) (L' := [some (.ref 94), some (.int (nI 1)), some (.int (nI i)), some (.int (nI 0)), some (.int (nI j)), some (.int (nI n)), none]) (st' := [.int ((μ 105 ((nI 1).toNatClampNeg)) - (nI i)), .int (nI n)]) (σ' := (rf_r α 89 (va_cpy (α 90) (α 89) i j n), μ)) (pc' := 89) kX12_move_79 rfl rfl (rf_a1 (rf_in_n (a := 1) rfl (by omega)) rf_a0) ?_
  try rw [(show (nI 1).toNatClampNeg = 1 from rf_cl_n rfl (by omega))]
  refine ok_icmp_gt bX12_move_89 (fun g89 => absurd g89 (h5.2)) (fun _ => ?_)
  refine ok_step (ps := [rf_in (nI 0) 4]) (L' := [some (.ref 94), some (.int (nI 1)), some (.int (nI i)), some (.int (nI 0)), some (.int (nI j)), some (.int (nI n)), none]) (st' := [.int ((μ 105 ((nI 0).toNatClampNeg)) - (nI j)), .int (nI n)]) (σ' := (rf_r α 89 (va_cpy (α 90) (α 89) i j n), μ)) (pc' := 103) kX12_move_92 rfl rfl (rf_a1 (rf_in_n (a := 0) rfl (by omega)) rf_a0) ?_
  try rw [(show (nI 0).toNatClampNeg = 0 from rf_cl_n rfl (by omega))]
  refine ok_icmp_le bX12_move_103 (fun _ => ?_) (fun g103 => absurd (Int32.not_lt.mp h6.2) g103)
  refine ok_step (ps := []) (L' := [some (.ref 94), some (.int (nI 1)), some (.int (nI i)), some (.int (nI 0)), some (.int (nI j)), some (.int (nI n)), some (.int (nI 0))]) (st' := []) (σ' := (rf_r α 89 (va_cpy (α 90) (α 89) i j n), μ)) (pc' := 115) kX12_move_112 rfl rfl rf_a0 ?_
  have hm := m_mv1 (Ln := Ln) (xs := xs) (γ := rf_r α 89 (va_cpy (α 90) (α 89) i j n)) (μ := μ) (s := 1) (o := 0) (i := i) (j := j) (n := n) (by decide) (by decide) (by omega) (by omega) n 0 (by omega)
  rw [rfr_c0] at hm
  refine hm.mono (fun r t hq => ?_)
  obtain ⟨rfl, rfl⟩ := hq
  exact ⟨rfl, _, rfl, hJ.move (by decide) (by decide) (by omega) (by omega) rfl rfl⟩
theorem op_move_11 {i0 j0 n0 : Int32} (hJ : J α μ) (hg : mgood μ 1 1 i0 j0 n0) : Op (rf_T Ln xs) MX11_move MX12_move [some (.ref 0), some (.int (nI 1)), some (.int i0), some (.int (nI 1)), some (.int j0), some (.int n0)] [some (.ref 94), some (.int (nI 1)), some (.int i0), some (.int (nI 1)), some (.int j0), some (.int n0), none] α μ := by
  have hR := hJ.1.1.1
  have hI := hJ.2
  obtain ⟨h1, h2, h3, h4, h5, h6⟩ := hg
  obtain ⟨m1, hm1, e1⟩ := (hJ.1.2.2.2.2.2 1 (by decide)).2.2.1
  obtain ⟨m2, hm2, e2⟩ := (hJ.1.2.2.2.2.2 1 (by decide)).2.2.1
  have h5 := (mv_ok e1 hm1 h4).mp h5
  have h6 := (mv_ok e2 hm2 h4).mp h6
  obtain ⟨n, hn, rfl⟩ := ge_0 (Int32.not_lt.mp h4)
  obtain ⟨i, hi, rfl⟩ := ge_0 (Int32.not_lt.mp h5.1)
  obtain ⟨j, hj, rfl⟩ := ge_0 (Int32.not_lt.mp h6.1)
  have a1 := mv_nat e1 hm1 hi hn h5.2
  have a2 := mv_nat e2 hm2 hj hn h6.2
  refine ok_step (ps := []) (L' := [some (.ref 0), some (.int (nI 1)), some (.int (nI i)), some (.int (nI 1)), some (.int (nI j)), some (.int (nI n))]) (st' := [.int (nI 1), .ref 0]) (σ' := (α, μ)) (pc' := 2) kX11_move_0 rfl rfl rf_a0 ?_
  refine ok_V (As := [.int (nI 1)]) (b := 0) (st := []) mkX11_isSheet qX11_move_2 rfl (rc_0) rfl rfl rfl rfl (Nat.le_of_ble_eq_true rfl) (c_isSheet) ?_
  rw [show bI (wi (nI 1) (nI 0) (nI 3)) = nI 1 from rfl]
  refine ok_if_eq bX11_move_5 (fun h5 => absurd h5 ((by decide))) (fun _ => ?_)
  refine ok_step (ps := []) (L' := [some (.ref 0), some (.int (nI 1)), some (.int (nI i)), some (.int (nI 1)), some (.int (nI j)), some (.int (nI n))]) (st' := [.int (nI 1), .ref 0]) (σ' := (α, μ)) (pc' := 10) kX11_move_8 rfl rfl rf_a0 ?_
  refine ok_V (As := [.int (nI 1)]) (b := 0) (st := []) mkX11_isSheet qX11_move_10 rfl (rc_0) rfl rfl rfl rfl (Nat.le_of_ble_eq_true rfl) (c_isSheet) ?_
  rw [show bI (wi (nI 1) (nI 0) (nI 3)) = nI 1 from rfl]
  refine ok_if_ne bX11_move_13 (fun _ => ?_) (fun h13 => absurd h13 ((by decide)))
  refine ok_step (ps := [rf_in (nI 1) 4]) (L' := [some (.ref 0), some (.int (nI 1)), some (.int (nI i)), some (.int (nI 1)), some (.int (nI j)), some (.int (nI n))]) (st' := [.int (α 86 ((nI 1).toNatClampNeg))]) (σ' := (α, μ)) (pc' := 32) kX11_move_23 rfl rfl (rf_a1 (rf_in_n (a := 1) rfl (by omega)) rf_a0) ?_
  try rw [(show (nI 1).toNatClampNeg = 1 from rf_cl_n rfl (by omega))]
  try rw [(show α 86 1 = μ 104 1 from (hJ.1.2.2.2.2.2 _ (by omega)).1)]
  refine ok_if_eq bX11_move_32 (fun h32 => absurd h32 (h2)) (fun _ => ?_)
  refine ok_step (ps := [rf_in (nI 1) 4]) (L' := [some (.ref 0), some (.int (nI 1)), some (.int (nI i)), some (.int (nI 1)), some (.int (nI j)), some (.int (nI n))]) (st' := [.int (α 86 ((nI 1).toNatClampNeg))]) (σ' := (α, μ)) (pc' := 44) kX11_move_35 rfl rfl (rf_a1 (rf_in_n (a := 1) rfl (by omega)) rf_a0) ?_
  try rw [(show (nI 1).toNatClampNeg = 1 from rf_cl_n rfl (by omega))]
  try rw [(show α 86 1 = μ 104 1 from (hJ.1.2.2.2.2.2 _ (by omega)).1)]
  refine ok_if_ne bX11_move_44 (fun _ => ?_) (fun h44 => absurd h44 (h2))
  refine ok_step (ps := [rf_in (nI 1) 4, rf_in (nI 1) 4]) (L' := [some (.ref 0), some (.int (nI 1)), some (.int (nI i)), some (.int (nI 1)), some (.int (nI j)), some (.int (nI n))]) (st' := [.int (α 86 ((nI 1).toNatClampNeg)), .int (α 86 ((nI 1).toNatClampNeg))]) (σ' := (α, μ)) (pc' := 72) kX11_move_54 rfl rfl (rf_a1 (rf_in_n (a := 1) rfl (by omega)) (rf_a1 (rf_in_n (a := 1) rfl (by omega)) rf_a0)) ?_
  try rw [(show (nI 1).toNatClampNeg = 1 from rf_cl_n rfl (by omega))]
  try rw [(show α 86 1 = μ 104 1 from (hJ.1.2.2.2.2.2 _ (by omega)).1)]
  try rw [(show (nI 1).toNatClampNeg = 1 from rf_cl_n rfl (by omega))]
  try rw [(show α 86 1 = μ 104 1 from (hJ.1.2.2.2.2.2 _ (by omega)).1)]
  refine ok_icmp_eq bX11_move_72 (fun _ => ?_) (fun h72 => absurd (h3) h72)
  refine ok_step (ps := []) (L' := [some (.ref 0), some (.int (nI 1)), some (.int (nI i)), some (.int (nI 1)), some (.int (nI j)), some (.int (nI n))]) (st' := [.int (nI n)]) (σ' := (α, μ)) (pc' := 84) kX11_move_82 rfl rfl rf_a0 ?_
  refine ok_if_lt bX11_move_84 (fun h84 => absurd h84 (h4)) (fun _ => ?_)
  refine ok_step (ps := [rf_in (nI 1) 4]) (L' := [some (.ref 0), some (.int (nI 1)), some (.int (nI i)), some (.int (nI 1)), some (.int (nI j)), some (.int (nI n))]) (st' := [.int ((α 87 ((nI 1).toNatClampNeg)) - (nI n)), .int (nI 0), .int (nI i)]) (σ' := (α, μ)) (pc' := 101) kX11_move_87 rfl rfl (rf_a1 (rf_in_n (a := 1) rfl (by omega)) rf_a0) ?_
  try rw [(show (nI 1).toNatClampNeg = 1 from rf_cl_n rfl (by omega))]
  try rw [(show α 87 1 = μ 105 1 from (hJ.1.2.2.2.2.2 _ (by omega)).2.1)]
  refine ok_S (As := [.int (nI i), .int (nI 0), .int ((μ 105 1) - (nI n))]) (st := []) mkX11_within qX11_move_101 rfl rfl rfl rfl rfl (Nat.le_of_ble_eq_true rfl) (c_within) ?_
  refine ok_if_eq bX11_move_104 (fun h104 => absurd h104 (bI_n0.mpr ((mv_ok e1 hm1 h4).mpr h5))) (fun _ => ?_)
  refine ok_step (ps := [rf_in (nI 1) 4]) (L' := [some (.ref 0), some (.int (nI 1)), some (.int (nI i)), some (.int (nI 1)), some (.int (nI j)), some (.int (nI n))]) (st' := [.int ((α 87 ((nI 1).toNatClampNeg)) - (nI n)), .int (nI 0), .int (nI j)]) (σ' := (α, μ)) (pc' := 122) kX11_move_107 rfl rfl (rf_a1 (rf_in_n (a := 1) rfl (by omega)) rf_a0) ?_
  try rw [(show (nI 1).toNatClampNeg = 1 from rf_cl_n rfl (by omega))]
  try rw [(show α 87 1 = μ 105 1 from (hJ.1.2.2.2.2.2 _ (by omega)).2.1)]
  refine ok_S (As := [.int (nI j), .int (nI 0), .int ((μ 105 1) - (nI n))]) (st := []) mkX11_within qX11_move_122 rfl rfl rfl rfl rfl (Nat.le_of_ble_eq_true rfl) (c_within) ?_
  refine ok_if_ne bX11_move_125 (fun _ => ?_) (fun h125 => absurd h125 (bI_n0.mpr ((mv_ok e2 hm2 h4).mpr h6)))
  refine ok_step (ps := [rf_in (nI 1) 4, rf_in (nI 1) 4, rf_cp (nI i) (nI j) (nI n) 40 40]) (L' := [some (.ref 0), some (.int (nI 1)), some (.int (nI i)), some (.int (nI 1)), some (.int (nI j)), some (.int (nI n))]) (st' := [.int (nI n)]) (σ' := (rf_r α 90 (va_cpy (α 90) (α 90) ((nI i).toNatClampNeg) ((nI j).toNatClampNeg) ((nI n).toNatClampNeg)), μ)) (pc' := 163) kX11_move_135 rfl rfl (rf_a1 (rf_in_n (a := 1) rfl (by omega)) (rf_a1 (rf_in_n (a := 1) rfl (by omega)) (rf_a1 (by simp only [rf_cp, Bool.and_eq_true, decide_eq_true_eq]; refine ⟨⟨⟨⟨nI_pos' (by omega), nI_pos' (by omega)⟩, nI_pos' (by omega)⟩, ?_⟩, ?_⟩ <;> rw [nI_clamp (by omega), nI_clamp (by omega)] <;> omega) rf_a0))) ?_
  try rw [(show (nI i).toNatClampNeg = i from rf_cl_n rfl (by omega))]
  try rw [(show (nI j).toNatClampNeg = j from rf_cl_n rfl (by omega))]
  try rw [(show (nI n).toNatClampNeg = n from rf_cl_n rfl (by omega))]
  refine ok_reti eX11_move_163 rfl ?_
  refine ⟨rfl, _, rfl, ?_⟩
  refine ok_step (ps := []) (L' := [some (.ref 94), some (.int (nI 1)), some (.int (nI i)), some (.int (nI 1)), some (.int (nI j)), some (.int (nI n)), none]) (st' := [.int (nI 1)]) (σ' := (rf_r α 90 (va_cpy (α 90) (α 90) i j n), μ)) (pc' := 1) kX12_move_0 rfl rfl rf_a0 ?_
  refine ok_S (As := [.int (nI 1)]) (st := []) mkX12_isSheet qX12_move_1 rfl rfl rfl rfl rfl (Nat.le_of_ble_eq_true rfl) (m_isSheet) ?_
  rw [show bI (wi (nI 1) (nI 0) (nI 3)) = nI 1 from rfl]
  refine ok_if_eq bX12_move_4 (fun g4 => absurd g4 ((by decide))) (fun _ => ?_)
  refine ok_step (ps := []) (L' := [some (.ref 94), some (.int (nI 1)), some (.int (nI i)), some (.int (nI 1)), some (.int (nI j)), some (.int (nI n)), none]) (st' := [.int (nI 1)]) (σ' := (rf_r α 90 (va_cpy (α 90) (α 90) i j n), μ)) (pc' := 8) kX12_move_7 rfl rfl rf_a0 ?_
  refine ok_S (As := [.int (nI 1)]) (st := []) mkX12_isSheet qX12_move_8 rfl rfl rfl rfl rfl (Nat.le_of_ble_eq_true rfl) (m_isSheet) ?_
  rw [show bI (wi (nI 1) (nI 0) (nI 3)) = nI 1 from rfl]
  refine ok_if_ne bX12_move_11 (fun _ => ?_) (fun g11 => absurd g11 ((by decide)))
  refine ok_step (ps := [rf_in (nI 1) 4]) (L' := [some (.ref 94), some (.int (nI 1)), some (.int (nI i)), some (.int (nI 1)), some (.int (nI j)), some (.int (nI n)), none]) (st' := [.int (μ 104 ((nI 1).toNatClampNeg))]) (σ' := (rf_r α 90 (va_cpy (α 90) (α 90) i j n), μ)) (pc' := 26) kX12_move_20 rfl rfl (rf_a1 (rf_in_n (a := 1) rfl (by omega)) rf_a0) ?_
  try rw [(show (nI 1).toNatClampNeg = 1 from rf_cl_n rfl (by omega))]
  refine ok_if_eq bX12_move_26 (fun g26 => absurd g26 (h2)) (fun _ => ?_)
  refine ok_step (ps := [rf_in (nI 1) 4]) (L' := [some (.ref 94), some (.int (nI 1)), some (.int (nI i)), some (.int (nI 1)), some (.int (nI j)), some (.int (nI n)), none]) (st' := [.int (μ 104 ((nI 1).toNatClampNeg))]) (σ' := (rf_r α 90 (va_cpy (α 90) (α 90) i j n), μ)) (pc' := 35) kX12_move_29 rfl rfl (rf_a1 (rf_in_n (a := 1) rfl (by omega)) rf_a0) ?_
  try rw [(show (nI 1).toNatClampNeg = 1 from rf_cl_n rfl (by omega))]
  refine ok_if_ne bX12_move_35 (fun _ => ?_) (fun g35 => absurd g35 (h2))
  refine ok_step (ps := [rf_in (nI 1) 4, rf_in (nI 1) 4]) (L' := [some (.ref 94), some (.int (nI 1)), some (.int (nI i)), some (.int (nI 1)), some (.int (nI j)), some (.int (nI n)), none]) (st' := [.int (μ 104 ((nI 1).toNatClampNeg)), .int (μ 104 ((nI 1).toNatClampNeg))]) (σ' := (rf_r α 90 (va_cpy (α 90) (α 90) i j n), μ)) (pc' := 56) kX12_move_44 rfl rfl (rf_a1 (rf_in_n (a := 1) rfl (by omega)) (rf_a1 (rf_in_n (a := 1) rfl (by omega)) rf_a0)) ?_
  try rw [(show (nI 1).toNatClampNeg = 1 from rf_cl_n rfl (by omega))]
  refine ok_icmp_eq bX12_move_56 (fun _ => ?_) (fun g56 => absurd (h3) g56)
  refine ok_step (ps := []) (L' := [some (.ref 94), some (.int (nI 1)), some (.int (nI i)), some (.int (nI 1)), some (.int (nI j)), some (.int (nI n)), none]) (st' := [.int (nI n)]) (σ' := (rf_r α 90 (va_cpy (α 90) (α 90) i j n), μ)) (pc' := 67) kX12_move_65 rfl rfl rf_a0 ?_
  refine ok_if_lt bX12_move_67 (fun g67 => absurd g67 (h4)) (fun _ => ?_)
  refine ok_step (ps := []) (L' := [some (.ref 94), some (.int (nI 1)), some (.int (nI i)), some (.int (nI 1)), some (.int (nI j)), some (.int (nI n)), none]) (st' := [.int (nI i)]) (σ' := (rf_r α 90 (va_cpy (α 90) (α 90) i j n), μ)) (pc' := 71) kX12_move_70 rfl rfl rf_a0 ?_
  refine ok_if_lt bX12_move_71 (fun g71 => absurd g71 (h5.1)) (fun _ => ?_)
  refine ok_step (ps := []) (L' := [some (.ref 94), some (.int (nI 1)), some (.int (nI i)), some (.int (nI 1)), some (.int (nI j)), some (.int (nI n)), none]) (st' := [.int (nI j)]) (σ' := (rf_r α 90 (va_cpy (α 90) (α 90) i j n), μ)) (pc' := 76) kX12_move_74 rfl rfl rf_a0 ?_
  refine ok_if_lt bX12_move_76 (fun g76 => absurd g76 (h6.1)) (fun _ => ?_)
  refine ok_step (ps := [rf_in (nI 1) 4]) (L' := [some (.ref 94), some (.int (nI 1)), some (.int (nI i)), some (.int (nI 1)), some (.int (nI j)), some (.int (nI n)), none]) (st' := [.int ((μ 105 ((nI 1).toNatClampNeg)) - (nI i)), .int (nI n)]) (σ' := (rf_r α 90 (va_cpy (α 90) (α 90) i j n), μ)) (pc' := 89) kX12_move_79 rfl rfl (rf_a1 (rf_in_n (a := 1) rfl (by omega)) rf_a0) ?_
  try rw [(show (nI 1).toNatClampNeg = 1 from rf_cl_n rfl (by omega))]
  refine ok_icmp_gt bX12_move_89 (fun g89 => absurd g89 (h5.2)) (fun _ => ?_)
  refine ok_step (ps := [rf_in (nI 1) 4]) (L' := [some (.ref 94), some (.int (nI 1)), some (.int (nI i)), some (.int (nI 1)), some (.int (nI j)), some (.int (nI n)), none]) (st' := [.int ((μ 105 ((nI 1).toNatClampNeg)) - (nI j)), .int (nI n)]) (σ' := (rf_r α 90 (va_cpy (α 90) (α 90) i j n), μ)) (pc' := 103) kX12_move_92 rfl rfl (rf_a1 (rf_in_n (a := 1) rfl (by omega)) rf_a0) ?_
  try rw [(show (nI 1).toNatClampNeg = 1 from rf_cl_n rfl (by omega))]
  refine ok_icmp_le bX12_move_103 (fun _ => ?_) (fun g103 => absurd (Int32.not_lt.mp h6.2) g103)
  refine ok_step (ps := []) (L' := [some (.ref 94), some (.int (nI 1)), some (.int (nI i)), some (.int (nI 1)), some (.int (nI j)), some (.int (nI n)), some (.int (nI 0))]) (st' := []) (σ' := (rf_r α 90 (va_cpy (α 90) (α 90) i j n), μ)) (pc' := 115) kX12_move_112 rfl rfl rf_a0 ?_
  have hm := m_mv1 (Ln := Ln) (xs := xs) (γ := rf_r α 90 (va_cpy (α 90) (α 90) i j n)) (μ := μ) (s := 1) (o := 1) (i := i) (j := j) (n := n) (by decide) (by decide) (by omega) (by omega) n 0 (by omega)
  rw [rfr_c0] at hm
  refine hm.mono (fun r t hq => ?_)
  obtain ⟨rfl, rfl⟩ := hq
  exact ⟨rfl, _, rfl, hJ.move (by decide) (by decide) (by omega) (by omega) rfl rfl⟩
theorem op_move_12 {i0 j0 n0 : Int32} (hJ : J α μ) (hg : mgood μ 1 2 i0 j0 n0) : Op (rf_T Ln xs) MX11_move MX12_move [some (.ref 0), some (.int (nI 1)), some (.int i0), some (.int (nI 2)), some (.int j0), some (.int n0)] [some (.ref 94), some (.int (nI 1)), some (.int i0), some (.int (nI 2)), some (.int j0), some (.int n0), none] α μ := by
  have hR := hJ.1.1.1
  have hI := hJ.2
  obtain ⟨h1, h2, h3, h4, h5, h6⟩ := hg
  obtain ⟨m1, hm1, e1⟩ := (hJ.1.2.2.2.2.2 1 (by decide)).2.2.1
  obtain ⟨m2, hm2, e2⟩ := (hJ.1.2.2.2.2.2 2 (by decide)).2.2.1
  have h5 := (mv_ok e1 hm1 h4).mp h5
  have h6 := (mv_ok e2 hm2 h4).mp h6
  obtain ⟨n, hn, rfl⟩ := ge_0 (Int32.not_lt.mp h4)
  obtain ⟨i, hi, rfl⟩ := ge_0 (Int32.not_lt.mp h5.1)
  obtain ⟨j, hj, rfl⟩ := ge_0 (Int32.not_lt.mp h6.1)
  have a1 := mv_nat e1 hm1 hi hn h5.2
  have a2 := mv_nat e2 hm2 hj hn h6.2
  refine ok_step (ps := []) (L' := [some (.ref 0), some (.int (nI 1)), some (.int (nI i)), some (.int (nI 2)), some (.int (nI j)), some (.int (nI n))]) (st' := [.int (nI 1), .ref 0]) (σ' := (α, μ)) (pc' := 2) kX11_move_0 rfl rfl rf_a0 ?_
  refine ok_V (As := [.int (nI 1)]) (b := 0) (st := []) mkX11_isSheet qX11_move_2 rfl (rc_0) rfl rfl rfl rfl (Nat.le_of_ble_eq_true rfl) (c_isSheet) ?_
  rw [show bI (wi (nI 1) (nI 0) (nI 3)) = nI 1 from rfl]
  refine ok_if_eq bX11_move_5 (fun h5 => absurd h5 ((by decide))) (fun _ => ?_)
  refine ok_step (ps := []) (L' := [some (.ref 0), some (.int (nI 1)), some (.int (nI i)), some (.int (nI 2)), some (.int (nI j)), some (.int (nI n))]) (st' := [.int (nI 2), .ref 0]) (σ' := (α, μ)) (pc' := 10) kX11_move_8 rfl rfl rf_a0 ?_
  refine ok_V (As := [.int (nI 2)]) (b := 0) (st := []) mkX11_isSheet qX11_move_10 rfl (rc_0) rfl rfl rfl rfl (Nat.le_of_ble_eq_true rfl) (c_isSheet) ?_
  rw [show bI (wi (nI 2) (nI 0) (nI 3)) = nI 1 from rfl]
  refine ok_if_ne bX11_move_13 (fun _ => ?_) (fun h13 => absurd h13 ((by decide)))
  refine ok_step (ps := [rf_in (nI 1) 4]) (L' := [some (.ref 0), some (.int (nI 1)), some (.int (nI i)), some (.int (nI 2)), some (.int (nI j)), some (.int (nI n))]) (st' := [.int (α 86 ((nI 1).toNatClampNeg))]) (σ' := (α, μ)) (pc' := 32) kX11_move_23 rfl rfl (rf_a1 (rf_in_n (a := 1) rfl (by omega)) rf_a0) ?_
  try rw [(show (nI 1).toNatClampNeg = 1 from rf_cl_n rfl (by omega))]
  try rw [(show α 86 1 = μ 104 1 from (hJ.1.2.2.2.2.2 _ (by omega)).1)]
  refine ok_if_eq bX11_move_32 (fun h32 => absurd h32 (h1)) (fun _ => ?_)
  refine ok_step (ps := [rf_in (nI 2) 4]) (L' := [some (.ref 0), some (.int (nI 1)), some (.int (nI i)), some (.int (nI 2)), some (.int (nI j)), some (.int (nI n))]) (st' := [.int (α 86 ((nI 2).toNatClampNeg))]) (σ' := (α, μ)) (pc' := 44) kX11_move_35 rfl rfl (rf_a1 (rf_in_n (a := 2) rfl (by omega)) rf_a0) ?_
  try rw [(show (nI 2).toNatClampNeg = 2 from rf_cl_n rfl (by omega))]
  try rw [(show α 86 2 = μ 104 2 from (hJ.1.2.2.2.2.2 _ (by omega)).1)]
  refine ok_if_ne bX11_move_44 (fun _ => ?_) (fun h44 => absurd h44 (h2))
  refine ok_step (ps := [rf_in (nI 1) 4, rf_in (nI 2) 4]) (L' := [some (.ref 0), some (.int (nI 1)), some (.int (nI i)), some (.int (nI 2)), some (.int (nI j)), some (.int (nI n))]) (st' := [.int (α 86 ((nI 2).toNatClampNeg)), .int (α 86 ((nI 1).toNatClampNeg))]) (σ' := (α, μ)) (pc' := 72) kX11_move_54 rfl rfl (rf_a1 (rf_in_n (a := 1) rfl (by omega)) (rf_a1 (rf_in_n (a := 2) rfl (by omega)) rf_a0)) ?_
  try rw [(show (nI 1).toNatClampNeg = 1 from rf_cl_n rfl (by omega))]
  try rw [(show α 86 1 = μ 104 1 from (hJ.1.2.2.2.2.2 _ (by omega)).1)]
  try rw [(show (nI 2).toNatClampNeg = 2 from rf_cl_n rfl (by omega))]
  try rw [(show α 86 2 = μ 104 2 from (hJ.1.2.2.2.2.2 _ (by omega)).1)]
  refine ok_icmp_eq bX11_move_72 (fun _ => ?_) (fun h72 => absurd (h3) h72)
  refine ok_step (ps := []) (L' := [some (.ref 0), some (.int (nI 1)), some (.int (nI i)), some (.int (nI 2)), some (.int (nI j)), some (.int (nI n))]) (st' := [.int (nI n)]) (σ' := (α, μ)) (pc' := 84) kX11_move_82 rfl rfl rf_a0 ?_
  refine ok_if_lt bX11_move_84 (fun h84 => absurd h84 (h4)) (fun _ => ?_)
  refine ok_step (ps := [rf_in (nI 1) 4]) (L' := [some (.ref 0), some (.int (nI 1)), some (.int (nI i)), some (.int (nI 2)), some (.int (nI j)), some (.int (nI n))]) (st' := [.int ((α 87 ((nI 1).toNatClampNeg)) - (nI n)), .int (nI 0), .int (nI i)]) (σ' := (α, μ)) (pc' := 101) kX11_move_87 rfl rfl (rf_a1 (rf_in_n (a := 1) rfl (by omega)) rf_a0) ?_
  try rw [(show (nI 1).toNatClampNeg = 1 from rf_cl_n rfl (by omega))]
  try rw [(show α 87 1 = μ 105 1 from (hJ.1.2.2.2.2.2 _ (by omega)).2.1)]
  refine ok_S (As := [.int (nI i), .int (nI 0), .int ((μ 105 1) - (nI n))]) (st := []) mkX11_within qX11_move_101 rfl rfl rfl rfl rfl (Nat.le_of_ble_eq_true rfl) (c_within) ?_
  refine ok_if_eq bX11_move_104 (fun h104 => absurd h104 (bI_n0.mpr ((mv_ok e1 hm1 h4).mpr h5))) (fun _ => ?_)
  refine ok_step (ps := [rf_in (nI 2) 4]) (L' := [some (.ref 0), some (.int (nI 1)), some (.int (nI i)), some (.int (nI 2)), some (.int (nI j)), some (.int (nI n))]) (st' := [.int ((α 87 ((nI 2).toNatClampNeg)) - (nI n)), .int (nI 0), .int (nI j)]) (σ' := (α, μ)) (pc' := 122) kX11_move_107 rfl rfl (rf_a1 (rf_in_n (a := 2) rfl (by omega)) rf_a0) ?_
  try rw [(show (nI 2).toNatClampNeg = 2 from rf_cl_n rfl (by omega))]
  try rw [(show α 87 2 = μ 105 2 from (hJ.1.2.2.2.2.2 _ (by omega)).2.1)]
  refine ok_S (As := [.int (nI j), .int (nI 0), .int ((μ 105 2) - (nI n))]) (st := []) mkX11_within qX11_move_122 rfl rfl rfl rfl rfl (Nat.le_of_ble_eq_true rfl) (c_within) ?_
  refine ok_if_ne bX11_move_125 (fun _ => ?_) (fun h125 => absurd h125 (bI_n0.mpr ((mv_ok e2 hm2 h4).mpr h6)))
  refine ok_step (ps := [rf_in (nI 1) 4, rf_in (nI 2) 4, rf_cp (nI i) (nI j) (nI n) 40 40]) (L' := [some (.ref 0), some (.int (nI 1)), some (.int (nI i)), some (.int (nI 2)), some (.int (nI j)), some (.int (nI n))]) (st' := [.int (nI n)]) (σ' := (rf_r α 91 (va_cpy (α 90) (α 91) ((nI i).toNatClampNeg) ((nI j).toNatClampNeg) ((nI n).toNatClampNeg)), μ)) (pc' := 163) kX11_move_135 rfl rfl (rf_a1 (rf_in_n (a := 1) rfl (by omega)) (rf_a1 (rf_in_n (a := 2) rfl (by omega)) (rf_a1 (by simp only [rf_cp, Bool.and_eq_true, decide_eq_true_eq]; refine ⟨⟨⟨⟨nI_pos' (by omega), nI_pos' (by omega)⟩, nI_pos' (by omega)⟩, ?_⟩, ?_⟩ <;> rw [nI_clamp (by omega), nI_clamp (by omega)] <;> omega) rf_a0))) ?_
  try rw [(show (nI i).toNatClampNeg = i from rf_cl_n rfl (by omega))]
  try rw [(show (nI j).toNatClampNeg = j from rf_cl_n rfl (by omega))]
  try rw [(show (nI n).toNatClampNeg = n from rf_cl_n rfl (by omega))]
  refine ok_reti eX11_move_163 rfl ?_
  refine ⟨rfl, _, rfl, ?_⟩
  refine ok_step (ps := []) (L' := [some (.ref 94), some (.int (nI 1)), some (.int (nI i)), some (.int (nI 2)), some (.int (nI j)), some (.int (nI n)), none]) (st' := [.int (nI 1)]) (σ' := (rf_r α 91 (va_cpy (α 90) (α 91) i j n), μ)) (pc' := 1) kX12_move_0 rfl rfl rf_a0 ?_
  refine ok_S (As := [.int (nI 1)]) (st := []) mkX12_isSheet qX12_move_1 rfl rfl rfl rfl rfl (Nat.le_of_ble_eq_true rfl) (m_isSheet) ?_
  rw [show bI (wi (nI 1) (nI 0) (nI 3)) = nI 1 from rfl]
  refine ok_if_eq bX12_move_4 (fun g4 => absurd g4 ((by decide))) (fun _ => ?_)
  refine ok_step (ps := []) (L' := [some (.ref 94), some (.int (nI 1)), some (.int (nI i)), some (.int (nI 2)), some (.int (nI j)), some (.int (nI n)), none]) (st' := [.int (nI 2)]) (σ' := (rf_r α 91 (va_cpy (α 90) (α 91) i j n), μ)) (pc' := 8) kX12_move_7 rfl rfl rf_a0 ?_
  refine ok_S (As := [.int (nI 2)]) (st := []) mkX12_isSheet qX12_move_8 rfl rfl rfl rfl rfl (Nat.le_of_ble_eq_true rfl) (m_isSheet) ?_
  rw [show bI (wi (nI 2) (nI 0) (nI 3)) = nI 1 from rfl]
  refine ok_if_ne bX12_move_11 (fun _ => ?_) (fun g11 => absurd g11 ((by decide)))
  refine ok_step (ps := [rf_in (nI 1) 4]) (L' := [some (.ref 94), some (.int (nI 1)), some (.int (nI i)), some (.int (nI 2)), some (.int (nI j)), some (.int (nI n)), none]) (st' := [.int (μ 104 ((nI 1).toNatClampNeg))]) (σ' := (rf_r α 91 (va_cpy (α 90) (α 91) i j n), μ)) (pc' := 26) kX12_move_20 rfl rfl (rf_a1 (rf_in_n (a := 1) rfl (by omega)) rf_a0) ?_
  try rw [(show (nI 1).toNatClampNeg = 1 from rf_cl_n rfl (by omega))]
  refine ok_if_eq bX12_move_26 (fun g26 => absurd g26 (h1)) (fun _ => ?_)
  refine ok_step (ps := [rf_in (nI 2) 4]) (L' := [some (.ref 94), some (.int (nI 1)), some (.int (nI i)), some (.int (nI 2)), some (.int (nI j)), some (.int (nI n)), none]) (st' := [.int (μ 104 ((nI 2).toNatClampNeg))]) (σ' := (rf_r α 91 (va_cpy (α 90) (α 91) i j n), μ)) (pc' := 35) kX12_move_29 rfl rfl (rf_a1 (rf_in_n (a := 2) rfl (by omega)) rf_a0) ?_
  try rw [(show (nI 2).toNatClampNeg = 2 from rf_cl_n rfl (by omega))]
  refine ok_if_ne bX12_move_35 (fun _ => ?_) (fun g35 => absurd g35 (h2))
  refine ok_step (ps := [rf_in (nI 1) 4, rf_in (nI 2) 4]) (L' := [some (.ref 94), some (.int (nI 1)), some (.int (nI i)), some (.int (nI 2)), some (.int (nI j)), some (.int (nI n)), none]) (st' := [.int (μ 104 ((nI 2).toNatClampNeg)), .int (μ 104 ((nI 1).toNatClampNeg))]) (σ' := (rf_r α 91 (va_cpy (α 90) (α 91) i j n), μ)) (pc' := 56) kX12_move_44 rfl rfl (rf_a1 (rf_in_n (a := 1) rfl (by omega)) (rf_a1 (rf_in_n (a := 2) rfl (by omega)) rf_a0)) ?_
  try rw [(show (nI 1).toNatClampNeg = 1 from rf_cl_n rfl (by omega))]
  try rw [(show (nI 2).toNatClampNeg = 2 from rf_cl_n rfl (by omega))]
  refine ok_icmp_eq bX12_move_56 (fun _ => ?_) (fun g56 => absurd (h3) g56)
  refine ok_step (ps := []) (L' := [some (.ref 94), some (.int (nI 1)), some (.int (nI i)), some (.int (nI 2)), some (.int (nI j)), some (.int (nI n)), none]) (st' := [.int (nI n)]) (σ' := (rf_r α 91 (va_cpy (α 90) (α 91) i j n), μ)) (pc' := 67) kX12_move_65 rfl rfl rf_a0 ?_
  refine ok_if_lt bX12_move_67 (fun g67 => absurd g67 (h4)) (fun _ => ?_)
  refine ok_step (ps := []) (L' := [some (.ref 94), some (.int (nI 1)), some (.int (nI i)), some (.int (nI 2)), some (.int (nI j)), some (.int (nI n)), none]) (st' := [.int (nI i)]) (σ' := (rf_r α 91 (va_cpy (α 90) (α 91) i j n), μ)) (pc' := 71) kX12_move_70 rfl rfl rf_a0 ?_
  refine ok_if_lt bX12_move_71 (fun g71 => absurd g71 (h5.1)) (fun _ => ?_)
  refine ok_step (ps := []) (L' := [some (.ref 94), some (.int (nI 1)), some (.int (nI i)), some (.int (nI 2)), some (.int (nI j)), some (.int (nI n)), none]) (st' := [.int (nI j)]) (σ' := (rf_r α 91 (va_cpy (α 90) (α 91) i j n), μ)) (pc' := 76) kX12_move_74 rfl rfl rf_a0 ?_
  refine ok_if_lt bX12_move_76 (fun g76 => absurd g76 (h6.1)) (fun _ => ?_)
  refine ok_step (ps := [rf_in (nI 1) 4]) (L' := [some (.ref 94), some (.int (nI 1)), some (.int (nI i)), some (.int (nI 2)), some (.int (nI j)), some (.int (nI n)), none]) (st' := [.int ((μ 105 ((nI 1).toNatClampNeg)) - (nI i)), .int (nI n)]) (σ' := (rf_r α 91 (va_cpy (α 90) (α 91) i j n), μ)) (pc' := 89) kX12_move_79 rfl rfl (rf_a1 (rf_in_n (a := 1) rfl (by omega)) rf_a0) ?_
  try rw [(show (nI 1).toNatClampNeg = 1 from rf_cl_n rfl (by omega))]
  refine ok_icmp_gt bX12_move_89 (fun g89 => absurd g89 (h5.2)) (fun _ => ?_)
  refine ok_step (ps := [rf_in (nI 2) 4]) (L' := [some (.ref 94), some (.int (nI 1)), some (.int (nI i)), some (.int (nI 2)), some (.int (nI j)), some (.int (nI n)), none]) (st' := [.int ((μ 105 ((nI 2).toNatClampNeg)) - (nI j)), .int (nI n)]) (σ' := (rf_r α 91 (va_cpy (α 90) (α 91) i j n), μ)) (pc' := 103) kX12_move_92 rfl rfl (rf_a1 (rf_in_n (a := 2) rfl (by omega)) rf_a0) ?_
  try rw [(show (nI 2).toNatClampNeg = 2 from rf_cl_n rfl (by omega))]
  refine ok_icmp_le bX12_move_103 (fun _ => ?_) (fun g103 => absurd (Int32.not_lt.mp h6.2) g103)
  refine ok_step (ps := []) (L' := [some (.ref 94), some (.int (nI 1)), some (.int (nI i)), some (.int (nI 2)), some (.int (nI j)), some (.int (nI n)), some (.int (nI 0))]) (st' := []) (σ' := (rf_r α 91 (va_cpy (α 90) (α 91) i j n), μ)) (pc' := 115) kX12_move_112 rfl rfl rf_a0 ?_
  have hm := m_mv1 (Ln := Ln) (xs := xs) (γ := rf_r α 91 (va_cpy (α 90) (α 91) i j n)) (μ := μ) (s := 1) (o := 2) (i := i) (j := j) (n := n) (by decide) (by decide) (by omega) (by omega) n 0 (by omega)
  rw [rfr_c0] at hm
  refine hm.mono (fun r t hq => ?_)
  obtain ⟨rfl, rfl⟩ := hq
  exact ⟨rfl, _, rfl, hJ.move (by decide) (by decide) (by omega) (by omega) rfl rfl⟩
theorem op_move_13 {i0 j0 n0 : Int32} (hJ : J α μ) (hg : mgood μ 1 3 i0 j0 n0) : Op (rf_T Ln xs) MX11_move MX12_move [some (.ref 0), some (.int (nI 1)), some (.int i0), some (.int (nI 3)), some (.int j0), some (.int n0)] [some (.ref 94), some (.int (nI 1)), some (.int i0), some (.int (nI 3)), some (.int j0), some (.int n0), none] α μ := by
  have hR := hJ.1.1.1
  have hI := hJ.2
  obtain ⟨h1, h2, h3, h4, h5, h6⟩ := hg
  obtain ⟨m1, hm1, e1⟩ := (hJ.1.2.2.2.2.2 1 (by decide)).2.2.1
  obtain ⟨m2, hm2, e2⟩ := (hJ.1.2.2.2.2.2 3 (by decide)).2.2.1
  have h5 := (mv_ok e1 hm1 h4).mp h5
  have h6 := (mv_ok e2 hm2 h4).mp h6
  obtain ⟨n, hn, rfl⟩ := ge_0 (Int32.not_lt.mp h4)
  obtain ⟨i, hi, rfl⟩ := ge_0 (Int32.not_lt.mp h5.1)
  obtain ⟨j, hj, rfl⟩ := ge_0 (Int32.not_lt.mp h6.1)
  have a1 := mv_nat e1 hm1 hi hn h5.2
  have a2 := mv_nat e2 hm2 hj hn h6.2
  refine ok_step (ps := []) (L' := [some (.ref 0), some (.int (nI 1)), some (.int (nI i)), some (.int (nI 3)), some (.int (nI j)), some (.int (nI n))]) (st' := [.int (nI 1), .ref 0]) (σ' := (α, μ)) (pc' := 2) kX11_move_0 rfl rfl rf_a0 ?_
  refine ok_V (As := [.int (nI 1)]) (b := 0) (st := []) mkX11_isSheet qX11_move_2 rfl (rc_0) rfl rfl rfl rfl (Nat.le_of_ble_eq_true rfl) (c_isSheet) ?_
  rw [show bI (wi (nI 1) (nI 0) (nI 3)) = nI 1 from rfl]
  refine ok_if_eq bX11_move_5 (fun h5 => absurd h5 ((by decide))) (fun _ => ?_)
  refine ok_step (ps := []) (L' := [some (.ref 0), some (.int (nI 1)), some (.int (nI i)), some (.int (nI 3)), some (.int (nI j)), some (.int (nI n))]) (st' := [.int (nI 3), .ref 0]) (σ' := (α, μ)) (pc' := 10) kX11_move_8 rfl rfl rf_a0 ?_
  refine ok_V (As := [.int (nI 3)]) (b := 0) (st := []) mkX11_isSheet qX11_move_10 rfl (rc_0) rfl rfl rfl rfl (Nat.le_of_ble_eq_true rfl) (c_isSheet) ?_
  rw [show bI (wi (nI 3) (nI 0) (nI 3)) = nI 1 from rfl]
  refine ok_if_ne bX11_move_13 (fun _ => ?_) (fun h13 => absurd h13 ((by decide)))
  refine ok_step (ps := [rf_in (nI 1) 4]) (L' := [some (.ref 0), some (.int (nI 1)), some (.int (nI i)), some (.int (nI 3)), some (.int (nI j)), some (.int (nI n))]) (st' := [.int (α 86 ((nI 1).toNatClampNeg))]) (σ' := (α, μ)) (pc' := 32) kX11_move_23 rfl rfl (rf_a1 (rf_in_n (a := 1) rfl (by omega)) rf_a0) ?_
  try rw [(show (nI 1).toNatClampNeg = 1 from rf_cl_n rfl (by omega))]
  try rw [(show α 86 1 = μ 104 1 from (hJ.1.2.2.2.2.2 _ (by omega)).1)]
  refine ok_if_eq bX11_move_32 (fun h32 => absurd h32 (h1)) (fun _ => ?_)
  refine ok_step (ps := [rf_in (nI 3) 4]) (L' := [some (.ref 0), some (.int (nI 1)), some (.int (nI i)), some (.int (nI 3)), some (.int (nI j)), some (.int (nI n))]) (st' := [.int (α 86 ((nI 3).toNatClampNeg))]) (σ' := (α, μ)) (pc' := 44) kX11_move_35 rfl rfl (rf_a1 (rf_in_n (a := 3) rfl (by omega)) rf_a0) ?_
  try rw [(show (nI 3).toNatClampNeg = 3 from rf_cl_n rfl (by omega))]
  try rw [(show α 86 3 = μ 104 3 from (hJ.1.2.2.2.2.2 _ (by omega)).1)]
  refine ok_if_ne bX11_move_44 (fun _ => ?_) (fun h44 => absurd h44 (h2))
  refine ok_step (ps := [rf_in (nI 1) 4, rf_in (nI 3) 4]) (L' := [some (.ref 0), some (.int (nI 1)), some (.int (nI i)), some (.int (nI 3)), some (.int (nI j)), some (.int (nI n))]) (st' := [.int (α 86 ((nI 3).toNatClampNeg)), .int (α 86 ((nI 1).toNatClampNeg))]) (σ' := (α, μ)) (pc' := 72) kX11_move_54 rfl rfl (rf_a1 (rf_in_n (a := 1) rfl (by omega)) (rf_a1 (rf_in_n (a := 3) rfl (by omega)) rf_a0)) ?_
  try rw [(show (nI 1).toNatClampNeg = 1 from rf_cl_n rfl (by omega))]
  try rw [(show α 86 1 = μ 104 1 from (hJ.1.2.2.2.2.2 _ (by omega)).1)]
  try rw [(show (nI 3).toNatClampNeg = 3 from rf_cl_n rfl (by omega))]
  try rw [(show α 86 3 = μ 104 3 from (hJ.1.2.2.2.2.2 _ (by omega)).1)]
  refine ok_icmp_eq bX11_move_72 (fun _ => ?_) (fun h72 => absurd (h3) h72)
  refine ok_step (ps := []) (L' := [some (.ref 0), some (.int (nI 1)), some (.int (nI i)), some (.int (nI 3)), some (.int (nI j)), some (.int (nI n))]) (st' := [.int (nI n)]) (σ' := (α, μ)) (pc' := 84) kX11_move_82 rfl rfl rf_a0 ?_
  refine ok_if_lt bX11_move_84 (fun h84 => absurd h84 (h4)) (fun _ => ?_)
  refine ok_step (ps := [rf_in (nI 1) 4]) (L' := [some (.ref 0), some (.int (nI 1)), some (.int (nI i)), some (.int (nI 3)), some (.int (nI j)), some (.int (nI n))]) (st' := [.int ((α 87 ((nI 1).toNatClampNeg)) - (nI n)), .int (nI 0), .int (nI i)]) (σ' := (α, μ)) (pc' := 101) kX11_move_87 rfl rfl (rf_a1 (rf_in_n (a := 1) rfl (by omega)) rf_a0) ?_
  try rw [(show (nI 1).toNatClampNeg = 1 from rf_cl_n rfl (by omega))]
  try rw [(show α 87 1 = μ 105 1 from (hJ.1.2.2.2.2.2 _ (by omega)).2.1)]
  refine ok_S (As := [.int (nI i), .int (nI 0), .int ((μ 105 1) - (nI n))]) (st := []) mkX11_within qX11_move_101 rfl rfl rfl rfl rfl (Nat.le_of_ble_eq_true rfl) (c_within) ?_
  refine ok_if_eq bX11_move_104 (fun h104 => absurd h104 (bI_n0.mpr ((mv_ok e1 hm1 h4).mpr h5))) (fun _ => ?_)
  refine ok_step (ps := [rf_in (nI 3) 4]) (L' := [some (.ref 0), some (.int (nI 1)), some (.int (nI i)), some (.int (nI 3)), some (.int (nI j)), some (.int (nI n))]) (st' := [.int ((α 87 ((nI 3).toNatClampNeg)) - (nI n)), .int (nI 0), .int (nI j)]) (σ' := (α, μ)) (pc' := 122) kX11_move_107 rfl rfl (rf_a1 (rf_in_n (a := 3) rfl (by omega)) rf_a0) ?_
  try rw [(show (nI 3).toNatClampNeg = 3 from rf_cl_n rfl (by omega))]
  try rw [(show α 87 3 = μ 105 3 from (hJ.1.2.2.2.2.2 _ (by omega)).2.1)]
  refine ok_S (As := [.int (nI j), .int (nI 0), .int ((μ 105 3) - (nI n))]) (st := []) mkX11_within qX11_move_122 rfl rfl rfl rfl rfl (Nat.le_of_ble_eq_true rfl) (c_within) ?_
  refine ok_if_ne bX11_move_125 (fun _ => ?_) (fun h125 => absurd h125 (bI_n0.mpr ((mv_ok e2 hm2 h4).mpr h6)))
  refine ok_step (ps := [rf_in (nI 1) 4, rf_in (nI 3) 4, rf_cp (nI i) (nI j) (nI n) 40 40]) (L' := [some (.ref 0), some (.int (nI 1)), some (.int (nI i)), some (.int (nI 3)), some (.int (nI j)), some (.int (nI n))]) (st' := [.int (nI n)]) (σ' := (rf_r α 92 (va_cpy (α 90) (α 92) ((nI i).toNatClampNeg) ((nI j).toNatClampNeg) ((nI n).toNatClampNeg)), μ)) (pc' := 163) kX11_move_135 rfl rfl (rf_a1 (rf_in_n (a := 1) rfl (by omega)) (rf_a1 (rf_in_n (a := 3) rfl (by omega)) (rf_a1 (by simp only [rf_cp, Bool.and_eq_true, decide_eq_true_eq]; refine ⟨⟨⟨⟨nI_pos' (by omega), nI_pos' (by omega)⟩, nI_pos' (by omega)⟩, ?_⟩, ?_⟩ <;> rw [nI_clamp (by omega), nI_clamp (by omega)] <;> omega) rf_a0))) ?_
  try rw [(show (nI i).toNatClampNeg = i from rf_cl_n rfl (by omega))]
  try rw [(show (nI j).toNatClampNeg = j from rf_cl_n rfl (by omega))]
  try rw [(show (nI n).toNatClampNeg = n from rf_cl_n rfl (by omega))]
  refine ok_reti eX11_move_163 rfl ?_
  refine ⟨rfl, _, rfl, ?_⟩
  refine ok_step (ps := []) (L' := [some (.ref 94), some (.int (nI 1)), some (.int (nI i)), some (.int (nI 3)), some (.int (nI j)), some (.int (nI n)), none]) (st' := [.int (nI 1)]) (σ' := (rf_r α 92 (va_cpy (α 90) (α 92) i j n), μ)) (pc' := 1) kX12_move_0 rfl rfl rf_a0 ?_
  refine ok_S (As := [.int (nI 1)]) (st := []) mkX12_isSheet qX12_move_1 rfl rfl rfl rfl rfl (Nat.le_of_ble_eq_true rfl) (m_isSheet) ?_
  rw [show bI (wi (nI 1) (nI 0) (nI 3)) = nI 1 from rfl]
  refine ok_if_eq bX12_move_4 (fun g4 => absurd g4 ((by decide))) (fun _ => ?_)
  refine ok_step (ps := []) (L' := [some (.ref 94), some (.int (nI 1)), some (.int (nI i)), some (.int (nI 3)), some (.int (nI j)), some (.int (nI n)), none]) (st' := [.int (nI 3)]) (σ' := (rf_r α 92 (va_cpy (α 90) (α 92) i j n), μ)) (pc' := 8) kX12_move_7 rfl rfl rf_a0 ?_
  refine ok_S (As := [.int (nI 3)]) (st := []) mkX12_isSheet qX12_move_8 rfl rfl rfl rfl rfl (Nat.le_of_ble_eq_true rfl) (m_isSheet) ?_
  rw [show bI (wi (nI 3) (nI 0) (nI 3)) = nI 1 from rfl]
  refine ok_if_ne bX12_move_11 (fun _ => ?_) (fun g11 => absurd g11 ((by decide)))
  refine ok_step (ps := [rf_in (nI 1) 4]) (L' := [some (.ref 94), some (.int (nI 1)), some (.int (nI i)), some (.int (nI 3)), some (.int (nI j)), some (.int (nI n)), none]) (st' := [.int (μ 104 ((nI 1).toNatClampNeg))]) (σ' := (rf_r α 92 (va_cpy (α 90) (α 92) i j n), μ)) (pc' := 26) kX12_move_20 rfl rfl (rf_a1 (rf_in_n (a := 1) rfl (by omega)) rf_a0) ?_
  try rw [(show (nI 1).toNatClampNeg = 1 from rf_cl_n rfl (by omega))]
  refine ok_if_eq bX12_move_26 (fun g26 => absurd g26 (h1)) (fun _ => ?_)
  refine ok_step (ps := [rf_in (nI 3) 4]) (L' := [some (.ref 94), some (.int (nI 1)), some (.int (nI i)), some (.int (nI 3)), some (.int (nI j)), some (.int (nI n)), none]) (st' := [.int (μ 104 ((nI 3).toNatClampNeg))]) (σ' := (rf_r α 92 (va_cpy (α 90) (α 92) i j n), μ)) (pc' := 35) kX12_move_29 rfl rfl (rf_a1 (rf_in_n (a := 3) rfl (by omega)) rf_a0) ?_
  try rw [(show (nI 3).toNatClampNeg = 3 from rf_cl_n rfl (by omega))]
  refine ok_if_ne bX12_move_35 (fun _ => ?_) (fun g35 => absurd g35 (h2))
  refine ok_step (ps := [rf_in (nI 1) 4, rf_in (nI 3) 4]) (L' := [some (.ref 94), some (.int (nI 1)), some (.int (nI i)), some (.int (nI 3)), some (.int (nI j)), some (.int (nI n)), none]) (st' := [.int (μ 104 ((nI 3).toNatClampNeg)), .int (μ 104 ((nI 1).toNatClampNeg))]) (σ' := (rf_r α 92 (va_cpy (α 90) (α 92) i j n), μ)) (pc' := 56) kX12_move_44 rfl rfl (rf_a1 (rf_in_n (a := 1) rfl (by omega)) (rf_a1 (rf_in_n (a := 3) rfl (by omega)) rf_a0)) ?_
  try rw [(show (nI 1).toNatClampNeg = 1 from rf_cl_n rfl (by omega))]
  try rw [(show (nI 3).toNatClampNeg = 3 from rf_cl_n rfl (by omega))]
  refine ok_icmp_eq bX12_move_56 (fun _ => ?_) (fun g56 => absurd (h3) g56)
  refine ok_step (ps := []) (L' := [some (.ref 94), some (.int (nI 1)), some (.int (nI i)), some (.int (nI 3)), some (.int (nI j)), some (.int (nI n)), none]) (st' := [.int (nI n)]) (σ' := (rf_r α 92 (va_cpy (α 90) (α 92) i j n), μ)) (pc' := 67) kX12_move_65 rfl rfl rf_a0 ?_
  refine ok_if_lt bX12_move_67 (fun g67 => absurd g67 (h4)) (fun _ => ?_)
  refine ok_step (ps := []) (L' := [some (.ref 94), some (.int (nI 1)), some (.int (nI i)), some (.int (nI 3)), some (.int (nI j)), some (.int (nI n)), none]) (st' := [.int (nI i)]) (σ' := (rf_r α 92 (va_cpy (α 90) (α 92) i j n), μ)) (pc' := 71) kX12_move_70 rfl rfl rf_a0 ?_
  refine ok_if_lt bX12_move_71 (fun g71 => absurd g71 (h5.1)) (fun _ => ?_)
  refine ok_step (ps := []) (L' := [some (.ref 94), some (.int (nI 1)), some (.int (nI i)), some (.int (nI 3)), some (.int (nI j)), some (.int (nI n)), none]) (st' := [.int (nI j)]) (σ' := (rf_r α 92 (va_cpy (α 90) (α 92) i j n), μ)) (pc' := 76) kX12_move_74 rfl rfl rf_a0 ?_
  refine ok_if_lt bX12_move_76 (fun g76 => absurd g76 (h6.1)) (fun _ => ?_)
  refine ok_step (ps := [rf_in (nI 1) 4]) (L' := [some (.ref 94), some (.int (nI 1)), some (.int (nI i)), some (.int (nI 3)), some (.int (nI j)), some (.int (nI n)), none]) (st' := [.int ((μ 105 ((nI 1).toNatClampNeg)) - (nI i)), .int (nI n)]) (σ' := (rf_r α 92 (va_cpy (α 90) (α 92) i j n), μ)) (pc' := 89) kX12_move_79 rfl rfl (rf_a1 (rf_in_n (a := 1) rfl (by omega)) rf_a0) ?_
  try rw [(show (nI 1).toNatClampNeg = 1 from rf_cl_n rfl (by omega))]
  refine ok_icmp_gt bX12_move_89 (fun g89 => absurd g89 (h5.2)) (fun _ => ?_)
  refine ok_step (ps := [rf_in (nI 3) 4]) (L' := [some (.ref 94), some (.int (nI 1)), some (.int (nI i)), some (.int (nI 3)), some (.int (nI j)), some (.int (nI n)), none]) (st' := [.int ((μ 105 ((nI 3).toNatClampNeg)) - (nI j)), .int (nI n)]) (σ' := (rf_r α 92 (va_cpy (α 90) (α 92) i j n), μ)) (pc' := 103) kX12_move_92 rfl rfl (rf_a1 (rf_in_n (a := 3) rfl (by omega)) rf_a0) ?_
  try rw [(show (nI 3).toNatClampNeg = 3 from rf_cl_n rfl (by omega))]
  refine ok_icmp_le bX12_move_103 (fun _ => ?_) (fun g103 => absurd (Int32.not_lt.mp h6.2) g103)
  refine ok_step (ps := []) (L' := [some (.ref 94), some (.int (nI 1)), some (.int (nI i)), some (.int (nI 3)), some (.int (nI j)), some (.int (nI n)), some (.int (nI 0))]) (st' := []) (σ' := (rf_r α 92 (va_cpy (α 90) (α 92) i j n), μ)) (pc' := 115) kX12_move_112 rfl rfl rf_a0 ?_
  have hm := m_mv1 (Ln := Ln) (xs := xs) (γ := rf_r α 92 (va_cpy (α 90) (α 92) i j n)) (μ := μ) (s := 1) (o := 3) (i := i) (j := j) (n := n) (by decide) (by decide) (by omega) (by omega) n 0 (by omega)
  rw [rfr_c0] at hm
  refine hm.mono (fun r t hq => ?_)
  obtain ⟨rfl, rfl⟩ := hq
  exact ⟨rfl, _, rfl, hJ.move (by decide) (by decide) (by omega) (by omega) rfl rfl⟩
theorem op_move_20 {i0 j0 n0 : Int32} (hJ : J α μ) (hg : mgood μ 2 0 i0 j0 n0) : Op (rf_T Ln xs) MX11_move MX12_move [some (.ref 0), some (.int (nI 2)), some (.int i0), some (.int (nI 0)), some (.int j0), some (.int n0)] [some (.ref 94), some (.int (nI 2)), some (.int i0), some (.int (nI 0)), some (.int j0), some (.int n0), none] α μ := by
  have hR := hJ.1.1.1
  have hI := hJ.2
  obtain ⟨h1, h2, h3, h4, h5, h6⟩ := hg
  obtain ⟨m1, hm1, e1⟩ := (hJ.1.2.2.2.2.2 2 (by decide)).2.2.1
  obtain ⟨m2, hm2, e2⟩ := (hJ.1.2.2.2.2.2 0 (by decide)).2.2.1
  have h5 := (mv_ok e1 hm1 h4).mp h5
  have h6 := (mv_ok e2 hm2 h4).mp h6
  obtain ⟨n, hn, rfl⟩ := ge_0 (Int32.not_lt.mp h4)
  obtain ⟨i, hi, rfl⟩ := ge_0 (Int32.not_lt.mp h5.1)
  obtain ⟨j, hj, rfl⟩ := ge_0 (Int32.not_lt.mp h6.1)
  have a1 := mv_nat e1 hm1 hi hn h5.2
  have a2 := mv_nat e2 hm2 hj hn h6.2
  refine ok_step (ps := []) (L' := [some (.ref 0), some (.int (nI 2)), some (.int (nI i)), some (.int (nI 0)), some (.int (nI j)), some (.int (nI n))]) (st' := [.int (nI 2), .ref 0]) (σ' := (α, μ)) (pc' := 2) kX11_move_0 rfl rfl rf_a0 ?_
  refine ok_V (As := [.int (nI 2)]) (b := 0) (st := []) mkX11_isSheet qX11_move_2 rfl (rc_0) rfl rfl rfl rfl (Nat.le_of_ble_eq_true rfl) (c_isSheet) ?_
  rw [show bI (wi (nI 2) (nI 0) (nI 3)) = nI 1 from rfl]
  refine ok_if_eq bX11_move_5 (fun h5 => absurd h5 ((by decide))) (fun _ => ?_)
  refine ok_step (ps := []) (L' := [some (.ref 0), some (.int (nI 2)), some (.int (nI i)), some (.int (nI 0)), some (.int (nI j)), some (.int (nI n))]) (st' := [.int (nI 0), .ref 0]) (σ' := (α, μ)) (pc' := 10) kX11_move_8 rfl rfl rf_a0 ?_
  refine ok_V (As := [.int (nI 0)]) (b := 0) (st := []) mkX11_isSheet qX11_move_10 rfl (rc_0) rfl rfl rfl rfl (Nat.le_of_ble_eq_true rfl) (c_isSheet) ?_
  rw [show bI (wi (nI 0) (nI 0) (nI 3)) = nI 1 from rfl]
  refine ok_if_ne bX11_move_13 (fun _ => ?_) (fun h13 => absurd h13 ((by decide)))
  refine ok_step (ps := [rf_in (nI 2) 4]) (L' := [some (.ref 0), some (.int (nI 2)), some (.int (nI i)), some (.int (nI 0)), some (.int (nI j)), some (.int (nI n))]) (st' := [.int (α 86 ((nI 2).toNatClampNeg))]) (σ' := (α, μ)) (pc' := 32) kX11_move_23 rfl rfl (rf_a1 (rf_in_n (a := 2) rfl (by omega)) rf_a0) ?_
  try rw [(show (nI 2).toNatClampNeg = 2 from rf_cl_n rfl (by omega))]
  try rw [(show α 86 2 = μ 104 2 from (hJ.1.2.2.2.2.2 _ (by omega)).1)]
  refine ok_if_eq bX11_move_32 (fun h32 => absurd h32 (h1)) (fun _ => ?_)
  refine ok_step (ps := [rf_in (nI 0) 4]) (L' := [some (.ref 0), some (.int (nI 2)), some (.int (nI i)), some (.int (nI 0)), some (.int (nI j)), some (.int (nI n))]) (st' := [.int (α 86 ((nI 0).toNatClampNeg))]) (σ' := (α, μ)) (pc' := 44) kX11_move_35 rfl rfl (rf_a1 (rf_in_n (a := 0) rfl (by omega)) rf_a0) ?_
  try rw [(show (nI 0).toNatClampNeg = 0 from rf_cl_n rfl (by omega))]
  try rw [(show α 86 0 = μ 104 0 from (hJ.1.2.2.2.2.2 _ (by omega)).1)]
  refine ok_if_ne bX11_move_44 (fun _ => ?_) (fun h44 => absurd h44 (h2))
  refine ok_step (ps := [rf_in (nI 2) 4, rf_in (nI 0) 4]) (L' := [some (.ref 0), some (.int (nI 2)), some (.int (nI i)), some (.int (nI 0)), some (.int (nI j)), some (.int (nI n))]) (st' := [.int (α 86 ((nI 0).toNatClampNeg)), .int (α 86 ((nI 2).toNatClampNeg))]) (σ' := (α, μ)) (pc' := 72) kX11_move_54 rfl rfl (rf_a1 (rf_in_n (a := 2) rfl (by omega)) (rf_a1 (rf_in_n (a := 0) rfl (by omega)) rf_a0)) ?_
  try rw [(show (nI 2).toNatClampNeg = 2 from rf_cl_n rfl (by omega))]
  try rw [(show α 86 2 = μ 104 2 from (hJ.1.2.2.2.2.2 _ (by omega)).1)]
  try rw [(show (nI 0).toNatClampNeg = 0 from rf_cl_n rfl (by omega))]
  try rw [(show α 86 0 = μ 104 0 from (hJ.1.2.2.2.2.2 _ (by omega)).1)]
  refine ok_icmp_eq bX11_move_72 (fun _ => ?_) (fun h72 => absurd (h3) h72)
  refine ok_step (ps := []) (L' := [some (.ref 0), some (.int (nI 2)), some (.int (nI i)), some (.int (nI 0)), some (.int (nI j)), some (.int (nI n))]) (st' := [.int (nI n)]) (σ' := (α, μ)) (pc' := 84) kX11_move_82 rfl rfl rf_a0 ?_
  refine ok_if_lt bX11_move_84 (fun h84 => absurd h84 (h4)) (fun _ => ?_)
  refine ok_step (ps := [rf_in (nI 2) 4]) (L' := [some (.ref 0), some (.int (nI 2)), some (.int (nI i)), some (.int (nI 0)), some (.int (nI j)), some (.int (nI n))]) (st' := [.int ((α 87 ((nI 2).toNatClampNeg)) - (nI n)), .int (nI 0), .int (nI i)]) (σ' := (α, μ)) (pc' := 101) kX11_move_87 rfl rfl (rf_a1 (rf_in_n (a := 2) rfl (by omega)) rf_a0) ?_
  try rw [(show (nI 2).toNatClampNeg = 2 from rf_cl_n rfl (by omega))]
  try rw [(show α 87 2 = μ 105 2 from (hJ.1.2.2.2.2.2 _ (by omega)).2.1)]
  refine ok_S (As := [.int (nI i), .int (nI 0), .int ((μ 105 2) - (nI n))]) (st := []) mkX11_within qX11_move_101 rfl rfl rfl rfl rfl (Nat.le_of_ble_eq_true rfl) (c_within) ?_
  refine ok_if_eq bX11_move_104 (fun h104 => absurd h104 (bI_n0.mpr ((mv_ok e1 hm1 h4).mpr h5))) (fun _ => ?_)
  refine ok_step (ps := [rf_in (nI 0) 4]) (L' := [some (.ref 0), some (.int (nI 2)), some (.int (nI i)), some (.int (nI 0)), some (.int (nI j)), some (.int (nI n))]) (st' := [.int ((α 87 ((nI 0).toNatClampNeg)) - (nI n)), .int (nI 0), .int (nI j)]) (σ' := (α, μ)) (pc' := 122) kX11_move_107 rfl rfl (rf_a1 (rf_in_n (a := 0) rfl (by omega)) rf_a0) ?_
  try rw [(show (nI 0).toNatClampNeg = 0 from rf_cl_n rfl (by omega))]
  try rw [(show α 87 0 = μ 105 0 from (hJ.1.2.2.2.2.2 _ (by omega)).2.1)]
  refine ok_S (As := [.int (nI j), .int (nI 0), .int ((μ 105 0) - (nI n))]) (st := []) mkX11_within qX11_move_122 rfl rfl rfl rfl rfl (Nat.le_of_ble_eq_true rfl) (c_within) ?_
  refine ok_if_ne bX11_move_125 (fun _ => ?_) (fun h125 => absurd h125 (bI_n0.mpr ((mv_ok e2 hm2 h4).mpr h6)))
  refine ok_step (ps := [rf_in (nI 2) 4, rf_in (nI 0) 4, rf_cp (nI i) (nI j) (nI n) 40 40]) (L' := [some (.ref 0), some (.int (nI 2)), some (.int (nI i)), some (.int (nI 0)), some (.int (nI j)), some (.int (nI n))]) (st' := [.int (nI n)]) (σ' := (rf_r α 89 (va_cpy (α 91) (α 89) ((nI i).toNatClampNeg) ((nI j).toNatClampNeg) ((nI n).toNatClampNeg)), μ)) (pc' := 163) kX11_move_135 rfl rfl (rf_a1 (rf_in_n (a := 2) rfl (by omega)) (rf_a1 (rf_in_n (a := 0) rfl (by omega)) (rf_a1 (by simp only [rf_cp, Bool.and_eq_true, decide_eq_true_eq]; refine ⟨⟨⟨⟨nI_pos' (by omega), nI_pos' (by omega)⟩, nI_pos' (by omega)⟩, ?_⟩, ?_⟩ <;> rw [nI_clamp (by omega), nI_clamp (by omega)] <;> omega) rf_a0))) ?_
  try rw [(show (nI i).toNatClampNeg = i from rf_cl_n rfl (by omega))]
  try rw [(show (nI j).toNatClampNeg = j from rf_cl_n rfl (by omega))]
  try rw [(show (nI n).toNatClampNeg = n from rf_cl_n rfl (by omega))]
  refine ok_reti eX11_move_163 rfl ?_
  refine ⟨rfl, _, rfl, ?_⟩
  refine ok_step (ps := []) (L' := [some (.ref 94), some (.int (nI 2)), some (.int (nI i)), some (.int (nI 0)), some (.int (nI j)), some (.int (nI n)), none]) (st' := [.int (nI 2)]) (σ' := (rf_r α 89 (va_cpy (α 91) (α 89) i j n), μ)) (pc' := 1) kX12_move_0 rfl rfl rf_a0 ?_
  refine ok_S (As := [.int (nI 2)]) (st := []) mkX12_isSheet qX12_move_1 rfl rfl rfl rfl rfl (Nat.le_of_ble_eq_true rfl) (m_isSheet) ?_
  rw [show bI (wi (nI 2) (nI 0) (nI 3)) = nI 1 from rfl]
  refine ok_if_eq bX12_move_4 (fun g4 => absurd g4 ((by decide))) (fun _ => ?_)
  refine ok_step (ps := []) (L' := [some (.ref 94), some (.int (nI 2)), some (.int (nI i)), some (.int (nI 0)), some (.int (nI j)), some (.int (nI n)), none]) (st' := [.int (nI 0)]) (σ' := (rf_r α 89 (va_cpy (α 91) (α 89) i j n), μ)) (pc' := 8) kX12_move_7 rfl rfl rf_a0 ?_
  refine ok_S (As := [.int (nI 0)]) (st := []) mkX12_isSheet qX12_move_8 rfl rfl rfl rfl rfl (Nat.le_of_ble_eq_true rfl) (m_isSheet) ?_
  rw [show bI (wi (nI 0) (nI 0) (nI 3)) = nI 1 from rfl]
  refine ok_if_ne bX12_move_11 (fun _ => ?_) (fun g11 => absurd g11 ((by decide)))
  refine ok_step (ps := [rf_in (nI 2) 4]) (L' := [some (.ref 94), some (.int (nI 2)), some (.int (nI i)), some (.int (nI 0)), some (.int (nI j)), some (.int (nI n)), none]) (st' := [.int (μ 104 ((nI 2).toNatClampNeg))]) (σ' := (rf_r α 89 (va_cpy (α 91) (α 89) i j n), μ)) (pc' := 26) kX12_move_20 rfl rfl (rf_a1 (rf_in_n (a := 2) rfl (by omega)) rf_a0) ?_
  try rw [(show (nI 2).toNatClampNeg = 2 from rf_cl_n rfl (by omega))]
  refine ok_if_eq bX12_move_26 (fun g26 => absurd g26 (h1)) (fun _ => ?_)
  refine ok_step (ps := [rf_in (nI 0) 4]) (L' := [some (.ref 94), some (.int (nI 2)), some (.int (nI i)), some (.int (nI 0)), some (.int (nI j)), some (.int (nI n)), none]) (st' := [.int (μ 104 ((nI 0).toNatClampNeg))]) (σ' := (rf_r α 89 (va_cpy (α 91) (α 89) i j n), μ)) (pc' := 35) kX12_move_29 rfl rfl (rf_a1 (rf_in_n (a := 0) rfl (by omega)) rf_a0) ?_
  try rw [(show (nI 0).toNatClampNeg = 0 from rf_cl_n rfl (by omega))]
  refine ok_if_ne bX12_move_35 (fun _ => ?_) (fun g35 => absurd g35 (h2))
  refine ok_step (ps := [rf_in (nI 2) 4, rf_in (nI 0) 4]) (L' := [some (.ref 94), some (.int (nI 2)), some (.int (nI i)), some (.int (nI 0)), some (.int (nI j)), some (.int (nI n)), none]) (st' := [.int (μ 104 ((nI 0).toNatClampNeg)), .int (μ 104 ((nI 2).toNatClampNeg))]) (σ' := (rf_r α 89 (va_cpy (α 91) (α 89) i j n), μ)) (pc' := 56) kX12_move_44 rfl rfl (rf_a1 (rf_in_n (a := 2) rfl (by omega)) (rf_a1 (rf_in_n (a := 0) rfl (by omega)) rf_a0)) ?_
  try rw [(show (nI 2).toNatClampNeg = 2 from rf_cl_n rfl (by omega))]
  try rw [(show (nI 0).toNatClampNeg = 0 from rf_cl_n rfl (by omega))]
  refine ok_icmp_eq bX12_move_56 (fun _ => ?_) (fun g56 => absurd (h3) g56)
  refine ok_step (ps := []) (L' := [some (.ref 94), some (.int (nI 2)), some (.int (nI i)), some (.int (nI 0)), some (.int (nI j)), some (.int (nI n)), none]) (st' := [.int (nI n)]) (σ' := (rf_r α 89 (va_cpy (α 91) (α 89) i j n), μ)) (pc' := 67) kX12_move_65 rfl rfl rf_a0 ?_
  refine ok_if_lt bX12_move_67 (fun g67 => absurd g67 (h4)) (fun _ => ?_)
  refine ok_step (ps := []) (L' := [some (.ref 94), some (.int (nI 2)), some (.int (nI i)), some (.int (nI 0)), some (.int (nI j)), some (.int (nI n)), none]) (st' := [.int (nI i)]) (σ' := (rf_r α 89 (va_cpy (α 91) (α 89) i j n), μ)) (pc' := 71) kX12_move_70 rfl rfl rf_a0 ?_
  refine ok_if_lt bX12_move_71 (fun g71 => absurd g71 (h5.1)) (fun _ => ?_)
  refine ok_step (ps := []) (L' := [some (.ref 94), some (.int (nI 2)), some (.int (nI i)), some (.int (nI 0)), some (.int (nI j)), some (.int (nI n)), none]) (st' := [.int (nI j)]) (σ' := (rf_r α 89 (va_cpy (α 91) (α 89) i j n), μ)) (pc' := 76) kX12_move_74 rfl rfl rf_a0 ?_
  refine ok_if_lt bX12_move_76 (fun g76 => absurd g76 (h6.1)) (fun _ => ?_)
  refine ok_step (ps := [rf_in (nI 2) 4]) (L' := [some (.ref 94), some (.int (nI 2)), some (.int (nI i)), some (.int (nI 0)), some (.int (nI j)), some (.int (nI n)), none]) (st' := [.int ((μ 105 ((nI 2).toNatClampNeg)) - (nI i)), .int (nI n)]) (σ' := (rf_r α 89 (va_cpy (α 91) (α 89) i j n), μ)) (pc' := 89) kX12_move_79 rfl rfl (rf_a1 (rf_in_n (a := 2) rfl (by omega)) rf_a0) ?_
  try rw [(show (nI 2).toNatClampNeg = 2 from rf_cl_n rfl (by omega))]
  refine ok_icmp_gt bX12_move_89 (fun g89 => absurd g89 (h5.2)) (fun _ => ?_)
  refine ok_step (ps := [rf_in (nI 0) 4]) (L' := [some (.ref 94), some (.int (nI 2)), some (.int (nI i)), some (.int (nI 0)), some (.int (nI j)), some (.int (nI n)), none]) (st' := [.int ((μ 105 ((nI 0).toNatClampNeg)) - (nI j)), .int (nI n)]) (σ' := (rf_r α 89 (va_cpy (α 91) (α 89) i j n), μ)) (pc' := 103) kX12_move_92 rfl rfl (rf_a1 (rf_in_n (a := 0) rfl (by omega)) rf_a0) ?_
  try rw [(show (nI 0).toNatClampNeg = 0 from rf_cl_n rfl (by omega))]
  refine ok_icmp_le bX12_move_103 (fun _ => ?_) (fun g103 => absurd (Int32.not_lt.mp h6.2) g103)
  refine ok_step (ps := []) (L' := [some (.ref 94), some (.int (nI 2)), some (.int (nI i)), some (.int (nI 0)), some (.int (nI j)), some (.int (nI n)), some (.int (nI 0))]) (st' := []) (σ' := (rf_r α 89 (va_cpy (α 91) (α 89) i j n), μ)) (pc' := 115) kX12_move_112 rfl rfl rf_a0 ?_
  have hm := m_mv1 (Ln := Ln) (xs := xs) (γ := rf_r α 89 (va_cpy (α 91) (α 89) i j n)) (μ := μ) (s := 2) (o := 0) (i := i) (j := j) (n := n) (by decide) (by decide) (by omega) (by omega) n 0 (by omega)
  rw [rfr_c0] at hm
  refine hm.mono (fun r t hq => ?_)
  obtain ⟨rfl, rfl⟩ := hq
  exact ⟨rfl, _, rfl, hJ.move (by decide) (by decide) (by omega) (by omega) rfl rfl⟩
theorem op_move_21 {i0 j0 n0 : Int32} (hJ : J α μ) (hg : mgood μ 2 1 i0 j0 n0) : Op (rf_T Ln xs) MX11_move MX12_move [some (.ref 0), some (.int (nI 2)), some (.int i0), some (.int (nI 1)), some (.int j0), some (.int n0)] [some (.ref 94), some (.int (nI 2)), some (.int i0), some (.int (nI 1)), some (.int j0), some (.int n0), none] α μ := by
  have hR := hJ.1.1.1
  have hI := hJ.2
  obtain ⟨h1, h2, h3, h4, h5, h6⟩ := hg
  obtain ⟨m1, hm1, e1⟩ := (hJ.1.2.2.2.2.2 2 (by decide)).2.2.1
  obtain ⟨m2, hm2, e2⟩ := (hJ.1.2.2.2.2.2 1 (by decide)).2.2.1
  have h5 := (mv_ok e1 hm1 h4).mp h5
  have h6 := (mv_ok e2 hm2 h4).mp h6
  obtain ⟨n, hn, rfl⟩ := ge_0 (Int32.not_lt.mp h4)
  obtain ⟨i, hi, rfl⟩ := ge_0 (Int32.not_lt.mp h5.1)
  obtain ⟨j, hj, rfl⟩ := ge_0 (Int32.not_lt.mp h6.1)
  have a1 := mv_nat e1 hm1 hi hn h5.2
  have a2 := mv_nat e2 hm2 hj hn h6.2
  refine ok_step (ps := []) (L' := [some (.ref 0), some (.int (nI 2)), some (.int (nI i)), some (.int (nI 1)), some (.int (nI j)), some (.int (nI n))]) (st' := [.int (nI 2), .ref 0]) (σ' := (α, μ)) (pc' := 2) kX11_move_0 rfl rfl rf_a0 ?_
  refine ok_V (As := [.int (nI 2)]) (b := 0) (st := []) mkX11_isSheet qX11_move_2 rfl (rc_0) rfl rfl rfl rfl (Nat.le_of_ble_eq_true rfl) (c_isSheet) ?_
  rw [show bI (wi (nI 2) (nI 0) (nI 3)) = nI 1 from rfl]
  refine ok_if_eq bX11_move_5 (fun h5 => absurd h5 ((by decide))) (fun _ => ?_)
  refine ok_step (ps := []) (L' := [some (.ref 0), some (.int (nI 2)), some (.int (nI i)), some (.int (nI 1)), some (.int (nI j)), some (.int (nI n))]) (st' := [.int (nI 1), .ref 0]) (σ' := (α, μ)) (pc' := 10) kX11_move_8 rfl rfl rf_a0 ?_
  refine ok_V (As := [.int (nI 1)]) (b := 0) (st := []) mkX11_isSheet qX11_move_10 rfl (rc_0) rfl rfl rfl rfl (Nat.le_of_ble_eq_true rfl) (c_isSheet) ?_
  rw [show bI (wi (nI 1) (nI 0) (nI 3)) = nI 1 from rfl]
  refine ok_if_ne bX11_move_13 (fun _ => ?_) (fun h13 => absurd h13 ((by decide)))
  refine ok_step (ps := [rf_in (nI 2) 4]) (L' := [some (.ref 0), some (.int (nI 2)), some (.int (nI i)), some (.int (nI 1)), some (.int (nI j)), some (.int (nI n))]) (st' := [.int (α 86 ((nI 2).toNatClampNeg))]) (σ' := (α, μ)) (pc' := 32) kX11_move_23 rfl rfl (rf_a1 (rf_in_n (a := 2) rfl (by omega)) rf_a0) ?_
  try rw [(show (nI 2).toNatClampNeg = 2 from rf_cl_n rfl (by omega))]
  try rw [(show α 86 2 = μ 104 2 from (hJ.1.2.2.2.2.2 _ (by omega)).1)]
  refine ok_if_eq bX11_move_32 (fun h32 => absurd h32 (h1)) (fun _ => ?_)
  refine ok_step (ps := [rf_in (nI 1) 4]) (L' := [some (.ref 0), some (.int (nI 2)), some (.int (nI i)), some (.int (nI 1)), some (.int (nI j)), some (.int (nI n))]) (st' := [.int (α 86 ((nI 1).toNatClampNeg))]) (σ' := (α, μ)) (pc' := 44) kX11_move_35 rfl rfl (rf_a1 (rf_in_n (a := 1) rfl (by omega)) rf_a0) ?_
  try rw [(show (nI 1).toNatClampNeg = 1 from rf_cl_n rfl (by omega))]
  try rw [(show α 86 1 = μ 104 1 from (hJ.1.2.2.2.2.2 _ (by omega)).1)]
  refine ok_if_ne bX11_move_44 (fun _ => ?_) (fun h44 => absurd h44 (h2))
  refine ok_step (ps := [rf_in (nI 2) 4, rf_in (nI 1) 4]) (L' := [some (.ref 0), some (.int (nI 2)), some (.int (nI i)), some (.int (nI 1)), some (.int (nI j)), some (.int (nI n))]) (st' := [.int (α 86 ((nI 1).toNatClampNeg)), .int (α 86 ((nI 2).toNatClampNeg))]) (σ' := (α, μ)) (pc' := 72) kX11_move_54 rfl rfl (rf_a1 (rf_in_n (a := 2) rfl (by omega)) (rf_a1 (rf_in_n (a := 1) rfl (by omega)) rf_a0)) ?_
  try rw [(show (nI 2).toNatClampNeg = 2 from rf_cl_n rfl (by omega))]
  try rw [(show α 86 2 = μ 104 2 from (hJ.1.2.2.2.2.2 _ (by omega)).1)]
  try rw [(show (nI 1).toNatClampNeg = 1 from rf_cl_n rfl (by omega))]
  try rw [(show α 86 1 = μ 104 1 from (hJ.1.2.2.2.2.2 _ (by omega)).1)]
  refine ok_icmp_eq bX11_move_72 (fun _ => ?_) (fun h72 => absurd (h3) h72)
  refine ok_step (ps := []) (L' := [some (.ref 0), some (.int (nI 2)), some (.int (nI i)), some (.int (nI 1)), some (.int (nI j)), some (.int (nI n))]) (st' := [.int (nI n)]) (σ' := (α, μ)) (pc' := 84) kX11_move_82 rfl rfl rf_a0 ?_
  refine ok_if_lt bX11_move_84 (fun h84 => absurd h84 (h4)) (fun _ => ?_)
  refine ok_step (ps := [rf_in (nI 2) 4]) (L' := [some (.ref 0), some (.int (nI 2)), some (.int (nI i)), some (.int (nI 1)), some (.int (nI j)), some (.int (nI n))]) (st' := [.int ((α 87 ((nI 2).toNatClampNeg)) - (nI n)), .int (nI 0), .int (nI i)]) (σ' := (α, μ)) (pc' := 101) kX11_move_87 rfl rfl (rf_a1 (rf_in_n (a := 2) rfl (by omega)) rf_a0) ?_
  try rw [(show (nI 2).toNatClampNeg = 2 from rf_cl_n rfl (by omega))]
  try rw [(show α 87 2 = μ 105 2 from (hJ.1.2.2.2.2.2 _ (by omega)).2.1)]
  refine ok_S (As := [.int (nI i), .int (nI 0), .int ((μ 105 2) - (nI n))]) (st := []) mkX11_within qX11_move_101 rfl rfl rfl rfl rfl (Nat.le_of_ble_eq_true rfl) (c_within) ?_
  refine ok_if_eq bX11_move_104 (fun h104 => absurd h104 (bI_n0.mpr ((mv_ok e1 hm1 h4).mpr h5))) (fun _ => ?_)
  refine ok_step (ps := [rf_in (nI 1) 4]) (L' := [some (.ref 0), some (.int (nI 2)), some (.int (nI i)), some (.int (nI 1)), some (.int (nI j)), some (.int (nI n))]) (st' := [.int ((α 87 ((nI 1).toNatClampNeg)) - (nI n)), .int (nI 0), .int (nI j)]) (σ' := (α, μ)) (pc' := 122) kX11_move_107 rfl rfl (rf_a1 (rf_in_n (a := 1) rfl (by omega)) rf_a0) ?_
  try rw [(show (nI 1).toNatClampNeg = 1 from rf_cl_n rfl (by omega))]
  try rw [(show α 87 1 = μ 105 1 from (hJ.1.2.2.2.2.2 _ (by omega)).2.1)]
  refine ok_S (As := [.int (nI j), .int (nI 0), .int ((μ 105 1) - (nI n))]) (st := []) mkX11_within qX11_move_122 rfl rfl rfl rfl rfl (Nat.le_of_ble_eq_true rfl) (c_within) ?_
  refine ok_if_ne bX11_move_125 (fun _ => ?_) (fun h125 => absurd h125 (bI_n0.mpr ((mv_ok e2 hm2 h4).mpr h6)))
  refine ok_step (ps := [rf_in (nI 2) 4, rf_in (nI 1) 4, rf_cp (nI i) (nI j) (nI n) 40 40]) (L' := [some (.ref 0), some (.int (nI 2)), some (.int (nI i)), some (.int (nI 1)), some (.int (nI j)), some (.int (nI n))]) (st' := [.int (nI n)]) (σ' := (rf_r α 90 (va_cpy (α 91) (α 90) ((nI i).toNatClampNeg) ((nI j).toNatClampNeg) ((nI n).toNatClampNeg)), μ)) (pc' := 163) kX11_move_135 rfl rfl (rf_a1 (rf_in_n (a := 2) rfl (by omega)) (rf_a1 (rf_in_n (a := 1) rfl (by omega)) (rf_a1 (by simp only [rf_cp, Bool.and_eq_true, decide_eq_true_eq]; refine ⟨⟨⟨⟨nI_pos' (by omega), nI_pos' (by omega)⟩, nI_pos' (by omega)⟩, ?_⟩, ?_⟩ <;> rw [nI_clamp (by omega), nI_clamp (by omega)] <;> omega) rf_a0))) ?_
  try rw [(show (nI i).toNatClampNeg = i from rf_cl_n rfl (by omega))]
  try rw [(show (nI j).toNatClampNeg = j from rf_cl_n rfl (by omega))]
  try rw [(show (nI n).toNatClampNeg = n from rf_cl_n rfl (by omega))]
  refine ok_reti eX11_move_163 rfl ?_
  refine ⟨rfl, _, rfl, ?_⟩
  refine ok_step (ps := []) (L' := [some (.ref 94), some (.int (nI 2)), some (.int (nI i)), some (.int (nI 1)), some (.int (nI j)), some (.int (nI n)), none]) (st' := [.int (nI 2)]) (σ' := (rf_r α 90 (va_cpy (α 91) (α 90) i j n), μ)) (pc' := 1) kX12_move_0 rfl rfl rf_a0 ?_
  refine ok_S (As := [.int (nI 2)]) (st := []) mkX12_isSheet qX12_move_1 rfl rfl rfl rfl rfl (Nat.le_of_ble_eq_true rfl) (m_isSheet) ?_
  rw [show bI (wi (nI 2) (nI 0) (nI 3)) = nI 1 from rfl]
  refine ok_if_eq bX12_move_4 (fun g4 => absurd g4 ((by decide))) (fun _ => ?_)
  refine ok_step (ps := []) (L' := [some (.ref 94), some (.int (nI 2)), some (.int (nI i)), some (.int (nI 1)), some (.int (nI j)), some (.int (nI n)), none]) (st' := [.int (nI 1)]) (σ' := (rf_r α 90 (va_cpy (α 91) (α 90) i j n), μ)) (pc' := 8) kX12_move_7 rfl rfl rf_a0 ?_
  refine ok_S (As := [.int (nI 1)]) (st := []) mkX12_isSheet qX12_move_8 rfl rfl rfl rfl rfl (Nat.le_of_ble_eq_true rfl) (m_isSheet) ?_
  rw [show bI (wi (nI 1) (nI 0) (nI 3)) = nI 1 from rfl]
  refine ok_if_ne bX12_move_11 (fun _ => ?_) (fun g11 => absurd g11 ((by decide)))
  refine ok_step (ps := [rf_in (nI 2) 4]) (L' := [some (.ref 94), some (.int (nI 2)), some (.int (nI i)), some (.int (nI 1)), some (.int (nI j)), some (.int (nI n)), none]) (st' := [.int (μ 104 ((nI 2).toNatClampNeg))]) (σ' := (rf_r α 90 (va_cpy (α 91) (α 90) i j n), μ)) (pc' := 26) kX12_move_20 rfl rfl (rf_a1 (rf_in_n (a := 2) rfl (by omega)) rf_a0) ?_
  try rw [(show (nI 2).toNatClampNeg = 2 from rf_cl_n rfl (by omega))]
  refine ok_if_eq bX12_move_26 (fun g26 => absurd g26 (h1)) (fun _ => ?_)
  refine ok_step (ps := [rf_in (nI 1) 4]) (L' := [some (.ref 94), some (.int (nI 2)), some (.int (nI i)), some (.int (nI 1)), some (.int (nI j)), some (.int (nI n)), none]) (st' := [.int (μ 104 ((nI 1).toNatClampNeg))]) (σ' := (rf_r α 90 (va_cpy (α 91) (α 90) i j n), μ)) (pc' := 35) kX12_move_29 rfl rfl (rf_a1 (rf_in_n (a := 1) rfl (by omega)) rf_a0) ?_
  try rw [(show (nI 1).toNatClampNeg = 1 from rf_cl_n rfl (by omega))]
  refine ok_if_ne bX12_move_35 (fun _ => ?_) (fun g35 => absurd g35 (h2))
  refine ok_step (ps := [rf_in (nI 2) 4, rf_in (nI 1) 4]) (L' := [some (.ref 94), some (.int (nI 2)), some (.int (nI i)), some (.int (nI 1)), some (.int (nI j)), some (.int (nI n)), none]) (st' := [.int (μ 104 ((nI 1).toNatClampNeg)), .int (μ 104 ((nI 2).toNatClampNeg))]) (σ' := (rf_r α 90 (va_cpy (α 91) (α 90) i j n), μ)) (pc' := 56) kX12_move_44 rfl rfl (rf_a1 (rf_in_n (a := 2) rfl (by omega)) (rf_a1 (rf_in_n (a := 1) rfl (by omega)) rf_a0)) ?_
  try rw [(show (nI 2).toNatClampNeg = 2 from rf_cl_n rfl (by omega))]
  try rw [(show (nI 1).toNatClampNeg = 1 from rf_cl_n rfl (by omega))]
  refine ok_icmp_eq bX12_move_56 (fun _ => ?_) (fun g56 => absurd (h3) g56)
  refine ok_step (ps := []) (L' := [some (.ref 94), some (.int (nI 2)), some (.int (nI i)), some (.int (nI 1)), some (.int (nI j)), some (.int (nI n)), none]) (st' := [.int (nI n)]) (σ' := (rf_r α 90 (va_cpy (α 91) (α 90) i j n), μ)) (pc' := 67) kX12_move_65 rfl rfl rf_a0 ?_
  refine ok_if_lt bX12_move_67 (fun g67 => absurd g67 (h4)) (fun _ => ?_)
  refine ok_step (ps := []) (L' := [some (.ref 94), some (.int (nI 2)), some (.int (nI i)), some (.int (nI 1)), some (.int (nI j)), some (.int (nI n)), none]) (st' := [.int (nI i)]) (σ' := (rf_r α 90 (va_cpy (α 91) (α 90) i j n), μ)) (pc' := 71) kX12_move_70 rfl rfl rf_a0 ?_
  refine ok_if_lt bX12_move_71 (fun g71 => absurd g71 (h5.1)) (fun _ => ?_)
  refine ok_step (ps := []) (L' := [some (.ref 94), some (.int (nI 2)), some (.int (nI i)), some (.int (nI 1)), some (.int (nI j)), some (.int (nI n)), none]) (st' := [.int (nI j)]) (σ' := (rf_r α 90 (va_cpy (α 91) (α 90) i j n), μ)) (pc' := 76) kX12_move_74 rfl rfl rf_a0 ?_
  refine ok_if_lt bX12_move_76 (fun g76 => absurd g76 (h6.1)) (fun _ => ?_)
  refine ok_step (ps := [rf_in (nI 2) 4]) (L' := [some (.ref 94), some (.int (nI 2)), some (.int (nI i)), some (.int (nI 1)), some (.int (nI j)), some (.int (nI n)), none]) (st' := [.int ((μ 105 ((nI 2).toNatClampNeg)) - (nI i)), .int (nI n)]) (σ' := (rf_r α 90 (va_cpy (α 91) (α 90) i j n), μ)) (pc' := 89) kX12_move_79 rfl rfl (rf_a1 (rf_in_n (a := 2) rfl (by omega)) rf_a0) ?_
  try rw [(show (nI 2).toNatClampNeg = 2 from rf_cl_n rfl (by omega))]
  refine ok_icmp_gt bX12_move_89 (fun g89 => absurd g89 (h5.2)) (fun _ => ?_)
  refine ok_step (ps := [rf_in (nI 1) 4]) (L' := [some (.ref 94), some (.int (nI 2)), some (.int (nI i)), some (.int (nI 1)), some (.int (nI j)), some (.int (nI n)), none]) (st' := [.int ((μ 105 ((nI 1).toNatClampNeg)) - (nI j)), .int (nI n)]) (σ' := (rf_r α 90 (va_cpy (α 91) (α 90) i j n), μ)) (pc' := 103) kX12_move_92 rfl rfl (rf_a1 (rf_in_n (a := 1) rfl (by omega)) rf_a0) ?_
  try rw [(show (nI 1).toNatClampNeg = 1 from rf_cl_n rfl (by omega))]
  refine ok_icmp_le bX12_move_103 (fun _ => ?_) (fun g103 => absurd (Int32.not_lt.mp h6.2) g103)
  refine ok_step (ps := []) (L' := [some (.ref 94), some (.int (nI 2)), some (.int (nI i)), some (.int (nI 1)), some (.int (nI j)), some (.int (nI n)), some (.int (nI 0))]) (st' := []) (σ' := (rf_r α 90 (va_cpy (α 91) (α 90) i j n), μ)) (pc' := 115) kX12_move_112 rfl rfl rf_a0 ?_
  have hm := m_mv1 (Ln := Ln) (xs := xs) (γ := rf_r α 90 (va_cpy (α 91) (α 90) i j n)) (μ := μ) (s := 2) (o := 1) (i := i) (j := j) (n := n) (by decide) (by decide) (by omega) (by omega) n 0 (by omega)
  rw [rfr_c0] at hm
  refine hm.mono (fun r t hq => ?_)
  obtain ⟨rfl, rfl⟩ := hq
  exact ⟨rfl, _, rfl, hJ.move (by decide) (by decide) (by omega) (by omega) rfl rfl⟩
theorem op_move_22 {i0 j0 n0 : Int32} (hJ : J α μ) (hg : mgood μ 2 2 i0 j0 n0) : Op (rf_T Ln xs) MX11_move MX12_move [some (.ref 0), some (.int (nI 2)), some (.int i0), some (.int (nI 2)), some (.int j0), some (.int n0)] [some (.ref 94), some (.int (nI 2)), some (.int i0), some (.int (nI 2)), some (.int j0), some (.int n0), none] α μ := by
  have hR := hJ.1.1.1
  have hI := hJ.2
  obtain ⟨h1, h2, h3, h4, h5, h6⟩ := hg
  obtain ⟨m1, hm1, e1⟩ := (hJ.1.2.2.2.2.2 2 (by decide)).2.2.1
  obtain ⟨m2, hm2, e2⟩ := (hJ.1.2.2.2.2.2 2 (by decide)).2.2.1
  have h5 := (mv_ok e1 hm1 h4).mp h5
  have h6 := (mv_ok e2 hm2 h4).mp h6
  obtain ⟨n, hn, rfl⟩ := ge_0 (Int32.not_lt.mp h4)
  obtain ⟨i, hi, rfl⟩ := ge_0 (Int32.not_lt.mp h5.1)
  obtain ⟨j, hj, rfl⟩ := ge_0 (Int32.not_lt.mp h6.1)
  have a1 := mv_nat e1 hm1 hi hn h5.2
  have a2 := mv_nat e2 hm2 hj hn h6.2
  refine ok_step (ps := []) (L' := [some (.ref 0), some (.int (nI 2)), some (.int (nI i)), some (.int (nI 2)), some (.int (nI j)), some (.int (nI n))]) (st' := [.int (nI 2), .ref 0]) (σ' := (α, μ)) (pc' := 2) kX11_move_0 rfl rfl rf_a0 ?_
  refine ok_V (As := [.int (nI 2)]) (b := 0) (st := []) mkX11_isSheet qX11_move_2 rfl (rc_0) rfl rfl rfl rfl (Nat.le_of_ble_eq_true rfl) (c_isSheet) ?_
  rw [show bI (wi (nI 2) (nI 0) (nI 3)) = nI 1 from rfl]
  refine ok_if_eq bX11_move_5 (fun h5 => absurd h5 ((by decide))) (fun _ => ?_)
  refine ok_step (ps := []) (L' := [some (.ref 0), some (.int (nI 2)), some (.int (nI i)), some (.int (nI 2)), some (.int (nI j)), some (.int (nI n))]) (st' := [.int (nI 2), .ref 0]) (σ' := (α, μ)) (pc' := 10) kX11_move_8 rfl rfl rf_a0 ?_
  refine ok_V (As := [.int (nI 2)]) (b := 0) (st := []) mkX11_isSheet qX11_move_10 rfl (rc_0) rfl rfl rfl rfl (Nat.le_of_ble_eq_true rfl) (c_isSheet) ?_
  rw [show bI (wi (nI 2) (nI 0) (nI 3)) = nI 1 from rfl]
  refine ok_if_ne bX11_move_13 (fun _ => ?_) (fun h13 => absurd h13 ((by decide)))
  refine ok_step (ps := [rf_in (nI 2) 4]) (L' := [some (.ref 0), some (.int (nI 2)), some (.int (nI i)), some (.int (nI 2)), some (.int (nI j)), some (.int (nI n))]) (st' := [.int (α 86 ((nI 2).toNatClampNeg))]) (σ' := (α, μ)) (pc' := 32) kX11_move_23 rfl rfl (rf_a1 (rf_in_n (a := 2) rfl (by omega)) rf_a0) ?_
  try rw [(show (nI 2).toNatClampNeg = 2 from rf_cl_n rfl (by omega))]
  try rw [(show α 86 2 = μ 104 2 from (hJ.1.2.2.2.2.2 _ (by omega)).1)]
  refine ok_if_eq bX11_move_32 (fun h32 => absurd h32 (h2)) (fun _ => ?_)
  refine ok_step (ps := [rf_in (nI 2) 4]) (L' := [some (.ref 0), some (.int (nI 2)), some (.int (nI i)), some (.int (nI 2)), some (.int (nI j)), some (.int (nI n))]) (st' := [.int (α 86 ((nI 2).toNatClampNeg))]) (σ' := (α, μ)) (pc' := 44) kX11_move_35 rfl rfl (rf_a1 (rf_in_n (a := 2) rfl (by omega)) rf_a0) ?_
  try rw [(show (nI 2).toNatClampNeg = 2 from rf_cl_n rfl (by omega))]
  try rw [(show α 86 2 = μ 104 2 from (hJ.1.2.2.2.2.2 _ (by omega)).1)]
  refine ok_if_ne bX11_move_44 (fun _ => ?_) (fun h44 => absurd h44 (h2))
  refine ok_step (ps := [rf_in (nI 2) 4, rf_in (nI 2) 4]) (L' := [some (.ref 0), some (.int (nI 2)), some (.int (nI i)), some (.int (nI 2)), some (.int (nI j)), some (.int (nI n))]) (st' := [.int (α 86 ((nI 2).toNatClampNeg)), .int (α 86 ((nI 2).toNatClampNeg))]) (σ' := (α, μ)) (pc' := 72) kX11_move_54 rfl rfl (rf_a1 (rf_in_n (a := 2) rfl (by omega)) (rf_a1 (rf_in_n (a := 2) rfl (by omega)) rf_a0)) ?_
  try rw [(show (nI 2).toNatClampNeg = 2 from rf_cl_n rfl (by omega))]
  try rw [(show α 86 2 = μ 104 2 from (hJ.1.2.2.2.2.2 _ (by omega)).1)]
  try rw [(show (nI 2).toNatClampNeg = 2 from rf_cl_n rfl (by omega))]
  try rw [(show α 86 2 = μ 104 2 from (hJ.1.2.2.2.2.2 _ (by omega)).1)]
  refine ok_icmp_eq bX11_move_72 (fun _ => ?_) (fun h72 => absurd (h3) h72)
  refine ok_step (ps := []) (L' := [some (.ref 0), some (.int (nI 2)), some (.int (nI i)), some (.int (nI 2)), some (.int (nI j)), some (.int (nI n))]) (st' := [.int (nI n)]) (σ' := (α, μ)) (pc' := 84) kX11_move_82 rfl rfl rf_a0 ?_
  refine ok_if_lt bX11_move_84 (fun h84 => absurd h84 (h4)) (fun _ => ?_)
  refine ok_step (ps := [rf_in (nI 2) 4]) (L' := [some (.ref 0), some (.int (nI 2)), some (.int (nI i)), some (.int (nI 2)), some (.int (nI j)), some (.int (nI n))]) (st' := [.int ((α 87 ((nI 2).toNatClampNeg)) - (nI n)), .int (nI 0), .int (nI i)]) (σ' := (α, μ)) (pc' := 101) kX11_move_87 rfl rfl (rf_a1 (rf_in_n (a := 2) rfl (by omega)) rf_a0) ?_
  try rw [(show (nI 2).toNatClampNeg = 2 from rf_cl_n rfl (by omega))]
  try rw [(show α 87 2 = μ 105 2 from (hJ.1.2.2.2.2.2 _ (by omega)).2.1)]
  refine ok_S (As := [.int (nI i), .int (nI 0), .int ((μ 105 2) - (nI n))]) (st := []) mkX11_within qX11_move_101 rfl rfl rfl rfl rfl (Nat.le_of_ble_eq_true rfl) (c_within) ?_
  refine ok_if_eq bX11_move_104 (fun h104 => absurd h104 (bI_n0.mpr ((mv_ok e1 hm1 h4).mpr h5))) (fun _ => ?_)
  refine ok_step (ps := [rf_in (nI 2) 4]) (L' := [some (.ref 0), some (.int (nI 2)), some (.int (nI i)), some (.int (nI 2)), some (.int (nI j)), some (.int (nI n))]) (st' := [.int ((α 87 ((nI 2).toNatClampNeg)) - (nI n)), .int (nI 0), .int (nI j)]) (σ' := (α, μ)) (pc' := 122) kX11_move_107 rfl rfl (rf_a1 (rf_in_n (a := 2) rfl (by omega)) rf_a0) ?_
  try rw [(show (nI 2).toNatClampNeg = 2 from rf_cl_n rfl (by omega))]
  try rw [(show α 87 2 = μ 105 2 from (hJ.1.2.2.2.2.2 _ (by omega)).2.1)]
  refine ok_S (As := [.int (nI j), .int (nI 0), .int ((μ 105 2) - (nI n))]) (st := []) mkX11_within qX11_move_122 rfl rfl rfl rfl rfl (Nat.le_of_ble_eq_true rfl) (c_within) ?_
  refine ok_if_ne bX11_move_125 (fun _ => ?_) (fun h125 => absurd h125 (bI_n0.mpr ((mv_ok e2 hm2 h4).mpr h6)))
  refine ok_step (ps := [rf_in (nI 2) 4, rf_in (nI 2) 4, rf_cp (nI i) (nI j) (nI n) 40 40]) (L' := [some (.ref 0), some (.int (nI 2)), some (.int (nI i)), some (.int (nI 2)), some (.int (nI j)), some (.int (nI n))]) (st' := [.int (nI n)]) (σ' := (rf_r α 91 (va_cpy (α 91) (α 91) ((nI i).toNatClampNeg) ((nI j).toNatClampNeg) ((nI n).toNatClampNeg)), μ)) (pc' := 163) kX11_move_135 rfl rfl (rf_a1 (rf_in_n (a := 2) rfl (by omega)) (rf_a1 (rf_in_n (a := 2) rfl (by omega)) (rf_a1 (by simp only [rf_cp, Bool.and_eq_true, decide_eq_true_eq]; refine ⟨⟨⟨⟨nI_pos' (by omega), nI_pos' (by omega)⟩, nI_pos' (by omega)⟩, ?_⟩, ?_⟩ <;> rw [nI_clamp (by omega), nI_clamp (by omega)] <;> omega) rf_a0))) ?_
  try rw [(show (nI i).toNatClampNeg = i from rf_cl_n rfl (by omega))]
  try rw [(show (nI j).toNatClampNeg = j from rf_cl_n rfl (by omega))]
  try rw [(show (nI n).toNatClampNeg = n from rf_cl_n rfl (by omega))]
  refine ok_reti eX11_move_163 rfl ?_
  refine ⟨rfl, _, rfl, ?_⟩
  refine ok_step (ps := []) (L' := [some (.ref 94), some (.int (nI 2)), some (.int (nI i)), some (.int (nI 2)), some (.int (nI j)), some (.int (nI n)), none]) (st' := [.int (nI 2)]) (σ' := (rf_r α 91 (va_cpy (α 91) (α 91) i j n), μ)) (pc' := 1) kX12_move_0 rfl rfl rf_a0 ?_
  refine ok_S (As := [.int (nI 2)]) (st := []) mkX12_isSheet qX12_move_1 rfl rfl rfl rfl rfl (Nat.le_of_ble_eq_true rfl) (m_isSheet) ?_
  rw [show bI (wi (nI 2) (nI 0) (nI 3)) = nI 1 from rfl]
  refine ok_if_eq bX12_move_4 (fun g4 => absurd g4 ((by decide))) (fun _ => ?_)
  refine ok_step (ps := []) (L' := [some (.ref 94), some (.int (nI 2)), some (.int (nI i)), some (.int (nI 2)), some (.int (nI j)), some (.int (nI n)), none]) (st' := [.int (nI 2)]) (σ' := (rf_r α 91 (va_cpy (α 91) (α 91) i j n), μ)) (pc' := 8) kX12_move_7 rfl rfl rf_a0 ?_
  refine ok_S (As := [.int (nI 2)]) (st := []) mkX12_isSheet qX12_move_8 rfl rfl rfl rfl rfl (Nat.le_of_ble_eq_true rfl) (m_isSheet) ?_
  rw [show bI (wi (nI 2) (nI 0) (nI 3)) = nI 1 from rfl]
  refine ok_if_ne bX12_move_11 (fun _ => ?_) (fun g11 => absurd g11 ((by decide)))
  refine ok_step (ps := [rf_in (nI 2) 4]) (L' := [some (.ref 94), some (.int (nI 2)), some (.int (nI i)), some (.int (nI 2)), some (.int (nI j)), some (.int (nI n)), none]) (st' := [.int (μ 104 ((nI 2).toNatClampNeg))]) (σ' := (rf_r α 91 (va_cpy (α 91) (α 91) i j n), μ)) (pc' := 26) kX12_move_20 rfl rfl (rf_a1 (rf_in_n (a := 2) rfl (by omega)) rf_a0) ?_
  try rw [(show (nI 2).toNatClampNeg = 2 from rf_cl_n rfl (by omega))]
  refine ok_if_eq bX12_move_26 (fun g26 => absurd g26 (h2)) (fun _ => ?_)
  refine ok_step (ps := [rf_in (nI 2) 4]) (L' := [some (.ref 94), some (.int (nI 2)), some (.int (nI i)), some (.int (nI 2)), some (.int (nI j)), some (.int (nI n)), none]) (st' := [.int (μ 104 ((nI 2).toNatClampNeg))]) (σ' := (rf_r α 91 (va_cpy (α 91) (α 91) i j n), μ)) (pc' := 35) kX12_move_29 rfl rfl (rf_a1 (rf_in_n (a := 2) rfl (by omega)) rf_a0) ?_
  try rw [(show (nI 2).toNatClampNeg = 2 from rf_cl_n rfl (by omega))]
  refine ok_if_ne bX12_move_35 (fun _ => ?_) (fun g35 => absurd g35 (h2))
  refine ok_step (ps := [rf_in (nI 2) 4, rf_in (nI 2) 4]) (L' := [some (.ref 94), some (.int (nI 2)), some (.int (nI i)), some (.int (nI 2)), some (.int (nI j)), some (.int (nI n)), none]) (st' := [.int (μ 104 ((nI 2).toNatClampNeg)), .int (μ 104 ((nI 2).toNatClampNeg))]) (σ' := (rf_r α 91 (va_cpy (α 91) (α 91) i j n), μ)) (pc' := 56) kX12_move_44 rfl rfl (rf_a1 (rf_in_n (a := 2) rfl (by omega)) (rf_a1 (rf_in_n (a := 2) rfl (by omega)) rf_a0)) ?_
  try rw [(show (nI 2).toNatClampNeg = 2 from rf_cl_n rfl (by omega))]
  refine ok_icmp_eq bX12_move_56 (fun _ => ?_) (fun g56 => absurd (h3) g56)
  refine ok_step (ps := []) (L' := [some (.ref 94), some (.int (nI 2)), some (.int (nI i)), some (.int (nI 2)), some (.int (nI j)), some (.int (nI n)), none]) (st' := [.int (nI n)]) (σ' := (rf_r α 91 (va_cpy (α 91) (α 91) i j n), μ)) (pc' := 67) kX12_move_65 rfl rfl rf_a0 ?_
  refine ok_if_lt bX12_move_67 (fun g67 => absurd g67 (h4)) (fun _ => ?_)
  refine ok_step (ps := []) (L' := [some (.ref 94), some (.int (nI 2)), some (.int (nI i)), some (.int (nI 2)), some (.int (nI j)), some (.int (nI n)), none]) (st' := [.int (nI i)]) (σ' := (rf_r α 91 (va_cpy (α 91) (α 91) i j n), μ)) (pc' := 71) kX12_move_70 rfl rfl rf_a0 ?_
  refine ok_if_lt bX12_move_71 (fun g71 => absurd g71 (h5.1)) (fun _ => ?_)
  refine ok_step (ps := []) (L' := [some (.ref 94), some (.int (nI 2)), some (.int (nI i)), some (.int (nI 2)), some (.int (nI j)), some (.int (nI n)), none]) (st' := [.int (nI j)]) (σ' := (rf_r α 91 (va_cpy (α 91) (α 91) i j n), μ)) (pc' := 76) kX12_move_74 rfl rfl rf_a0 ?_
  refine ok_if_lt bX12_move_76 (fun g76 => absurd g76 (h6.1)) (fun _ => ?_)
  refine ok_step (ps := [rf_in (nI 2) 4]) (L' := [some (.ref 94), some (.int (nI 2)), some (.int (nI i)), some (.int (nI 2)), some (.int (nI j)), some (.int (nI n)), none]) (st' := [.int ((μ 105 ((nI 2).toNatClampNeg)) - (nI i)), .int (nI n)]) (σ' := (rf_r α 91 (va_cpy (α 91) (α 91) i j n), μ)) (pc' := 89) kX12_move_79 rfl rfl (rf_a1 (rf_in_n (a := 2) rfl (by omega)) rf_a0) ?_
  try rw [(show (nI 2).toNatClampNeg = 2 from rf_cl_n rfl (by omega))]
  refine ok_icmp_gt bX12_move_89 (fun g89 => absurd g89 (h5.2)) (fun _ => ?_)
  refine ok_step (ps := [rf_in (nI 2) 4]) (L' := [some (.ref 94), some (.int (nI 2)), some (.int (nI i)), some (.int (nI 2)), some (.int (nI j)), some (.int (nI n)), none]) (st' := [.int ((μ 105 ((nI 2).toNatClampNeg)) - (nI j)), .int (nI n)]) (σ' := (rf_r α 91 (va_cpy (α 91) (α 91) i j n), μ)) (pc' := 103) kX12_move_92 rfl rfl (rf_a1 (rf_in_n (a := 2) rfl (by omega)) rf_a0) ?_
  try rw [(show (nI 2).toNatClampNeg = 2 from rf_cl_n rfl (by omega))]
  refine ok_icmp_le bX12_move_103 (fun _ => ?_) (fun g103 => absurd (Int32.not_lt.mp h6.2) g103)
  refine ok_step (ps := []) (L' := [some (.ref 94), some (.int (nI 2)), some (.int (nI i)), some (.int (nI 2)), some (.int (nI j)), some (.int (nI n)), some (.int (nI 0))]) (st' := []) (σ' := (rf_r α 91 (va_cpy (α 91) (α 91) i j n), μ)) (pc' := 115) kX12_move_112 rfl rfl rf_a0 ?_
  have hm := m_mv1 (Ln := Ln) (xs := xs) (γ := rf_r α 91 (va_cpy (α 91) (α 91) i j n)) (μ := μ) (s := 2) (o := 2) (i := i) (j := j) (n := n) (by decide) (by decide) (by omega) (by omega) n 0 (by omega)
  rw [rfr_c0] at hm
  refine hm.mono (fun r t hq => ?_)
  obtain ⟨rfl, rfl⟩ := hq
  exact ⟨rfl, _, rfl, hJ.move (by decide) (by decide) (by omega) (by omega) rfl rfl⟩
theorem op_move_23 {i0 j0 n0 : Int32} (hJ : J α μ) (hg : mgood μ 2 3 i0 j0 n0) : Op (rf_T Ln xs) MX11_move MX12_move [some (.ref 0), some (.int (nI 2)), some (.int i0), some (.int (nI 3)), some (.int j0), some (.int n0)] [some (.ref 94), some (.int (nI 2)), some (.int i0), some (.int (nI 3)), some (.int j0), some (.int n0), none] α μ := by
  have hR := hJ.1.1.1
  have hI := hJ.2
  obtain ⟨h1, h2, h3, h4, h5, h6⟩ := hg
  obtain ⟨m1, hm1, e1⟩ := (hJ.1.2.2.2.2.2 2 (by decide)).2.2.1
  obtain ⟨m2, hm2, e2⟩ := (hJ.1.2.2.2.2.2 3 (by decide)).2.2.1
  have h5 := (mv_ok e1 hm1 h4).mp h5
  have h6 := (mv_ok e2 hm2 h4).mp h6
  obtain ⟨n, hn, rfl⟩ := ge_0 (Int32.not_lt.mp h4)
  obtain ⟨i, hi, rfl⟩ := ge_0 (Int32.not_lt.mp h5.1)
  obtain ⟨j, hj, rfl⟩ := ge_0 (Int32.not_lt.mp h6.1)
  have a1 := mv_nat e1 hm1 hi hn h5.2
  have a2 := mv_nat e2 hm2 hj hn h6.2
  refine ok_step (ps := []) (L' := [some (.ref 0), some (.int (nI 2)), some (.int (nI i)), some (.int (nI 3)), some (.int (nI j)), some (.int (nI n))]) (st' := [.int (nI 2), .ref 0]) (σ' := (α, μ)) (pc' := 2) kX11_move_0 rfl rfl rf_a0 ?_
  refine ok_V (As := [.int (nI 2)]) (b := 0) (st := []) mkX11_isSheet qX11_move_2 rfl (rc_0) rfl rfl rfl rfl (Nat.le_of_ble_eq_true rfl) (c_isSheet) ?_
  rw [show bI (wi (nI 2) (nI 0) (nI 3)) = nI 1 from rfl]
  refine ok_if_eq bX11_move_5 (fun h5 => absurd h5 ((by decide))) (fun _ => ?_)
  refine ok_step (ps := []) (L' := [some (.ref 0), some (.int (nI 2)), some (.int (nI i)), some (.int (nI 3)), some (.int (nI j)), some (.int (nI n))]) (st' := [.int (nI 3), .ref 0]) (σ' := (α, μ)) (pc' := 10) kX11_move_8 rfl rfl rf_a0 ?_
  refine ok_V (As := [.int (nI 3)]) (b := 0) (st := []) mkX11_isSheet qX11_move_10 rfl (rc_0) rfl rfl rfl rfl (Nat.le_of_ble_eq_true rfl) (c_isSheet) ?_
  rw [show bI (wi (nI 3) (nI 0) (nI 3)) = nI 1 from rfl]
  refine ok_if_ne bX11_move_13 (fun _ => ?_) (fun h13 => absurd h13 ((by decide)))
  refine ok_step (ps := [rf_in (nI 2) 4]) (L' := [some (.ref 0), some (.int (nI 2)), some (.int (nI i)), some (.int (nI 3)), some (.int (nI j)), some (.int (nI n))]) (st' := [.int (α 86 ((nI 2).toNatClampNeg))]) (σ' := (α, μ)) (pc' := 32) kX11_move_23 rfl rfl (rf_a1 (rf_in_n (a := 2) rfl (by omega)) rf_a0) ?_
  try rw [(show (nI 2).toNatClampNeg = 2 from rf_cl_n rfl (by omega))]
  try rw [(show α 86 2 = μ 104 2 from (hJ.1.2.2.2.2.2 _ (by omega)).1)]
  refine ok_if_eq bX11_move_32 (fun h32 => absurd h32 (h1)) (fun _ => ?_)
  refine ok_step (ps := [rf_in (nI 3) 4]) (L' := [some (.ref 0), some (.int (nI 2)), some (.int (nI i)), some (.int (nI 3)), some (.int (nI j)), some (.int (nI n))]) (st' := [.int (α 86 ((nI 3).toNatClampNeg))]) (σ' := (α, μ)) (pc' := 44) kX11_move_35 rfl rfl (rf_a1 (rf_in_n (a := 3) rfl (by omega)) rf_a0) ?_
  try rw [(show (nI 3).toNatClampNeg = 3 from rf_cl_n rfl (by omega))]
  try rw [(show α 86 3 = μ 104 3 from (hJ.1.2.2.2.2.2 _ (by omega)).1)]
  refine ok_if_ne bX11_move_44 (fun _ => ?_) (fun h44 => absurd h44 (h2))
  refine ok_step (ps := [rf_in (nI 2) 4, rf_in (nI 3) 4]) (L' := [some (.ref 0), some (.int (nI 2)), some (.int (nI i)), some (.int (nI 3)), some (.int (nI j)), some (.int (nI n))]) (st' := [.int (α 86 ((nI 3).toNatClampNeg)), .int (α 86 ((nI 2).toNatClampNeg))]) (σ' := (α, μ)) (pc' := 72) kX11_move_54 rfl rfl (rf_a1 (rf_in_n (a := 2) rfl (by omega)) (rf_a1 (rf_in_n (a := 3) rfl (by omega)) rf_a0)) ?_
  try rw [(show (nI 2).toNatClampNeg = 2 from rf_cl_n rfl (by omega))]
  try rw [(show α 86 2 = μ 104 2 from (hJ.1.2.2.2.2.2 _ (by omega)).1)]
  try rw [(show (nI 3).toNatClampNeg = 3 from rf_cl_n rfl (by omega))]
  try rw [(show α 86 3 = μ 104 3 from (hJ.1.2.2.2.2.2 _ (by omega)).1)]
  refine ok_icmp_eq bX11_move_72 (fun _ => ?_) (fun h72 => absurd (h3) h72)
  refine ok_step (ps := []) (L' := [some (.ref 0), some (.int (nI 2)), some (.int (nI i)), some (.int (nI 3)), some (.int (nI j)), some (.int (nI n))]) (st' := [.int (nI n)]) (σ' := (α, μ)) (pc' := 84) kX11_move_82 rfl rfl rf_a0 ?_
  refine ok_if_lt bX11_move_84 (fun h84 => absurd h84 (h4)) (fun _ => ?_)
  refine ok_step (ps := [rf_in (nI 2) 4]) (L' := [some (.ref 0), some (.int (nI 2)), some (.int (nI i)), some (.int (nI 3)), some (.int (nI j)), some (.int (nI n))]) (st' := [.int ((α 87 ((nI 2).toNatClampNeg)) - (nI n)), .int (nI 0), .int (nI i)]) (σ' := (α, μ)) (pc' := 101) kX11_move_87 rfl rfl (rf_a1 (rf_in_n (a := 2) rfl (by omega)) rf_a0) ?_
  try rw [(show (nI 2).toNatClampNeg = 2 from rf_cl_n rfl (by omega))]
  try rw [(show α 87 2 = μ 105 2 from (hJ.1.2.2.2.2.2 _ (by omega)).2.1)]
  refine ok_S (As := [.int (nI i), .int (nI 0), .int ((μ 105 2) - (nI n))]) (st := []) mkX11_within qX11_move_101 rfl rfl rfl rfl rfl (Nat.le_of_ble_eq_true rfl) (c_within) ?_
  refine ok_if_eq bX11_move_104 (fun h104 => absurd h104 (bI_n0.mpr ((mv_ok e1 hm1 h4).mpr h5))) (fun _ => ?_)
  refine ok_step (ps := [rf_in (nI 3) 4]) (L' := [some (.ref 0), some (.int (nI 2)), some (.int (nI i)), some (.int (nI 3)), some (.int (nI j)), some (.int (nI n))]) (st' := [.int ((α 87 ((nI 3).toNatClampNeg)) - (nI n)), .int (nI 0), .int (nI j)]) (σ' := (α, μ)) (pc' := 122) kX11_move_107 rfl rfl (rf_a1 (rf_in_n (a := 3) rfl (by omega)) rf_a0) ?_
  try rw [(show (nI 3).toNatClampNeg = 3 from rf_cl_n rfl (by omega))]
  try rw [(show α 87 3 = μ 105 3 from (hJ.1.2.2.2.2.2 _ (by omega)).2.1)]
  refine ok_S (As := [.int (nI j), .int (nI 0), .int ((μ 105 3) - (nI n))]) (st := []) mkX11_within qX11_move_122 rfl rfl rfl rfl rfl (Nat.le_of_ble_eq_true rfl) (c_within) ?_
  refine ok_if_ne bX11_move_125 (fun _ => ?_) (fun h125 => absurd h125 (bI_n0.mpr ((mv_ok e2 hm2 h4).mpr h6)))
  refine ok_step (ps := [rf_in (nI 2) 4, rf_in (nI 3) 4, rf_cp (nI i) (nI j) (nI n) 40 40]) (L' := [some (.ref 0), some (.int (nI 2)), some (.int (nI i)), some (.int (nI 3)), some (.int (nI j)), some (.int (nI n))]) (st' := [.int (nI n)]) (σ' := (rf_r α 92 (va_cpy (α 91) (α 92) ((nI i).toNatClampNeg) ((nI j).toNatClampNeg) ((nI n).toNatClampNeg)), μ)) (pc' := 163) kX11_move_135 rfl rfl (rf_a1 (rf_in_n (a := 2) rfl (by omega)) (rf_a1 (rf_in_n (a := 3) rfl (by omega)) (rf_a1 (by simp only [rf_cp, Bool.and_eq_true, decide_eq_true_eq]; refine ⟨⟨⟨⟨nI_pos' (by omega), nI_pos' (by omega)⟩, nI_pos' (by omega)⟩, ?_⟩, ?_⟩ <;> rw [nI_clamp (by omega), nI_clamp (by omega)] <;> omega) rf_a0))) ?_
  try rw [(show (nI i).toNatClampNeg = i from rf_cl_n rfl (by omega))]
  try rw [(show (nI j).toNatClampNeg = j from rf_cl_n rfl (by omega))]
  try rw [(show (nI n).toNatClampNeg = n from rf_cl_n rfl (by omega))]
  refine ok_reti eX11_move_163 rfl ?_
  refine ⟨rfl, _, rfl, ?_⟩
  refine ok_step (ps := []) (L' := [some (.ref 94), some (.int (nI 2)), some (.int (nI i)), some (.int (nI 3)), some (.int (nI j)), some (.int (nI n)), none]) (st' := [.int (nI 2)]) (σ' := (rf_r α 92 (va_cpy (α 91) (α 92) i j n), μ)) (pc' := 1) kX12_move_0 rfl rfl rf_a0 ?_
  refine ok_S (As := [.int (nI 2)]) (st := []) mkX12_isSheet qX12_move_1 rfl rfl rfl rfl rfl (Nat.le_of_ble_eq_true rfl) (m_isSheet) ?_
  rw [show bI (wi (nI 2) (nI 0) (nI 3)) = nI 1 from rfl]
  refine ok_if_eq bX12_move_4 (fun g4 => absurd g4 ((by decide))) (fun _ => ?_)
  refine ok_step (ps := []) (L' := [some (.ref 94), some (.int (nI 2)), some (.int (nI i)), some (.int (nI 3)), some (.int (nI j)), some (.int (nI n)), none]) (st' := [.int (nI 3)]) (σ' := (rf_r α 92 (va_cpy (α 91) (α 92) i j n), μ)) (pc' := 8) kX12_move_7 rfl rfl rf_a0 ?_
  refine ok_S (As := [.int (nI 3)]) (st := []) mkX12_isSheet qX12_move_8 rfl rfl rfl rfl rfl (Nat.le_of_ble_eq_true rfl) (m_isSheet) ?_
  rw [show bI (wi (nI 3) (nI 0) (nI 3)) = nI 1 from rfl]
  refine ok_if_ne bX12_move_11 (fun _ => ?_) (fun g11 => absurd g11 ((by decide)))
  refine ok_step (ps := [rf_in (nI 2) 4]) (L' := [some (.ref 94), some (.int (nI 2)), some (.int (nI i)), some (.int (nI 3)), some (.int (nI j)), some (.int (nI n)), none]) (st' := [.int (μ 104 ((nI 2).toNatClampNeg))]) (σ' := (rf_r α 92 (va_cpy (α 91) (α 92) i j n), μ)) (pc' := 26) kX12_move_20 rfl rfl (rf_a1 (rf_in_n (a := 2) rfl (by omega)) rf_a0) ?_
  try rw [(show (nI 2).toNatClampNeg = 2 from rf_cl_n rfl (by omega))]
  refine ok_if_eq bX12_move_26 (fun g26 => absurd g26 (h1)) (fun _ => ?_)
  refine ok_step (ps := [rf_in (nI 3) 4]) (L' := [some (.ref 94), some (.int (nI 2)), some (.int (nI i)), some (.int (nI 3)), some (.int (nI j)), some (.int (nI n)), none]) (st' := [.int (μ 104 ((nI 3).toNatClampNeg))]) (σ' := (rf_r α 92 (va_cpy (α 91) (α 92) i j n), μ)) (pc' := 35) kX12_move_29 rfl rfl (rf_a1 (rf_in_n (a := 3) rfl (by omega)) rf_a0) ?_
  try rw [(show (nI 3).toNatClampNeg = 3 from rf_cl_n rfl (by omega))]
  refine ok_if_ne bX12_move_35 (fun _ => ?_) (fun g35 => absurd g35 (h2))
  refine ok_step (ps := [rf_in (nI 2) 4, rf_in (nI 3) 4]) (L' := [some (.ref 94), some (.int (nI 2)), some (.int (nI i)), some (.int (nI 3)), some (.int (nI j)), some (.int (nI n)), none]) (st' := [.int (μ 104 ((nI 3).toNatClampNeg)), .int (μ 104 ((nI 2).toNatClampNeg))]) (σ' := (rf_r α 92 (va_cpy (α 91) (α 92) i j n), μ)) (pc' := 56) kX12_move_44 rfl rfl (rf_a1 (rf_in_n (a := 2) rfl (by omega)) (rf_a1 (rf_in_n (a := 3) rfl (by omega)) rf_a0)) ?_
  try rw [(show (nI 2).toNatClampNeg = 2 from rf_cl_n rfl (by omega))]
  try rw [(show (nI 3).toNatClampNeg = 3 from rf_cl_n rfl (by omega))]
  refine ok_icmp_eq bX12_move_56 (fun _ => ?_) (fun g56 => absurd (h3) g56)
  refine ok_step (ps := []) (L' := [some (.ref 94), some (.int (nI 2)), some (.int (nI i)), some (.int (nI 3)), some (.int (nI j)), some (.int (nI n)), none]) (st' := [.int (nI n)]) (σ' := (rf_r α 92 (va_cpy (α 91) (α 92) i j n), μ)) (pc' := 67) kX12_move_65 rfl rfl rf_a0 ?_
  refine ok_if_lt bX12_move_67 (fun g67 => absurd g67 (h4)) (fun _ => ?_)
  refine ok_step (ps := []) (L' := [some (.ref 94), some (.int (nI 2)), some (.int (nI i)), some (.int (nI 3)), some (.int (nI j)), some (.int (nI n)), none]) (st' := [.int (nI i)]) (σ' := (rf_r α 92 (va_cpy (α 91) (α 92) i j n), μ)) (pc' := 71) kX12_move_70 rfl rfl rf_a0 ?_
  refine ok_if_lt bX12_move_71 (fun g71 => absurd g71 (h5.1)) (fun _ => ?_)
  refine ok_step (ps := []) (L' := [some (.ref 94), some (.int (nI 2)), some (.int (nI i)), some (.int (nI 3)), some (.int (nI j)), some (.int (nI n)), none]) (st' := [.int (nI j)]) (σ' := (rf_r α 92 (va_cpy (α 91) (α 92) i j n), μ)) (pc' := 76) kX12_move_74 rfl rfl rf_a0 ?_
  refine ok_if_lt bX12_move_76 (fun g76 => absurd g76 (h6.1)) (fun _ => ?_)
  refine ok_step (ps := [rf_in (nI 2) 4]) (L' := [some (.ref 94), some (.int (nI 2)), some (.int (nI i)), some (.int (nI 3)), some (.int (nI j)), some (.int (nI n)), none]) (st' := [.int ((μ 105 ((nI 2).toNatClampNeg)) - (nI i)), .int (nI n)]) (σ' := (rf_r α 92 (va_cpy (α 91) (α 92) i j n), μ)) (pc' := 89) kX12_move_79 rfl rfl (rf_a1 (rf_in_n (a := 2) rfl (by omega)) rf_a0) ?_
  try rw [(show (nI 2).toNatClampNeg = 2 from rf_cl_n rfl (by omega))]
  refine ok_icmp_gt bX12_move_89 (fun g89 => absurd g89 (h5.2)) (fun _ => ?_)
  refine ok_step (ps := [rf_in (nI 3) 4]) (L' := [some (.ref 94), some (.int (nI 2)), some (.int (nI i)), some (.int (nI 3)), some (.int (nI j)), some (.int (nI n)), none]) (st' := [.int ((μ 105 ((nI 3).toNatClampNeg)) - (nI j)), .int (nI n)]) (σ' := (rf_r α 92 (va_cpy (α 91) (α 92) i j n), μ)) (pc' := 103) kX12_move_92 rfl rfl (rf_a1 (rf_in_n (a := 3) rfl (by omega)) rf_a0) ?_
  try rw [(show (nI 3).toNatClampNeg = 3 from rf_cl_n rfl (by omega))]
  refine ok_icmp_le bX12_move_103 (fun _ => ?_) (fun g103 => absurd (Int32.not_lt.mp h6.2) g103)
  refine ok_step (ps := []) (L' := [some (.ref 94), some (.int (nI 2)), some (.int (nI i)), some (.int (nI 3)), some (.int (nI j)), some (.int (nI n)), some (.int (nI 0))]) (st' := []) (σ' := (rf_r α 92 (va_cpy (α 91) (α 92) i j n), μ)) (pc' := 115) kX12_move_112 rfl rfl rf_a0 ?_
  have hm := m_mv1 (Ln := Ln) (xs := xs) (γ := rf_r α 92 (va_cpy (α 91) (α 92) i j n)) (μ := μ) (s := 2) (o := 3) (i := i) (j := j) (n := n) (by decide) (by decide) (by omega) (by omega) n 0 (by omega)
  rw [rfr_c0] at hm
  refine hm.mono (fun r t hq => ?_)
  obtain ⟨rfl, rfl⟩ := hq
  exact ⟨rfl, _, rfl, hJ.move (by decide) (by decide) (by omega) (by omega) rfl rfl⟩
theorem op_move_30 {i0 j0 n0 : Int32} (hJ : J α μ) (hg : mgood μ 3 0 i0 j0 n0) : Op (rf_T Ln xs) MX11_move MX12_move [some (.ref 0), some (.int (nI 3)), some (.int i0), some (.int (nI 0)), some (.int j0), some (.int n0)] [some (.ref 94), some (.int (nI 3)), some (.int i0), some (.int (nI 0)), some (.int j0), some (.int n0), none] α μ := by
  have hR := hJ.1.1.1
  have hI := hJ.2
  obtain ⟨h1, h2, h3, h4, h5, h6⟩ := hg
  obtain ⟨m1, hm1, e1⟩ := (hJ.1.2.2.2.2.2 3 (by decide)).2.2.1
  obtain ⟨m2, hm2, e2⟩ := (hJ.1.2.2.2.2.2 0 (by decide)).2.2.1
  have h5 := (mv_ok e1 hm1 h4).mp h5
  have h6 := (mv_ok e2 hm2 h4).mp h6
  obtain ⟨n, hn, rfl⟩ := ge_0 (Int32.not_lt.mp h4)
  obtain ⟨i, hi, rfl⟩ := ge_0 (Int32.not_lt.mp h5.1)
  obtain ⟨j, hj, rfl⟩ := ge_0 (Int32.not_lt.mp h6.1)
  have a1 := mv_nat e1 hm1 hi hn h5.2
  have a2 := mv_nat e2 hm2 hj hn h6.2
  refine ok_step (ps := []) (L' := [some (.ref 0), some (.int (nI 3)), some (.int (nI i)), some (.int (nI 0)), some (.int (nI j)), some (.int (nI n))]) (st' := [.int (nI 3), .ref 0]) (σ' := (α, μ)) (pc' := 2) kX11_move_0 rfl rfl rf_a0 ?_
  refine ok_V (As := [.int (nI 3)]) (b := 0) (st := []) mkX11_isSheet qX11_move_2 rfl (rc_0) rfl rfl rfl rfl (Nat.le_of_ble_eq_true rfl) (c_isSheet) ?_
  rw [show bI (wi (nI 3) (nI 0) (nI 3)) = nI 1 from rfl]
  refine ok_if_eq bX11_move_5 (fun h5 => absurd h5 ((by decide))) (fun _ => ?_)
  refine ok_step (ps := []) (L' := [some (.ref 0), some (.int (nI 3)), some (.int (nI i)), some (.int (nI 0)), some (.int (nI j)), some (.int (nI n))]) (st' := [.int (nI 0), .ref 0]) (σ' := (α, μ)) (pc' := 10) kX11_move_8 rfl rfl rf_a0 ?_
  refine ok_V (As := [.int (nI 0)]) (b := 0) (st := []) mkX11_isSheet qX11_move_10 rfl (rc_0) rfl rfl rfl rfl (Nat.le_of_ble_eq_true rfl) (c_isSheet) ?_
  rw [show bI (wi (nI 0) (nI 0) (nI 3)) = nI 1 from rfl]
  refine ok_if_ne bX11_move_13 (fun _ => ?_) (fun h13 => absurd h13 ((by decide)))
  refine ok_step (ps := [rf_in (nI 3) 4]) (L' := [some (.ref 0), some (.int (nI 3)), some (.int (nI i)), some (.int (nI 0)), some (.int (nI j)), some (.int (nI n))]) (st' := [.int (α 86 ((nI 3).toNatClampNeg))]) (σ' := (α, μ)) (pc' := 32) kX11_move_23 rfl rfl (rf_a1 (rf_in_n (a := 3) rfl (by omega)) rf_a0) ?_
  try rw [(show (nI 3).toNatClampNeg = 3 from rf_cl_n rfl (by omega))]
  try rw [(show α 86 3 = μ 104 3 from (hJ.1.2.2.2.2.2 _ (by omega)).1)]
  refine ok_if_eq bX11_move_32 (fun h32 => absurd h32 (h1)) (fun _ => ?_)
  refine ok_step (ps := [rf_in (nI 0) 4]) (L' := [some (.ref 0), some (.int (nI 3)), some (.int (nI i)), some (.int (nI 0)), some (.int (nI j)), some (.int (nI n))]) (st' := [.int (α 86 ((nI 0).toNatClampNeg))]) (σ' := (α, μ)) (pc' := 44) kX11_move_35 rfl rfl (rf_a1 (rf_in_n (a := 0) rfl (by omega)) rf_a0) ?_
  try rw [(show (nI 0).toNatClampNeg = 0 from rf_cl_n rfl (by omega))]
  try rw [(show α 86 0 = μ 104 0 from (hJ.1.2.2.2.2.2 _ (by omega)).1)]
  refine ok_if_ne bX11_move_44 (fun _ => ?_) (fun h44 => absurd h44 (h2))
  refine ok_step (ps := [rf_in (nI 3) 4, rf_in (nI 0) 4]) (L' := [some (.ref 0), some (.int (nI 3)), some (.int (nI i)), some (.int (nI 0)), some (.int (nI j)), some (.int (nI n))]) (st' := [.int (α 86 ((nI 0).toNatClampNeg)), .int (α 86 ((nI 3).toNatClampNeg))]) (σ' := (α, μ)) (pc' := 72) kX11_move_54 rfl rfl (rf_a1 (rf_in_n (a := 3) rfl (by omega)) (rf_a1 (rf_in_n (a := 0) rfl (by omega)) rf_a0)) ?_
  try rw [(show (nI 3).toNatClampNeg = 3 from rf_cl_n rfl (by omega))]
  try rw [(show α 86 3 = μ 104 3 from (hJ.1.2.2.2.2.2 _ (by omega)).1)]
  try rw [(show (nI 0).toNatClampNeg = 0 from rf_cl_n rfl (by omega))]
  try rw [(show α 86 0 = μ 104 0 from (hJ.1.2.2.2.2.2 _ (by omega)).1)]
  refine ok_icmp_eq bX11_move_72 (fun _ => ?_) (fun h72 => absurd (h3) h72)
  refine ok_step (ps := []) (L' := [some (.ref 0), some (.int (nI 3)), some (.int (nI i)), some (.int (nI 0)), some (.int (nI j)), some (.int (nI n))]) (st' := [.int (nI n)]) (σ' := (α, μ)) (pc' := 84) kX11_move_82 rfl rfl rf_a0 ?_
  refine ok_if_lt bX11_move_84 (fun h84 => absurd h84 (h4)) (fun _ => ?_)
  refine ok_step (ps := [rf_in (nI 3) 4]) (L' := [some (.ref 0), some (.int (nI 3)), some (.int (nI i)), some (.int (nI 0)), some (.int (nI j)), some (.int (nI n))]) (st' := [.int ((α 87 ((nI 3).toNatClampNeg)) - (nI n)), .int (nI 0), .int (nI i)]) (σ' := (α, μ)) (pc' := 101) kX11_move_87 rfl rfl (rf_a1 (rf_in_n (a := 3) rfl (by omega)) rf_a0) ?_
  try rw [(show (nI 3).toNatClampNeg = 3 from rf_cl_n rfl (by omega))]
  try rw [(show α 87 3 = μ 105 3 from (hJ.1.2.2.2.2.2 _ (by omega)).2.1)]
  refine ok_S (As := [.int (nI i), .int (nI 0), .int ((μ 105 3) - (nI n))]) (st := []) mkX11_within qX11_move_101 rfl rfl rfl rfl rfl (Nat.le_of_ble_eq_true rfl) (c_within) ?_
  refine ok_if_eq bX11_move_104 (fun h104 => absurd h104 (bI_n0.mpr ((mv_ok e1 hm1 h4).mpr h5))) (fun _ => ?_)
  refine ok_step (ps := [rf_in (nI 0) 4]) (L' := [some (.ref 0), some (.int (nI 3)), some (.int (nI i)), some (.int (nI 0)), some (.int (nI j)), some (.int (nI n))]) (st' := [.int ((α 87 ((nI 0).toNatClampNeg)) - (nI n)), .int (nI 0), .int (nI j)]) (σ' := (α, μ)) (pc' := 122) kX11_move_107 rfl rfl (rf_a1 (rf_in_n (a := 0) rfl (by omega)) rf_a0) ?_
  try rw [(show (nI 0).toNatClampNeg = 0 from rf_cl_n rfl (by omega))]
  try rw [(show α 87 0 = μ 105 0 from (hJ.1.2.2.2.2.2 _ (by omega)).2.1)]
  refine ok_S (As := [.int (nI j), .int (nI 0), .int ((μ 105 0) - (nI n))]) (st := []) mkX11_within qX11_move_122 rfl rfl rfl rfl rfl (Nat.le_of_ble_eq_true rfl) (c_within) ?_
  refine ok_if_ne bX11_move_125 (fun _ => ?_) (fun h125 => absurd h125 (bI_n0.mpr ((mv_ok e2 hm2 h4).mpr h6)))
  refine ok_step (ps := [rf_in (nI 3) 4, rf_in (nI 0) 4, rf_cp (nI i) (nI j) (nI n) 40 40]) (L' := [some (.ref 0), some (.int (nI 3)), some (.int (nI i)), some (.int (nI 0)), some (.int (nI j)), some (.int (nI n))]) (st' := [.int (nI n)]) (σ' := (rf_r α 89 (va_cpy (α 92) (α 89) ((nI i).toNatClampNeg) ((nI j).toNatClampNeg) ((nI n).toNatClampNeg)), μ)) (pc' := 163) kX11_move_135 rfl rfl (rf_a1 (rf_in_n (a := 3) rfl (by omega)) (rf_a1 (rf_in_n (a := 0) rfl (by omega)) (rf_a1 (by simp only [rf_cp, Bool.and_eq_true, decide_eq_true_eq]; refine ⟨⟨⟨⟨nI_pos' (by omega), nI_pos' (by omega)⟩, nI_pos' (by omega)⟩, ?_⟩, ?_⟩ <;> rw [nI_clamp (by omega), nI_clamp (by omega)] <;> omega) rf_a0))) ?_
  try rw [(show (nI i).toNatClampNeg = i from rf_cl_n rfl (by omega))]
  try rw [(show (nI j).toNatClampNeg = j from rf_cl_n rfl (by omega))]
  try rw [(show (nI n).toNatClampNeg = n from rf_cl_n rfl (by omega))]
  refine ok_reti eX11_move_163 rfl ?_
  refine ⟨rfl, _, rfl, ?_⟩
  refine ok_step (ps := []) (L' := [some (.ref 94), some (.int (nI 3)), some (.int (nI i)), some (.int (nI 0)), some (.int (nI j)), some (.int (nI n)), none]) (st' := [.int (nI 3)]) (σ' := (rf_r α 89 (va_cpy (α 92) (α 89) i j n), μ)) (pc' := 1) kX12_move_0 rfl rfl rf_a0 ?_
  refine ok_S (As := [.int (nI 3)]) (st := []) mkX12_isSheet qX12_move_1 rfl rfl rfl rfl rfl (Nat.le_of_ble_eq_true rfl) (m_isSheet) ?_
  rw [show bI (wi (nI 3) (nI 0) (nI 3)) = nI 1 from rfl]
  refine ok_if_eq bX12_move_4 (fun g4 => absurd g4 ((by decide))) (fun _ => ?_)
  refine ok_step (ps := []) (L' := [some (.ref 94), some (.int (nI 3)), some (.int (nI i)), some (.int (nI 0)), some (.int (nI j)), some (.int (nI n)), none]) (st' := [.int (nI 0)]) (σ' := (rf_r α 89 (va_cpy (α 92) (α 89) i j n), μ)) (pc' := 8) kX12_move_7 rfl rfl rf_a0 ?_
  refine ok_S (As := [.int (nI 0)]) (st := []) mkX12_isSheet qX12_move_8 rfl rfl rfl rfl rfl (Nat.le_of_ble_eq_true rfl) (m_isSheet) ?_
  rw [show bI (wi (nI 0) (nI 0) (nI 3)) = nI 1 from rfl]
  refine ok_if_ne bX12_move_11 (fun _ => ?_) (fun g11 => absurd g11 ((by decide)))
  refine ok_step (ps := [rf_in (nI 3) 4]) (L' := [some (.ref 94), some (.int (nI 3)), some (.int (nI i)), some (.int (nI 0)), some (.int (nI j)), some (.int (nI n)), none]) (st' := [.int (μ 104 ((nI 3).toNatClampNeg))]) (σ' := (rf_r α 89 (va_cpy (α 92) (α 89) i j n), μ)) (pc' := 26) kX12_move_20 rfl rfl (rf_a1 (rf_in_n (a := 3) rfl (by omega)) rf_a0) ?_
  try rw [(show (nI 3).toNatClampNeg = 3 from rf_cl_n rfl (by omega))]
  refine ok_if_eq bX12_move_26 (fun g26 => absurd g26 (h1)) (fun _ => ?_)
  refine ok_step (ps := [rf_in (nI 0) 4]) (L' := [some (.ref 94), some (.int (nI 3)), some (.int (nI i)), some (.int (nI 0)), some (.int (nI j)), some (.int (nI n)), none]) (st' := [.int (μ 104 ((nI 0).toNatClampNeg))]) (σ' := (rf_r α 89 (va_cpy (α 92) (α 89) i j n), μ)) (pc' := 35) kX12_move_29 rfl rfl (rf_a1 (rf_in_n (a := 0) rfl (by omega)) rf_a0) ?_
  try rw [(show (nI 0).toNatClampNeg = 0 from rf_cl_n rfl (by omega))]
  refine ok_if_ne bX12_move_35 (fun _ => ?_) (fun g35 => absurd g35 (h2))
  refine ok_step (ps := [rf_in (nI 3) 4, rf_in (nI 0) 4]) (L' := [some (.ref 94), some (.int (nI 3)), some (.int (nI i)), some (.int (nI 0)), some (.int (nI j)), some (.int (nI n)), none]) (st' := [.int (μ 104 ((nI 0).toNatClampNeg)), .int (μ 104 ((nI 3).toNatClampNeg))]) (σ' := (rf_r α 89 (va_cpy (α 92) (α 89) i j n), μ)) (pc' := 56) kX12_move_44 rfl rfl (rf_a1 (rf_in_n (a := 3) rfl (by omega)) (rf_a1 (rf_in_n (a := 0) rfl (by omega)) rf_a0)) ?_
  try rw [(show (nI 3).toNatClampNeg = 3 from rf_cl_n rfl (by omega))]
  try rw [(show (nI 0).toNatClampNeg = 0 from rf_cl_n rfl (by omega))]
  refine ok_icmp_eq bX12_move_56 (fun _ => ?_) (fun g56 => absurd (h3) g56)
  refine ok_step (ps := []) (L' := [some (.ref 94), some (.int (nI 3)), some (.int (nI i)), some (.int (nI 0)), some (.int (nI j)), some (.int (nI n)), none]) (st' := [.int (nI n)]) (σ' := (rf_r α 89 (va_cpy (α 92) (α 89) i j n), μ)) (pc' := 67) kX12_move_65 rfl rfl rf_a0 ?_
  refine ok_if_lt bX12_move_67 (fun g67 => absurd g67 (h4)) (fun _ => ?_)
  refine ok_step (ps := []) (L' := [some (.ref 94), some (.int (nI 3)), some (.int (nI i)), some (.int (nI 0)), some (.int (nI j)), some (.int (nI n)), none]) (st' := [.int (nI i)]) (σ' := (rf_r α 89 (va_cpy (α 92) (α 89) i j n), μ)) (pc' := 71) kX12_move_70 rfl rfl rf_a0 ?_
  refine ok_if_lt bX12_move_71 (fun g71 => absurd g71 (h5.1)) (fun _ => ?_)
  refine ok_step (ps := []) (L' := [some (.ref 94), some (.int (nI 3)), some (.int (nI i)), some (.int (nI 0)), some (.int (nI j)), some (.int (nI n)), none]) (st' := [.int (nI j)]) (σ' := (rf_r α 89 (va_cpy (α 92) (α 89) i j n), μ)) (pc' := 76) kX12_move_74 rfl rfl rf_a0 ?_
  refine ok_if_lt bX12_move_76 (fun g76 => absurd g76 (h6.1)) (fun _ => ?_)
  refine ok_step (ps := [rf_in (nI 3) 4]) (L' := [some (.ref 94), some (.int (nI 3)), some (.int (nI i)), some (.int (nI 0)), some (.int (nI j)), some (.int (nI n)), none]) (st' := [.int ((μ 105 ((nI 3).toNatClampNeg)) - (nI i)), .int (nI n)]) (σ' := (rf_r α 89 (va_cpy (α 92) (α 89) i j n), μ)) (pc' := 89) kX12_move_79 rfl rfl (rf_a1 (rf_in_n (a := 3) rfl (by omega)) rf_a0) ?_
  try rw [(show (nI 3).toNatClampNeg = 3 from rf_cl_n rfl (by omega))]
  refine ok_icmp_gt bX12_move_89 (fun g89 => absurd g89 (h5.2)) (fun _ => ?_)
  refine ok_step (ps := [rf_in (nI 0) 4]) (L' := [some (.ref 94), some (.int (nI 3)), some (.int (nI i)), some (.int (nI 0)), some (.int (nI j)), some (.int (nI n)), none]) (st' := [.int ((μ 105 ((nI 0).toNatClampNeg)) - (nI j)), .int (nI n)]) (σ' := (rf_r α 89 (va_cpy (α 92) (α 89) i j n), μ)) (pc' := 103) kX12_move_92 rfl rfl (rf_a1 (rf_in_n (a := 0) rfl (by omega)) rf_a0) ?_
  try rw [(show (nI 0).toNatClampNeg = 0 from rf_cl_n rfl (by omega))]
  refine ok_icmp_le bX12_move_103 (fun _ => ?_) (fun g103 => absurd (Int32.not_lt.mp h6.2) g103)
  refine ok_step (ps := []) (L' := [some (.ref 94), some (.int (nI 3)), some (.int (nI i)), some (.int (nI 0)), some (.int (nI j)), some (.int (nI n)), some (.int (nI 0))]) (st' := []) (σ' := (rf_r α 89 (va_cpy (α 92) (α 89) i j n), μ)) (pc' := 115) kX12_move_112 rfl rfl rf_a0 ?_
  have hm := m_mv1 (Ln := Ln) (xs := xs) (γ := rf_r α 89 (va_cpy (α 92) (α 89) i j n)) (μ := μ) (s := 3) (o := 0) (i := i) (j := j) (n := n) (by decide) (by decide) (by omega) (by omega) n 0 (by omega)
  rw [rfr_c0] at hm
  refine hm.mono (fun r t hq => ?_)
  obtain ⟨rfl, rfl⟩ := hq
  exact ⟨rfl, _, rfl, hJ.move (by decide) (by decide) (by omega) (by omega) rfl rfl⟩
theorem op_move_31 {i0 j0 n0 : Int32} (hJ : J α μ) (hg : mgood μ 3 1 i0 j0 n0) : Op (rf_T Ln xs) MX11_move MX12_move [some (.ref 0), some (.int (nI 3)), some (.int i0), some (.int (nI 1)), some (.int j0), some (.int n0)] [some (.ref 94), some (.int (nI 3)), some (.int i0), some (.int (nI 1)), some (.int j0), some (.int n0), none] α μ := by
  have hR := hJ.1.1.1
  have hI := hJ.2
  obtain ⟨h1, h2, h3, h4, h5, h6⟩ := hg
  obtain ⟨m1, hm1, e1⟩ := (hJ.1.2.2.2.2.2 3 (by decide)).2.2.1
  obtain ⟨m2, hm2, e2⟩ := (hJ.1.2.2.2.2.2 1 (by decide)).2.2.1
  have h5 := (mv_ok e1 hm1 h4).mp h5
  have h6 := (mv_ok e2 hm2 h4).mp h6
  obtain ⟨n, hn, rfl⟩ := ge_0 (Int32.not_lt.mp h4)
  obtain ⟨i, hi, rfl⟩ := ge_0 (Int32.not_lt.mp h5.1)
  obtain ⟨j, hj, rfl⟩ := ge_0 (Int32.not_lt.mp h6.1)
  have a1 := mv_nat e1 hm1 hi hn h5.2
  have a2 := mv_nat e2 hm2 hj hn h6.2
  refine ok_step (ps := []) (L' := [some (.ref 0), some (.int (nI 3)), some (.int (nI i)), some (.int (nI 1)), some (.int (nI j)), some (.int (nI n))]) (st' := [.int (nI 3), .ref 0]) (σ' := (α, μ)) (pc' := 2) kX11_move_0 rfl rfl rf_a0 ?_
  refine ok_V (As := [.int (nI 3)]) (b := 0) (st := []) mkX11_isSheet qX11_move_2 rfl (rc_0) rfl rfl rfl rfl (Nat.le_of_ble_eq_true rfl) (c_isSheet) ?_
  rw [show bI (wi (nI 3) (nI 0) (nI 3)) = nI 1 from rfl]
  refine ok_if_eq bX11_move_5 (fun h5 => absurd h5 ((by decide))) (fun _ => ?_)
  refine ok_step (ps := []) (L' := [some (.ref 0), some (.int (nI 3)), some (.int (nI i)), some (.int (nI 1)), some (.int (nI j)), some (.int (nI n))]) (st' := [.int (nI 1), .ref 0]) (σ' := (α, μ)) (pc' := 10) kX11_move_8 rfl rfl rf_a0 ?_
  refine ok_V (As := [.int (nI 1)]) (b := 0) (st := []) mkX11_isSheet qX11_move_10 rfl (rc_0) rfl rfl rfl rfl (Nat.le_of_ble_eq_true rfl) (c_isSheet) ?_
  rw [show bI (wi (nI 1) (nI 0) (nI 3)) = nI 1 from rfl]
  refine ok_if_ne bX11_move_13 (fun _ => ?_) (fun h13 => absurd h13 ((by decide)))
  refine ok_step (ps := [rf_in (nI 3) 4]) (L' := [some (.ref 0), some (.int (nI 3)), some (.int (nI i)), some (.int (nI 1)), some (.int (nI j)), some (.int (nI n))]) (st' := [.int (α 86 ((nI 3).toNatClampNeg))]) (σ' := (α, μ)) (pc' := 32) kX11_move_23 rfl rfl (rf_a1 (rf_in_n (a := 3) rfl (by omega)) rf_a0) ?_
  try rw [(show (nI 3).toNatClampNeg = 3 from rf_cl_n rfl (by omega))]
  try rw [(show α 86 3 = μ 104 3 from (hJ.1.2.2.2.2.2 _ (by omega)).1)]
  refine ok_if_eq bX11_move_32 (fun h32 => absurd h32 (h1)) (fun _ => ?_)
  refine ok_step (ps := [rf_in (nI 1) 4]) (L' := [some (.ref 0), some (.int (nI 3)), some (.int (nI i)), some (.int (nI 1)), some (.int (nI j)), some (.int (nI n))]) (st' := [.int (α 86 ((nI 1).toNatClampNeg))]) (σ' := (α, μ)) (pc' := 44) kX11_move_35 rfl rfl (rf_a1 (rf_in_n (a := 1) rfl (by omega)) rf_a0) ?_
  try rw [(show (nI 1).toNatClampNeg = 1 from rf_cl_n rfl (by omega))]
  try rw [(show α 86 1 = μ 104 1 from (hJ.1.2.2.2.2.2 _ (by omega)).1)]
  refine ok_if_ne bX11_move_44 (fun _ => ?_) (fun h44 => absurd h44 (h2))
  refine ok_step (ps := [rf_in (nI 3) 4, rf_in (nI 1) 4]) (L' := [some (.ref 0), some (.int (nI 3)), some (.int (nI i)), some (.int (nI 1)), some (.int (nI j)), some (.int (nI n))]) (st' := [.int (α 86 ((nI 1).toNatClampNeg)), .int (α 86 ((nI 3).toNatClampNeg))]) (σ' := (α, μ)) (pc' := 72) kX11_move_54 rfl rfl (rf_a1 (rf_in_n (a := 3) rfl (by omega)) (rf_a1 (rf_in_n (a := 1) rfl (by omega)) rf_a0)) ?_
  try rw [(show (nI 3).toNatClampNeg = 3 from rf_cl_n rfl (by omega))]
  try rw [(show α 86 3 = μ 104 3 from (hJ.1.2.2.2.2.2 _ (by omega)).1)]
  try rw [(show (nI 1).toNatClampNeg = 1 from rf_cl_n rfl (by omega))]
  try rw [(show α 86 1 = μ 104 1 from (hJ.1.2.2.2.2.2 _ (by omega)).1)]
  refine ok_icmp_eq bX11_move_72 (fun _ => ?_) (fun h72 => absurd (h3) h72)
  refine ok_step (ps := []) (L' := [some (.ref 0), some (.int (nI 3)), some (.int (nI i)), some (.int (nI 1)), some (.int (nI j)), some (.int (nI n))]) (st' := [.int (nI n)]) (σ' := (α, μ)) (pc' := 84) kX11_move_82 rfl rfl rf_a0 ?_
  refine ok_if_lt bX11_move_84 (fun h84 => absurd h84 (h4)) (fun _ => ?_)
  refine ok_step (ps := [rf_in (nI 3) 4]) (L' := [some (.ref 0), some (.int (nI 3)), some (.int (nI i)), some (.int (nI 1)), some (.int (nI j)), some (.int (nI n))]) (st' := [.int ((α 87 ((nI 3).toNatClampNeg)) - (nI n)), .int (nI 0), .int (nI i)]) (σ' := (α, μ)) (pc' := 101) kX11_move_87 rfl rfl (rf_a1 (rf_in_n (a := 3) rfl (by omega)) rf_a0) ?_
  try rw [(show (nI 3).toNatClampNeg = 3 from rf_cl_n rfl (by omega))]
  try rw [(show α 87 3 = μ 105 3 from (hJ.1.2.2.2.2.2 _ (by omega)).2.1)]
  refine ok_S (As := [.int (nI i), .int (nI 0), .int ((μ 105 3) - (nI n))]) (st := []) mkX11_within qX11_move_101 rfl rfl rfl rfl rfl (Nat.le_of_ble_eq_true rfl) (c_within) ?_
  refine ok_if_eq bX11_move_104 (fun h104 => absurd h104 (bI_n0.mpr ((mv_ok e1 hm1 h4).mpr h5))) (fun _ => ?_)
  refine ok_step (ps := [rf_in (nI 1) 4]) (L' := [some (.ref 0), some (.int (nI 3)), some (.int (nI i)), some (.int (nI 1)), some (.int (nI j)), some (.int (nI n))]) (st' := [.int ((α 87 ((nI 1).toNatClampNeg)) - (nI n)), .int (nI 0), .int (nI j)]) (σ' := (α, μ)) (pc' := 122) kX11_move_107 rfl rfl (rf_a1 (rf_in_n (a := 1) rfl (by omega)) rf_a0) ?_
  try rw [(show (nI 1).toNatClampNeg = 1 from rf_cl_n rfl (by omega))]
  try rw [(show α 87 1 = μ 105 1 from (hJ.1.2.2.2.2.2 _ (by omega)).2.1)]
  refine ok_S (As := [.int (nI j), .int (nI 0), .int ((μ 105 1) - (nI n))]) (st := []) mkX11_within qX11_move_122 rfl rfl rfl rfl rfl (Nat.le_of_ble_eq_true rfl) (c_within) ?_
  refine ok_if_ne bX11_move_125 (fun _ => ?_) (fun h125 => absurd h125 (bI_n0.mpr ((mv_ok e2 hm2 h4).mpr h6)))
  refine ok_step (ps := [rf_in (nI 3) 4, rf_in (nI 1) 4, rf_cp (nI i) (nI j) (nI n) 40 40]) (L' := [some (.ref 0), some (.int (nI 3)), some (.int (nI i)), some (.int (nI 1)), some (.int (nI j)), some (.int (nI n))]) (st' := [.int (nI n)]) (σ' := (rf_r α 90 (va_cpy (α 92) (α 90) ((nI i).toNatClampNeg) ((nI j).toNatClampNeg) ((nI n).toNatClampNeg)), μ)) (pc' := 163) kX11_move_135 rfl rfl (rf_a1 (rf_in_n (a := 3) rfl (by omega)) (rf_a1 (rf_in_n (a := 1) rfl (by omega)) (rf_a1 (by simp only [rf_cp, Bool.and_eq_true, decide_eq_true_eq]; refine ⟨⟨⟨⟨nI_pos' (by omega), nI_pos' (by omega)⟩, nI_pos' (by omega)⟩, ?_⟩, ?_⟩ <;> rw [nI_clamp (by omega), nI_clamp (by omega)] <;> omega) rf_a0))) ?_
  try rw [(show (nI i).toNatClampNeg = i from rf_cl_n rfl (by omega))]
  try rw [(show (nI j).toNatClampNeg = j from rf_cl_n rfl (by omega))]
  try rw [(show (nI n).toNatClampNeg = n from rf_cl_n rfl (by omega))]
  refine ok_reti eX11_move_163 rfl ?_
  refine ⟨rfl, _, rfl, ?_⟩
  refine ok_step (ps := []) (L' := [some (.ref 94), some (.int (nI 3)), some (.int (nI i)), some (.int (nI 1)), some (.int (nI j)), some (.int (nI n)), none]) (st' := [.int (nI 3)]) (σ' := (rf_r α 90 (va_cpy (α 92) (α 90) i j n), μ)) (pc' := 1) kX12_move_0 rfl rfl rf_a0 ?_
  refine ok_S (As := [.int (nI 3)]) (st := []) mkX12_isSheet qX12_move_1 rfl rfl rfl rfl rfl (Nat.le_of_ble_eq_true rfl) (m_isSheet) ?_
  rw [show bI (wi (nI 3) (nI 0) (nI 3)) = nI 1 from rfl]
  refine ok_if_eq bX12_move_4 (fun g4 => absurd g4 ((by decide))) (fun _ => ?_)
  refine ok_step (ps := []) (L' := [some (.ref 94), some (.int (nI 3)), some (.int (nI i)), some (.int (nI 1)), some (.int (nI j)), some (.int (nI n)), none]) (st' := [.int (nI 1)]) (σ' := (rf_r α 90 (va_cpy (α 92) (α 90) i j n), μ)) (pc' := 8) kX12_move_7 rfl rfl rf_a0 ?_
  refine ok_S (As := [.int (nI 1)]) (st := []) mkX12_isSheet qX12_move_8 rfl rfl rfl rfl rfl (Nat.le_of_ble_eq_true rfl) (m_isSheet) ?_
  rw [show bI (wi (nI 1) (nI 0) (nI 3)) = nI 1 from rfl]
  refine ok_if_ne bX12_move_11 (fun _ => ?_) (fun g11 => absurd g11 ((by decide)))
  refine ok_step (ps := [rf_in (nI 3) 4]) (L' := [some (.ref 94), some (.int (nI 3)), some (.int (nI i)), some (.int (nI 1)), some (.int (nI j)), some (.int (nI n)), none]) (st' := [.int (μ 104 ((nI 3).toNatClampNeg))]) (σ' := (rf_r α 90 (va_cpy (α 92) (α 90) i j n), μ)) (pc' := 26) kX12_move_20 rfl rfl (rf_a1 (rf_in_n (a := 3) rfl (by omega)) rf_a0) ?_
  try rw [(show (nI 3).toNatClampNeg = 3 from rf_cl_n rfl (by omega))]
  refine ok_if_eq bX12_move_26 (fun g26 => absurd g26 (h1)) (fun _ => ?_)
  refine ok_step (ps := [rf_in (nI 1) 4]) (L' := [some (.ref 94), some (.int (nI 3)), some (.int (nI i)), some (.int (nI 1)), some (.int (nI j)), some (.int (nI n)), none]) (st' := [.int (μ 104 ((nI 1).toNatClampNeg))]) (σ' := (rf_r α 90 (va_cpy (α 92) (α 90) i j n), μ)) (pc' := 35) kX12_move_29 rfl rfl (rf_a1 (rf_in_n (a := 1) rfl (by omega)) rf_a0) ?_
  try rw [(show (nI 1).toNatClampNeg = 1 from rf_cl_n rfl (by omega))]
  refine ok_if_ne bX12_move_35 (fun _ => ?_) (fun g35 => absurd g35 (h2))
  refine ok_step (ps := [rf_in (nI 3) 4, rf_in (nI 1) 4]) (L' := [some (.ref 94), some (.int (nI 3)), some (.int (nI i)), some (.int (nI 1)), some (.int (nI j)), some (.int (nI n)), none]) (st' := [.int (μ 104 ((nI 1).toNatClampNeg)), .int (μ 104 ((nI 3).toNatClampNeg))]) (σ' := (rf_r α 90 (va_cpy (α 92) (α 90) i j n), μ)) (pc' := 56) kX12_move_44 rfl rfl (rf_a1 (rf_in_n (a := 3) rfl (by omega)) (rf_a1 (rf_in_n (a := 1) rfl (by omega)) rf_a0)) ?_
  try rw [(show (nI 3).toNatClampNeg = 3 from rf_cl_n rfl (by omega))]
  try rw [(show (nI 1).toNatClampNeg = 1 from rf_cl_n rfl (by omega))]
  refine ok_icmp_eq bX12_move_56 (fun _ => ?_) (fun g56 => absurd (h3) g56)
  refine ok_step (ps := []) (L' := [some (.ref 94), some (.int (nI 3)), some (.int (nI i)), some (.int (nI 1)), some (.int (nI j)), some (.int (nI n)), none]) (st' := [.int (nI n)]) (σ' := (rf_r α 90 (va_cpy (α 92) (α 90) i j n), μ)) (pc' := 67) kX12_move_65 rfl rfl rf_a0 ?_
  refine ok_if_lt bX12_move_67 (fun g67 => absurd g67 (h4)) (fun _ => ?_)
  refine ok_step (ps := []) (L' := [some (.ref 94), some (.int (nI 3)), some (.int (nI i)), some (.int (nI 1)), some (.int (nI j)), some (.int (nI n)), none]) (st' := [.int (nI i)]) (σ' := (rf_r α 90 (va_cpy (α 92) (α 90) i j n), μ)) (pc' := 71) kX12_move_70 rfl rfl rf_a0 ?_
  refine ok_if_lt bX12_move_71 (fun g71 => absurd g71 (h5.1)) (fun _ => ?_)
  refine ok_step (ps := []) (L' := [some (.ref 94), some (.int (nI 3)), some (.int (nI i)), some (.int (nI 1)), some (.int (nI j)), some (.int (nI n)), none]) (st' := [.int (nI j)]) (σ' := (rf_r α 90 (va_cpy (α 92) (α 90) i j n), μ)) (pc' := 76) kX12_move_74 rfl rfl rf_a0 ?_
  refine ok_if_lt bX12_move_76 (fun g76 => absurd g76 (h6.1)) (fun _ => ?_)
  refine ok_step (ps := [rf_in (nI 3) 4]) (L' := [some (.ref 94), some (.int (nI 3)), some (.int (nI i)), some (.int (nI 1)), some (.int (nI j)), some (.int (nI n)), none]) (st' := [.int ((μ 105 ((nI 3).toNatClampNeg)) - (nI i)), .int (nI n)]) (σ' := (rf_r α 90 (va_cpy (α 92) (α 90) i j n), μ)) (pc' := 89) kX12_move_79 rfl rfl (rf_a1 (rf_in_n (a := 3) rfl (by omega)) rf_a0) ?_
  try rw [(show (nI 3).toNatClampNeg = 3 from rf_cl_n rfl (by omega))]
  refine ok_icmp_gt bX12_move_89 (fun g89 => absurd g89 (h5.2)) (fun _ => ?_)
  refine ok_step (ps := [rf_in (nI 1) 4]) (L' := [some (.ref 94), some (.int (nI 3)), some (.int (nI i)), some (.int (nI 1)), some (.int (nI j)), some (.int (nI n)), none]) (st' := [.int ((μ 105 ((nI 1).toNatClampNeg)) - (nI j)), .int (nI n)]) (σ' := (rf_r α 90 (va_cpy (α 92) (α 90) i j n), μ)) (pc' := 103) kX12_move_92 rfl rfl (rf_a1 (rf_in_n (a := 1) rfl (by omega)) rf_a0) ?_
  try rw [(show (nI 1).toNatClampNeg = 1 from rf_cl_n rfl (by omega))]
  refine ok_icmp_le bX12_move_103 (fun _ => ?_) (fun g103 => absurd (Int32.not_lt.mp h6.2) g103)
  refine ok_step (ps := []) (L' := [some (.ref 94), some (.int (nI 3)), some (.int (nI i)), some (.int (nI 1)), some (.int (nI j)), some (.int (nI n)), some (.int (nI 0))]) (st' := []) (σ' := (rf_r α 90 (va_cpy (α 92) (α 90) i j n), μ)) (pc' := 115) kX12_move_112 rfl rfl rf_a0 ?_
  have hm := m_mv1 (Ln := Ln) (xs := xs) (γ := rf_r α 90 (va_cpy (α 92) (α 90) i j n)) (μ := μ) (s := 3) (o := 1) (i := i) (j := j) (n := n) (by decide) (by decide) (by omega) (by omega) n 0 (by omega)
  rw [rfr_c0] at hm
  refine hm.mono (fun r t hq => ?_)
  obtain ⟨rfl, rfl⟩ := hq
  exact ⟨rfl, _, rfl, hJ.move (by decide) (by decide) (by omega) (by omega) rfl rfl⟩
theorem op_move_32 {i0 j0 n0 : Int32} (hJ : J α μ) (hg : mgood μ 3 2 i0 j0 n0) : Op (rf_T Ln xs) MX11_move MX12_move [some (.ref 0), some (.int (nI 3)), some (.int i0), some (.int (nI 2)), some (.int j0), some (.int n0)] [some (.ref 94), some (.int (nI 3)), some (.int i0), some (.int (nI 2)), some (.int j0), some (.int n0), none] α μ := by
  have hR := hJ.1.1.1
  have hI := hJ.2
  obtain ⟨h1, h2, h3, h4, h5, h6⟩ := hg
  obtain ⟨m1, hm1, e1⟩ := (hJ.1.2.2.2.2.2 3 (by decide)).2.2.1
  obtain ⟨m2, hm2, e2⟩ := (hJ.1.2.2.2.2.2 2 (by decide)).2.2.1
  have h5 := (mv_ok e1 hm1 h4).mp h5
  have h6 := (mv_ok e2 hm2 h4).mp h6
  obtain ⟨n, hn, rfl⟩ := ge_0 (Int32.not_lt.mp h4)
  obtain ⟨i, hi, rfl⟩ := ge_0 (Int32.not_lt.mp h5.1)
  obtain ⟨j, hj, rfl⟩ := ge_0 (Int32.not_lt.mp h6.1)
  have a1 := mv_nat e1 hm1 hi hn h5.2
  have a2 := mv_nat e2 hm2 hj hn h6.2
  refine ok_step (ps := []) (L' := [some (.ref 0), some (.int (nI 3)), some (.int (nI i)), some (.int (nI 2)), some (.int (nI j)), some (.int (nI n))]) (st' := [.int (nI 3), .ref 0]) (σ' := (α, μ)) (pc' := 2) kX11_move_0 rfl rfl rf_a0 ?_
  refine ok_V (As := [.int (nI 3)]) (b := 0) (st := []) mkX11_isSheet qX11_move_2 rfl (rc_0) rfl rfl rfl rfl (Nat.le_of_ble_eq_true rfl) (c_isSheet) ?_
  rw [show bI (wi (nI 3) (nI 0) (nI 3)) = nI 1 from rfl]
  refine ok_if_eq bX11_move_5 (fun h5 => absurd h5 ((by decide))) (fun _ => ?_)
  refine ok_step (ps := []) (L' := [some (.ref 0), some (.int (nI 3)), some (.int (nI i)), some (.int (nI 2)), some (.int (nI j)), some (.int (nI n))]) (st' := [.int (nI 2), .ref 0]) (σ' := (α, μ)) (pc' := 10) kX11_move_8 rfl rfl rf_a0 ?_
  refine ok_V (As := [.int (nI 2)]) (b := 0) (st := []) mkX11_isSheet qX11_move_10 rfl (rc_0) rfl rfl rfl rfl (Nat.le_of_ble_eq_true rfl) (c_isSheet) ?_
  rw [show bI (wi (nI 2) (nI 0) (nI 3)) = nI 1 from rfl]
  refine ok_if_ne bX11_move_13 (fun _ => ?_) (fun h13 => absurd h13 ((by decide)))
  refine ok_step (ps := [rf_in (nI 3) 4]) (L' := [some (.ref 0), some (.int (nI 3)), some (.int (nI i)), some (.int (nI 2)), some (.int (nI j)), some (.int (nI n))]) (st' := [.int (α 86 ((nI 3).toNatClampNeg))]) (σ' := (α, μ)) (pc' := 32) kX11_move_23 rfl rfl (rf_a1 (rf_in_n (a := 3) rfl (by omega)) rf_a0) ?_
  try rw [(show (nI 3).toNatClampNeg = 3 from rf_cl_n rfl (by omega))]
  try rw [(show α 86 3 = μ 104 3 from (hJ.1.2.2.2.2.2 _ (by omega)).1)]
  refine ok_if_eq bX11_move_32 (fun h32 => absurd h32 (h1)) (fun _ => ?_)
  refine ok_step (ps := [rf_in (nI 2) 4]) (L' := [some (.ref 0), some (.int (nI 3)), some (.int (nI i)), some (.int (nI 2)), some (.int (nI j)), some (.int (nI n))]) (st' := [.int (α 86 ((nI 2).toNatClampNeg))]) (σ' := (α, μ)) (pc' := 44) kX11_move_35 rfl rfl (rf_a1 (rf_in_n (a := 2) rfl (by omega)) rf_a0) ?_
  try rw [(show (nI 2).toNatClampNeg = 2 from rf_cl_n rfl (by omega))]
  try rw [(show α 86 2 = μ 104 2 from (hJ.1.2.2.2.2.2 _ (by omega)).1)]
  refine ok_if_ne bX11_move_44 (fun _ => ?_) (fun h44 => absurd h44 (h2))
  refine ok_step (ps := [rf_in (nI 3) 4, rf_in (nI 2) 4]) (L' := [some (.ref 0), some (.int (nI 3)), some (.int (nI i)), some (.int (nI 2)), some (.int (nI j)), some (.int (nI n))]) (st' := [.int (α 86 ((nI 2).toNatClampNeg)), .int (α 86 ((nI 3).toNatClampNeg))]) (σ' := (α, μ)) (pc' := 72) kX11_move_54 rfl rfl (rf_a1 (rf_in_n (a := 3) rfl (by omega)) (rf_a1 (rf_in_n (a := 2) rfl (by omega)) rf_a0)) ?_
  try rw [(show (nI 3).toNatClampNeg = 3 from rf_cl_n rfl (by omega))]
  try rw [(show α 86 3 = μ 104 3 from (hJ.1.2.2.2.2.2 _ (by omega)).1)]
  try rw [(show (nI 2).toNatClampNeg = 2 from rf_cl_n rfl (by omega))]
  try rw [(show α 86 2 = μ 104 2 from (hJ.1.2.2.2.2.2 _ (by omega)).1)]
  refine ok_icmp_eq bX11_move_72 (fun _ => ?_) (fun h72 => absurd (h3) h72)
  refine ok_step (ps := []) (L' := [some (.ref 0), some (.int (nI 3)), some (.int (nI i)), some (.int (nI 2)), some (.int (nI j)), some (.int (nI n))]) (st' := [.int (nI n)]) (σ' := (α, μ)) (pc' := 84) kX11_move_82 rfl rfl rf_a0 ?_
  refine ok_if_lt bX11_move_84 (fun h84 => absurd h84 (h4)) (fun _ => ?_)
  refine ok_step (ps := [rf_in (nI 3) 4]) (L' := [some (.ref 0), some (.int (nI 3)), some (.int (nI i)), some (.int (nI 2)), some (.int (nI j)), some (.int (nI n))]) (st' := [.int ((α 87 ((nI 3).toNatClampNeg)) - (nI n)), .int (nI 0), .int (nI i)]) (σ' := (α, μ)) (pc' := 101) kX11_move_87 rfl rfl (rf_a1 (rf_in_n (a := 3) rfl (by omega)) rf_a0) ?_
  try rw [(show (nI 3).toNatClampNeg = 3 from rf_cl_n rfl (by omega))]
  try rw [(show α 87 3 = μ 105 3 from (hJ.1.2.2.2.2.2 _ (by omega)).2.1)]
  refine ok_S (As := [.int (nI i), .int (nI 0), .int ((μ 105 3) - (nI n))]) (st := []) mkX11_within qX11_move_101 rfl rfl rfl rfl rfl (Nat.le_of_ble_eq_true rfl) (c_within) ?_
  refine ok_if_eq bX11_move_104 (fun h104 => absurd h104 (bI_n0.mpr ((mv_ok e1 hm1 h4).mpr h5))) (fun _ => ?_)
  refine ok_step (ps := [rf_in (nI 2) 4]) (L' := [some (.ref 0), some (.int (nI 3)), some (.int (nI i)), some (.int (nI 2)), some (.int (nI j)), some (.int (nI n))]) (st' := [.int ((α 87 ((nI 2).toNatClampNeg)) - (nI n)), .int (nI 0), .int (nI j)]) (σ' := (α, μ)) (pc' := 122) kX11_move_107 rfl rfl (rf_a1 (rf_in_n (a := 2) rfl (by omega)) rf_a0) ?_
  try rw [(show (nI 2).toNatClampNeg = 2 from rf_cl_n rfl (by omega))]
  try rw [(show α 87 2 = μ 105 2 from (hJ.1.2.2.2.2.2 _ (by omega)).2.1)]
  refine ok_S (As := [.int (nI j), .int (nI 0), .int ((μ 105 2) - (nI n))]) (st := []) mkX11_within qX11_move_122 rfl rfl rfl rfl rfl (Nat.le_of_ble_eq_true rfl) (c_within) ?_
  refine ok_if_ne bX11_move_125 (fun _ => ?_) (fun h125 => absurd h125 (bI_n0.mpr ((mv_ok e2 hm2 h4).mpr h6)))
  refine ok_step (ps := [rf_in (nI 3) 4, rf_in (nI 2) 4, rf_cp (nI i) (nI j) (nI n) 40 40]) (L' := [some (.ref 0), some (.int (nI 3)), some (.int (nI i)), some (.int (nI 2)), some (.int (nI j)), some (.int (nI n))]) (st' := [.int (nI n)]) (σ' := (rf_r α 91 (va_cpy (α 92) (α 91) ((nI i).toNatClampNeg) ((nI j).toNatClampNeg) ((nI n).toNatClampNeg)), μ)) (pc' := 163) kX11_move_135 rfl rfl (rf_a1 (rf_in_n (a := 3) rfl (by omega)) (rf_a1 (rf_in_n (a := 2) rfl (by omega)) (rf_a1 (by simp only [rf_cp, Bool.and_eq_true, decide_eq_true_eq]; refine ⟨⟨⟨⟨nI_pos' (by omega), nI_pos' (by omega)⟩, nI_pos' (by omega)⟩, ?_⟩, ?_⟩ <;> rw [nI_clamp (by omega), nI_clamp (by omega)] <;> omega) rf_a0))) ?_
  try rw [(show (nI i).toNatClampNeg = i from rf_cl_n rfl (by omega))]
  try rw [(show (nI j).toNatClampNeg = j from rf_cl_n rfl (by omega))]
  try rw [(show (nI n).toNatClampNeg = n from rf_cl_n rfl (by omega))]
  refine ok_reti eX11_move_163 rfl ?_
  refine ⟨rfl, _, rfl, ?_⟩
  refine ok_step (ps := []) (L' := [some (.ref 94), some (.int (nI 3)), some (.int (nI i)), some (.int (nI 2)), some (.int (nI j)), some (.int (nI n)), none]) (st' := [.int (nI 3)]) (σ' := (rf_r α 91 (va_cpy (α 92) (α 91) i j n), μ)) (pc' := 1) kX12_move_0 rfl rfl rf_a0 ?_
  refine ok_S (As := [.int (nI 3)]) (st := []) mkX12_isSheet qX12_move_1 rfl rfl rfl rfl rfl (Nat.le_of_ble_eq_true rfl) (m_isSheet) ?_
  rw [show bI (wi (nI 3) (nI 0) (nI 3)) = nI 1 from rfl]
  refine ok_if_eq bX12_move_4 (fun g4 => absurd g4 ((by decide))) (fun _ => ?_)
  refine ok_step (ps := []) (L' := [some (.ref 94), some (.int (nI 3)), some (.int (nI i)), some (.int (nI 2)), some (.int (nI j)), some (.int (nI n)), none]) (st' := [.int (nI 2)]) (σ' := (rf_r α 91 (va_cpy (α 92) (α 91) i j n), μ)) (pc' := 8) kX12_move_7 rfl rfl rf_a0 ?_
  refine ok_S (As := [.int (nI 2)]) (st := []) mkX12_isSheet qX12_move_8 rfl rfl rfl rfl rfl (Nat.le_of_ble_eq_true rfl) (m_isSheet) ?_
  rw [show bI (wi (nI 2) (nI 0) (nI 3)) = nI 1 from rfl]
  refine ok_if_ne bX12_move_11 (fun _ => ?_) (fun g11 => absurd g11 ((by decide)))
  refine ok_step (ps := [rf_in (nI 3) 4]) (L' := [some (.ref 94), some (.int (nI 3)), some (.int (nI i)), some (.int (nI 2)), some (.int (nI j)), some (.int (nI n)), none]) (st' := [.int (μ 104 ((nI 3).toNatClampNeg))]) (σ' := (rf_r α 91 (va_cpy (α 92) (α 91) i j n), μ)) (pc' := 26) kX12_move_20 rfl rfl (rf_a1 (rf_in_n (a := 3) rfl (by omega)) rf_a0) ?_
  try rw [(show (nI 3).toNatClampNeg = 3 from rf_cl_n rfl (by omega))]
  refine ok_if_eq bX12_move_26 (fun g26 => absurd g26 (h1)) (fun _ => ?_)
  refine ok_step (ps := [rf_in (nI 2) 4]) (L' := [some (.ref 94), some (.int (nI 3)), some (.int (nI i)), some (.int (nI 2)), some (.int (nI j)), some (.int (nI n)), none]) (st' := [.int (μ 104 ((nI 2).toNatClampNeg))]) (σ' := (rf_r α 91 (va_cpy (α 92) (α 91) i j n), μ)) (pc' := 35) kX12_move_29 rfl rfl (rf_a1 (rf_in_n (a := 2) rfl (by omega)) rf_a0) ?_
  try rw [(show (nI 2).toNatClampNeg = 2 from rf_cl_n rfl (by omega))]
  refine ok_if_ne bX12_move_35 (fun _ => ?_) (fun g35 => absurd g35 (h2))
  refine ok_step (ps := [rf_in (nI 3) 4, rf_in (nI 2) 4]) (L' := [some (.ref 94), some (.int (nI 3)), some (.int (nI i)), some (.int (nI 2)), some (.int (nI j)), some (.int (nI n)), none]) (st' := [.int (μ 104 ((nI 2).toNatClampNeg)), .int (μ 104 ((nI 3).toNatClampNeg))]) (σ' := (rf_r α 91 (va_cpy (α 92) (α 91) i j n), μ)) (pc' := 56) kX12_move_44 rfl rfl (rf_a1 (rf_in_n (a := 3) rfl (by omega)) (rf_a1 (rf_in_n (a := 2) rfl (by omega)) rf_a0)) ?_
  try rw [(show (nI 3).toNatClampNeg = 3 from rf_cl_n rfl (by omega))]
  try rw [(show (nI 2).toNatClampNeg = 2 from rf_cl_n rfl (by omega))]
  refine ok_icmp_eq bX12_move_56 (fun _ => ?_) (fun g56 => absurd (h3) g56)
  refine ok_step (ps := []) (L' := [some (.ref 94), some (.int (nI 3)), some (.int (nI i)), some (.int (nI 2)), some (.int (nI j)), some (.int (nI n)), none]) (st' := [.int (nI n)]) (σ' := (rf_r α 91 (va_cpy (α 92) (α 91) i j n), μ)) (pc' := 67) kX12_move_65 rfl rfl rf_a0 ?_
  refine ok_if_lt bX12_move_67 (fun g67 => absurd g67 (h4)) (fun _ => ?_)
  refine ok_step (ps := []) (L' := [some (.ref 94), some (.int (nI 3)), some (.int (nI i)), some (.int (nI 2)), some (.int (nI j)), some (.int (nI n)), none]) (st' := [.int (nI i)]) (σ' := (rf_r α 91 (va_cpy (α 92) (α 91) i j n), μ)) (pc' := 71) kX12_move_70 rfl rfl rf_a0 ?_
  refine ok_if_lt bX12_move_71 (fun g71 => absurd g71 (h5.1)) (fun _ => ?_)
  refine ok_step (ps := []) (L' := [some (.ref 94), some (.int (nI 3)), some (.int (nI i)), some (.int (nI 2)), some (.int (nI j)), some (.int (nI n)), none]) (st' := [.int (nI j)]) (σ' := (rf_r α 91 (va_cpy (α 92) (α 91) i j n), μ)) (pc' := 76) kX12_move_74 rfl rfl rf_a0 ?_
  refine ok_if_lt bX12_move_76 (fun g76 => absurd g76 (h6.1)) (fun _ => ?_)
  refine ok_step (ps := [rf_in (nI 3) 4]) (L' := [some (.ref 94), some (.int (nI 3)), some (.int (nI i)), some (.int (nI 2)), some (.int (nI j)), some (.int (nI n)), none]) (st' := [.int ((μ 105 ((nI 3).toNatClampNeg)) - (nI i)), .int (nI n)]) (σ' := (rf_r α 91 (va_cpy (α 92) (α 91) i j n), μ)) (pc' := 89) kX12_move_79 rfl rfl (rf_a1 (rf_in_n (a := 3) rfl (by omega)) rf_a0) ?_
  try rw [(show (nI 3).toNatClampNeg = 3 from rf_cl_n rfl (by omega))]
  refine ok_icmp_gt bX12_move_89 (fun g89 => absurd g89 (h5.2)) (fun _ => ?_)
  refine ok_step (ps := [rf_in (nI 2) 4]) (L' := [some (.ref 94), some (.int (nI 3)), some (.int (nI i)), some (.int (nI 2)), some (.int (nI j)), some (.int (nI n)), none]) (st' := [.int ((μ 105 ((nI 2).toNatClampNeg)) - (nI j)), .int (nI n)]) (σ' := (rf_r α 91 (va_cpy (α 92) (α 91) i j n), μ)) (pc' := 103) kX12_move_92 rfl rfl (rf_a1 (rf_in_n (a := 2) rfl (by omega)) rf_a0) ?_
  try rw [(show (nI 2).toNatClampNeg = 2 from rf_cl_n rfl (by omega))]
  refine ok_icmp_le bX12_move_103 (fun _ => ?_) (fun g103 => absurd (Int32.not_lt.mp h6.2) g103)
  refine ok_step (ps := []) (L' := [some (.ref 94), some (.int (nI 3)), some (.int (nI i)), some (.int (nI 2)), some (.int (nI j)), some (.int (nI n)), some (.int (nI 0))]) (st' := []) (σ' := (rf_r α 91 (va_cpy (α 92) (α 91) i j n), μ)) (pc' := 115) kX12_move_112 rfl rfl rf_a0 ?_
  have hm := m_mv1 (Ln := Ln) (xs := xs) (γ := rf_r α 91 (va_cpy (α 92) (α 91) i j n)) (μ := μ) (s := 3) (o := 2) (i := i) (j := j) (n := n) (by decide) (by decide) (by omega) (by omega) n 0 (by omega)
  rw [rfr_c0] at hm
  refine hm.mono (fun r t hq => ?_)
  obtain ⟨rfl, rfl⟩ := hq
  exact ⟨rfl, _, rfl, hJ.move (by decide) (by decide) (by omega) (by omega) rfl rfl⟩
theorem op_move_33 {i0 j0 n0 : Int32} (hJ : J α μ) (hg : mgood μ 3 3 i0 j0 n0) : Op (rf_T Ln xs) MX11_move MX12_move [some (.ref 0), some (.int (nI 3)), some (.int i0), some (.int (nI 3)), some (.int j0), some (.int n0)] [some (.ref 94), some (.int (nI 3)), some (.int i0), some (.int (nI 3)), some (.int j0), some (.int n0), none] α μ := by
  have hR := hJ.1.1.1
  have hI := hJ.2
  obtain ⟨h1, h2, h3, h4, h5, h6⟩ := hg
  obtain ⟨m1, hm1, e1⟩ := (hJ.1.2.2.2.2.2 3 (by decide)).2.2.1
  obtain ⟨m2, hm2, e2⟩ := (hJ.1.2.2.2.2.2 3 (by decide)).2.2.1
  have h5 := (mv_ok e1 hm1 h4).mp h5
  have h6 := (mv_ok e2 hm2 h4).mp h6
  obtain ⟨n, hn, rfl⟩ := ge_0 (Int32.not_lt.mp h4)
  obtain ⟨i, hi, rfl⟩ := ge_0 (Int32.not_lt.mp h5.1)
  obtain ⟨j, hj, rfl⟩ := ge_0 (Int32.not_lt.mp h6.1)
  have a1 := mv_nat e1 hm1 hi hn h5.2
  have a2 := mv_nat e2 hm2 hj hn h6.2
  refine ok_step (ps := []) (L' := [some (.ref 0), some (.int (nI 3)), some (.int (nI i)), some (.int (nI 3)), some (.int (nI j)), some (.int (nI n))]) (st' := [.int (nI 3), .ref 0]) (σ' := (α, μ)) (pc' := 2) kX11_move_0 rfl rfl rf_a0 ?_
  refine ok_V (As := [.int (nI 3)]) (b := 0) (st := []) mkX11_isSheet qX11_move_2 rfl (rc_0) rfl rfl rfl rfl (Nat.le_of_ble_eq_true rfl) (c_isSheet) ?_
  rw [show bI (wi (nI 3) (nI 0) (nI 3)) = nI 1 from rfl]
  refine ok_if_eq bX11_move_5 (fun h5 => absurd h5 ((by decide))) (fun _ => ?_)
  refine ok_step (ps := []) (L' := [some (.ref 0), some (.int (nI 3)), some (.int (nI i)), some (.int (nI 3)), some (.int (nI j)), some (.int (nI n))]) (st' := [.int (nI 3), .ref 0]) (σ' := (α, μ)) (pc' := 10) kX11_move_8 rfl rfl rf_a0 ?_
  refine ok_V (As := [.int (nI 3)]) (b := 0) (st := []) mkX11_isSheet qX11_move_10 rfl (rc_0) rfl rfl rfl rfl (Nat.le_of_ble_eq_true rfl) (c_isSheet) ?_
  rw [show bI (wi (nI 3) (nI 0) (nI 3)) = nI 1 from rfl]
  refine ok_if_ne bX11_move_13 (fun _ => ?_) (fun h13 => absurd h13 ((by decide)))
  refine ok_step (ps := [rf_in (nI 3) 4]) (L' := [some (.ref 0), some (.int (nI 3)), some (.int (nI i)), some (.int (nI 3)), some (.int (nI j)), some (.int (nI n))]) (st' := [.int (α 86 ((nI 3).toNatClampNeg))]) (σ' := (α, μ)) (pc' := 32) kX11_move_23 rfl rfl (rf_a1 (rf_in_n (a := 3) rfl (by omega)) rf_a0) ?_
  try rw [(show (nI 3).toNatClampNeg = 3 from rf_cl_n rfl (by omega))]
  try rw [(show α 86 3 = μ 104 3 from (hJ.1.2.2.2.2.2 _ (by omega)).1)]
  refine ok_if_eq bX11_move_32 (fun h32 => absurd h32 (h2)) (fun _ => ?_)
  refine ok_step (ps := [rf_in (nI 3) 4]) (L' := [some (.ref 0), some (.int (nI 3)), some (.int (nI i)), some (.int (nI 3)), some (.int (nI j)), some (.int (nI n))]) (st' := [.int (α 86 ((nI 3).toNatClampNeg))]) (σ' := (α, μ)) (pc' := 44) kX11_move_35 rfl rfl (rf_a1 (rf_in_n (a := 3) rfl (by omega)) rf_a0) ?_
  try rw [(show (nI 3).toNatClampNeg = 3 from rf_cl_n rfl (by omega))]
  try rw [(show α 86 3 = μ 104 3 from (hJ.1.2.2.2.2.2 _ (by omega)).1)]
  refine ok_if_ne bX11_move_44 (fun _ => ?_) (fun h44 => absurd h44 (h2))
  refine ok_step (ps := [rf_in (nI 3) 4, rf_in (nI 3) 4]) (L' := [some (.ref 0), some (.int (nI 3)), some (.int (nI i)), some (.int (nI 3)), some (.int (nI j)), some (.int (nI n))]) (st' := [.int (α 86 ((nI 3).toNatClampNeg)), .int (α 86 ((nI 3).toNatClampNeg))]) (σ' := (α, μ)) (pc' := 72) kX11_move_54 rfl rfl (rf_a1 (rf_in_n (a := 3) rfl (by omega)) (rf_a1 (rf_in_n (a := 3) rfl (by omega)) rf_a0)) ?_
  try rw [(show (nI 3).toNatClampNeg = 3 from rf_cl_n rfl (by omega))]
  try rw [(show α 86 3 = μ 104 3 from (hJ.1.2.2.2.2.2 _ (by omega)).1)]
  try rw [(show (nI 3).toNatClampNeg = 3 from rf_cl_n rfl (by omega))]
  try rw [(show α 86 3 = μ 104 3 from (hJ.1.2.2.2.2.2 _ (by omega)).1)]
  refine ok_icmp_eq bX11_move_72 (fun _ => ?_) (fun h72 => absurd (h3) h72)
  refine ok_step (ps := []) (L' := [some (.ref 0), some (.int (nI 3)), some (.int (nI i)), some (.int (nI 3)), some (.int (nI j)), some (.int (nI n))]) (st' := [.int (nI n)]) (σ' := (α, μ)) (pc' := 84) kX11_move_82 rfl rfl rf_a0 ?_
  refine ok_if_lt bX11_move_84 (fun h84 => absurd h84 (h4)) (fun _ => ?_)
  refine ok_step (ps := [rf_in (nI 3) 4]) (L' := [some (.ref 0), some (.int (nI 3)), some (.int (nI i)), some (.int (nI 3)), some (.int (nI j)), some (.int (nI n))]) (st' := [.int ((α 87 ((nI 3).toNatClampNeg)) - (nI n)), .int (nI 0), .int (nI i)]) (σ' := (α, μ)) (pc' := 101) kX11_move_87 rfl rfl (rf_a1 (rf_in_n (a := 3) rfl (by omega)) rf_a0) ?_
  try rw [(show (nI 3).toNatClampNeg = 3 from rf_cl_n rfl (by omega))]
  try rw [(show α 87 3 = μ 105 3 from (hJ.1.2.2.2.2.2 _ (by omega)).2.1)]
  refine ok_S (As := [.int (nI i), .int (nI 0), .int ((μ 105 3) - (nI n))]) (st := []) mkX11_within qX11_move_101 rfl rfl rfl rfl rfl (Nat.le_of_ble_eq_true rfl) (c_within) ?_
  refine ok_if_eq bX11_move_104 (fun h104 => absurd h104 (bI_n0.mpr ((mv_ok e1 hm1 h4).mpr h5))) (fun _ => ?_)
  refine ok_step (ps := [rf_in (nI 3) 4]) (L' := [some (.ref 0), some (.int (nI 3)), some (.int (nI i)), some (.int (nI 3)), some (.int (nI j)), some (.int (nI n))]) (st' := [.int ((α 87 ((nI 3).toNatClampNeg)) - (nI n)), .int (nI 0), .int (nI j)]) (σ' := (α, μ)) (pc' := 122) kX11_move_107 rfl rfl (rf_a1 (rf_in_n (a := 3) rfl (by omega)) rf_a0) ?_
  try rw [(show (nI 3).toNatClampNeg = 3 from rf_cl_n rfl (by omega))]
  try rw [(show α 87 3 = μ 105 3 from (hJ.1.2.2.2.2.2 _ (by omega)).2.1)]
  refine ok_S (As := [.int (nI j), .int (nI 0), .int ((μ 105 3) - (nI n))]) (st := []) mkX11_within qX11_move_122 rfl rfl rfl rfl rfl (Nat.le_of_ble_eq_true rfl) (c_within) ?_
  refine ok_if_ne bX11_move_125 (fun _ => ?_) (fun h125 => absurd h125 (bI_n0.mpr ((mv_ok e2 hm2 h4).mpr h6)))
  refine ok_step (ps := [rf_in (nI 3) 4, rf_in (nI 3) 4, rf_cp (nI i) (nI j) (nI n) 40 40]) (L' := [some (.ref 0), some (.int (nI 3)), some (.int (nI i)), some (.int (nI 3)), some (.int (nI j)), some (.int (nI n))]) (st' := [.int (nI n)]) (σ' := (rf_r α 92 (va_cpy (α 92) (α 92) ((nI i).toNatClampNeg) ((nI j).toNatClampNeg) ((nI n).toNatClampNeg)), μ)) (pc' := 163) kX11_move_135 rfl rfl (rf_a1 (rf_in_n (a := 3) rfl (by omega)) (rf_a1 (rf_in_n (a := 3) rfl (by omega)) (rf_a1 (by simp only [rf_cp, Bool.and_eq_true, decide_eq_true_eq]; refine ⟨⟨⟨⟨nI_pos' (by omega), nI_pos' (by omega)⟩, nI_pos' (by omega)⟩, ?_⟩, ?_⟩ <;> rw [nI_clamp (by omega), nI_clamp (by omega)] <;> omega) rf_a0))) ?_
  try rw [(show (nI i).toNatClampNeg = i from rf_cl_n rfl (by omega))]
  try rw [(show (nI j).toNatClampNeg = j from rf_cl_n rfl (by omega))]
  try rw [(show (nI n).toNatClampNeg = n from rf_cl_n rfl (by omega))]
  refine ok_reti eX11_move_163 rfl ?_
  refine ⟨rfl, _, rfl, ?_⟩
  refine ok_step (ps := []) (L' := [some (.ref 94), some (.int (nI 3)), some (.int (nI i)), some (.int (nI 3)), some (.int (nI j)), some (.int (nI n)), none]) (st' := [.int (nI 3)]) (σ' := (rf_r α 92 (va_cpy (α 92) (α 92) i j n), μ)) (pc' := 1) kX12_move_0 rfl rfl rf_a0 ?_
  refine ok_S (As := [.int (nI 3)]) (st := []) mkX12_isSheet qX12_move_1 rfl rfl rfl rfl rfl (Nat.le_of_ble_eq_true rfl) (m_isSheet) ?_
  rw [show bI (wi (nI 3) (nI 0) (nI 3)) = nI 1 from rfl]
  refine ok_if_eq bX12_move_4 (fun g4 => absurd g4 ((by decide))) (fun _ => ?_)
  refine ok_step (ps := []) (L' := [some (.ref 94), some (.int (nI 3)), some (.int (nI i)), some (.int (nI 3)), some (.int (nI j)), some (.int (nI n)), none]) (st' := [.int (nI 3)]) (σ' := (rf_r α 92 (va_cpy (α 92) (α 92) i j n), μ)) (pc' := 8) kX12_move_7 rfl rfl rf_a0 ?_
  refine ok_S (As := [.int (nI 3)]) (st := []) mkX12_isSheet qX12_move_8 rfl rfl rfl rfl rfl (Nat.le_of_ble_eq_true rfl) (m_isSheet) ?_
  rw [show bI (wi (nI 3) (nI 0) (nI 3)) = nI 1 from rfl]
  refine ok_if_ne bX12_move_11 (fun _ => ?_) (fun g11 => absurd g11 ((by decide)))
  refine ok_step (ps := [rf_in (nI 3) 4]) (L' := [some (.ref 94), some (.int (nI 3)), some (.int (nI i)), some (.int (nI 3)), some (.int (nI j)), some (.int (nI n)), none]) (st' := [.int (μ 104 ((nI 3).toNatClampNeg))]) (σ' := (rf_r α 92 (va_cpy (α 92) (α 92) i j n), μ)) (pc' := 26) kX12_move_20 rfl rfl (rf_a1 (rf_in_n (a := 3) rfl (by omega)) rf_a0) ?_
  try rw [(show (nI 3).toNatClampNeg = 3 from rf_cl_n rfl (by omega))]
  refine ok_if_eq bX12_move_26 (fun g26 => absurd g26 (h2)) (fun _ => ?_)
  refine ok_step (ps := [rf_in (nI 3) 4]) (L' := [some (.ref 94), some (.int (nI 3)), some (.int (nI i)), some (.int (nI 3)), some (.int (nI j)), some (.int (nI n)), none]) (st' := [.int (μ 104 ((nI 3).toNatClampNeg))]) (σ' := (rf_r α 92 (va_cpy (α 92) (α 92) i j n), μ)) (pc' := 35) kX12_move_29 rfl rfl (rf_a1 (rf_in_n (a := 3) rfl (by omega)) rf_a0) ?_
  try rw [(show (nI 3).toNatClampNeg = 3 from rf_cl_n rfl (by omega))]
  refine ok_if_ne bX12_move_35 (fun _ => ?_) (fun g35 => absurd g35 (h2))
  refine ok_step (ps := [rf_in (nI 3) 4, rf_in (nI 3) 4]) (L' := [some (.ref 94), some (.int (nI 3)), some (.int (nI i)), some (.int (nI 3)), some (.int (nI j)), some (.int (nI n)), none]) (st' := [.int (μ 104 ((nI 3).toNatClampNeg)), .int (μ 104 ((nI 3).toNatClampNeg))]) (σ' := (rf_r α 92 (va_cpy (α 92) (α 92) i j n), μ)) (pc' := 56) kX12_move_44 rfl rfl (rf_a1 (rf_in_n (a := 3) rfl (by omega)) (rf_a1 (rf_in_n (a := 3) rfl (by omega)) rf_a0)) ?_
  try rw [(show (nI 3).toNatClampNeg = 3 from rf_cl_n rfl (by omega))]
  refine ok_icmp_eq bX12_move_56 (fun _ => ?_) (fun g56 => absurd (h3) g56)
  refine ok_step (ps := []) (L' := [some (.ref 94), some (.int (nI 3)), some (.int (nI i)), some (.int (nI 3)), some (.int (nI j)), some (.int (nI n)), none]) (st' := [.int (nI n)]) (σ' := (rf_r α 92 (va_cpy (α 92) (α 92) i j n), μ)) (pc' := 67) kX12_move_65 rfl rfl rf_a0 ?_
  refine ok_if_lt bX12_move_67 (fun g67 => absurd g67 (h4)) (fun _ => ?_)
  refine ok_step (ps := []) (L' := [some (.ref 94), some (.int (nI 3)), some (.int (nI i)), some (.int (nI 3)), some (.int (nI j)), some (.int (nI n)), none]) (st' := [.int (nI i)]) (σ' := (rf_r α 92 (va_cpy (α 92) (α 92) i j n), μ)) (pc' := 71) kX12_move_70 rfl rfl rf_a0 ?_
  refine ok_if_lt bX12_move_71 (fun g71 => absurd g71 (h5.1)) (fun _ => ?_)
  refine ok_step (ps := []) (L' := [some (.ref 94), some (.int (nI 3)), some (.int (nI i)), some (.int (nI 3)), some (.int (nI j)), some (.int (nI n)), none]) (st' := [.int (nI j)]) (σ' := (rf_r α 92 (va_cpy (α 92) (α 92) i j n), μ)) (pc' := 76) kX12_move_74 rfl rfl rf_a0 ?_
  refine ok_if_lt bX12_move_76 (fun g76 => absurd g76 (h6.1)) (fun _ => ?_)
  refine ok_step (ps := [rf_in (nI 3) 4]) (L' := [some (.ref 94), some (.int (nI 3)), some (.int (nI i)), some (.int (nI 3)), some (.int (nI j)), some (.int (nI n)), none]) (st' := [.int ((μ 105 ((nI 3).toNatClampNeg)) - (nI i)), .int (nI n)]) (σ' := (rf_r α 92 (va_cpy (α 92) (α 92) i j n), μ)) (pc' := 89) kX12_move_79 rfl rfl (rf_a1 (rf_in_n (a := 3) rfl (by omega)) rf_a0) ?_
  try rw [(show (nI 3).toNatClampNeg = 3 from rf_cl_n rfl (by omega))]
  refine ok_icmp_gt bX12_move_89 (fun g89 => absurd g89 (h5.2)) (fun _ => ?_)
  refine ok_step (ps := [rf_in (nI 3) 4]) (L' := [some (.ref 94), some (.int (nI 3)), some (.int (nI i)), some (.int (nI 3)), some (.int (nI j)), some (.int (nI n)), none]) (st' := [.int ((μ 105 ((nI 3).toNatClampNeg)) - (nI j)), .int (nI n)]) (σ' := (rf_r α 92 (va_cpy (α 92) (α 92) i j n), μ)) (pc' := 103) kX12_move_92 rfl rfl (rf_a1 (rf_in_n (a := 3) rfl (by omega)) rf_a0) ?_
  try rw [(show (nI 3).toNatClampNeg = 3 from rf_cl_n rfl (by omega))]
  refine ok_icmp_le bX12_move_103 (fun _ => ?_) (fun g103 => absurd (Int32.not_lt.mp h6.2) g103)
  refine ok_step (ps := []) (L' := [some (.ref 94), some (.int (nI 3)), some (.int (nI i)), some (.int (nI 3)), some (.int (nI j)), some (.int (nI n)), some (.int (nI 0))]) (st' := []) (σ' := (rf_r α 92 (va_cpy (α 92) (α 92) i j n), μ)) (pc' := 115) kX12_move_112 rfl rfl rf_a0 ?_
  have hm := m_mv1 (Ln := Ln) (xs := xs) (γ := rf_r α 92 (va_cpy (α 92) (α 92) i j n)) (μ := μ) (s := 3) (o := 3) (i := i) (j := j) (n := n) (by decide) (by decide) (by omega) (by omega) n 0 (by omega)
  rw [rfr_c0] at hm
  refine hm.mono (fun r t hq => ?_)
  obtain ⟨rfl, rfl⟩ := hq
  exact ⟨rfl, _, rfl, hJ.move (by decide) (by decide) (by omega) (by omega) rfl rfl⟩
theorem op_move_x {sheet : Int32} {i : Int32} {other : Int32} {j : Int32} {n : Int32} (hJ : J α μ) (hx : bI (wi sheet (nI 0) (nI 3)) = 0) : Op (rf_T Ln xs) MX11_move MX12_move [some (.ref 0), some (.int sheet), some (.int i), some (.int other), some (.int j), some (.int n)] [some (.ref 94), some (.int sheet), some (.int i), some (.int other), some (.int j), some (.int n), none] α μ := by
  have hR := hJ.1.1.1
  have hI := hJ.2
  have b0 := hI.le0
  have b1 := hI.le1
  have b2 := hI.le2
  have b3 := hI.le3
  have b4 := hI.le4
  have b5 := hI.le5
  have b6 := hI.le6
  have b8 := hI.le8
  have b9 := hI.le9
  have b11 := hI.le11
  have b12 := hI.le12
  refine ok_step (ps := []) (L' := [some (.ref 0), some (.int sheet), some (.int i), some (.int other), some (.int j), some (.int n)]) (st' := [.int sheet, .ref 0]) (σ' := (α, μ)) (pc' := 2) kX11_move_0 rfl rfl rf_a0 ?_
  refine ok_V (As := [.int sheet]) (b := 0) (st := []) mkX11_isSheet qX11_move_2 rfl (rc_0) rfl rfl rfl rfl (Nat.le_of_ble_eq_true rfl) (c_isSheet) ?_
  refine ok_if_eq bX11_move_5 (fun _ => ?_) (fun h5 => absurd (hx) h5)
  refine ok_step (ps := []) (L' := [some (.ref 0), some (.int sheet), some (.int i), some (.int other), some (.int j), some (.int n)]) (st' := [.int (-1000000001), .ref 0]) (σ' := (α, μ)) (pc' := 19) kX11_move_16 rfl rfl rf_a0 ?_
  refine ok_V (As := [.int (-1000000001)]) (b := 0) (st := []) mkX11_error qX11_move_19 rfl (rc_0) rfl rfl rfl rfl (Nat.le_of_ble_eq_true rfl) (c_error (k := 1) (by decide) (by decide) (by decide)) ?_
  refine ok_reti eX11_move_22 rfl ?_
  refine ⟨rfl, _, rfl, ?_⟩
  refine ok_step (ps := []) (L' := [some (.ref 94), some (.int sheet), some (.int i), some (.int other), some (.int j), some (.int n), none]) (st' := [.int sheet]) (σ' := (rf_w α 93 1 (α 93 1 + nI 1), μ)) (pc' := 1) kX12_move_0 rfl rfl rf_a0 ?_
  refine ok_S (As := [.int sheet]) (st := []) mkX12_isSheet qX12_move_1 rfl rfl rfl rfl rfl (Nat.le_of_ble_eq_true rfl) (m_isSheet) ?_
  refine ok_if_eq bX12_move_4 (fun _ => ?_) (fun g4 => absurd (hx) g4)
  refine ok_step (ps := []) (L' := [some (.ref 94), some (.int sheet), some (.int i), some (.int other), some (.int j), some (.int n), none]) (st' := [.int (nI 1), .ref 94]) (σ' := (rf_w α 93 1 (α 93 1 + nI 1), μ)) (pc' := 16) kX12_move_14 rfl rfl rf_a0 ?_
  refine ok_V (As := [.int (nI 1)]) (b := 94) (st := []) mkX12_finds qX12_move_16 rfl (rc_94) rfl rfl rfl rfl (Nat.le_of_ble_eq_true rfl) (m_finds (k := 1) (by decide)) ?_
  refine ok_reti eX12_move_19 rfl ?_
  exact ⟨rfl, _, rfl, hJ.err (k := 1) (by decide)⟩
theorem op_move_y {sheet : Int32} {i : Int32} {other : Int32} {j : Int32} {n : Int32} (hJ : J α μ) (hx : ¬ bI (wi sheet (nI 0) (nI 3)) = 0) (hy : bI (wi other (nI 0) (nI 3)) = 0) : Op (rf_T Ln xs) MX11_move MX12_move [some (.ref 0), some (.int sheet), some (.int i), some (.int other), some (.int j), some (.int n)] [some (.ref 94), some (.int sheet), some (.int i), some (.int other), some (.int j), some (.int n), none] α μ := by
  have hR := hJ.1.1.1
  have hI := hJ.2
  have b0 := hI.le0
  have b1 := hI.le1
  have b2 := hI.le2
  have b3 := hI.le3
  have b4 := hI.le4
  have b5 := hI.le5
  have b6 := hI.le6
  have b8 := hI.le8
  have b9 := hI.le9
  have b11 := hI.le11
  have b12 := hI.le12
  refine ok_step (ps := []) (L' := [some (.ref 0), some (.int sheet), some (.int i), some (.int other), some (.int j), some (.int n)]) (st' := [.int sheet, .ref 0]) (σ' := (α, μ)) (pc' := 2) kX11_move_0 rfl rfl rf_a0 ?_
  refine ok_V (As := [.int sheet]) (b := 0) (st := []) mkX11_isSheet qX11_move_2 rfl (rc_0) rfl rfl rfl rfl (Nat.le_of_ble_eq_true rfl) (c_isSheet) ?_
  refine ok_if_eq bX11_move_5 (fun h5 => absurd h5 (hx)) (fun _ => ?_)
  refine ok_step (ps := []) (L' := [some (.ref 0), some (.int sheet), some (.int i), some (.int other), some (.int j), some (.int n)]) (st' := [.int other, .ref 0]) (σ' := (α, μ)) (pc' := 10) kX11_move_8 rfl rfl rf_a0 ?_
  refine ok_V (As := [.int other]) (b := 0) (st := []) mkX11_isSheet qX11_move_10 rfl (rc_0) rfl rfl rfl rfl (Nat.le_of_ble_eq_true rfl) (c_isSheet) ?_
  refine ok_if_ne bX11_move_13 (fun h13 => absurd (hy) h13) (fun _ => ?_)
  refine ok_step (ps := []) (L' := [some (.ref 0), some (.int sheet), some (.int i), some (.int other), some (.int j), some (.int n)]) (st' := [.int (-1000000001), .ref 0]) (σ' := (α, μ)) (pc' := 19) kX11_move_16 rfl rfl rf_a0 ?_
  refine ok_V (As := [.int (-1000000001)]) (b := 0) (st := []) mkX11_error qX11_move_19 rfl (rc_0) rfl rfl rfl rfl (Nat.le_of_ble_eq_true rfl) (c_error (k := 1) (by decide) (by decide) (by decide)) ?_
  refine ok_reti eX11_move_22 rfl ?_
  refine ⟨rfl, _, rfl, ?_⟩
  refine ok_step (ps := []) (L' := [some (.ref 94), some (.int sheet), some (.int i), some (.int other), some (.int j), some (.int n), none]) (st' := [.int sheet]) (σ' := (rf_w α 93 1 (α 93 1 + nI 1), μ)) (pc' := 1) kX12_move_0 rfl rfl rf_a0 ?_
  refine ok_S (As := [.int sheet]) (st := []) mkX12_isSheet qX12_move_1 rfl rfl rfl rfl rfl (Nat.le_of_ble_eq_true rfl) (m_isSheet) ?_
  refine ok_if_eq bX12_move_4 (fun g4 => absurd g4 (hx)) (fun _ => ?_)
  refine ok_step (ps := []) (L' := [some (.ref 94), some (.int sheet), some (.int i), some (.int other), some (.int j), some (.int n), none]) (st' := [.int other]) (σ' := (rf_w α 93 1 (α 93 1 + nI 1), μ)) (pc' := 8) kX12_move_7 rfl rfl rf_a0 ?_
  refine ok_S (As := [.int other]) (st := []) mkX12_isSheet qX12_move_8 rfl rfl rfl rfl rfl (Nat.le_of_ble_eq_true rfl) (m_isSheet) ?_
  refine ok_if_ne bX12_move_11 (fun g11 => absurd (hy) g11) (fun _ => ?_)
  refine ok_step (ps := []) (L' := [some (.ref 94), some (.int sheet), some (.int i), some (.int other), some (.int j), some (.int n), none]) (st' := [.int (nI 1), .ref 94]) (σ' := (rf_w α 93 1 (α 93 1 + nI 1), μ)) (pc' := 16) kX12_move_14 rfl rfl rf_a0 ?_
  refine ok_V (As := [.int (nI 1)]) (b := 94) (st := []) mkX12_finds qX12_move_16 rfl (rc_94) rfl rfl rfl rfl (Nat.le_of_ble_eq_true rfl) (m_finds (k := 1) (by decide)) ?_
  refine ok_reti eX12_move_19 rfl ?_
  exact ⟨rfl, _, rfl, hJ.err (k := 1) (by decide)⟩
theorem op_move {sheet i other j n : Int32} (hJ : J α μ) : Op (rf_T Ln xs) MX11_move MX12_move [some (.ref 0), some (.int sheet), some (.int i), some (.int other), some (.int j), some (.int n)] [some (.ref 94), some (.int sheet), some (.int i), some (.int other), some (.int j), some (.int n), none] α μ := by
  by_cases hx : bI (wi sheet (nI 0) (nI 3)) = 0
  · exact op_move_x hJ hx
  · by_cases hy : bI (wi other (nI 0) (nI 3)) = 0
    · exact op_move_y hJ hx hy
    · obtain ⟨s, -, hs, rfl⟩ := wi_of (bI_n0.mp hx) (by omega) (by omega)
      obtain ⟨o, -, ho, rfl⟩ := wi_of (bI_n0.mp hy) (by omega) (by omega)
      by_cases hg : mgood μ s o i j n
      · have hs : s = 0 ∨ s = 1 ∨ s = 2 ∨ s = 3 := by omega
        have ho : o = 0 ∨ o = 1 ∨ o = 2 ∨ o = 3 := by omega
        rcases hs with rfl | rfl | rfl | rfl <;> rcases ho with rfl | rfl | rfl | rfl
        · exact op_move_00 hJ hg
        · exact op_move_01 hJ hg
        · exact op_move_02 hJ hg
        · exact op_move_03 hJ hg
        · exact op_move_10 hJ hg
        · exact op_move_11 hJ hg
        · exact op_move_12 hJ hg
        · exact op_move_13 hJ hg
        · exact op_move_20 hJ hg
        · exact op_move_21 hJ hg
        · exact op_move_22 hJ hg
        · exact op_move_23 hJ hg
        · exact op_move_30 hJ hg
        · exact op_move_31 hJ hg
        · exact op_move_32 hJ hg
        · exact op_move_33 hJ hg
      · exact op_move_b hJ (by omega) (by omega) hg
end H51
