/-- the TRAINS behind a TRAIN, of the first n -/
def beh (d : Nat → Int32) (t : Nat) (l h : Int32) (i : Nat) : Bool := decide (¬ nI i = nI t) && (decide (d (150 + 3 * i) = d (150 + 3 * t)) && wi (d (151 + 3 * i) - d (151 + 3 * t)) l h)
def s_beh (d : Nat → Int32) (t : Nat) (l h : Int32) : Nat → Int32
  | 0 => nI 0
  | i + 1 => if beh d t l h i = true then s_beh d t l h i ||| (nI 1 <<< (nI i &&& 31)) else s_beh d t l h i
theorem beh_t {d : Nat → Int32} {t : Nat} {l h : Int32} {i : Nat} (e : beh d t l h i = true) : s_beh d t l h i ||| (nI 1 <<< (nI i &&& 31)) = s_beh d t l h (i + 1) := by rw [s_beh, if_pos e]
theorem beh_f {d : Nat → Int32} {t : Nat} {l h : Int32} {i : Nat} (e : beh d t l h i = false) : s_beh d t l h i = s_beh d t l h (i + 1) := by rw [s_beh, if_neg (by rw [e]; decide)]
theorem beh_g {d : Nat → Int32} {t : Nat} {l h : Int32} {i : Nat} (e : beh d t l h i = false) : s_beh d t l h i ||| nI 0 = s_beh d t l h (i + 1) := by rw [s_beh, if_neg (by rw [e]; decide)]; exact Int32.or_zero
/-- who doesn't pay at a STATION -/
def f_gate (d : Nat → Int32) (st : Int32) (g : Nat) : Int32 := if (decide (¬ s_stops d (cn d (191 + 8 * g)) ≤ d (192 + 8 * g)) && (decide (s_stAt d (cn d (191 + 8 * g)) (cn d (192 + 8 * g)) = st) && !s_now d g)) = true then d (194 + 8 * g) else nI 0
theorem lt_n2 {x y : Int32} {k n : Nat} (hx : x = nI k) (hy : y = nI n) (h : ¬ y ≤ x) (hk : k < 2147483648) : k < n := by
  subst hx
  subst hy
  rcases Nat.lt_or_ge k n with h1 | h1
  · exact h1
  · exact absurd (nI_le h1 (by omega)) h
/-- riders of a LINE, and those who don't pay -/
def f_rid (d : Nat → Int32) (l g : Nat) : Int32 := if d (150 + 3 * cn d (191 + 8 * g)) = nI l then d (194 + 8 * g) else nI 0
def f_fre (d : Nat → Int32) (l g : Nat) : Int32 := if d (150 + 3 * cn d (191 + 8 * g)) = nI l then (if s_now d g = true then nI 0 else d (194 + 8 * g)) else nI 0
def s_shr (d : Nat → Int32) (l : Nat) : Int32 := if sumI (f_rid d l) (cn d 4) = 0 then (-1) else sumI (f_fre d l) (cn d 4) * nI 100 / sumI (f_rid d l) (cn d 4)
/-- the worst of the first n LINES -/
def s_fair (d : Nat → Int32) : Nat → Int32 × Int32
  | 0 => ((-1), (-1))
  | l + 1 => if s_shr d l ≤ (s_fair d l).2 then s_fair d l else (nI l, s_shr d l)
theorem fair_0 {d : Nat → Int32} {l : Nat} (h : s_shr d l ≤ (s_fair d l).2) : s_fair d l = s_fair d (l + 1) := by rw [s_fair, if_pos h]
theorem fair_1 {d : Nat → Int32} {l : Nat} (h : ¬ s_shr d l ≤ (s_fair d l).2) : (nI l, s_shr d l) = s_fair d (l + 1) := by rw [s_fair, if_neg h]
section H47
variable {Ln : Nat} {xs : Nat → Int32} {α μ ν γ : Nat → Nat → Int32} {d : Nat → Int32}
theorem m_lineOf_d {t : Nat} (hI : Iv d) (hd : ν 95 = d) (ht : t < 12) : rf_At (rf_T Ln xs) MX12_lineOf 1 0 ([some (.ref 94), some (.int (nI t))], [], 108, (γ, ν)) (some (.int (d (150 + 3 * t)))) 108 (γ, ν) := by
  subst hd
  exact m_lineOf ht
theorem m_stopsOf_d {t : Nat} (hI : Iv d) (hd : ν 95 = d) (ht : t < 12) : rf_At (rf_T Ln xs) MX12_stopsOf 2 0 ([some (.ref 94), some (.int (nI t))], [], 108, (γ, ν)) (some (.int (s_stops d t))) 108 (γ, ν) := by
  subst hd
  exact m_stopsOf hI ht
theorem m_stAt_d {t i : Nat} (hI : Iv d) (hd : ν 95 = d) (ht : t < 12) (hi : i < cn d (90 + 13 * cn d (150 + 3 * t))) : rf_At (rf_T Ln xs) MX12_stationAt 2 0 ([some (.ref 94), some (.int (nI t)), some (.int (nI i)), none], [], 108, (γ, ν)) (some (.int (s_stAt d t i))) 108 (γ, ν) := by
  subst hd
  exact m_stAt hI ht hi
theorem m_end_d {t : Nat} (hI : Iv d) (hd : ν 95 = d) (ht : t < 12) (hz : 2 ≤ cn d (90 + 13 * cn d (150 + 3 * t))) : rf_At (rf_T Ln xs) MX12_endOf 3 0 ([some (.ref 94), some (.int (nI t))], [], 108, (γ, ν)) (some (.int (s_end d t))) 108 (γ, ν) := by
  subst hd
  exact m_end hI ht hz
theorem c_beh_l {t : Nat} {l h : Int32} (ht : t < 12) : ∀ (j i : Nat) (α : Nat → Nat → Int32), J α μ → i + j = cn (μ 95) 3 → rf_Ok (rf_T Ln xs) MX4_trainsBehind 2 6 [some (.ref 2), some (.int (nI t)), some (.int l), some (.int h), some (.int (s_beh (μ 95) t l h i)), some (.int (nI i)), none] [] (α, μ) (fun r s => r = some (.int (s_beh (μ 95) t l h (cn (μ 95) 3))) ∧ ∃ α' : Nat → Nat → Int32, s = (α', μ) ∧ J α' μ) := by
  intro j
  induction j with
  | zero =>
    intro i α hJ hj
    have hR := hJ.1.1.1
    have hI := hJ.2
    have b0 := hI.le0
    have b2 := hI.le2
    have b3 := hI.le3
    have b4 := hI.le4
    have b5 := hI.le5
    have b8 := hI.le8
    have b9 := hI.le9
    have hj : i = cn (μ 95) 3 := by omega
    refine ok_step (ps := []) (L' := [some (.ref 2), some (.int (nI t)), some (.int l), some (.int h), some (.int (s_beh (μ 95) t l h i)), some (.int (nI i)), none]) (st' := [.int (α 2 2), .int (nI i)]) (σ' := (α, μ)) (pc' := 12) kX4_trainsBehind_6 rfl rfl rf_a0 ?_
    try rw [(show α 2 2 = μ 95 3 from hR 1 2 3 rfl)]
    refine ok_icmp_ge bX4_trainsBehind_12 (fun _ => ?_) (fun h12 => absurd (le_of hI.at3 (by omega) (by omega)) h12)
    refine ok_step (ps := []) (L' := [some (.ref 2), some (.int (nI t)), some (.int l), some (.int h), some (.int (s_beh (μ 95) t l h i)), some (.int (nI i)), none]) (st' := [.int (s_beh (μ 95) t l h i)]) (σ' := (α, μ)) (pc' := 80) kX4_trainsBehind_78 rfl rfl rf_a0 ?_
    refine ok_reti eX4_trainsBehind_80 rfl ?_
    exact ⟨by rw [hj], _, rfl, hJ⟩
  | succ j ih =>
    intro i α hJ hj
    have hR := hJ.1.1.1
    have hI := hJ.2
    have b0 := hI.le0
    have b2 := hI.le2
    have b3 := hI.le3
    have b4 := hI.le4
    have b5 := hI.le5
    have b8 := hI.le8
    have b9 := hI.le9
    refine ok_step (ps := []) (L' := [some (.ref 2), some (.int (nI t)), some (.int l), some (.int h), some (.int (s_beh (μ 95) t l h i)), some (.int (nI i)), none]) (st' := [.int (α 2 2), .int (nI i)]) (σ' := (α, μ)) (pc' := 12) kX4_trainsBehind_6 rfl rfl rf_a0 ?_
    try rw [(show α 2 2 = μ 95 3 from hR 1 2 3 rfl)]
    refine ok_icmp_ge bX4_trainsBehind_12 (fun h12 => absurd h12 (nle_of hI.at3 (by omega) (by omega))) (fun _ => ?_)
    refine ok_step (ps := [rf_in (nI i) 12, rf_in (nI t) 12]) (L' := [some (.ref 2), some (.int (nI t)), some (.int l), some (.int h), some (.int (s_beh (μ 95) t l h i)), some (.int (nI i)), some (.int ((α 8 ((nI i).toNatClampNeg)) - (α 8 ((nI t).toNatClampNeg))))]) (st' := [.int (nI t), .int (nI i)]) (σ' := (α, μ)) (pc' := 34) kX4_trainsBehind_15 rfl rfl (rf_a1 (rf_in_n (a := i) rfl (by omega)) (rf_a1 (rf_in_n (a := t) rfl (by omega)) rf_a0)) ?_
    try rw [(show (nI i).toNatClampNeg = i from rf_cl_n rfl (by omega))]
    try rw [(show α 8 i = μ 95 (151 + 3 * i) from rl_7 hR (i := i) (by omega) (by omega))]
    try rw [(show (nI t).toNatClampNeg = t from rf_cl_n rfl (by omega))]
    try rw [(show α 8 t = μ 95 (151 + 3 * t) from rl_7 hR (i := t) (by omega) (by omega))]
    refine ok_icmp_eq bX4_trainsBehind_34 (fun h34 => ?_) (fun h34 => ?_)
    · refine ok_step (ps := []) (L' := [some (.ref 2), some (.int (nI t)), some (.int l), some (.int h), some (.int (s_beh (μ 95) t l h i)), some (.int ((nI i) + (nI 1))), some (.int ((μ 95 (151 + 3 * i)) - (μ 95 (151 + 3 * t))))]) (st' := []) (σ' := (α, μ)) (pc' := 75) kX4_trainsBehind_72 rfl rfl rf_a0 ?_
      try rw [(show ((nI i) + (nI 1)) = nI (i + 1) from nI_add _ _)]
      refine ok_goto bX4_trainsBehind_75 ?_
      rw [show (s_beh (μ 95) t l h i : Int32) = s_beh (μ 95) t l h (i + 1) from beh_f (by simp [beh, h34])]
      refine ok_kill (x := 6) ?_
      exact ih (i + 1) α hJ (by omega)
    · refine ok_step (ps := [rf_in (nI i) 12, rf_in (nI t) 12]) (L' := [some (.ref 2), some (.int (nI t)), some (.int l), some (.int h), some (.int (s_beh (μ 95) t l h i)), some (.int (nI i)), some (.int ((μ 95 (151 + 3 * i)) - (μ 95 (151 + 3 * t))))]) (st' := [.int (α 7 ((nI t).toNatClampNeg)), .int (α 7 ((nI i).toNatClampNeg))]) (σ' := (α, μ)) (pc' := 50) kX4_trainsBehind_37 rfl rfl (rf_a1 (rf_in_n (a := i) rfl (by omega)) (rf_a1 (rf_in_n (a := t) rfl (by omega)) rf_a0)) ?_
      try rw [(show (nI i).toNatClampNeg = i from rf_cl_n rfl (by omega))]
      try rw [(show α 7 i = μ 95 (150 + 3 * i) from rl_6 hR (i := i) (by omega) (by omega))]
      try rw [(show (nI t).toNatClampNeg = t from rf_cl_n rfl (by omega))]
      try rw [(show α 7 t = μ 95 (150 + 3 * t) from rl_6 hR (i := t) (by omega) (by omega))]
      refine ok_icmp_ne bX4_trainsBehind_50 (fun h50 => ?_) (fun h50 => ?_)
      · refine ok_step (ps := []) (L' := [some (.ref 2), some (.int (nI t)), some (.int l), some (.int h), some (.int (s_beh (μ 95) t l h i)), some (.int ((nI i) + (nI 1))), some (.int ((μ 95 (151 + 3 * i)) - (μ 95 (151 + 3 * t))))]) (st' := []) (σ' := (α, μ)) (pc' := 75) kX4_trainsBehind_72 rfl rfl rf_a0 ?_
        try rw [(show ((nI i) + (nI 1)) = nI (i + 1) from nI_add _ _)]
        refine ok_goto bX4_trainsBehind_75 ?_
        rw [show (s_beh (μ 95) t l h i : Int32) = s_beh (μ 95) t l h (i + 1) from beh_f (by simp [beh, h34, h50])]
        refine ok_kill (x := 6) ?_
        exact ih (i + 1) α hJ (by omega)
      · refine ok_step (ps := []) (L' := [some (.ref 2), some (.int (nI t)), some (.int l), some (.int h), some (.int (s_beh (μ 95) t l h i)), some (.int (nI i)), some (.int ((μ 95 (151 + 3 * i)) - (μ 95 (151 + 3 * t))))]) (st' := [.int h, .int l, .int ((μ 95 (151 + 3 * i)) - (μ 95 (151 + 3 * t)))]) (σ' := (α, μ)) (pc' := 57) kX4_trainsBehind_53 rfl rfl rf_a0 ?_
        refine ok_S (As := [.int ((μ 95 (151 + 3 * i)) - (μ 95 (151 + 3 * t))), .int l, .int h]) (st := []) mkX11_within qX4_trainsBehind_57 rfl rfl rfl rfl rfl (Nat.le_of_ble_eq_true rfl) (c_within) ?_
        refine ok_if_eq bX4_trainsBehind_60 (fun h60 => ?_) (fun h60 => ?_)
        · refine ok_step (ps := []) (L' := [some (.ref 2), some (.int (nI t)), some (.int l), some (.int h), some (.int (s_beh (μ 95) t l h i)), some (.int ((nI i) + (nI 1))), some (.int ((μ 95 (151 + 3 * i)) - (μ 95 (151 + 3 * t))))]) (st' := []) (σ' := (α, μ)) (pc' := 75) kX4_trainsBehind_72 rfl rfl rf_a0 ?_
          try rw [(show ((nI i) + (nI 1)) = nI (i + 1) from nI_add _ _)]
          refine ok_goto bX4_trainsBehind_75 ?_
          rw [show (s_beh (μ 95) t l h i : Int32) = s_beh (μ 95) t l h (i + 1) from beh_f (by simp [beh, h34, h50, bI_0.mp h60])]
          refine ok_kill (x := 6) ?_
          exact ih (i + 1) α hJ (by omega)
        · refine ok_step (ps := []) (L' := [some (.ref 2), some (.int (nI t)), some (.int l), some (.int h), some (.int ((s_beh (μ 95) t l h i) ||| ((nI 1) <<< ((nI i) &&& 31)))), some (.int (nI i)), some (.int ((μ 95 (151 + 3 * i)) - (μ 95 (151 + 3 * t))))]) (st' := []) (σ' := (α, μ)) (pc' := 72) kX4_trainsBehind_63 rfl rfl rf_a0 ?_
          refine ok_step (ps := []) (L' := [some (.ref 2), some (.int (nI t)), some (.int l), some (.int h), some (.int ((s_beh (μ 95) t l h i) ||| ((nI 1) <<< ((nI i) &&& 31)))), some (.int ((nI i) + (nI 1))), some (.int ((μ 95 (151 + 3 * i)) - (μ 95 (151 + 3 * t))))]) (st' := []) (σ' := (α, μ)) (pc' := 75) kX4_trainsBehind_72 rfl rfl rf_a0 ?_
          try rw [(show ((nI i) + (nI 1)) = nI (i + 1) from nI_add _ _)]
          refine ok_goto bX4_trainsBehind_75 ?_
          rw [show ((s_beh (μ 95) t l h i) ||| ((nI 1) <<< ((nI i) &&& 31)) : Int32) = s_beh (μ 95) t l h (i + 1) from beh_t (by simp [beh, h34, h50, bI_n0.mp h60])]
          refine ok_kill (x := 6) ?_
          exact ih (i + 1) α hJ (by omega)
theorem c_beh {t : Nat} {l h : Int32} (hJ : J α μ) (ht : t < 12) : rf_Ok (rf_T Ln xs) MX4_trainsBehind 2 0 [some (.ref 2), some (.int (nI t)), some (.int l), some (.int h), none, none, none] [] (α, μ) (fun r s => r = some (.int (s_beh (μ 95) t l h (cn (μ 95) 3))) ∧ ∃ α' : Nat → Nat → Int32, s = (α', μ) ∧ J α' μ) := by
  refine ok_step (ps := []) (L' := [some (.ref 2), some (.int (nI t)), some (.int l), some (.int h), some (.int (nI 0)), some (.int (nI 0)), none]) (st' := []) (σ' := (α, μ)) (pc' := 6) kX4_trainsBehind_0 rfl rfl rf_a0 ?_
  exact c_beh_l ht (cn (μ 95) 3) 0 α hJ (by omega)
theorem m_t2 {t : Nat} {l h what set : Int32}  : ∀ (j i : Nat) (ν : Nat → Nat → Int32), J α ν → ν 95 = d → i + j = cn d 4 → rf_Ok (rf_T Ln xs) MX12_telling 60 147 [some (.ref 94), some (.int (nI t)), some (.int l), some (.int h), some (.int what), some (.int set), some (.int (sumI (f_tell d set) i)), some (.int (nI i)), none] [] (γ, ν) (fun r s => r = some (.int (if what = 0 then set else sumI (f_tell d set) (cn d 4))) ∧ ∃ ν' : Nat → Nat → Int32, s = (γ, ν') ∧ J α ν') := by
  intro j
  induction j with
  | zero =>
    intro i ν hJ hd hj
    have hI : Iv d := by rw [← hd]; exact hJ.2
    have b0 := hI.le0
    have b2 := hI.le2
    have b3 := hI.le3
    have b4 := hI.le4
    have b5 := hI.le5
    have b8 := hI.le8
    have b9 := hI.le9
    have hj : i = cn d 4 := by omega
    refine ok_step (ps := [rf_in (nI 4) 700]) (L' := [some (.ref 94), some (.int (nI t)), some (.int l), some (.int h), some (.int what), some (.int set), some (.int (sumI (f_tell d set) i)), some (.int (nI i)), none]) (st' := [.int (ν 95 ((nI 4).toNatClampNeg)), .int (nI i)]) (σ' := (γ, ν)) (pc' := 155) kX12_telling_147 rfl rfl (rf_a1 (rf_in_n (a := 4) rfl (by omega)) rf_a0) ?_
    try rw [(show (nI 4).toNatClampNeg = 4 from rf_cl_n rfl (by omega))]
    try rw [(show ν 95 4 = d 4 from congrFun hd _)]
    refine ok_icmp_ge bX12_telling_155 (fun _ => ?_) (fun h155 => absurd (le_of hI.at4 (by omega) (by omega)) h155)
    refine ok_step (ps := []) (L' := [some (.ref 94), some (.int (nI t)), some (.int l), some (.int h), some (.int what), some (.int set), some (.int (sumI (f_tell d set) i)), some (.int (nI i)), none]) (st' := [.int what]) (σ' := (γ, ν)) (pc' := 230) kX12_telling_228 rfl rfl rf_a0 ?_
    refine ok_if_ne bX12_telling_230 (fun h230 => ?_) (fun h230 => ?_)
    · refine ok_step (ps := []) (L' := [some (.ref 94), some (.int (nI t)), some (.int l), some (.int h), some (.int what), some (.int set), some (.int (sumI (f_tell d set) i)), some (.int (nI i)), none]) (st' := [.int (sumI (f_tell d set) i)]) (σ' := (γ, ν)) (pc' := 240) kX12_telling_238 rfl rfl rf_a0 ?_
      refine ok_reti eX12_telling_240 rfl ?_
      exact ⟨by first | rw [if_pos h230] | rw [if_neg h230, hj], _, rfl, hJ⟩
    · refine ok_step (ps := []) (L' := [some (.ref 94), some (.int (nI t)), some (.int l), some (.int h), some (.int what), some (.int set), some (.int (sumI (f_tell d set) i)), some (.int (nI i)), none]) (st' := [.int set]) (σ' := (γ, ν)) (pc' := 235) kX12_telling_233 rfl rfl rf_a0 ?_
      refine ok_goto bX12_telling_235 ?_
      refine ok_reti eX12_telling_240 rfl ?_
      exact ⟨by first | rw [if_pos h230] | rw [if_neg h230, hj], _, rfl, hJ⟩
  | succ j ih =>
    intro i ν hJ hd hj
    have hI : Iv d := by rw [← hd]; exact hJ.2
    have b0 := hI.le0
    have b2 := hI.le2
    have b3 := hI.le3
    have b4 := hI.le4
    have b5 := hI.le5
    have b8 := hI.le8
    have b9 := hI.le9
    refine ok_step (ps := [rf_in (nI 4) 700]) (L' := [some (.ref 94), some (.int (nI t)), some (.int l), some (.int h), some (.int what), some (.int set), some (.int (sumI (f_tell d set) i)), some (.int (nI i)), none]) (st' := [.int (ν 95 ((nI 4).toNatClampNeg)), .int (nI i)]) (σ' := (γ, ν)) (pc' := 155) kX12_telling_147 rfl rfl (rf_a1 (rf_in_n (a := 4) rfl (by omega)) rf_a0) ?_
    try rw [(show (nI 4).toNatClampNeg = 4 from rf_cl_n rfl (by omega))]
    try rw [(show ν 95 4 = d 4 from congrFun hd _)]
    refine ok_icmp_ge bX12_telling_155 (fun h155 => absurd h155 (nle_of hI.at4 (by omega) (by omega))) (fun _ => ?_)
    refine ok_step (ps := []) (L' := [some (.ref 94), some (.int (nI t)), some (.int l), some (.int h), some (.int what), some (.int set), some (.int (sumI (f_tell d set) i)), some (.int (nI i)), none]) (st' := [.int (nI 0), .int (nI i), .ref 94]) (σ' := (γ, ν)) (pc' := 162) kX12_telling_158 rfl rfl rf_a0 ?_
    refine ok_V (As := [.int (nI i), .int (nI 0)]) (b := 94) (st := []) mkX12_gr qX12_telling_162 rfl (rc_94) rfl rfl rfl rfl (Nat.le_of_ble_eq_true rfl) (m_gr_d (j := (190 + 8 * i)) hd (by omega) (by omega) (by omega)) ?_
    refine ok_step (ps := []) (L' := [some (.ref 94), some (.int (nI t)), some (.int l), some (.int h), some (.int what), some (.int set), some (.int (sumI (f_tell d set) i)), some (.int (nI i)), none]) (st' := [.int (nI 3), .int (d (190 + 8 * i))]) (σ' := (γ, ν)) (pc' := 166) kX12_telling_165 rfl rfl rf_a0 ?_
    refine ok_icmp_ne bX12_telling_166 (fun h166 => ?_) (fun h166 => ?_)
    · refine ok_step (ps := []) (L' := [some (.ref 94), some (.int (nI t)), some (.int l), some (.int h), some (.int what), some (.int set), some (.int (sumI (f_tell d set) i)), some (.int (nI i)), none]) (st' := [.int (nI 0)]) (σ' := (γ, ν)) (pc' := 190) kX12_telling_189 rfl rfl rf_a0 ?_
      refine ok_step (ps := []) (L' := [some (.ref 94), some (.int (nI t)), some (.int l), some (.int h), some (.int what), some (.int set), some (.int (sumI (f_tell d set) i)), some (.int (nI i)), some (.int (nI 0))]) (st' := [.int (nI 0), .int (sumI (f_tell d set) i)]) (σ' := (γ, ν)) (pc' := 196) kX12_telling_190 rfl rfl rf_a0 ?_
      refine ok_if_ne bX12_telling_196 (fun h196 => absurd ((by decide)) h196) (fun _ => ?_)
      refine ok_step (ps := []) (L' := [some (.ref 94), some (.int (nI t)), some (.int l), some (.int h), some (.int what), some (.int set), some (.int (sumI (f_tell d set) i)), some (.int (nI i)), some (.int (nI 0))]) (st' := [.int (nI i), .ref 94, .int (sumI (f_tell d set) i)]) (σ' := (γ, ν)) (pc' := 202) kX12_telling_199 rfl rfl rf_a0 ?_
      refine ok_Vx (As := [.int (nI i)]) (b := 94) (st := [.int (sumI (f_tell d set) i)]) mkX12_pays qX12_telling_202 rfl (rc_94) rfl rfl rfl rfl (Nat.le_of_ble_eq_true rfl) (m_pays hJ hd (by omega)) (fun r1 σ1 hq => ?_)
      obtain ⟨rfl, ν, rfl, hJ, hd, -⟩ := hq
      refine ok_if_eq bX12_telling_205 (fun h205 => ?_) (fun h205 => ?_)
      · refine ok_step (ps := []) (L' := [some (.ref 94), some (.int (nI t)), some (.int l), some (.int h), some (.int what), some (.int set), some (.int (sumI (f_tell d set) i)), some (.int (nI i)), some (.int (nI 0))]) (st' := [.int (nI 4), .int (nI i), .ref 94, .int (sumI (f_tell d set) i)]) (σ' := (γ, ν)) (pc' := 216) kX12_telling_212 rfl rfl rf_a0 ?_
        refine ok_V (As := [.int (nI i), .int (nI 4)]) (b := 94) (st := [.int (sumI (f_tell d set) i)]) mkX12_gr qX12_telling_216 rfl (rc_94) rfl rfl rfl rfl (Nat.le_of_ble_eq_true rfl) (m_gr_d (j := (194 + 8 * i)) hd (by omega) (by omega) (by omega)) ?_
        refine ok_step (ps := []) (L' := [some (.ref 94), some (.int (nI t)), some (.int l), some (.int h), some (.int what), some (.int set), some (.int ((sumI (f_tell d set) i) + (d (194 + 8 * i)))), some (.int ((nI i) + (nI 1))), some (.int (nI 0))]) (st' := []) (σ' := (γ, ν)) (pc' := 225) kX12_telling_219 rfl rfl rf_a0 ?_
        try rw [(show ((nI i) + (nI 1)) = nI (i + 1) from nI_add _ _)]
        refine ok_goto bX12_telling_225 ?_
        rw [show (sumI (f_tell d set) i) + (d (194 + 8 * i)) = sumI (f_tell d set) (i + 1) from sI_1 (by simp [f_tell, hb, nI_0, h166, bI_0.mp h205])]
        refine ok_kill (x := 8) ?_
        exact ih (i + 1) ν hJ hd (by omega)
      · refine ok_step (ps := []) (L' := [some (.ref 94), some (.int (nI t)), some (.int l), some (.int h), some (.int what), some (.int set), some (.int (sumI (f_tell d set) i)), some (.int (nI i)), some (.int (nI 0))]) (st' := [.int (nI 0), .int (sumI (f_tell d set) i)]) (σ' := (γ, ν)) (pc' := 209) kX12_telling_208 rfl rfl rf_a0 ?_
        refine ok_goto bX12_telling_209 ?_
        refine ok_step (ps := []) (L' := [some (.ref 94), some (.int (nI t)), some (.int l), some (.int h), some (.int what), some (.int set), some (.int ((sumI (f_tell d set) i) + (nI 0))), some (.int ((nI i) + (nI 1))), some (.int (nI 0))]) (st' := []) (σ' := (γ, ν)) (pc' := 225) kX12_telling_219 rfl rfl rf_a0 ?_
        try rw [(show ((nI i) + (nI 1)) = nI (i + 1) from nI_add _ _)]
        refine ok_goto bX12_telling_225 ?_
        rw [show (sumI (f_tell d set) i) + (nI 0) = sumI (f_tell d set) (i + 1) from sI_1 (by simp [f_tell, hb, nI_0, h166, bI_n0.mp h205])]
        refine ok_kill (x := 8) ?_
        exact ih (i + 1) ν hJ hd (by omega)
    · refine ok_step (ps := []) (L' := [some (.ref 94), some (.int (nI t)), some (.int l), some (.int h), some (.int what), some (.int set), some (.int (sumI (f_tell d set) i)), some (.int (nI i)), none]) (st' := [.int (nI 1), .int (nI i), .ref 94, .int set]) (σ' := (γ, ν)) (pc' := 175) kX12_telling_169 rfl rfl rf_a0 ?_
      refine ok_V (As := [.int (nI i), .int (nI 1)]) (b := 94) (st := [.int set]) mkX12_gr qX12_telling_175 rfl (rc_94) rfl rfl rfl rfl (Nat.le_of_ble_eq_true rfl) (m_gr_d (j := (191 + 8 * i)) hd (by omega) (by omega) (by omega)) ?_
      refine ok_step (ps := []) (L' := [some (.ref 94), some (.int (nI t)), some (.int l), some (.int h), some (.int what), some (.int set), some (.int (sumI (f_tell d set) i)), some (.int (nI i)), none]) (st' := [.int (nI 1), .int ((set >>> ((d (191 + 8 * i)) &&& 31)) &&& (nI 1))]) (σ' := (γ, ν)) (pc' := 182) kX12_telling_178 rfl rfl rf_a0 ?_
      refine ok_icmp_ne bX12_telling_182 (fun h182 => ?_) (fun h182 => ?_)
      · refine ok_step (ps := []) (L' := [some (.ref 94), some (.int (nI t)), some (.int l), some (.int h), some (.int what), some (.int set), some (.int (sumI (f_tell d set) i)), some (.int (nI i)), none]) (st' := [.int (nI 0)]) (σ' := (γ, ν)) (pc' := 190) kX12_telling_189 rfl rfl rf_a0 ?_
        refine ok_step (ps := []) (L' := [some (.ref 94), some (.int (nI t)), some (.int l), some (.int h), some (.int what), some (.int set), some (.int (sumI (f_tell d set) i)), some (.int (nI i)), some (.int (nI 0))]) (st' := [.int (nI 0), .int (sumI (f_tell d set) i)]) (σ' := (γ, ν)) (pc' := 196) kX12_telling_190 rfl rfl rf_a0 ?_
        refine ok_if_ne bX12_telling_196 (fun h196 => absurd ((by decide)) h196) (fun _ => ?_)
        refine ok_step (ps := []) (L' := [some (.ref 94), some (.int (nI t)), some (.int l), some (.int h), some (.int what), some (.int set), some (.int (sumI (f_tell d set) i)), some (.int (nI i)), some (.int (nI 0))]) (st' := [.int (nI i), .ref 94, .int (sumI (f_tell d set) i)]) (σ' := (γ, ν)) (pc' := 202) kX12_telling_199 rfl rfl rf_a0 ?_
        refine ok_Vx (As := [.int (nI i)]) (b := 94) (st := [.int (sumI (f_tell d set) i)]) mkX12_pays qX12_telling_202 rfl (rc_94) rfl rfl rfl rfl (Nat.le_of_ble_eq_true rfl) (m_pays hJ hd (by omega)) (fun r1 σ1 hq => ?_)
        obtain ⟨rfl, ν, rfl, hJ, hd, -⟩ := hq
        refine ok_if_eq bX12_telling_205 (fun h205 => ?_) (fun h205 => ?_)
        · refine ok_step (ps := []) (L' := [some (.ref 94), some (.int (nI t)), some (.int l), some (.int h), some (.int what), some (.int set), some (.int (sumI (f_tell d set) i)), some (.int (nI i)), some (.int (nI 0))]) (st' := [.int (nI 4), .int (nI i), .ref 94, .int (sumI (f_tell d set) i)]) (σ' := (γ, ν)) (pc' := 216) kX12_telling_212 rfl rfl rf_a0 ?_
          refine ok_V (As := [.int (nI i), .int (nI 4)]) (b := 94) (st := [.int (sumI (f_tell d set) i)]) mkX12_gr qX12_telling_216 rfl (rc_94) rfl rfl rfl rfl (Nat.le_of_ble_eq_true rfl) (m_gr_d (j := (194 + 8 * i)) hd (by omega) (by omega) (by omega)) ?_
          refine ok_step (ps := []) (L' := [some (.ref 94), some (.int (nI t)), some (.int l), some (.int h), some (.int what), some (.int set), some (.int ((sumI (f_tell d set) i) + (d (194 + 8 * i)))), some (.int ((nI i) + (nI 1))), some (.int (nI 0))]) (st' := []) (σ' := (γ, ν)) (pc' := 225) kX12_telling_219 rfl rfl rf_a0 ?_
          try rw [(show ((nI i) + (nI 1)) = nI (i + 1) from nI_add _ _)]
          refine ok_goto bX12_telling_225 ?_
          rw [show (sumI (f_tell d set) i) + (d (194 + 8 * i)) = sumI (f_tell d set) (i + 1) from sI_1 (by simp [f_tell, hb, nI_0, h166, h182, bI_0.mp h205])]
          refine ok_kill (x := 8) ?_
          exact ih (i + 1) ν hJ hd (by omega)
        · refine ok_step (ps := []) (L' := [some (.ref 94), some (.int (nI t)), some (.int l), some (.int h), some (.int what), some (.int set), some (.int (sumI (f_tell d set) i)), some (.int (nI i)), some (.int (nI 0))]) (st' := [.int (nI 0), .int (sumI (f_tell d set) i)]) (σ' := (γ, ν)) (pc' := 209) kX12_telling_208 rfl rfl rf_a0 ?_
          refine ok_goto bX12_telling_209 ?_
          refine ok_step (ps := []) (L' := [some (.ref 94), some (.int (nI t)), some (.int l), some (.int h), some (.int what), some (.int set), some (.int ((sumI (f_tell d set) i) + (nI 0))), some (.int ((nI i) + (nI 1))), some (.int (nI 0))]) (st' := []) (σ' := (γ, ν)) (pc' := 225) kX12_telling_219 rfl rfl rf_a0 ?_
          try rw [(show ((nI i) + (nI 1)) = nI (i + 1) from nI_add _ _)]
          refine ok_goto bX12_telling_225 ?_
          rw [show (sumI (f_tell d set) i) + (nI 0) = sumI (f_tell d set) (i + 1) from sI_1 (by simp [f_tell, hb, nI_0, h166, h182, bI_n0.mp h205])]
          refine ok_kill (x := 8) ?_
          exact ih (i + 1) ν hJ hd (by omega)
      · refine ok_step (ps := []) (L' := [some (.ref 94), some (.int (nI t)), some (.int l), some (.int h), some (.int what), some (.int set), some (.int (sumI (f_tell d set) i)), some (.int (nI i)), none]) (st' := [.int (nI 1)]) (σ' := (γ, ν)) (pc' := 186) kX12_telling_185 rfl rfl rf_a0 ?_
        refine ok_goto bX12_telling_186 ?_
        refine ok_step (ps := []) (L' := [some (.ref 94), some (.int (nI t)), some (.int l), some (.int h), some (.int what), some (.int set), some (.int (sumI (f_tell d set) i)), some (.int (nI i)), some (.int (nI 1))]) (st' := [.int (nI 1), .int (sumI (f_tell d set) i)]) (σ' := (γ, ν)) (pc' := 196) kX12_telling_190 rfl rfl rf_a0 ?_
        refine ok_if_ne bX12_telling_196 (fun _ => ?_) (fun h196 => absurd h196 ((by decide)))
        refine ok_step (ps := []) (L' := [some (.ref 94), some (.int (nI t)), some (.int l), some (.int h), some (.int what), some (.int set), some (.int (sumI (f_tell d set) i)), some (.int (nI i)), some (.int (nI 1))]) (st' := [.int (nI 0), .int (sumI (f_tell d set) i)]) (σ' := (γ, ν)) (pc' := 209) kX12_telling_208 rfl rfl rf_a0 ?_
        refine ok_goto bX12_telling_209 ?_
        refine ok_step (ps := []) (L' := [some (.ref 94), some (.int (nI t)), some (.int l), some (.int h), some (.int what), some (.int set), some (.int ((sumI (f_tell d set) i) + (nI 0))), some (.int ((nI i) + (nI 1))), some (.int (nI 1))]) (st' := []) (σ' := (γ, ν)) (pc' := 225) kX12_telling_219 rfl rfl rf_a0 ?_
        try rw [(show ((nI i) + (nI 1)) = nI (i + 1) from nI_add _ _)]
        refine ok_goto bX12_telling_225 ?_
        rw [show (sumI (f_tell d set) i) + (nI 0) = sumI (f_tell d set) (i + 1) from sI_1 (by simp [f_tell, hb, nI_0, h166, h182])]
        refine ok_kill (x := 8) ?_
        exact ih (i + 1) ν hJ hd (by omega)
theorem m_t1 {t : Nat} {l h what : Int32} (ht : t < 12) : ∀ (j i : Nat) (ν : Nat → Nat → Int32), J α ν → ν 95 = d → i + j = cn d 3 → rf_Ok (rf_T Ln xs) MX12_telling 60 56 [some (.ref 94), some (.int (nI t)), some (.int l), some (.int h), some (.int what), some (.int (s_beh (d) t l h i)), some (.int (nI i)), none, none] [] (γ, ν) (fun r s => r = some (.int (if what = 0 then (s_beh d t l h (cn d 3)) else sumI (f_tell d (s_beh d t l h (cn d 3))) (cn d 4))) ∧ ∃ ν' : Nat → Nat → Int32, s = (γ, ν') ∧ J α ν') := by
  intro j
  induction j with
  | zero =>
    intro i ν hJ hd hj
    have hI : Iv d := by rw [← hd]; exact hJ.2
    have b0 := hI.le0
    have b2 := hI.le2
    have b3 := hI.le3
    have b4 := hI.le4
    have b5 := hI.le5
    have b8 := hI.le8
    have b9 := hI.le9
    have hj : i = cn d 3 := by omega
    refine ok_step (ps := [rf_in (nI 3) 700]) (L' := [some (.ref 94), some (.int (nI t)), some (.int l), some (.int h), some (.int what), some (.int (s_beh (d) t l h i)), some (.int (nI i)), none, none]) (st' := [.int (ν 95 ((nI 3).toNatClampNeg)), .int (nI i)]) (σ' := (γ, ν)) (pc' := 64) kX12_telling_56 rfl rfl (rf_a1 (rf_in_n (a := 3) rfl (by omega)) rf_a0) ?_
    try rw [(show (nI 3).toNatClampNeg = 3 from rf_cl_n rfl (by omega))]
    try rw [(show ν 95 3 = d 3 from congrFun hd _)]
    refine ok_icmp_ge bX12_telling_64 (fun _ => ?_) (fun h64 => absurd (le_of hI.at3 (by omega) (by omega)) h64)
    refine ok_step (ps := []) (L' := [some (.ref 94), some (.int (nI t)), some (.int l), some (.int h), some (.int what), some (.int (s_beh (d) t l h i)), some (.int (nI 0)), some (.int (nI 0)), none]) (st' := []) (σ' := (γ, ν)) (pc' := 147) kX12_telling_141 rfl rfl rf_a0 ?_
    rw [hj]
    exact m_t2 (cn d 4) 0 ν hJ hd (by omega)
  | succ j ih =>
    intro i ν hJ hd hj
    have hI : Iv d := by rw [← hd]; exact hJ.2
    have b0 := hI.le0
    have b2 := hI.le2
    have b3 := hI.le3
    have b4 := hI.le4
    have b5 := hI.le5
    have b8 := hI.le8
    have b9 := hI.le9
    refine ok_step (ps := [rf_in (nI 3) 700]) (L' := [some (.ref 94), some (.int (nI t)), some (.int l), some (.int h), some (.int what), some (.int (s_beh (d) t l h i)), some (.int (nI i)), none, none]) (st' := [.int (ν 95 ((nI 3).toNatClampNeg)), .int (nI i)]) (σ' := (γ, ν)) (pc' := 64) kX12_telling_56 rfl rfl (rf_a1 (rf_in_n (a := 3) rfl (by omega)) rf_a0) ?_
    try rw [(show (nI 3).toNatClampNeg = 3 from rf_cl_n rfl (by omega))]
    try rw [(show ν 95 3 = d 3 from congrFun hd _)]
    refine ok_icmp_ge bX12_telling_64 (fun h64 => absurd h64 (nle_of hI.at3 (by omega) (by omega))) (fun _ => ?_)
    refine ok_step (ps := []) (L' := [some (.ref 94), some (.int (nI t)), some (.int l), some (.int h), some (.int what), some (.int (s_beh (d) t l h i)), some (.int (nI i)), none, none]) (st' := [.int (nI t), .int (nI i)]) (σ' := (γ, ν)) (pc' := 70) kX12_telling_67 rfl rfl rf_a0 ?_
    refine ok_icmp_eq bX12_telling_70 (fun h70 => ?_) (fun h70 => ?_)
    · refine ok_step (ps := []) (L' := [some (.ref 94), some (.int (nI t)), some (.int l), some (.int h), some (.int what), some (.int (s_beh (d) t l h i)), some (.int (nI i)), none, none]) (st' := [.int (nI 0)]) (σ' := (γ, ν)) (pc' := 115) kX12_telling_114 rfl rfl rf_a0 ?_
      refine ok_step (ps := []) (L' := [some (.ref 94), some (.int (nI t)), some (.int l), some (.int h), some (.int what), some (.int (s_beh (d) t l h i)), some (.int (nI i)), some (.int (nI 0)), none]) (st' := [.int (nI 0), .int (s_beh (d) t l h i)]) (σ' := (γ, ν)) (pc' := 121) kX12_telling_115 rfl rfl rf_a0 ?_
      refine ok_if_eq bX12_telling_121 (fun _ => ?_) (fun h121 => absurd ((by decide)) h121)
      refine ok_step (ps := []) (L' := [some (.ref 94), some (.int (nI t)), some (.int l), some (.int h), some (.int what), some (.int (s_beh (d) t l h i)), some (.int (nI i)), some (.int (nI 0)), none]) (st' := [.int (nI 0), .int (s_beh (d) t l h i)]) (σ' := (γ, ν)) (pc' := 132) kX12_telling_131 rfl rfl rf_a0 ?_
      refine ok_step (ps := []) (L' := [some (.ref 94), some (.int (nI t)), some (.int l), some (.int h), some (.int what), some (.int ((s_beh (d) t l h i) ||| (nI 0))), some (.int ((nI i) + (nI 1))), some (.int (nI 0)), none]) (st' := []) (σ' := (γ, ν)) (pc' := 138) kX12_telling_132 rfl rfl rf_a0 ?_
      try rw [(show ((nI i) + (nI 1)) = nI (i + 1) from nI_add _ _)]
      refine ok_goto bX12_telling_138 ?_
      rw [show ((s_beh (d) t l h i) ||| (nI 0) : Int32) = s_beh (d) t l h (i + 1) from beh_g (by simp [beh, h70])]
      refine ok_kill (x := 7) ?_
      exact ih (i + 1) ν hJ hd (by omega)
    · refine ok_step (ps := []) (L' := [some (.ref 94), some (.int (nI t)), some (.int l), some (.int h), some (.int what), some (.int (s_beh (d) t l h i)), some (.int (nI i)), none, none]) (st' := [.int (nI i), .ref 94]) (σ' := (γ, ν)) (pc' := 76) kX12_telling_73 rfl rfl rf_a0 ?_
      refine ok_V (As := [.int (nI i)]) (b := 94) (st := []) mkX12_lineOf qX12_telling_76 rfl (rc_94) rfl rfl rfl rfl (Nat.le_of_ble_eq_true rfl) (m_lineOf_d hI hd (by omega)) ?_
      refine ok_step (ps := []) (L' := [some (.ref 94), some (.int (nI t)), some (.int l), some (.int h), some (.int what), some (.int (s_beh (d) t l h i)), some (.int (nI i)), none, none]) (st' := [.int (nI t), .ref 94, .int (d (150 + 3 * i))]) (σ' := (γ, ν)) (pc' := 81) kX12_telling_79 rfl rfl rf_a0 ?_
      refine ok_V (As := [.int (nI t)]) (b := 94) (st := [.int (d (150 + 3 * i))]) mkX12_lineOf qX12_telling_81 rfl (rc_94) rfl rfl rfl rfl (Nat.le_of_ble_eq_true rfl) (m_lineOf_d hI hd (by omega)) ?_
      refine ok_icmp_ne bX12_telling_84 (fun h84 => ?_) (fun h84 => ?_)
      · refine ok_step (ps := []) (L' := [some (.ref 94), some (.int (nI t)), some (.int l), some (.int h), some (.int what), some (.int (s_beh (d) t l h i)), some (.int (nI i)), none, none]) (st' := [.int (nI 0)]) (σ' := (γ, ν)) (pc' := 115) kX12_telling_114 rfl rfl rf_a0 ?_
        refine ok_step (ps := []) (L' := [some (.ref 94), some (.int (nI t)), some (.int l), some (.int h), some (.int what), some (.int (s_beh (d) t l h i)), some (.int (nI i)), some (.int (nI 0)), none]) (st' := [.int (nI 0), .int (s_beh (d) t l h i)]) (σ' := (γ, ν)) (pc' := 121) kX12_telling_115 rfl rfl rf_a0 ?_
        refine ok_if_eq bX12_telling_121 (fun _ => ?_) (fun h121 => absurd ((by decide)) h121)
        refine ok_step (ps := []) (L' := [some (.ref 94), some (.int (nI t)), some (.int l), some (.int h), some (.int what), some (.int (s_beh (d) t l h i)), some (.int (nI i)), some (.int (nI 0)), none]) (st' := [.int (nI 0), .int (s_beh (d) t l h i)]) (σ' := (γ, ν)) (pc' := 132) kX12_telling_131 rfl rfl rf_a0 ?_
        refine ok_step (ps := []) (L' := [some (.ref 94), some (.int (nI t)), some (.int l), some (.int h), some (.int what), some (.int ((s_beh (d) t l h i) ||| (nI 0))), some (.int ((nI i) + (nI 1))), some (.int (nI 0)), none]) (st' := []) (σ' := (γ, ν)) (pc' := 138) kX12_telling_132 rfl rfl rf_a0 ?_
        try rw [(show ((nI i) + (nI 1)) = nI (i + 1) from nI_add _ _)]
        refine ok_goto bX12_telling_138 ?_
        rw [show ((s_beh (d) t l h i) ||| (nI 0) : Int32) = s_beh (d) t l h (i + 1) from beh_g (by simp [beh, h70, h84])]
        refine ok_kill (x := 7) ?_
        exact ih (i + 1) ν hJ hd (by omega)
      · refine ok_step (ps := []) (L' := [some (.ref 94), some (.int (nI t)), some (.int l), some (.int h), some (.int what), some (.int (s_beh (d) t l h i)), some (.int (nI i)), none, none]) (st' := [.int (nI i), .ref 94]) (σ' := (γ, ν)) (pc' := 90) kX12_telling_87 rfl rfl rf_a0 ?_
        refine ok_V (As := [.int (nI i)]) (b := 94) (st := []) mkX12_startOf qX12_telling_90 rfl (rc_94) rfl rfl rfl rfl (Nat.le_of_ble_eq_true rfl) (m_startOf_d hI hd (by omega)) ?_
        refine ok_step (ps := []) (L' := [some (.ref 94), some (.int (nI t)), some (.int l), some (.int h), some (.int what), some (.int (s_beh (d) t l h i)), some (.int (nI i)), none, none]) (st' := [.int (nI t), .ref 94, .int (d (151 + 3 * i))]) (σ' := (γ, ν)) (pc' := 95) kX12_telling_93 rfl rfl rf_a0 ?_
        refine ok_V (As := [.int (nI t)]) (b := 94) (st := [.int (d (151 + 3 * i))]) mkX12_startOf qX12_telling_95 rfl (rc_94) rfl rfl rfl rfl (Nat.le_of_ble_eq_true rfl) (m_startOf_d hI hd (by omega)) ?_
        refine ok_step (ps := []) (L' := [some (.ref 94), some (.int (nI t)), some (.int l), some (.int h), some (.int what), some (.int (s_beh (d) t l h i)), some (.int (nI i)), none, none]) (st' := [.long h.toInt64, .long l.toInt64, .long (((d (151 + 3 * i)) - (d (151 + 3 * t))).toInt64)]) (σ' := (γ, ν)) (pc' := 104) kX12_telling_98 rfl rfl rf_a0 ?_
        refine ok_S (As := [.long (((d (151 + 3 * i)) - (d (151 + 3 * t))).toInt64), .long l.toInt64, .long h.toInt64]) (st := []) mkX12_in qX12_telling_104 rfl rfl rfl rfl rfl (Nat.le_of_ble_eq_true rfl) (m_in) ?_
        rw [show wl (((d (151 + 3 * i)) - (d (151 + 3 * t))).toInt64) l.toInt64 h.toInt64 = wi ((d (151 + 3 * i)) - (d (151 + 3 * t))) l h from wl_of rfl rfl rfl]
        refine ok_if_eq bX12_telling_107 (fun h107 => ?_) (fun h107 => ?_)
        · refine ok_step (ps := []) (L' := [some (.ref 94), some (.int (nI t)), some (.int l), some (.int h), some (.int what), some (.int (s_beh (d) t l h i)), some (.int (nI i)), none, none]) (st' := [.int (nI 0)]) (σ' := (γ, ν)) (pc' := 115) kX12_telling_114 rfl rfl rf_a0 ?_
          refine ok_step (ps := []) (L' := [some (.ref 94), some (.int (nI t)), some (.int l), some (.int h), some (.int what), some (.int (s_beh (d) t l h i)), some (.int (nI i)), some (.int (nI 0)), none]) (st' := [.int (nI 0), .int (s_beh (d) t l h i)]) (σ' := (γ, ν)) (pc' := 121) kX12_telling_115 rfl rfl rf_a0 ?_
          refine ok_if_eq bX12_telling_121 (fun _ => ?_) (fun h121 => absurd ((by decide)) h121)
          refine ok_step (ps := []) (L' := [some (.ref 94), some (.int (nI t)), some (.int l), some (.int h), some (.int what), some (.int (s_beh (d) t l h i)), some (.int (nI i)), some (.int (nI 0)), none]) (st' := [.int (nI 0), .int (s_beh (d) t l h i)]) (σ' := (γ, ν)) (pc' := 132) kX12_telling_131 rfl rfl rf_a0 ?_
          refine ok_step (ps := []) (L' := [some (.ref 94), some (.int (nI t)), some (.int l), some (.int h), some (.int what), some (.int ((s_beh (d) t l h i) ||| (nI 0))), some (.int ((nI i) + (nI 1))), some (.int (nI 0)), none]) (st' := []) (σ' := (γ, ν)) (pc' := 138) kX12_telling_132 rfl rfl rf_a0 ?_
          try rw [(show ((nI i) + (nI 1)) = nI (i + 1) from nI_add _ _)]
          refine ok_goto bX12_telling_138 ?_
          rw [show ((s_beh (d) t l h i) ||| (nI 0) : Int32) = s_beh (d) t l h (i + 1) from beh_g (by simp [beh, h70, h84, bI_0.mp h107])]
          refine ok_kill (x := 7) ?_
          exact ih (i + 1) ν hJ hd (by omega)
        · refine ok_step (ps := []) (L' := [some (.ref 94), some (.int (nI t)), some (.int l), some (.int h), some (.int what), some (.int (s_beh (d) t l h i)), some (.int (nI i)), none, none]) (st' := [.int (nI 1)]) (σ' := (γ, ν)) (pc' := 111) kX12_telling_110 rfl rfl rf_a0 ?_
          refine ok_goto bX12_telling_111 ?_
          refine ok_step (ps := []) (L' := [some (.ref 94), some (.int (nI t)), some (.int l), some (.int h), some (.int what), some (.int (s_beh (d) t l h i)), some (.int (nI i)), some (.int (nI 1)), none]) (st' := [.int (nI 1), .int (s_beh (d) t l h i)]) (σ' := (γ, ν)) (pc' := 121) kX12_telling_115 rfl rfl rf_a0 ?_
          refine ok_if_eq bX12_telling_121 (fun h121 => absurd h121 ((by decide))) (fun _ => ?_)
          refine ok_step (ps := []) (L' := [some (.ref 94), some (.int (nI t)), some (.int l), some (.int h), some (.int what), some (.int (s_beh (d) t l h i)), some (.int (nI i)), some (.int (nI 1)), none]) (st' := [.int ((nI 1) <<< ((nI i) &&& 31)), .int (s_beh (d) t l h i)]) (σ' := (γ, ν)) (pc' := 128) kX12_telling_124 rfl rfl rf_a0 ?_
          refine ok_goto bX12_telling_128 ?_
          refine ok_step (ps := []) (L' := [some (.ref 94), some (.int (nI t)), some (.int l), some (.int h), some (.int what), some (.int ((s_beh (d) t l h i) ||| ((nI 1) <<< ((nI i) &&& 31)))), some (.int ((nI i) + (nI 1))), some (.int (nI 1)), none]) (st' := []) (σ' := (γ, ν)) (pc' := 138) kX12_telling_132 rfl rfl rf_a0 ?_
          try rw [(show ((nI i) + (nI 1)) = nI (i + 1) from nI_add _ _)]
          refine ok_goto bX12_telling_138 ?_
          rw [show ((s_beh (d) t l h i) ||| ((nI 1) <<< ((nI i) &&& 31)) : Int32) = s_beh (d) t l h (i + 1) from beh_t (by simp [beh, h70, h84, bI_n0.mp h107])]
          refine ok_kill (x := 7) ?_
          exact ih (i + 1) ν hJ hd (by omega)
theorem op_telling {train : Int32} {l : Int32} {h : Int32} {what : Int32} (hJ : J α μ)  : Op (rf_T Ln xs) MX11_telling MX12_telling [some (.ref 0), some (.int train), some (.int l), some (.int h), some (.int what), none] [some (.ref 94), some (.int train), some (.int l), some (.int h), some (.int what), none, none, none, none] α μ := by
  have hR := hJ.1.1.1
  have hI := hJ.2
  have b0 := hI.le0
  have b1 := hI.le1
  have b2 := hI.le2
  have b3 := hI.le3
  have b4 := hI.le4
  have b5 := hI.le5
  have b6 := hI.le6
  have b8 := hI.le8
  have b9 := hI.le9
  have b11 := hI.le11
  have b12 := hI.le12
  refine ok_step (ps := []) (L' := [some (.ref 0), some (.int train), some (.int l), some (.int h), some (.int what), none]) (st' := [.int train, .ref 0]) (σ' := (α, μ)) (pc' := 2) kX11_telling_0 rfl rfl rf_a0 ?_
  refine ok_V (As := [.int train]) (b := 0) (st := []) mkX11_isTrain qX11_telling_2 rfl (rc_0) rfl rfl rfl rfl (Nat.le_of_ble_eq_true rfl) (c_isTrain hR) ?_
  refine ok_if_eq bX11_telling_5 (fun h5 => ?_) (fun h5 => ?_)
  · refine ok_step (ps := []) (L' := [some (.ref 0), some (.int train), some (.int l), some (.int h), some (.int what), none]) (st' := [.int (-1000000001), .ref 0]) (σ' := (α, μ)) (pc' := 43) kX11_telling_40 rfl rfl rf_a0 ?_
    refine ok_V (As := [.int (-1000000001)]) (b := 0) (st := []) mkX11_error qX11_telling_43 rfl (rc_0) rfl rfl rfl rfl (Nat.le_of_ble_eq_true rfl) (c_error (k := 1) (by decide) (by decide) (by decide)) ?_
    refine ok_reti eX11_telling_46 rfl ?_
    refine ⟨rfl, _, rfl, ?_⟩
    refine ok_step (ps := []) (L' := [some (.ref 94), some (.int train), some (.int l), some (.int h), some (.int what), none, none, none, none]) (st' := [.int train, .ref 94]) (σ' := (rf_w α 93 1 (α 93 1 + nI 1), μ)) (pc' := 2) kX12_telling_0 rfl rfl rf_a0 ?_
    refine ok_V (As := [.int train]) (b := 94) (st := []) mkX12_isTrain qX12_telling_2 rfl (rc_94) rfl rfl rfl rfl (Nat.le_of_ble_eq_true rfl) (m_isTrain) ?_
    refine ok_if_eq bX12_telling_5 (fun _ => ?_) (fun g5 => absurd (h5) g5)
    refine ok_step (ps := []) (L' := [some (.ref 94), some (.int train), some (.int l), some (.int h), some (.int what), none, none, none, none]) (st' := [.int (nI 1), .ref 94]) (σ' := (rf_w α 93 1 (α 93 1 + nI 1), μ)) (pc' := 46) kX12_telling_44 rfl rfl rf_a0 ?_
    refine ok_V (As := [.int (nI 1)]) (b := 94) (st := []) mkX12_finds qX12_telling_46 rfl (rc_94) rfl rfl rfl rfl (Nat.le_of_ble_eq_true rfl) (m_finds (k := 1) (by decide)) ?_
    refine ok_reti eX12_telling_49 rfl ?_
    exact ⟨rfl, _, rfl, hJ.err (k := 1) (by decide)⟩
  · obtain ⟨t, ht, rfl⟩ := wi_lt (bI_n0.mp h5) hI.at3 (by omega)
    refine ok_step (ps := []) (L' := [some (.ref 0), some (.int (nI t)), some (.int l), some (.int h), some (.int what), none]) (st' := [.int (nI 600), .int (nI 0), .int l]) (σ' := (α, μ)) (pc' := 13) kX11_telling_8 rfl rfl rf_a0 ?_
    refine ok_S (As := [.int l, .int (nI 0), .int (nI 600)]) (st := []) mkX11_within qX11_telling_13 rfl rfl rfl rfl rfl (Nat.le_of_ble_eq_true rfl) (c_within) ?_
    refine ok_if_eq bX11_telling_16 (fun h16 => ?_) (fun h16 => ?_)
    · refine ok_step (ps := []) (L' := [some (.ref 0), some (.int (nI t)), some (.int l), some (.int h), some (.int what), none]) (st' := [.int (-1000000001), .ref 0]) (σ' := (α, μ)) (pc' := 43) kX11_telling_40 rfl rfl rf_a0 ?_
      refine ok_V (As := [.int (-1000000001)]) (b := 0) (st := []) mkX11_error qX11_telling_43 rfl (rc_0) rfl rfl rfl rfl (Nat.le_of_ble_eq_true rfl) (c_error (k := 1) (by decide) (by decide) (by decide)) ?_
      refine ok_reti eX11_telling_46 rfl ?_
      refine ⟨rfl, _, rfl, ?_⟩
      refine ok_step (ps := []) (L' := [some (.ref 94), some (.int (nI t)), some (.int l), some (.int h), some (.int what), none, none, none, none]) (st' := [.int (nI t), .ref 94]) (σ' := (rf_w α 93 1 (α 93 1 + nI 1), μ)) (pc' := 2) kX12_telling_0 rfl rfl rf_a0 ?_
      refine ok_V (As := [.int (nI t)]) (b := 94) (st := []) mkX12_isTrain qX12_telling_2 rfl (rc_94) rfl rfl rfl rfl (Nat.le_of_ble_eq_true rfl) (m_isTrain) ?_
      refine ok_if_eq bX12_telling_5 (fun g5 => absurd g5 (h5)) (fun _ => ?_)
      refine ok_step (ps := []) (L' := [some (.ref 94), some (.int (nI t)), some (.int l), some (.int h), some (.int what), none, none, none, none]) (st' := [.long (lN 600), .long (lN 0), .long l.toInt64]) (σ' := (rf_w α 93 1 (α 93 1 + nI 1), μ)) (pc' := 14) kX12_telling_8 rfl rfl rf_a0 ?_
      refine ok_S (As := [.long l.toInt64, .long (lN 0), .long (lN 600)]) (st := []) mkX12_in qX12_telling_14 rfl rfl rfl rfl rfl (Nat.le_of_ble_eq_true rfl) (m_in) ?_
      rw [show wl l.toInt64 (lN 0) (lN 600) = wi l (nI 0) (nI 600) from wl_of rfl (nI_l (by decide)).symm (nI_l (by decide)).symm]
      refine ok_if_eq bX12_telling_17 (fun _ => ?_) (fun g17 => absurd (h16) g17)
      refine ok_step (ps := []) (L' := [some (.ref 94), some (.int (nI t)), some (.int l), some (.int h), some (.int what), none, none, none, none]) (st' := [.int (nI 1), .ref 94]) (σ' := (rf_w α 93 1 (α 93 1 + nI 1), μ)) (pc' := 46) kX12_telling_44 rfl rfl rf_a0 ?_
      refine ok_V (As := [.int (nI 1)]) (b := 94) (st := []) mkX12_finds qX12_telling_46 rfl (rc_94) rfl rfl rfl rfl (Nat.le_of_ble_eq_true rfl) (m_finds (k := 1) (by decide)) ?_
      refine ok_reti eX12_telling_49 rfl ?_
      exact ⟨rfl, _, rfl, hJ.err (k := 1) (by decide)⟩
    · refine ok_step (ps := []) (L' := [some (.ref 0), some (.int (nI t)), some (.int l), some (.int h), some (.int what), none]) (st' := [.int (nI 600), .int l, .int h]) (σ' := (α, μ)) (pc' := 24) kX11_telling_19 rfl rfl rf_a0 ?_
      refine ok_S (As := [.int h, .int l, .int (nI 600)]) (st := []) mkX11_within qX11_telling_24 rfl rfl rfl rfl rfl (Nat.le_of_ble_eq_true rfl) (c_within) ?_
      refine ok_if_eq bX11_telling_27 (fun h27 => ?_) (fun h27 => ?_)
      · refine ok_step (ps := []) (L' := [some (.ref 0), some (.int (nI t)), some (.int l), some (.int h), some (.int what), none]) (st' := [.int (-1000000001), .ref 0]) (σ' := (α, μ)) (pc' := 43) kX11_telling_40 rfl rfl rf_a0 ?_
        refine ok_V (As := [.int (-1000000001)]) (b := 0) (st := []) mkX11_error qX11_telling_43 rfl (rc_0) rfl rfl rfl rfl (Nat.le_of_ble_eq_true rfl) (c_error (k := 1) (by decide) (by decide) (by decide)) ?_
        refine ok_reti eX11_telling_46 rfl ?_
        refine ⟨rfl, _, rfl, ?_⟩
        refine ok_step (ps := []) (L' := [some (.ref 94), some (.int (nI t)), some (.int l), some (.int h), some (.int what), none, none, none, none]) (st' := [.int (nI t), .ref 94]) (σ' := (rf_w α 93 1 (α 93 1 + nI 1), μ)) (pc' := 2) kX12_telling_0 rfl rfl rf_a0 ?_
        refine ok_V (As := [.int (nI t)]) (b := 94) (st := []) mkX12_isTrain qX12_telling_2 rfl (rc_94) rfl rfl rfl rfl (Nat.le_of_ble_eq_true rfl) (m_isTrain) ?_
        refine ok_if_eq bX12_telling_5 (fun g5 => absurd g5 (h5)) (fun _ => ?_)
        refine ok_step (ps := []) (L' := [some (.ref 94), some (.int (nI t)), some (.int l), some (.int h), some (.int what), none, none, none, none]) (st' := [.long (lN 600), .long (lN 0), .long l.toInt64]) (σ' := (rf_w α 93 1 (α 93 1 + nI 1), μ)) (pc' := 14) kX12_telling_8 rfl rfl rf_a0 ?_
        refine ok_S (As := [.long l.toInt64, .long (lN 0), .long (lN 600)]) (st := []) mkX12_in qX12_telling_14 rfl rfl rfl rfl rfl (Nat.le_of_ble_eq_true rfl) (m_in) ?_
        rw [show wl l.toInt64 (lN 0) (lN 600) = wi l (nI 0) (nI 600) from wl_of rfl (nI_l (by decide)).symm (nI_l (by decide)).symm]
        refine ok_if_eq bX12_telling_17 (fun g17 => absurd g17 (h16)) (fun _ => ?_)
        refine ok_step (ps := []) (L' := [some (.ref 94), some (.int (nI t)), some (.int l), some (.int h), some (.int what), none, none, none, none]) (st' := [.long (lN 600), .long l.toInt64, .long h.toInt64]) (σ' := (rf_w α 93 1 (α 93 1 + nI 1), μ)) (pc' := 27) kX12_telling_20 rfl rfl rf_a0 ?_
        refine ok_S (As := [.long h.toInt64, .long l.toInt64, .long (lN 600)]) (st := []) mkX12_in qX12_telling_27 rfl rfl rfl rfl rfl (Nat.le_of_ble_eq_true rfl) (m_in) ?_
        rw [show wl h.toInt64 l.toInt64 (lN 600) = wi h l (nI 600) from wl_of rfl rfl (nI_l (by decide)).symm]
        refine ok_if_eq bX12_telling_30 (fun _ => ?_) (fun g30 => absurd (h27) g30)
        refine ok_step (ps := []) (L' := [some (.ref 94), some (.int (nI t)), some (.int l), some (.int h), some (.int what), none, none, none, none]) (st' := [.int (nI 1), .ref 94]) (σ' := (rf_w α 93 1 (α 93 1 + nI 1), μ)) (pc' := 46) kX12_telling_44 rfl rfl rf_a0 ?_
        refine ok_V (As := [.int (nI 1)]) (b := 94) (st := []) mkX12_finds qX12_telling_46 rfl (rc_94) rfl rfl rfl rfl (Nat.le_of_ble_eq_true rfl) (m_finds (k := 1) (by decide)) ?_
        refine ok_reti eX12_telling_49 rfl ?_
        exact ⟨rfl, _, rfl, hJ.err (k := 1) (by decide)⟩
      · refine ok_step (ps := []) (L' := [some (.ref 0), some (.int (nI t)), some (.int l), some (.int h), some (.int what), none]) (st' := [.int (nI 1), .int (nI 0), .int what]) (σ' := (α, μ)) (pc' := 34) kX11_telling_30 rfl rfl rf_a0 ?_
        refine ok_S (As := [.int what, .int (nI 0), .int (nI 1)]) (st := []) mkX11_within qX11_telling_34 rfl rfl rfl rfl rfl (Nat.le_of_ble_eq_true rfl) (c_within) ?_
        refine ok_if_ne bX11_telling_37 (fun h37 => ?_) (fun h37 => ?_)
        · refine ok_step (ps := []) (L' := [some (.ref 0), some (.int (nI t)), some (.int l), some (.int h), some (.int what), none]) (st' := [.int h, .int l, .int (nI t), .ref 2]) (σ' := (α, μ)) (pc' := 57) kX11_telling_47 rfl rfl rf_a0 ?_
          refine ok_Vx (As := [.int (nI t), .int l, .int h]) (b := 2) (st := []) mkX4_trainsBehind qX11_telling_57 rfl (rc_2) rfl rfl rfl rfl (Nat.le_of_ble_eq_true rfl) (c_beh hJ (by omega)) (fun r1 σ1 hq => ?_)
          obtain ⟨rfl, α, rfl, hJ⟩ := hq
          have hR := hJ.1.1.1
          refine ok_step (ps := []) (L' := [some (.ref 0), some (.int (nI t)), some (.int l), some (.int h), some (.int what), some (.int (s_beh (μ 95) t l h (cn (μ 95) 3)))]) (st' := [.int what]) (σ' := (α, μ)) (pc' := 64) kX11_telling_60 rfl rfl rf_a0 ?_
          refine ok_if_ne bX11_telling_64 (fun h64 => ?_) (fun h64 => ?_)
          · refine ok_step (ps := []) (L' := [some (.ref 0), some (.int (nI t)), some (.int l), some (.int h), some (.int what), some (.int (s_beh (μ 95) t l h (cn (μ 95) 3)))]) (st' := [.int (s_beh (μ 95) t l h (cn (μ 95) 3)), .ref 1]) (σ' := (α, μ)) (pc' := 78) kX11_telling_72 rfl rfl rf_a0 ?_
            refine ok_Vx (As := [.int (s_beh (μ 95) t l h (cn (μ 95) 3))]) (b := 1) (st := []) mkX10_sumUnpaid qX11_telling_78 rfl (rc_1) rfl rfl rfl rfl (Nat.le_of_ble_eq_true rfl) (c_su hJ) (fun r1 σ1 hq => ?_)
            obtain ⟨rfl, α, rfl, hJ⟩ := hq
            refine ok_reti eX11_telling_81 rfl ?_
            refine ⟨rfl, _, rfl, ?_⟩
            refine ok_step (ps := []) (L' := [some (.ref 94), some (.int (nI t)), some (.int l), some (.int h), some (.int what), none, none, none, none]) (st' := [.int (nI t), .ref 94]) (σ' := (α, μ)) (pc' := 2) kX12_telling_0 rfl rfl rf_a0 ?_
            refine ok_V (As := [.int (nI t)]) (b := 94) (st := []) mkX12_isTrain qX12_telling_2 rfl (rc_94) rfl rfl rfl rfl (Nat.le_of_ble_eq_true rfl) (m_isTrain) ?_
            refine ok_if_eq bX12_telling_5 (fun g5 => absurd g5 (h5)) (fun _ => ?_)
            refine ok_step (ps := []) (L' := [some (.ref 94), some (.int (nI t)), some (.int l), some (.int h), some (.int what), none, none, none, none]) (st' := [.long (lN 600), .long (lN 0), .long l.toInt64]) (σ' := (α, μ)) (pc' := 14) kX12_telling_8 rfl rfl rf_a0 ?_
            refine ok_S (As := [.long l.toInt64, .long (lN 0), .long (lN 600)]) (st := []) mkX12_in qX12_telling_14 rfl rfl rfl rfl rfl (Nat.le_of_ble_eq_true rfl) (m_in) ?_
            rw [show wl l.toInt64 (lN 0) (lN 600) = wi l (nI 0) (nI 600) from wl_of rfl (nI_l (by decide)).symm (nI_l (by decide)).symm]
            refine ok_if_eq bX12_telling_17 (fun g17 => absurd g17 (h16)) (fun _ => ?_)
            refine ok_step (ps := []) (L' := [some (.ref 94), some (.int (nI t)), some (.int l), some (.int h), some (.int what), none, none, none, none]) (st' := [.long (lN 600), .long l.toInt64, .long h.toInt64]) (σ' := (α, μ)) (pc' := 27) kX12_telling_20 rfl rfl rf_a0 ?_
            refine ok_S (As := [.long h.toInt64, .long l.toInt64, .long (lN 600)]) (st := []) mkX12_in qX12_telling_27 rfl rfl rfl rfl rfl (Nat.le_of_ble_eq_true rfl) (m_in) ?_
            rw [show wl h.toInt64 l.toInt64 (lN 600) = wi h l (nI 600) from wl_of rfl rfl (nI_l (by decide)).symm]
            refine ok_if_eq bX12_telling_30 (fun g30 => absurd g30 (h27)) (fun _ => ?_)
            refine ok_step (ps := []) (L' := [some (.ref 94), some (.int (nI t)), some (.int l), some (.int h), some (.int what), none, none, none, none]) (st' := [.long (lN 1), .long (lN 0), .long what.toInt64]) (σ' := (α, μ)) (pc' := 38) kX12_telling_33 rfl rfl rf_a0 ?_
            refine ok_S (As := [.long what.toInt64, .long (lN 0), .long (lN 1)]) (st := []) mkX12_in qX12_telling_38 rfl rfl rfl rfl rfl (Nat.le_of_ble_eq_true rfl) (m_in) ?_
            rw [show wl what.toInt64 (lN 0) (lN 1) = wi what (nI 0) (nI 1) from wl_of rfl (nI_l (by decide)).symm (nI_l (by decide)).symm]
            refine ok_if_ne bX12_telling_41 (fun _ => ?_) (fun g41 => absurd g41 (h37))
            refine ok_step (ps := []) (L' := [some (.ref 94), some (.int (nI t)), some (.int l), some (.int h), some (.int what), some (.int (nI 0)), some (.int (nI 0)), none, none]) (st' := []) (σ' := (α, μ)) (pc' := 56) kX12_telling_50 rfl rfl rf_a0 ?_
            refine (m_t1 (d := μ 95) (by omega) (cn (μ 95) 3) 0 μ hJ rfl (by omega)).mono (fun r s hq => ?_)
            obtain ⟨rfl, ν, rfl, hJ2⟩ := hq
            exact ⟨by first | rw [if_pos h64] | rw [if_neg h64], _, rfl, hJ2⟩
          · refine ok_step (ps := []) (L' := [some (.ref 0), some (.int (nI t)), some (.int l), some (.int h), some (.int what), some (.int (s_beh (μ 95) t l h (cn (μ 95) 3)))]) (st' := [.int (s_beh (μ 95) t l h (cn (μ 95) 3))]) (σ' := (α, μ)) (pc' := 69) kX11_telling_67 rfl rfl rf_a0 ?_
            refine ok_goto bX11_telling_69 ?_
            refine ok_reti eX11_telling_81 rfl ?_
            refine ⟨rfl, _, rfl, ?_⟩
            refine ok_step (ps := []) (L' := [some (.ref 94), some (.int (nI t)), some (.int l), some (.int h), some (.int what), none, none, none, none]) (st' := [.int (nI t), .ref 94]) (σ' := (α, μ)) (pc' := 2) kX12_telling_0 rfl rfl rf_a0 ?_
            refine ok_V (As := [.int (nI t)]) (b := 94) (st := []) mkX12_isTrain qX12_telling_2 rfl (rc_94) rfl rfl rfl rfl (Nat.le_of_ble_eq_true rfl) (m_isTrain) ?_
            refine ok_if_eq bX12_telling_5 (fun g5 => absurd g5 (h5)) (fun _ => ?_)
            refine ok_step (ps := []) (L' := [some (.ref 94), some (.int (nI t)), some (.int l), some (.int h), some (.int what), none, none, none, none]) (st' := [.long (lN 600), .long (lN 0), .long l.toInt64]) (σ' := (α, μ)) (pc' := 14) kX12_telling_8 rfl rfl rf_a0 ?_
            refine ok_S (As := [.long l.toInt64, .long (lN 0), .long (lN 600)]) (st := []) mkX12_in qX12_telling_14 rfl rfl rfl rfl rfl (Nat.le_of_ble_eq_true rfl) (m_in) ?_
            rw [show wl l.toInt64 (lN 0) (lN 600) = wi l (nI 0) (nI 600) from wl_of rfl (nI_l (by decide)).symm (nI_l (by decide)).symm]
            refine ok_if_eq bX12_telling_17 (fun g17 => absurd g17 (h16)) (fun _ => ?_)
            refine ok_step (ps := []) (L' := [some (.ref 94), some (.int (nI t)), some (.int l), some (.int h), some (.int what), none, none, none, none]) (st' := [.long (lN 600), .long l.toInt64, .long h.toInt64]) (σ' := (α, μ)) (pc' := 27) kX12_telling_20 rfl rfl rf_a0 ?_
            refine ok_S (As := [.long h.toInt64, .long l.toInt64, .long (lN 600)]) (st := []) mkX12_in qX12_telling_27 rfl rfl rfl rfl rfl (Nat.le_of_ble_eq_true rfl) (m_in) ?_
            rw [show wl h.toInt64 l.toInt64 (lN 600) = wi h l (nI 600) from wl_of rfl rfl (nI_l (by decide)).symm]
            refine ok_if_eq bX12_telling_30 (fun g30 => absurd g30 (h27)) (fun _ => ?_)
            refine ok_step (ps := []) (L' := [some (.ref 94), some (.int (nI t)), some (.int l), some (.int h), some (.int what), none, none, none, none]) (st' := [.long (lN 1), .long (lN 0), .long what.toInt64]) (σ' := (α, μ)) (pc' := 38) kX12_telling_33 rfl rfl rf_a0 ?_
            refine ok_S (As := [.long what.toInt64, .long (lN 0), .long (lN 1)]) (st := []) mkX12_in qX12_telling_38 rfl rfl rfl rfl rfl (Nat.le_of_ble_eq_true rfl) (m_in) ?_
            rw [show wl what.toInt64 (lN 0) (lN 1) = wi what (nI 0) (nI 1) from wl_of rfl (nI_l (by decide)).symm (nI_l (by decide)).symm]
            refine ok_if_ne bX12_telling_41 (fun _ => ?_) (fun g41 => absurd g41 (h37))
            refine ok_step (ps := []) (L' := [some (.ref 94), some (.int (nI t)), some (.int l), some (.int h), some (.int what), some (.int (nI 0)), some (.int (nI 0)), none, none]) (st' := []) (σ' := (α, μ)) (pc' := 56) kX12_telling_50 rfl rfl rf_a0 ?_
            refine (m_t1 (d := μ 95) (by omega) (cn (μ 95) 3) 0 μ hJ rfl (by omega)).mono (fun r s hq => ?_)
            obtain ⟨rfl, ν, rfl, hJ2⟩ := hq
            exact ⟨by first | rw [if_pos h64] | rw [if_neg h64], _, rfl, hJ2⟩
        · refine ok_step (ps := []) (L' := [some (.ref 0), some (.int (nI t)), some (.int l), some (.int h), some (.int what), none]) (st' := [.int (-1000000001), .ref 0]) (σ' := (α, μ)) (pc' := 43) kX11_telling_40 rfl rfl rf_a0 ?_
          refine ok_V (As := [.int (-1000000001)]) (b := 0) (st := []) mkX11_error qX11_telling_43 rfl (rc_0) rfl rfl rfl rfl (Nat.le_of_ble_eq_true rfl) (c_error (k := 1) (by decide) (by decide) (by decide)) ?_
          refine ok_reti eX11_telling_46 rfl ?_
          refine ⟨rfl, _, rfl, ?_⟩
          refine ok_step (ps := []) (L' := [some (.ref 94), some (.int (nI t)), some (.int l), some (.int h), some (.int what), none, none, none, none]) (st' := [.int (nI t), .ref 94]) (σ' := (rf_w α 93 1 (α 93 1 + nI 1), μ)) (pc' := 2) kX12_telling_0 rfl rfl rf_a0 ?_
          refine ok_V (As := [.int (nI t)]) (b := 94) (st := []) mkX12_isTrain qX12_telling_2 rfl (rc_94) rfl rfl rfl rfl (Nat.le_of_ble_eq_true rfl) (m_isTrain) ?_
          refine ok_if_eq bX12_telling_5 (fun g5 => absurd g5 (h5)) (fun _ => ?_)
          refine ok_step (ps := []) (L' := [some (.ref 94), some (.int (nI t)), some (.int l), some (.int h), some (.int what), none, none, none, none]) (st' := [.long (lN 600), .long (lN 0), .long l.toInt64]) (σ' := (rf_w α 93 1 (α 93 1 + nI 1), μ)) (pc' := 14) kX12_telling_8 rfl rfl rf_a0 ?_
          refine ok_S (As := [.long l.toInt64, .long (lN 0), .long (lN 600)]) (st := []) mkX12_in qX12_telling_14 rfl rfl rfl rfl rfl (Nat.le_of_ble_eq_true rfl) (m_in) ?_
          rw [show wl l.toInt64 (lN 0) (lN 600) = wi l (nI 0) (nI 600) from wl_of rfl (nI_l (by decide)).symm (nI_l (by decide)).symm]
          refine ok_if_eq bX12_telling_17 (fun g17 => absurd g17 (h16)) (fun _ => ?_)
          refine ok_step (ps := []) (L' := [some (.ref 94), some (.int (nI t)), some (.int l), some (.int h), some (.int what), none, none, none, none]) (st' := [.long (lN 600), .long l.toInt64, .long h.toInt64]) (σ' := (rf_w α 93 1 (α 93 1 + nI 1), μ)) (pc' := 27) kX12_telling_20 rfl rfl rf_a0 ?_
          refine ok_S (As := [.long h.toInt64, .long l.toInt64, .long (lN 600)]) (st := []) mkX12_in qX12_telling_27 rfl rfl rfl rfl rfl (Nat.le_of_ble_eq_true rfl) (m_in) ?_
          rw [show wl h.toInt64 l.toInt64 (lN 600) = wi h l (nI 600) from wl_of rfl rfl (nI_l (by decide)).symm]
          refine ok_if_eq bX12_telling_30 (fun g30 => absurd g30 (h27)) (fun _ => ?_)
          refine ok_step (ps := []) (L' := [some (.ref 94), some (.int (nI t)), some (.int l), some (.int h), some (.int what), none, none, none, none]) (st' := [.long (lN 1), .long (lN 0), .long what.toInt64]) (σ' := (rf_w α 93 1 (α 93 1 + nI 1), μ)) (pc' := 38) kX12_telling_33 rfl rfl rf_a0 ?_
          refine ok_S (As := [.long what.toInt64, .long (lN 0), .long (lN 1)]) (st := []) mkX12_in qX12_telling_38 rfl rfl rfl rfl rfl (Nat.le_of_ble_eq_true rfl) (m_in) ?_
          rw [show wl what.toInt64 (lN 0) (lN 1) = wi what (nI 0) (nI 1) from wl_of rfl (nI_l (by decide)).symm (nI_l (by decide)).symm]
          refine ok_if_ne bX12_telling_41 (fun g41 => absurd (h37) g41) (fun _ => ?_)
          refine ok_step (ps := []) (L' := [some (.ref 94), some (.int (nI t)), some (.int l), some (.int h), some (.int what), none, none, none, none]) (st' := [.int (nI 1), .ref 94]) (σ' := (rf_w α 93 1 (α 93 1 + nI 1), μ)) (pc' := 46) kX12_telling_44 rfl rfl rf_a0 ?_
          refine ok_V (As := [.int (nI 1)]) (b := 94) (st := []) mkX12_finds qX12_telling_46 rfl (rc_94) rfl rfl rfl rfl (Nat.le_of_ble_eq_true rfl) (m_finds (k := 1) (by decide)) ?_
          refine ok_reti eX12_telling_49 rfl ?_
          exact ⟨rfl, _, rfl, hJ.err (k := 1) (by decide)⟩
theorem c_gate_l {st : Int32}  : ∀ (j i : Nat) (α : Nat → Nat → Int32), J α μ → i + j = cn (μ 95) 4 → rf_Ok (rf_T Ln xs) MX10_fareMissedAt 8 4 [some (.ref 1), some (.int st), some (.int (sumI (f_gate (μ 95) st) i)), some (.int (nI i)), none, none] [] (α, μ) (fun r s => r = some (.int (μ 95 8 * sumI (f_gate (μ 95) st) (cn (μ 95) 4))) ∧ ∃ α' : Nat → Nat → Int32, s = (α', μ) ∧ J α' μ) := by
  intro j
  induction j with
  | zero =>
    intro i α hJ hj
    have hR := hJ.1.1.1
    have hI := hJ.2
    have b0 := hI.le0
    have b2 := hI.le2
    have b3 := hI.le3
    have b4 := hI.le4
    have b5 := hI.le5
    have b8 := hI.le8
    have b9 := hI.le9
    have hj : i = cn (μ 95) 4 := by omega
    refine ok_step (ps := []) (L' := [some (.ref 1), some (.int st), some (.int (sumI (f_gate (μ 95) st) i)), some (.int (nI i)), none, none]) (st' := [.int (α 10 0), .int (nI i)]) (σ' := (α, μ)) (pc' := 12) kX10_fareMissedAt_4 rfl rfl rf_a0 ?_
    try rw [(show α 10 0 = μ 95 4 from hR 9 0 4 rfl)]
    refine ok_icmp_ge bX10_fareMissedAt_12 (fun _ => ?_) (fun h12 => absurd (le_of hI.at4 (by omega) (by omega)) h12)
    refine ok_step (ps := []) (L' := [some (.ref 1), some (.int st), some (.int (sumI (f_gate (μ 95) st) i)), some (.int (nI i)), none, none]) (st' := [.int ((α 10 1) * (sumI (f_gate (μ 95) st) i))]) (σ' := (α, μ)) (pc' := 101) kX10_fareMissedAt_92 rfl rfl rf_a0 ?_
    try rw [(show α 10 1 = μ 95 8 from hR 9 1 8 rfl)]
    refine ok_reti eX10_fareMissedAt_101 rfl ?_
    exact ⟨by rw [hj], _, rfl, hJ⟩
  | succ j ih =>
    intro i α hJ hj
    have hR := hJ.1.1.1
    have hI := hJ.2
    have b0 := hI.le0
    have b2 := hI.le2
    have b3 := hI.le3
    have b4 := hI.le4
    have b5 := hI.le5
    have b8 := hI.le8
    have b9 := hI.le9
    have q1 := (hI.2.2.2.1 i (by omega)).1
    have q2 := hI.2.2.1 (cn (μ 95) (191 + 8 * i)) q1
    have b192 := hI.leb (b := 5) (bd_192 (i := i) (by omega) rfl) (by decide)
    refine ok_step (ps := []) (L' := [some (.ref 1), some (.int st), some (.int (sumI (f_gate (μ 95) st) i)), some (.int (nI i)), none, none]) (st' := [.int (α 10 0), .int (nI i)]) (σ' := (α, μ)) (pc' := 12) kX10_fareMissedAt_4 rfl rfl rf_a0 ?_
    try rw [(show α 10 0 = μ 95 4 from hR 9 0 4 rfl)]
    refine ok_icmp_ge bX10_fareMissedAt_12 (fun h12 => absurd h12 (nle_of hI.at4 (by omega) (by omega))) (fun _ => ?_)
    refine ok_step (ps := [rf_in (nI i) 16, rf_in (nI i) 16]) (L' := [some (.ref 1), some (.int st), some (.int (sumI (f_gate (μ 95) st) i)), some (.int (nI i)), some (.int (α 12 ((nI i).toNatClampNeg))), some (.int (α 13 ((nI i).toNatClampNeg)))]) (st' := [.int (α 12 ((nI i).toNatClampNeg)), .ref 2, .int (α 13 ((nI i).toNatClampNeg))]) (σ' := (α, μ)) (pc' := 45) kX10_fareMissedAt_15 rfl rfl (rf_a1 (rf_in_n (a := i) rfl (by omega)) (rf_a1 (rf_in_n (a := i) rfl (by omega)) rf_a0)) ?_
    try rw [(show (nI i).toNatClampNeg = i from rf_cl_n rfl (by omega))]
    try rw [(show α 12 i = μ 95 (191 + 8 * i) from rl_11 hR (i := i) (by omega) (by omega))]
    try rw [(show (nI i).toNatClampNeg = i from rf_cl_n rfl (by omega))]
    try rw [(show α 13 i = μ 95 (192 + 8 * i) from rl_12 hR (i := i) (by omega) (by omega))]
    rw [show μ 95 (191 + 8 * i) = nI (cn (μ 95) (191 + 8 * i)) from (hI.atb (k := (191 + 8 * i)) (bd_191 (i := i) (by omega) (by omega)) (by decide))]
    refine ok_V (As := [.int (nI (cn (μ 95) (191 + 8 * i)))]) (b := 2) (st := [.int (μ 95 (192 + 8 * i))]) mkX4_stopsOf qX10_fareMissedAt_45 rfl (rc_2) rfl rfl rfl rfl (Nat.le_of_ble_eq_true rfl) (c_stopsOf hR hI (by omega)) ?_
    refine ok_icmp_ge bX10_fareMissedAt_48 (fun h48 => ?_) (fun h48 => ?_)
    · refine ok_step (ps := []) (L' := [some (.ref 1), some (.int st), some (.int (sumI (f_gate (μ 95) st) i)), some (.int ((nI i) + (nI 1))), some (.int (nI (cn (μ 95) (191 + 8 * i)))), some (.int (μ 95 (192 + 8 * i)))]) (st' := []) (σ' := (α, μ)) (pc' := 89) kX10_fareMissedAt_86 rfl rfl rf_a0 ?_
      try rw [(show ((nI i) + (nI 1)) = nI (i + 1) from nI_add _ _)]
      refine ok_goto bX10_fareMissedAt_89 ?_
      rw [show sumI (f_gate (μ 95) st) i = sumI (f_gate (μ 95) st) (i + 1) from sI_0 (by simp [f_gate, h48])]
      refine ok_kill (x := 4) ?_
      refine ok_kill (x := 5) ?_
      exact ih (i + 1) α hJ (by omega)
    · have q3 := lt_n2 (hI.atb (b := 5) (bd_192 (i := i) (by omega) rfl) (by decide)) (st_at hI (by omega)) h48 (by omega)
      refine ok_step (ps := []) (L' := [some (.ref 1), some (.int st), some (.int (sumI (f_gate (μ 95) st) i)), some (.int (nI i)), some (.int (nI (cn (μ 95) (191 + 8 * i)))), some (.int (μ 95 (192 + 8 * i)))]) (st' := [.int (μ 95 (192 + 8 * i)), .int (nI (cn (μ 95) (191 + 8 * i))), .ref 2]) (σ' := (α, μ)) (pc' := 59) kX10_fareMissedAt_51 rfl rfl rf_a0 ?_
      rw [show μ 95 (192 + 8 * i) = nI (cn (μ 95) (192 + 8 * i)) from (hI.atb (k := (192 + 8 * i)) (bd_192 (i := i) (by omega) (by omega)) (by decide))]
      refine ok_V (As := [.int (nI (cn (μ 95) (191 + 8 * i))), .int (nI (cn (μ 95) (192 + 8 * i)))]) (b := 2) (st := []) mkX4_stationAt qX10_fareMissedAt_59 rfl (rc_2) rfl rfl rfl rfl (Nat.le_of_ble_eq_true rfl) (c_stAt hR hI (by omega) (by omega)) ?_
      refine ok_step (ps := []) (L' := [some (.ref 1), some (.int st), some (.int (sumI (f_gate (μ 95) st) i)), some (.int (nI i)), some (.int (nI (cn (μ 95) (191 + 8 * i)))), some (.int (nI (cn (μ 95) (192 + 8 * i))))]) (st' := [.int st, .int (s_stAt (μ 95) (cn (μ 95) (191 + 8 * i)) (cn (μ 95) (192 + 8 * i)))]) (σ' := (α, μ)) (pc' := 63) kX10_fareMissedAt_62 rfl rfl rf_a0 ?_
      refine ok_icmp_ne bX10_fareMissedAt_63 (fun h63 => ?_) (fun h63 => ?_)
      · refine ok_step (ps := []) (L' := [some (.ref 1), some (.int st), some (.int (sumI (f_gate (μ 95) st) i)), some (.int ((nI i) + (nI 1))), some (.int (nI (cn (μ 95) (191 + 8 * i)))), some (.int (nI (cn (μ 95) (192 + 8 * i))))]) (st' := []) (σ' := (α, μ)) (pc' := 89) kX10_fareMissedAt_86 rfl rfl rf_a0 ?_
        try rw [(show ((nI i) + (nI 1)) = nI (i + 1) from nI_add _ _)]
        refine ok_goto bX10_fareMissedAt_89 ?_
        rw [show sumI (f_gate (μ 95) st) i = sumI (f_gate (μ 95) st) (i + 1) from sI_0 (by simp [f_gate, h48, h63])]
        refine ok_kill (x := 4) ?_
        refine ok_kill (x := 5) ?_
        exact ih (i + 1) α hJ (by omega)
      · refine ok_step (ps := []) (L' := [some (.ref 1), some (.int st), some (.int (sumI (f_gate (μ 95) st) i)), some (.int (nI i)), some (.int (nI (cn (μ 95) (191 + 8 * i)))), some (.int (nI (cn (μ 95) (192 + 8 * i))))]) (st' := [.int (nI i), .ref 1]) (σ' := (α, μ)) (pc' := 68) kX10_fareMissedAt_66 rfl rfl rf_a0 ?_
        refine ok_Vx (As := [.int (nI i)]) (b := 1) (st := []) mkX10_paysNow qX10_fareMissedAt_68 rfl (rc_1) rfl rfl rfl rfl (Nat.le_of_ble_eq_true rfl) (c_now hJ (by omega)) (fun r1 σ1 hq => ?_)
        obtain ⟨rfl, α, rfl, hJ⟩ := qJ hJ hq
        have hR := hJ.1.1.1
        refine ok_if_ne bX10_fareMissedAt_71 (fun h71 => ?_) (fun h71 => ?_)
        · refine ok_step (ps := []) (L' := [some (.ref 1), some (.int st), some (.int (sumI (f_gate (μ 95) st) i)), some (.int ((nI i) + (nI 1))), some (.int (nI (cn (μ 95) (191 + 8 * i)))), some (.int (nI (cn (μ 95) (192 + 8 * i))))]) (st' := []) (σ' := (α, μ)) (pc' := 89) kX10_fareMissedAt_86 rfl rfl rf_a0 ?_
          try rw [(show ((nI i) + (nI 1)) = nI (i + 1) from nI_add _ _)]
          refine ok_goto bX10_fareMissedAt_89 ?_
          rw [show sumI (f_gate (μ 95) st) i = sumI (f_gate (μ 95) st) (i + 1) from sI_0 (by simp [f_gate, h48, h63, bI_n0.mp h71])]
          refine ok_kill (x := 4) ?_
          refine ok_kill (x := 5) ?_
          exact ih (i + 1) α hJ (by omega)
        · refine ok_step (ps := [rf_in (nI i) 16]) (L' := [some (.ref 1), some (.int st), some (.int ((sumI (f_gate (μ 95) st) i) + (α 15 ((nI i).toNatClampNeg)))), some (.int (nI i)), some (.int (nI (cn (μ 95) (191 + 8 * i)))), some (.int (nI (cn (μ 95) (192 + 8 * i))))]) (st' := []) (σ' := (α, μ)) (pc' := 86) kX10_fareMissedAt_74 rfl rfl (rf_a1 (rf_in_n (a := i) rfl (by omega)) rf_a0) ?_
          try rw [(show (nI i).toNatClampNeg = i from rf_cl_n rfl (by omega))]
          try rw [(show α 15 i = μ 95 (194 + 8 * i) from rl_14 hR (i := i) (by omega) (by omega))]
          refine ok_step (ps := []) (L' := [some (.ref 1), some (.int st), some (.int ((sumI (f_gate (μ 95) st) i) + (μ 95 (194 + 8 * i)))), some (.int ((nI i) + (nI 1))), some (.int (nI (cn (μ 95) (191 + 8 * i)))), some (.int (nI (cn (μ 95) (192 + 8 * i))))]) (st' := []) (σ' := (α, μ)) (pc' := 89) kX10_fareMissedAt_86 rfl rfl rf_a0 ?_
          try rw [(show ((nI i) + (nI 1)) = nI (i + 1) from nI_add _ _)]
          refine ok_goto bX10_fareMissedAt_89 ?_
          rw [show (sumI (f_gate (μ 95) st) i) + (μ 95 (194 + 8 * i)) = sumI (f_gate (μ 95) st) (i + 1) from sI_1 (by simp [f_gate, h48, h63, bI_0.mp h71])]
          refine ok_kill (x := 4) ?_
          refine ok_kill (x := 5) ?_
          exact ih (i + 1) α hJ (by omega)
theorem c_gate {st : Int32} (hJ : J α μ) : rf_Ok (rf_T Ln xs) MX10_fareMissedAt 8 0 [some (.ref 1), some (.int st), none, none, none, none] [] (α, μ) (fun r s => r = some (.int (μ 95 8 * sumI (f_gate (μ 95) st) (cn (μ 95) 4))) ∧ ∃ α' : Nat → Nat → Int32, s = (α', μ) ∧ J α' μ) := by
  refine ok_step (ps := []) (L' := [some (.ref 1), some (.int st), some (.int (nI 0)), some (.int (nI 0)), none, none]) (st' := []) (σ' := (α, μ)) (pc' := 4) kX10_fareMissedAt_0 rfl rfl rf_a0 ?_
  exact c_gate_l (cn (μ 95) 4) 0 α hJ (by omega)
theorem m_gate_l {st cost : Int32}  : ∀ (j i : Nat) (ν : Nat → Nat → Int32), J α ν → ν 95 = d → i + j = cn d 4 → rf_Ok (rf_T Ln xs) MX12_gate 60 31 [some (.ref 94), some (.int st), some (.int cost), some (.int (sumI (f_gate d st) i)), some (.int (nI i)), none, none] [] (γ, ν) (fun r s => r = some (.int (d 8 * sumI (f_gate d st) (cn d 4) - cost)) ∧ ∃ ν' : Nat → Nat → Int32, s = (γ, ν') ∧ J α ν') := by
  intro j
  induction j with
  | zero =>
    intro i ν hJ hd hj
    have hI : Iv d := by rw [← hd]; exact hJ.2
    have b0 := hI.le0
    have b2 := hI.le2
    have b3 := hI.le3
    have b4 := hI.le4
    have b5 := hI.le5
    have b8 := hI.le8
    have b9 := hI.le9
    have hj : i = cn d 4 := by omega
    refine ok_step (ps := [rf_in (nI 4) 700]) (L' := [some (.ref 94), some (.int st), some (.int cost), some (.int (sumI (f_gate d st) i)), some (.int (nI i)), none, none]) (st' := [.int (ν 95 ((nI 4).toNatClampNeg)), .int (nI i)]) (σ' := (γ, ν)) (pc' := 39) kX12_gate_31 rfl rfl (rf_a1 (rf_in_n (a := 4) rfl (by omega)) rf_a0) ?_
    try rw [(show (nI 4).toNatClampNeg = 4 from rf_cl_n rfl (by omega))]
    try rw [(show ν 95 4 = d 4 from congrFun hd _)]
    refine ok_icmp_ge bX12_gate_39 (fun _ => ?_) (fun h39 => absurd (le_of hI.at4 (by omega) (by omega)) h39)
    refine ok_step (ps := [rf_in (nI 8) 700]) (L' := [some (.ref 94), some (.int st), some (.int cost), some (.int (sumI (f_gate d st) i)), some (.int (nI i)), none, none]) (st' := [.int (((ν 95 ((nI 8).toNatClampNeg)) * (sumI (f_gate d st) i)) - cost)]) (σ' := (γ, ν)) (pc' := 136) kX12_gate_125 rfl rfl (rf_a1 (rf_in_n (a := 8) rfl (by omega)) rf_a0) ?_
    try rw [(show (nI 8).toNatClampNeg = 8 from rf_cl_n rfl (by omega))]
    try rw [(show ν 95 8 = d 8 from congrFun hd _)]
    refine ok_reti eX12_gate_136 rfl ?_
    exact ⟨by rw [hj], _, rfl, hJ⟩
  | succ j ih =>
    intro i ν hJ hd hj
    have hI : Iv d := by rw [← hd]; exact hJ.2
    have b0 := hI.le0
    have b2 := hI.le2
    have b3 := hI.le3
    have b4 := hI.le4
    have b5 := hI.le5
    have b8 := hI.le8
    have b9 := hI.le9
    have q1 := (hI.2.2.2.1 i (by omega)).1
    have q2 := hI.2.2.1 (cn d (191 + 8 * i)) q1
    have b192 := hI.leb (b := 5) (bd_192 (i := i) (by omega) rfl) (by decide)
    refine ok_step (ps := [rf_in (nI 4) 700]) (L' := [some (.ref 94), some (.int st), some (.int cost), some (.int (sumI (f_gate d st) i)), some (.int (nI i)), none, none]) (st' := [.int (ν 95 ((nI 4).toNatClampNeg)), .int (nI i)]) (σ' := (γ, ν)) (pc' := 39) kX12_gate_31 rfl rfl (rf_a1 (rf_in_n (a := 4) rfl (by omega)) rf_a0) ?_
    try rw [(show (nI 4).toNatClampNeg = 4 from rf_cl_n rfl (by omega))]
    try rw [(show ν 95 4 = d 4 from congrFun hd _)]
    refine ok_icmp_ge bX12_gate_39 (fun h39 => absurd h39 (nle_of hI.at4 (by omega) (by omega))) (fun _ => ?_)
    refine ok_step (ps := []) (L' := [some (.ref 94), some (.int st), some (.int cost), some (.int (sumI (f_gate d st) i)), some (.int (nI i)), none, none]) (st' := [.int (nI 1), .int (nI i), .ref 94]) (σ' := (γ, ν)) (pc' := 46) kX12_gate_42 rfl rfl rf_a0 ?_
    refine ok_V (As := [.int (nI i), .int (nI 1)]) (b := 94) (st := []) mkX12_gr qX12_gate_46 rfl (rc_94) rfl rfl rfl rfl (Nat.le_of_ble_eq_true rfl) (m_gr_d (j := (191 + 8 * i)) hd (by omega) (by omega) (by omega)) ?_
    refine ok_step (ps := []) (L' := [some (.ref 94), some (.int st), some (.int cost), some (.int (sumI (f_gate d st) i)), some (.int (nI i)), some (.int (d (191 + 8 * i))), none]) (st' := [.int (nI 2), .int (nI i), .ref 94]) (σ' := (γ, ν)) (pc' := 55) kX12_gate_49 rfl rfl rf_a0 ?_
    refine ok_V (As := [.int (nI i), .int (nI 2)]) (b := 94) (st := []) mkX12_gr qX12_gate_55 rfl (rc_94) rfl rfl rfl rfl (Nat.le_of_ble_eq_true rfl) (m_gr_d (j := (192 + 8 * i)) hd (by omega) (by omega) (by omega)) ?_
    refine ok_step (ps := []) (L' := [some (.ref 94), some (.int st), some (.int cost), some (.int (sumI (f_gate d st) i)), some (.int (nI i)), some (.int (d (191 + 8 * i))), none]) (st' := [.int (d (191 + 8 * i)), .ref 94, .int (d (192 + 8 * i))]) (σ' := (γ, ν)) (pc' := 61) kX12_gate_58 rfl rfl rf_a0 ?_
    rw [show d (191 + 8 * i) = nI (cn (d) (191 + 8 * i)) from (hI.atb (k := (191 + 8 * i)) (bd_191 (i := i) (by omega) (by omega)) (by decide))]
    refine ok_V (As := [.int (nI (cn (d) (191 + 8 * i)))]) (b := 94) (st := [.int (d (192 + 8 * i))]) mkX12_stopsOf qX12_gate_61 rfl (rc_94) rfl rfl rfl rfl (Nat.le_of_ble_eq_true rfl) (m_stopsOf_d hI hd (by omega)) ?_
    refine ok_icmp_ge bX12_gate_64 (fun h64 => ?_) (fun h64 => ?_)
    · refine ok_step (ps := []) (L' := [some (.ref 94), some (.int st), some (.int cost), some (.int (sumI (f_gate d st) i)), some (.int (nI i)), some (.int (nI (cn (d) (191 + 8 * i)))), none]) (st' := [.int (nI 0)]) (σ' := (γ, ν)) (pc' := 89) kX12_gate_88 rfl rfl rf_a0 ?_
      refine ok_step (ps := []) (L' := [some (.ref 94), some (.int st), some (.int cost), some (.int (sumI (f_gate d st) i)), some (.int (nI i)), some (.int (nI (cn (d) (191 + 8 * i)))), some (.int (nI 0))]) (st' := [.int (nI 0), .int (sumI (f_gate d st) i)]) (σ' := (γ, ν)) (pc' := 94) kX12_gate_89 rfl rfl rf_a0 ?_
      refine ok_if_eq bX12_gate_94 (fun _ => ?_) (fun h94 => absurd ((by decide)) h94)
      refine ok_step (ps := []) (L' := [some (.ref 94), some (.int st), some (.int cost), some (.int (sumI (f_gate d st) i)), some (.int (nI i)), some (.int (nI (cn (d) (191 + 8 * i)))), some (.int (nI 0))]) (st' := [.int (nI 0), .int (sumI (f_gate d st) i)]) (σ' := (γ, ν)) (pc' := 117) kX12_gate_116 rfl rfl rf_a0 ?_
      refine ok_step (ps := []) (L' := [some (.ref 94), some (.int st), some (.int cost), some (.int ((sumI (f_gate d st) i) + (nI 0))), some (.int ((nI i) + (nI 1))), some (.int (nI (cn (d) (191 + 8 * i)))), some (.int (nI 0))]) (st' := []) (σ' := (γ, ν)) (pc' := 122) kX12_gate_117 rfl rfl rf_a0 ?_
      try rw [(show ((nI i) + (nI 1)) = nI (i + 1) from nI_add _ _)]
      refine ok_goto bX12_gate_122 ?_
      rw [show (sumI (f_gate d st) i) + (nI 0) = sumI (f_gate d st) (i + 1) from sI_1 (by simp [f_gate, nI_0, h64])]
      refine ok_kill (x := 5) ?_
      refine ok_kill (x := 6) ?_
      exact ih (i + 1) ν hJ hd (by omega)
    · have q3 := lt_n2 (hI.atb (b := 5) (bd_192 (i := i) (by omega) rfl) (by decide)) (st_at hI (by omega)) h64 (by omega)
      refine ok_step (ps := []) (L' := [some (.ref 94), some (.int st), some (.int cost), some (.int (sumI (f_gate d st) i)), some (.int (nI i)), some (.int (nI (cn (d) (191 + 8 * i)))), none]) (st' := [.int (nI 2), .int (nI i), .ref 94, .int (nI (cn (d) (191 + 8 * i))), .ref 94]) (σ' := (γ, ν)) (pc' := 74) kX12_gate_67 rfl rfl rf_a0 ?_
      refine ok_V (As := [.int (nI i), .int (nI 2)]) (b := 94) (st := [.int (nI (cn (d) (191 + 8 * i))), .ref 94]) mkX12_gr qX12_gate_74 rfl (rc_94) rfl rfl rfl rfl (Nat.le_of_ble_eq_true rfl) (m_gr_d (j := (192 + 8 * i)) hd (by omega) (by omega) (by omega)) ?_
      rw [show d (192 + 8 * i) = nI (cn (d) (192 + 8 * i)) from (hI.atb (k := (192 + 8 * i)) (bd_192 (i := i) (by omega) (by omega)) (by decide))]
      refine ok_V (As := [.int (nI (cn (d) (191 + 8 * i))), .int (nI (cn (d) (192 + 8 * i)))]) (b := 94) (st := []) mkX12_stationAt qX12_gate_77 rfl (rc_94) rfl rfl rfl rfl (Nat.le_of_ble_eq_true rfl) (m_stAt_d hI hd (by omega) (by omega)) ?_
      refine ok_step (ps := []) (L' := [some (.ref 94), some (.int st), some (.int cost), some (.int (sumI (f_gate d st) i)), some (.int (nI i)), some (.int (nI (cn (d) (191 + 8 * i)))), none]) (st' := [.int st, .int (s_stAt d (cn (d) (191 + 8 * i)) (cn (d) (192 + 8 * i)))]) (σ' := (γ, ν)) (pc' := 81) kX12_gate_80 rfl rfl rf_a0 ?_
      refine ok_icmp_ne bX12_gate_81 (fun h81 => ?_) (fun h81 => ?_)
      · refine ok_step (ps := []) (L' := [some (.ref 94), some (.int st), some (.int cost), some (.int (sumI (f_gate d st) i)), some (.int (nI i)), some (.int (nI (cn (d) (191 + 8 * i)))), none]) (st' := [.int (nI 0)]) (σ' := (γ, ν)) (pc' := 89) kX12_gate_88 rfl rfl rf_a0 ?_
        refine ok_step (ps := []) (L' := [some (.ref 94), some (.int st), some (.int cost), some (.int (sumI (f_gate d st) i)), some (.int (nI i)), some (.int (nI (cn (d) (191 + 8 * i)))), some (.int (nI 0))]) (st' := [.int (nI 0), .int (sumI (f_gate d st) i)]) (σ' := (γ, ν)) (pc' := 94) kX12_gate_89 rfl rfl rf_a0 ?_
        refine ok_if_eq bX12_gate_94 (fun _ => ?_) (fun h94 => absurd ((by decide)) h94)
        refine ok_step (ps := []) (L' := [some (.ref 94), some (.int st), some (.int cost), some (.int (sumI (f_gate d st) i)), some (.int (nI i)), some (.int (nI (cn (d) (191 + 8 * i)))), some (.int (nI 0))]) (st' := [.int (nI 0), .int (sumI (f_gate d st) i)]) (σ' := (γ, ν)) (pc' := 117) kX12_gate_116 rfl rfl rf_a0 ?_
        refine ok_step (ps := []) (L' := [some (.ref 94), some (.int st), some (.int cost), some (.int ((sumI (f_gate d st) i) + (nI 0))), some (.int ((nI i) + (nI 1))), some (.int (nI (cn (d) (191 + 8 * i)))), some (.int (nI 0))]) (st' := []) (σ' := (γ, ν)) (pc' := 122) kX12_gate_117 rfl rfl rf_a0 ?_
        try rw [(show ((nI i) + (nI 1)) = nI (i + 1) from nI_add _ _)]
        refine ok_goto bX12_gate_122 ?_
        rw [show (sumI (f_gate d st) i) + (nI 0) = sumI (f_gate d st) (i + 1) from sI_1 (by simp [f_gate, nI_0, h64, h81])]
        refine ok_kill (x := 5) ?_
        refine ok_kill (x := 6) ?_
        exact ih (i + 1) ν hJ hd (by omega)
      · refine ok_step (ps := []) (L' := [some (.ref 94), some (.int st), some (.int cost), some (.int (sumI (f_gate d st) i)), some (.int (nI i)), some (.int (nI (cn (d) (191 + 8 * i)))), none]) (st' := [.int (nI 1)]) (σ' := (γ, ν)) (pc' := 85) kX12_gate_84 rfl rfl rf_a0 ?_
        refine ok_goto bX12_gate_85 ?_
        refine ok_step (ps := []) (L' := [some (.ref 94), some (.int st), some (.int cost), some (.int (sumI (f_gate d st) i)), some (.int (nI i)), some (.int (nI (cn (d) (191 + 8 * i)))), some (.int (nI 1))]) (st' := [.int (nI 1), .int (sumI (f_gate d st) i)]) (σ' := (γ, ν)) (pc' := 94) kX12_gate_89 rfl rfl rf_a0 ?_
        refine ok_if_eq bX12_gate_94 (fun h94 => absurd h94 ((by decide))) (fun _ => ?_)
        refine ok_step (ps := []) (L' := [some (.ref 94), some (.int st), some (.int cost), some (.int (sumI (f_gate d st) i)), some (.int (nI i)), some (.int (nI (cn (d) (191 + 8 * i)))), some (.int (nI 1))]) (st' := [.int (nI i), .ref 94, .int (sumI (f_gate d st) i)]) (σ' := (γ, ν)) (pc' := 100) kX12_gate_97 rfl rfl rf_a0 ?_
        refine ok_Vx (As := [.int (nI i)]) (b := 94) (st := [.int (sumI (f_gate d st) i)]) mkX12_pays qX12_gate_100 rfl (rc_94) rfl rfl rfl rfl (Nat.le_of_ble_eq_true rfl) (m_pays hJ hd (by omega)) (fun r1 σ1 hq => ?_)
        obtain ⟨rfl, ν, rfl, hJ, hd, -⟩ := hq
        refine ok_if_ne bX12_gate_103 (fun h103 => ?_) (fun h103 => ?_)
        · refine ok_step (ps := []) (L' := [some (.ref 94), some (.int st), some (.int cost), some (.int (sumI (f_gate d st) i)), some (.int (nI i)), some (.int (nI (cn (d) (191 + 8 * i)))), some (.int (nI 1))]) (st' := [.int (nI 0), .int (sumI (f_gate d st) i)]) (σ' := (γ, ν)) (pc' := 117) kX12_gate_116 rfl rfl rf_a0 ?_
          refine ok_step (ps := []) (L' := [some (.ref 94), some (.int st), some (.int cost), some (.int ((sumI (f_gate d st) i) + (nI 0))), some (.int ((nI i) + (nI 1))), some (.int (nI (cn (d) (191 + 8 * i)))), some (.int (nI 1))]) (st' := []) (σ' := (γ, ν)) (pc' := 122) kX12_gate_117 rfl rfl rf_a0 ?_
          try rw [(show ((nI i) + (nI 1)) = nI (i + 1) from nI_add _ _)]
          refine ok_goto bX12_gate_122 ?_
          rw [show (sumI (f_gate d st) i) + (nI 0) = sumI (f_gate d st) (i + 1) from sI_1 (by simp [f_gate, nI_0, h64, h81, bI_n0.mp h103])]
          refine ok_kill (x := 5) ?_
          refine ok_kill (x := 6) ?_
          exact ih (i + 1) ν hJ hd (by omega)
        · refine ok_step (ps := []) (L' := [some (.ref 94), some (.int st), some (.int cost), some (.int (sumI (f_gate d st) i)), some (.int (nI i)), some (.int (nI (cn (d) (191 + 8 * i)))), some (.int (nI 1))]) (st' := [.int (nI 4), .int (nI i), .ref 94, .int (sumI (f_gate d st) i)]) (σ' := (γ, ν)) (pc' := 110) kX12_gate_106 rfl rfl rf_a0 ?_
          refine ok_V (As := [.int (nI i), .int (nI 4)]) (b := 94) (st := [.int (sumI (f_gate d st) i)]) mkX12_gr qX12_gate_110 rfl (rc_94) rfl rfl rfl rfl (Nat.le_of_ble_eq_true rfl) (m_gr_d (j := (194 + 8 * i)) hd (by omega) (by omega) (by omega)) ?_
          refine ok_goto bX12_gate_113 ?_
          refine ok_step (ps := []) (L' := [some (.ref 94), some (.int st), some (.int cost), some (.int ((sumI (f_gate d st) i) + (d (194 + 8 * i)))), some (.int ((nI i) + (nI 1))), some (.int (nI (cn (d) (191 + 8 * i)))), some (.int (nI 1))]) (st' := []) (σ' := (γ, ν)) (pc' := 122) kX12_gate_117 rfl rfl rf_a0 ?_
          try rw [(show ((nI i) + (nI 1)) = nI (i + 1) from nI_add _ _)]
          refine ok_goto bX12_gate_122 ?_
          rw [show (sumI (f_gate d st) i) + (d (194 + 8 * i)) = sumI (f_gate d st) (i + 1) from sI_1 (by simp [f_gate, nI_0, h64, h81, bI_0.mp h103])]
          refine ok_kill (x := 5) ?_
          refine ok_kill (x := 6) ?_
          exact ih (i + 1) ν hJ hd (by omega)
theorem op_gate {station : Int32} {cost : Int32} (hJ : J α μ)  : Op (rf_T Ln xs) MX11_gate MX12_gate [some (.ref 0), some (.int station), some (.int cost)] [some (.ref 94), some (.int station), some (.int cost), none, none, none, none] α μ := by
  have hR := hJ.1.1.1
  have hI := hJ.2
  have b0 := hI.le0
  have b1 := hI.le1
  have b2 := hI.le2
  have b3 := hI.le3
  have b4 := hI.le4
  have b5 := hI.le5
  have b6 := hI.le6
  have b8 := hI.le8
  have b9 := hI.le9
  have b11 := hI.le11
  have b12 := hI.le12
  refine ok_step (ps := []) (L' := [some (.ref 0), some (.int station), some (.int cost)]) (st' := [.int station, .ref 0]) (σ' := (α, μ)) (pc' := 2) kX11_gate_0 rfl rfl rf_a0 ?_
  refine ok_V (As := [.int station]) (b := 0) (st := []) mkX11_isStation qX11_gate_2 rfl (rc_0) rfl rfl rfl rfl (Nat.le_of_ble_eq_true rfl) (c_isStation hR) ?_
  refine ok_if_eq bX11_gate_5 (fun h5 => ?_) (fun h5 => ?_)
  · refine ok_step (ps := []) (L' := [some (.ref 0), some (.int station), some (.int cost)]) (st' := [.int (-1000000001), .ref 0]) (σ' := (α, μ)) (pc' := 22) kX11_gate_19 rfl rfl rf_a0 ?_
    refine ok_V (As := [.int (-1000000001)]) (b := 0) (st := []) mkX11_error qX11_gate_22 rfl (rc_0) rfl rfl rfl rfl (Nat.le_of_ble_eq_true rfl) (c_error (k := 1) (by decide) (by decide) (by decide)) ?_
    refine ok_reti eX11_gate_25 rfl ?_
    refine ⟨rfl, _, rfl, ?_⟩
    refine ok_step (ps := []) (L' := [some (.ref 94), some (.int station), some (.int cost), none, none, none, none]) (st' := [.int station, .ref 94]) (σ' := (rf_w α 93 1 (α 93 1 + nI 1), μ)) (pc' := 2) kX12_gate_0 rfl rfl rf_a0 ?_
    refine ok_V (As := [.int station]) (b := 94) (st := []) mkX12_isStation qX12_gate_2 rfl (rc_94) rfl rfl rfl rfl (Nat.le_of_ble_eq_true rfl) (m_isStation) ?_
    refine ok_if_eq bX12_gate_5 (fun _ => ?_) (fun g5 => absurd (h5) g5)
    refine ok_step (ps := []) (L' := [some (.ref 94), some (.int station), some (.int cost), none, none, none, none]) (st' := [.int (nI 1), .ref 94]) (σ' := (rf_w α 93 1 (α 93 1 + nI 1), μ)) (pc' := 22) kX12_gate_20 rfl rfl rf_a0 ?_
    refine ok_V (As := [.int (nI 1)]) (b := 94) (st := []) mkX12_finds qX12_gate_22 rfl (rc_94) rfl rfl rfl rfl (Nat.le_of_ble_eq_true rfl) (m_finds (k := 1) (by decide)) ?_
    refine ok_reti eX12_gate_25 rfl ?_
    exact ⟨rfl, _, rfl, hJ.err (k := 1) (by decide)⟩
  · refine ok_step (ps := []) (L' := [some (.ref 0), some (.int station), some (.int cost)]) (st' := [.int (nI 99999), .int (nI 0), .int cost]) (σ' := (α, μ)) (pc' := 13) kX11_gate_8 rfl rfl rf_a0 ?_
    refine ok_S (As := [.int cost, .int (nI 0), .int (nI 99999)]) (st := []) mkX11_within qX11_gate_13 rfl rfl rfl rfl rfl (Nat.le_of_ble_eq_true rfl) (c_within) ?_
    refine ok_if_ne bX11_gate_16 (fun h16 => ?_) (fun h16 => ?_)
    · refine ok_step (ps := []) (L' := [some (.ref 0), some (.int station), some (.int cost)]) (st' := [.int station, .ref 1]) (σ' := (α, μ)) (pc' := 31) kX11_gate_26 rfl rfl rf_a0 ?_
      refine ok_Vx (As := [.int station]) (b := 1) (st := []) mkX10_fareMissedAt qX11_gate_31 rfl (rc_1) rfl rfl rfl rfl (Nat.le_of_ble_eq_true rfl) (c_gate hJ) (fun r1 σ1 hq => ?_)
      obtain ⟨rfl, α, rfl, hJ⟩ := hq
      refine ok_step (ps := []) (L' := [some (.ref 0), some (.int station), some (.int cost)]) (st' := [.int ((μ 95 8 * sumI (f_gate (μ 95) station) (cn (μ 95) 4)) - cost)]) (σ' := (α, μ)) (pc' := 36) kX11_gate_34 rfl rfl rf_a0 ?_
      refine ok_reti eX11_gate_36 rfl ?_
      refine ⟨rfl, _, rfl, ?_⟩
      refine ok_step (ps := []) (L' := [some (.ref 94), some (.int station), some (.int cost), none, none, none, none]) (st' := [.int station, .ref 94]) (σ' := (α, μ)) (pc' := 2) kX12_gate_0 rfl rfl rf_a0 ?_
      refine ok_V (As := [.int station]) (b := 94) (st := []) mkX12_isStation qX12_gate_2 rfl (rc_94) rfl rfl rfl rfl (Nat.le_of_ble_eq_true rfl) (m_isStation) ?_
      refine ok_if_eq bX12_gate_5 (fun g5 => absurd g5 (h5)) (fun _ => ?_)
      refine ok_step (ps := []) (L' := [some (.ref 94), some (.int station), some (.int cost), none, none, none, none]) (st' := [.long (lN 99999), .long (lN 0), .long cost.toInt64]) (σ' := (α, μ)) (pc' := 14) kX12_gate_8 rfl rfl rf_a0 ?_
      refine ok_S (As := [.long cost.toInt64, .long (lN 0), .long (lN 99999)]) (st := []) mkX12_in qX12_gate_14 rfl rfl rfl rfl rfl (Nat.le_of_ble_eq_true rfl) (m_in) ?_
      rw [show wl cost.toInt64 (lN 0) (lN 99999) = wi cost (nI 0) (nI 99999) from wl_of rfl (nI_l (by decide)).symm (nI_l (by decide)).symm]
      refine ok_if_ne bX12_gate_17 (fun _ => ?_) (fun g17 => absurd g17 (h16))
      refine ok_step (ps := []) (L' := [some (.ref 94), some (.int station), some (.int cost), some (.int (nI 0)), some (.int (nI 0)), none, none]) (st' := []) (σ' := (α, μ)) (pc' := 31) kX12_gate_26 rfl rfl rf_a0 ?_
      refine (m_gate_l (d := μ 95) (cn (μ 95) 4) 0 μ hJ rfl (by omega)).mono (fun r s hq => ?_)
      obtain ⟨rfl, ν, rfl, hJ2⟩ := hq
      exact ⟨rfl, _, rfl, hJ2⟩
    · refine ok_step (ps := []) (L' := [some (.ref 0), some (.int station), some (.int cost)]) (st' := [.int (-1000000001), .ref 0]) (σ' := (α, μ)) (pc' := 22) kX11_gate_19 rfl rfl rf_a0 ?_
      refine ok_V (As := [.int (-1000000001)]) (b := 0) (st := []) mkX11_error qX11_gate_22 rfl (rc_0) rfl rfl rfl rfl (Nat.le_of_ble_eq_true rfl) (c_error (k := 1) (by decide) (by decide) (by decide)) ?_
      refine ok_reti eX11_gate_25 rfl ?_
      refine ⟨rfl, _, rfl, ?_⟩
      refine ok_step (ps := []) (L' := [some (.ref 94), some (.int station), some (.int cost), none, none, none, none]) (st' := [.int station, .ref 94]) (σ' := (rf_w α 93 1 (α 93 1 + nI 1), μ)) (pc' := 2) kX12_gate_0 rfl rfl rf_a0 ?_
      refine ok_V (As := [.int station]) (b := 94) (st := []) mkX12_isStation qX12_gate_2 rfl (rc_94) rfl rfl rfl rfl (Nat.le_of_ble_eq_true rfl) (m_isStation) ?_
      refine ok_if_eq bX12_gate_5 (fun g5 => absurd g5 (h5)) (fun _ => ?_)
      refine ok_step (ps := []) (L' := [some (.ref 94), some (.int station), some (.int cost), none, none, none, none]) (st' := [.long (lN 99999), .long (lN 0), .long cost.toInt64]) (σ' := (rf_w α 93 1 (α 93 1 + nI 1), μ)) (pc' := 14) kX12_gate_8 rfl rfl rf_a0 ?_
      refine ok_S (As := [.long cost.toInt64, .long (lN 0), .long (lN 99999)]) (st := []) mkX12_in qX12_gate_14 rfl rfl rfl rfl rfl (Nat.le_of_ble_eq_true rfl) (m_in) ?_
      rw [show wl cost.toInt64 (lN 0) (lN 99999) = wi cost (nI 0) (nI 99999) from wl_of rfl (nI_l (by decide)).symm (nI_l (by decide)).symm]
      refine ok_if_ne bX12_gate_17 (fun g17 => absurd (h16) g17) (fun _ => ?_)
      refine ok_step (ps := []) (L' := [some (.ref 94), some (.int station), some (.int cost), none, none, none, none]) (st' := [.int (nI 1), .ref 94]) (σ' := (rf_w α 93 1 (α 93 1 + nI 1), μ)) (pc' := 22) kX12_gate_20 rfl rfl rf_a0 ?_
      refine ok_V (As := [.int (nI 1)]) (b := 94) (st := []) mkX12_finds qX12_gate_22 rfl (rc_94) rfl rfl rfl rfl (Nat.le_of_ble_eq_true rfl) (m_finds (k := 1) (by decide)) ?_
      refine ok_reti eX12_gate_25 rfl ?_
      exact ⟨rfl, _, rfl, hJ.err (k := 1) (by decide)⟩
theorem c_shr_l {l : Nat}  : ∀ (j i : Nat) (α : Nat → Nat → Int32), J α μ → i + j = cn (μ 95) 4 → rf_Ok (rf_T Ln xs) MX10_unpaidOfHundred 8 7 [some (.ref 1), some (.int (nI l)), some (.int (sumI (f_rid (μ 95) l) i)), some (.int (sumI (f_fre (μ 95) l) i)), some (.int (nI i))] [] (α, μ) (fun r s => r = some (.int (s_shr (μ 95) l)) ∧ ∃ α' : Nat → Nat → Int32, s = (α', μ) ∧ J α' μ) := by
  intro j
  induction j with
  | zero =>
    intro i α hJ hj
    have hR := hJ.1.1.1
    have hI := hJ.2
    have b0 := hI.le0
    have b2 := hI.le2
    have b3 := hI.le3
    have b4 := hI.le4
    have b5 := hI.le5
    have b8 := hI.le8
    have b9 := hI.le9
    have hj : i = cn (μ 95) 4 := by omega
    refine ok_step (ps := []) (L' := [some (.ref 1), some (.int (nI l)), some (.int (sumI (f_rid (μ 95) l) i)), some (.int (sumI (f_fre (μ 95) l) i)), some (.int (nI i))]) (st' := [.int (α 10 0), .int (nI i)]) (σ' := (α, μ)) (pc' := 16) kX10_unpaidOfHundred_7 rfl rfl rf_a0 ?_
    try rw [(show α 10 0 = μ 95 4 from hR 9 0 4 rfl)]
    refine ok_icmp_ge bX10_unpaidOfHundred_16 (fun _ => ?_) (fun h16 => absurd (le_of hI.at4 (by omega) (by omega)) h16)
    refine ok_step (ps := []) (L' := [some (.ref 1), some (.int (nI l)), some (.int (sumI (f_rid (μ 95) l) i)), some (.int (sumI (f_fre (μ 95) l) i)), some (.int (nI i))]) (st' := [.int (sumI (f_rid (μ 95) l) i)]) (σ' := (α, μ)) (pc' := 87) kX10_unpaidOfHundred_86 rfl rfl rf_a0 ?_
    refine ok_if_ne bX10_unpaidOfHundred_87 (fun h87 => ?_) (fun h87 => ?_)
    · refine ok_step (ps := [rf_nz (sumI (f_rid (μ 95) l) i)]) (L' := [some (.ref 1), some (.int (nI l)), some (.int (sumI (f_rid (μ 95) l) i)), some (.int (sumI (f_fre (μ 95) l) i)), some (.int (nI i))]) (st' := [.int (((sumI (f_fre (μ 95) l) i) * (nI 100)) / (sumI (f_rid (μ 95) l) i))]) (σ' := (α, μ)) (pc' := 100) kX10_unpaidOfHundred_94 rfl rfl (rf_a1 (nz_of h87) rf_a0) ?_
      refine ok_reti eX10_unpaidOfHundred_100 rfl ?_
      subst hj
      exact ⟨by unfold s_shr; first | rw [if_pos h87] | rw [if_neg h87], _, rfl, hJ⟩
    · refine ok_step (ps := []) (L' := [some (.ref 1), some (.int (nI l)), some (.int (sumI (f_rid (μ 95) l) i)), some (.int (sumI (f_fre (μ 95) l) i)), some (.int (nI i))]) (st' := [.int (-1)]) (σ' := (α, μ)) (pc' := 91) kX10_unpaidOfHundred_90 rfl rfl rf_a0 ?_
      refine ok_goto bX10_unpaidOfHundred_91 ?_
      refine ok_reti eX10_unpaidOfHundred_100 rfl ?_
      subst hj
      exact ⟨by unfold s_shr; first | rw [if_pos h87] | rw [if_neg h87], _, rfl, hJ⟩
  | succ j ih =>
    intro i α hJ hj
    have hR := hJ.1.1.1
    have hI := hJ.2
    have b0 := hI.le0
    have b2 := hI.le2
    have b3 := hI.le3
    have b4 := hI.le4
    have b5 := hI.le5
    have b8 := hI.le8
    have b9 := hI.le9
    have q1 := (hI.2.2.2.1 i (by omega)).1
    refine ok_step (ps := []) (L' := [some (.ref 1), some (.int (nI l)), some (.int (sumI (f_rid (μ 95) l) i)), some (.int (sumI (f_fre (μ 95) l) i)), some (.int (nI i))]) (st' := [.int (α 10 0), .int (nI i)]) (σ' := (α, μ)) (pc' := 16) kX10_unpaidOfHundred_7 rfl rfl rf_a0 ?_
    try rw [(show α 10 0 = μ 95 4 from hR 9 0 4 rfl)]
    refine ok_icmp_ge bX10_unpaidOfHundred_16 (fun h16 => absurd h16 (nle_of hI.at4 (by omega) (by omega))) (fun _ => ?_)
    refine ok_step (ps := [rf_in (nI i) 16, rf_in (α 12 ((nI i).toNatClampNeg)) 12]) (L' := [some (.ref 1), some (.int (nI l)), some (.int (sumI (f_rid (μ 95) l) i)), some (.int (sumI (f_fre (μ 95) l) i)), some (.int (nI i))]) (st' := [.int (nI l), .int (α 7 ((α 12 ((nI i).toNatClampNeg)).toNatClampNeg))]) (σ' := (α, μ)) (pc' := 38) kX10_unpaidOfHundred_19 rfl rfl (rf_a1 (rf_in_n (a := i) rfl (by omega)) (rf_a1 (rf_in_n (a := (cn (μ 95) (191 + 8 * i))) (by (try rw [(show (nI i).toNatClampNeg = i from rf_cl_n rfl (by omega))]); (try rw [(show α 12 i = μ 95 (191 + 8 * i) from rl_11 hR (i := i) (by omega) (by omega))]); all_goals exact (hI.atb (k := (191 + 8 * i)) (bd_191 (i := i) (by omega) (by omega)) (by decide))) (by omega)) rf_a0)) ?_
    try rw [(show (nI i).toNatClampNeg = i from rf_cl_n rfl (by omega))]
    try rw [(show α 12 i = μ 95 (191 + 8 * i) from rl_11 hR (i := i) (by omega) (by omega))]
    try rw [(show (μ 95 (191 + 8 * i)).toNatClampNeg = (cn (μ 95) (191 + 8 * i)) from rf_cl_n (hI.atb (k := (191 + 8 * i)) (bd_191 (i := i) (by omega) (by omega)) (by decide)) (by omega))]
    try rw [(show α 7 (cn (μ 95) (191 + 8 * i)) = μ 95 (150 + 3 * cn (μ 95) (191 + 8 * i)) from rl_6 hR (i := (cn (μ 95) (191 + 8 * i))) (by omega) (by omega))]
    refine ok_icmp_ne bX10_unpaidOfHundred_38 (fun h38 => ?_) (fun h38 => ?_)
    · refine ok_step (ps := []) (L' := [some (.ref 1), some (.int (nI l)), some (.int (sumI (f_rid (μ 95) l) i)), some (.int (sumI (f_fre (μ 95) l) i)), some (.int ((nI i) + (nI 1)))]) (st' := []) (σ' := (α, μ)) (pc' := 83) kX10_unpaidOfHundred_80 rfl rfl rf_a0 ?_
      try rw [(show ((nI i) + (nI 1)) = nI (i + 1) from nI_add _ _)]
      refine ok_goto bX10_unpaidOfHundred_83 ?_
      rw [show (sumI (f_rid (μ 95) l) i : Int32) = sumI (f_rid (μ 95) l) (i + 1) from sI_0 (by simp [f_rid, f_fre, nI_0, h38])]
      rw [show (sumI (f_fre (μ 95) l) i : Int32) = sumI (f_fre (μ 95) l) (i + 1) from sI_0 (by simp [f_rid, f_fre, nI_0, h38])]
      exact ih (i + 1) α hJ (by omega)
    · refine ok_step (ps := [rf_in (nI i) 16]) (L' := [some (.ref 1), some (.int (nI l)), some (.int ((sumI (f_rid (μ 95) l) i) + (α 15 ((nI i).toNatClampNeg)))), some (.int (sumI (f_fre (μ 95) l) i)), some (.int (nI i))]) (st' := [.int (nI i), .ref 1, .int (sumI (f_fre (μ 95) l) i)]) (σ' := (α, μ)) (pc' := 58) kX10_unpaidOfHundred_41 rfl rfl (rf_a1 (rf_in_n (a := i) rfl (by omega)) rf_a0) ?_
      try rw [(show (nI i).toNatClampNeg = i from rf_cl_n rfl (by omega))]
      try rw [(show α 15 i = μ 95 (194 + 8 * i) from rl_14 hR (i := i) (by omega) (by omega))]
      refine ok_Vx (As := [.int (nI i)]) (b := 1) (st := [.int (sumI (f_fre (μ 95) l) i)]) mkX10_paysNow qX10_unpaidOfHundred_58 rfl (rc_1) rfl rfl rfl rfl (Nat.le_of_ble_eq_true rfl) (c_now hJ (by omega)) (fun r1 σ1 hq => ?_)
      obtain ⟨rfl, α, rfl, hJ⟩ := qJ hJ hq
      have hR := hJ.1.1.1
      refine ok_if_eq bX10_unpaidOfHundred_61 (fun h61 => ?_) (fun h61 => ?_)
      · refine ok_step (ps := [rf_in (nI i) 16]) (L' := [some (.ref 1), some (.int (nI l)), some (.int ((sumI (f_rid (μ 95) l) i) + (μ 95 (194 + 8 * i)))), some (.int (sumI (f_fre (μ 95) l) i)), some (.int (nI i))]) (st' := [.int (α 15 ((nI i).toNatClampNeg)), .int (sumI (f_fre (μ 95) l) i)]) (σ' := (α, μ)) (pc' := 78) kX10_unpaidOfHundred_68 rfl rfl (rf_a1 (rf_in_n (a := i) rfl (by omega)) rf_a0) ?_
        try rw [(show (nI i).toNatClampNeg = i from rf_cl_n rfl (by omega))]
        try rw [(show α 15 i = μ 95 (194 + 8 * i) from rl_14 hR (i := i) (by omega) (by omega))]
        refine ok_step (ps := []) (L' := [some (.ref 1), some (.int (nI l)), some (.int ((sumI (f_rid (μ 95) l) i) + (μ 95 (194 + 8 * i)))), some (.int ((sumI (f_fre (μ 95) l) i) + (μ 95 (194 + 8 * i)))), some (.int (nI i))]) (st' := []) (σ' := (α, μ)) (pc' := 80) kX10_unpaidOfHundred_78 rfl rfl rf_a0 ?_
        refine ok_step (ps := []) (L' := [some (.ref 1), some (.int (nI l)), some (.int ((sumI (f_rid (μ 95) l) i) + (μ 95 (194 + 8 * i)))), some (.int ((sumI (f_fre (μ 95) l) i) + (μ 95 (194 + 8 * i)))), some (.int ((nI i) + (nI 1)))]) (st' := []) (σ' := (α, μ)) (pc' := 83) kX10_unpaidOfHundred_80 rfl rfl rf_a0 ?_
        try rw [(show ((nI i) + (nI 1)) = nI (i + 1) from nI_add _ _)]
        refine ok_goto bX10_unpaidOfHundred_83 ?_
        rw [show ((sumI (f_rid (μ 95) l) i) + (μ 95 (194 + 8 * i)) : Int32) = sumI (f_rid (μ 95) l) (i + 1) from sI_1 (by simp [f_rid, f_fre, nI_0, h38, bI_0.mp h61])]
        rw [show ((sumI (f_fre (μ 95) l) i) + (μ 95 (194 + 8 * i)) : Int32) = sumI (f_fre (μ 95) l) (i + 1) from sI_1 (by simp [f_rid, f_fre, nI_0, h38, bI_0.mp h61])]
        exact ih (i + 1) α hJ (by omega)
      · refine ok_step (ps := []) (L' := [some (.ref 1), some (.int (nI l)), some (.int ((sumI (f_rid (μ 95) l) i) + (μ 95 (194 + 8 * i)))), some (.int (sumI (f_fre (μ 95) l) i)), some (.int (nI i))]) (st' := [.int (nI 0), .int (sumI (f_fre (μ 95) l) i)]) (σ' := (α, μ)) (pc' := 65) kX10_unpaidOfHundred_64 rfl rfl rf_a0 ?_
        refine ok_goto bX10_unpaidOfHundred_65 ?_
        refine ok_step (ps := []) (L' := [some (.ref 1), some (.int (nI l)), some (.int ((sumI (f_rid (μ 95) l) i) + (μ 95 (194 + 8 * i)))), some (.int ((sumI (f_fre (μ 95) l) i) + (nI 0))), some (.int (nI i))]) (st' := []) (σ' := (α, μ)) (pc' := 80) kX10_unpaidOfHundred_78 rfl rfl rf_a0 ?_
        refine ok_step (ps := []) (L' := [some (.ref 1), some (.int (nI l)), some (.int ((sumI (f_rid (μ 95) l) i) + (μ 95 (194 + 8 * i)))), some (.int ((sumI (f_fre (μ 95) l) i) + (nI 0))), some (.int ((nI i) + (nI 1)))]) (st' := []) (σ' := (α, μ)) (pc' := 83) kX10_unpaidOfHundred_80 rfl rfl rf_a0 ?_
        try rw [(show ((nI i) + (nI 1)) = nI (i + 1) from nI_add _ _)]
        refine ok_goto bX10_unpaidOfHundred_83 ?_
        rw [show ((sumI (f_rid (μ 95) l) i) + (μ 95 (194 + 8 * i)) : Int32) = sumI (f_rid (μ 95) l) (i + 1) from sI_1 (by simp [f_rid, f_fre, nI_0, h38, bI_n0.mp h61])]
        rw [show ((sumI (f_fre (μ 95) l) i) + (nI 0) : Int32) = sumI (f_fre (μ 95) l) (i + 1) from sI_1 (by simp [f_rid, f_fre, nI_0, h38, bI_n0.mp h61])]
        exact ih (i + 1) α hJ (by omega)
theorem c_shr {l : Nat} (hJ : J α μ) : rf_Ok (rf_T Ln xs) MX10_unpaidOfHundred 8 0 [some (.ref 1), some (.int (nI l)), none, none, none] [] (α, μ) (fun r s => r = some (.int (s_shr (μ 95) l)) ∧ ∃ α' : Nat → Nat → Int32, s = (α', μ) ∧ J α' μ) := by
  refine ok_step (ps := []) (L' := [some (.ref 1), some (.int (nI l)), some (.int (nI 0)), some (.int (nI 0)), some (.int (nI 0))]) (st' := []) (σ' := (α, μ)) (pc' := 7) kX10_unpaidOfHundred_0 rfl rfl rf_a0 ?_
  exact c_shr_l (cn (μ 95) 4) 0 α hJ (by omega)
theorem c_fair_l {what : Int32}  : ∀ (j i : Nat) (α : Nat → Nat → Int32), J α μ → i + j = cn (μ 95) 2 → rf_Ok (rf_T Ln xs) MX11_fair 60 23 [some (.ref 0), some (.int what), some (.int ((s_fair (μ 95) i).1)), some (.int ((s_fair (μ 95) i).2)), some (.int (nI i)), none] [] (α, μ) (fun r s => r = some (.int (if (s_fair (μ 95) (cn (μ 95) 2)).1 < 0 then (-1000000000) - nI 2 else if what = 0 then (s_fair (μ 95) (cn (μ 95) 2)).1 else (s_fair (μ 95) (cn (μ 95) 2)).2)) ∧ ∃ α1 : Nat → Nat → Int32, J α1 μ ∧ s = (if (s_fair (μ 95) (cn (μ 95) 2)).1 < 0 then rf_w α1 93 2 (α1 93 2 + nI 1) else α1, μ)) := by
  intro j
  induction j with
  | zero =>
    intro i α hJ hj
    have hR := hJ.1.1.1
    have hI := hJ.2
    have b0 := hI.le0
    have b2 := hI.le2
    have b3 := hI.le3
    have b4 := hI.le4
    have b5 := hI.le5
    have b8 := hI.le8
    have b9 := hI.le9
    have hj : i = cn (μ 95) 2 := by omega
    refine ok_step (ps := []) (L' := [some (.ref 0), some (.int what), some (.int ((s_fair (μ 95) i).1)), some (.int ((s_fair (μ 95) i).2)), some (.int (nI i)), none]) (st' := [.int (α 2 1), .int (nI i)]) (σ' := (α, μ)) (pc' := 35) kX11_fair_23 rfl rfl rf_a0 ?_
    try rw [(show α 2 1 = μ 95 2 from hR 1 1 2 rfl)]
    refine ok_icmp_ge bX11_fair_35 (fun _ => ?_) (fun h35 => absurd (le_of hI.at2 (by omega) (by omega)) h35)
    refine ok_step (ps := []) (L' := [some (.ref 0), some (.int what), some (.int ((s_fair (μ 95) i).1)), some (.int ((s_fair (μ 95) i).2)), some (.int (nI i)), none]) (st' := [.int ((s_fair (μ 95) i).1)]) (σ' := (α, μ)) (pc' := 68) kX11_fair_67 rfl rfl rf_a0 ?_
    refine ok_if_ge bX11_fair_68 (fun h68 => ?_) (fun h68 => ?_)
    · refine ok_step (ps := []) (L' := [some (.ref 0), some (.int what), some (.int ((s_fair (μ 95) i).1)), some (.int ((s_fair (μ 95) i).2)), some (.int (nI i)), none]) (st' := [.int what]) (σ' := (α, μ)) (pc' := 79) kX11_fair_78 rfl rfl rf_a0 ?_
      refine ok_if_ne bX11_fair_79 (fun h79 => ?_) (fun h79 => ?_)
      · refine ok_step (ps := []) (L' := [some (.ref 0), some (.int what), some (.int ((s_fair (μ 95) i).1)), some (.int ((s_fair (μ 95) i).2)), some (.int (nI i)), none]) (st' := [.int ((s_fair (μ 95) i).2)]) (σ' := (α, μ)) (pc' := 87) kX11_fair_86 rfl rfl rf_a0 ?_
        refine ok_reti eX11_fair_87 rfl ?_
        subst hj
        exact ⟨by first | rw [if_pos (Int32.not_le.mp h68)] | rw [if_neg (Int32.not_lt.mpr h68), if_pos h79] | rw [if_neg (Int32.not_lt.mpr h68), if_neg h79], α, hJ, by first | rw [if_pos (Int32.not_le.mp h68)] | rw [if_neg (Int32.not_lt.mpr h68)]⟩
      · refine ok_step (ps := []) (L' := [some (.ref 0), some (.int what), some (.int ((s_fair (μ 95) i).1)), some (.int ((s_fair (μ 95) i).2)), some (.int (nI i)), none]) (st' := [.int ((s_fair (μ 95) i).1)]) (σ' := (α, μ)) (pc' := 83) kX11_fair_82 rfl rfl rf_a0 ?_
        refine ok_goto bX11_fair_83 ?_
        refine ok_reti eX11_fair_87 rfl ?_
        subst hj
        exact ⟨by first | rw [if_pos (Int32.not_le.mp h68)] | rw [if_neg (Int32.not_lt.mpr h68), if_pos h79] | rw [if_neg (Int32.not_lt.mpr h68), if_neg h79], α, hJ, by first | rw [if_pos (Int32.not_le.mp h68)] | rw [if_neg (Int32.not_lt.mpr h68)]⟩
    · refine ok_step (ps := []) (L' := [some (.ref 0), some (.int what), some (.int ((s_fair (μ 95) i).1)), some (.int ((s_fair (μ 95) i).2)), some (.int (nI i)), none]) (st' := [.int (-1000000002), .ref 0]) (σ' := (α, μ)) (pc' := 74) kX11_fair_71 rfl rfl rf_a0 ?_
      refine ok_V (As := [.int (-1000000002)]) (b := 0) (st := []) mkX11_error qX11_fair_74 rfl (rc_0) rfl rfl rfl rfl (Nat.le_of_ble_eq_true rfl) (c_error (k := 2) (by decide) (by decide) (by decide)) ?_
      refine ok_reti eX11_fair_77 rfl ?_
      subst hj
      exact ⟨by first | rw [if_pos (Int32.not_le.mp h68)] | rw [if_neg (Int32.not_lt.mpr h68), if_pos h79] | rw [if_neg (Int32.not_lt.mpr h68), if_neg h79], α, hJ, by first | rw [if_pos (Int32.not_le.mp h68)] | rw [if_neg (Int32.not_lt.mpr h68)]⟩
  | succ j ih =>
    intro i α hJ hj
    have hR := hJ.1.1.1
    have hI := hJ.2
    have b0 := hI.le0
    have b2 := hI.le2
    have b3 := hI.le3
    have b4 := hI.le4
    have b5 := hI.le5
    have b8 := hI.le8
    have b9 := hI.le9
    refine ok_step (ps := []) (L' := [some (.ref 0), some (.int what), some (.int ((s_fair (μ 95) i).1)), some (.int ((s_fair (μ 95) i).2)), some (.int (nI i)), none]) (st' := [.int (α 2 1), .int (nI i)]) (σ' := (α, μ)) (pc' := 35) kX11_fair_23 rfl rfl rf_a0 ?_
    try rw [(show α 2 1 = μ 95 2 from hR 1 1 2 rfl)]
    refine ok_icmp_ge bX11_fair_35 (fun h35 => absurd h35 (nle_of hI.at2 (by omega) (by omega))) (fun _ => ?_)
    refine ok_step (ps := []) (L' := [some (.ref 0), some (.int what), some (.int ((s_fair (μ 95) i).1)), some (.int ((s_fair (μ 95) i).2)), some (.int (nI i)), none]) (st' := [.int (nI i), .ref 1]) (σ' := (α, μ)) (pc' := 44) kX11_fair_38 rfl rfl rf_a0 ?_
    refine ok_Vx (As := [.int (nI i)]) (b := 1) (st := []) mkX10_unpaidOfHundred qX11_fair_44 rfl (rc_1) rfl rfl rfl rfl (Nat.le_of_ble_eq_true rfl) (c_shr hJ) (fun r1 σ1 hq => ?_)
    obtain ⟨rfl, α, rfl, hJ⟩ := hq
    have hR := hJ.1.1.1
    refine ok_step (ps := []) (L' := [some (.ref 0), some (.int what), some (.int ((s_fair (μ 95) i).1)), some (.int ((s_fair (μ 95) i).2)), some (.int (nI i)), some (.int (s_shr (μ 95) i))]) (st' := [.int ((s_fair (μ 95) i).2), .int (s_shr (μ 95) i)]) (σ' := (α, μ)) (pc' := 52) kX11_fair_47 rfl rfl rf_a0 ?_
    refine ok_icmp_le bX11_fair_52 (fun h52 => ?_) (fun h52 => ?_)
    · refine ok_step (ps := []) (L' := [some (.ref 0), some (.int what), some (.int ((s_fair (μ 95) i).1)), some (.int ((s_fair (μ 95) i).2)), some (.int ((nI i) + (nI 1))), some (.int (s_shr (μ 95) i))]) (st' := []) (σ' := (α, μ)) (pc' := 64) kX11_fair_61 rfl rfl rf_a0 ?_
      try rw [(show ((nI i) + (nI 1)) = nI (i + 1) from nI_add _ _)]
      refine ok_goto bX11_fair_64 ?_
      have e1 : (s_fair (μ 95) i) = s_fair (μ 95) (i + 1) := fair_0 h52
      rw [show ((s_fair (μ 95) i).1 : Int32) = (s_fair (μ 95) (i + 1)).1 from congrArg Prod.fst e1, show ((s_fair (μ 95) i).2 : Int32) = (s_fair (μ 95) (i + 1)).2 from congrArg Prod.snd e1]
      refine ok_kill (x := 5) ?_
      exact ih (i + 1) α hJ (by omega)
    · refine ok_step (ps := []) (L' := [some (.ref 0), some (.int what), some (.int (nI i)), some (.int (s_shr (μ 95) i)), some (.int (nI i)), some (.int (s_shr (μ 95) i))]) (st' := []) (σ' := (α, μ)) (pc' := 61) kX11_fair_55 rfl rfl rf_a0 ?_
      refine ok_step (ps := []) (L' := [some (.ref 0), some (.int what), some (.int (nI i)), some (.int (s_shr (μ 95) i)), some (.int ((nI i) + (nI 1))), some (.int (s_shr (μ 95) i))]) (st' := []) (σ' := (α, μ)) (pc' := 64) kX11_fair_61 rfl rfl rf_a0 ?_
      try rw [(show ((nI i) + (nI 1)) = nI (i + 1) from nI_add _ _)]
      refine ok_goto bX11_fair_64 ?_
      have e1 : (nI i, s_shr (μ 95) i) = s_fair (μ 95) (i + 1) := fair_1 h52
      rw [show (nI i : Int32) = (s_fair (μ 95) (i + 1)).1 from congrArg Prod.fst e1, show (s_shr (μ 95) i : Int32) = (s_fair (μ 95) (i + 1)).2 from congrArg Prod.snd e1]
      refine ok_kill (x := 5) ?_
      exact ih (i + 1) α hJ (by omega)
theorem m_fair_g {what bb mo : Int32} {l : Nat} {Q : Option Value → rf_Mem → Prop} (k : ∀ ν : Nat → Nat → Int32, J α ν → ν 95 = d → rf_Ok (rf_T Ln xs) MX12_fair 60 134 [some (.ref 94), some (.int what), some (.int bb), some (.int mo), some (.int (nI l)), some (.int (sumI (f_rid d l) (cn d 4))), some (.int (sumI (f_fre d l) (cn d 4))), none, none] [] (γ, ν) Q) : ∀ (j i : Nat) (ν : Nat → Nat → Int32), J α ν → ν 95 = d → i + j = cn d 4 → rf_Ok (rf_T Ln xs) MX12_fair 60 43 [some (.ref 94), some (.int what), some (.int bb), some (.int mo), some (.int (nI l)), some (.int (sumI (f_rid d l) i)), some (.int (sumI (f_fre d l) i)), some (.int (nI i)), none] [] (γ, ν) (Q) := by
  intro j
  induction j with
  | zero =>
    intro i ν hJ hd hj
    have hI : Iv d := by rw [← hd]; exact hJ.2
    have b0 := hI.le0
    have b2 := hI.le2
    have b3 := hI.le3
    have b4 := hI.le4
    have b5 := hI.le5
    have b8 := hI.le8
    have b9 := hI.le9
    have hj : i = cn d 4 := by omega
    refine ok_step (ps := [rf_in (nI 4) 700]) (L' := [some (.ref 94), some (.int what), some (.int bb), some (.int mo), some (.int (nI l)), some (.int (sumI (f_rid d l) i)), some (.int (sumI (f_fre d l) i)), some (.int (nI i)), none]) (st' := [.int (ν 95 ((nI 4).toNatClampNeg)), .int (nI i)]) (σ' := (γ, ν)) (pc' := 51) kX12_fair_43 rfl rfl (rf_a1 (rf_in_n (a := 4) rfl (by omega)) rf_a0) ?_
    try rw [(show (nI 4).toNatClampNeg = 4 from rf_cl_n rfl (by omega))]
    try rw [(show ν 95 4 = d 4 from congrFun hd _)]
    refine ok_icmp_ge bX12_fair_51 (fun _ => ?_) (fun h51 => absurd (le_of hI.at4 (by omega) (by omega)) h51)
    subst hj
    refine ok_kill (x := 7) ?_
    exact k ν hJ hd
  | succ j ih =>
    intro i ν hJ hd hj
    have hI : Iv d := by rw [← hd]; exact hJ.2
    have b0 := hI.le0
    have b2 := hI.le2
    have b3 := hI.le3
    have b4 := hI.le4
    have b5 := hI.le5
    have b8 := hI.le8
    have b9 := hI.le9
    have q1 := (hI.2.2.2.1 i (by omega)).1
    refine ok_step (ps := [rf_in (nI 4) 700]) (L' := [some (.ref 94), some (.int what), some (.int bb), some (.int mo), some (.int (nI l)), some (.int (sumI (f_rid d l) i)), some (.int (sumI (f_fre d l) i)), some (.int (nI i)), none]) (st' := [.int (ν 95 ((nI 4).toNatClampNeg)), .int (nI i)]) (σ' := (γ, ν)) (pc' := 51) kX12_fair_43 rfl rfl (rf_a1 (rf_in_n (a := 4) rfl (by omega)) rf_a0) ?_
    try rw [(show (nI 4).toNatClampNeg = 4 from rf_cl_n rfl (by omega))]
    try rw [(show ν 95 4 = d 4 from congrFun hd _)]
    refine ok_icmp_ge bX12_fair_51 (fun h51 => absurd h51 (nle_of hI.at4 (by omega) (by omega))) (fun _ => ?_)
    refine ok_step (ps := []) (L' := [some (.ref 94), some (.int what), some (.int bb), some (.int mo), some (.int (nI l)), some (.int (sumI (f_rid d l) i)), some (.int (sumI (f_fre d l) i)), some (.int (nI i)), none]) (st' := [.int (nI 1), .int (nI i), .ref 94, .ref 94]) (σ' := (γ, ν)) (pc' := 59) kX12_fair_54 rfl rfl rf_a0 ?_
    refine ok_V (As := [.int (nI i), .int (nI 1)]) (b := 94) (st := [.ref 94]) mkX12_gr qX12_fair_59 rfl (rc_94) rfl rfl rfl rfl (Nat.le_of_ble_eq_true rfl) (m_gr_d (j := (191 + 8 * i)) hd (by omega) (by omega) (by omega)) ?_
    rw [show d (191 + 8 * i) = nI (cn (d) (191 + 8 * i)) from (hI.atb (k := (191 + 8 * i)) (bd_191 (i := i) (by omega) (by omega)) (by decide))]
    refine ok_V (As := [.int (nI (cn (d) (191 + 8 * i)))]) (b := 94) (st := []) mkX12_lineOf qX12_fair_62 rfl (rc_94) rfl rfl rfl rfl (Nat.le_of_ble_eq_true rfl) (m_lineOf_d hI hd (by omega)) ?_
    refine ok_step (ps := []) (L' := [some (.ref 94), some (.int what), some (.int bb), some (.int mo), some (.int (nI l)), some (.int (sumI (f_rid d l) i)), some (.int (sumI (f_fre d l) i)), some (.int (nI i)), none]) (st' := [.int (nI l), .int (d (150 + 3 * cn (d) (191 + 8 * i)))]) (σ' := (γ, ν)) (pc' := 67) kX12_fair_65 rfl rfl rf_a0 ?_
    refine ok_icmp_ne bX12_fair_67 (fun h67 => ?_) (fun h67 => ?_)
    · refine ok_step (ps := []) (L' := [some (.ref 94), some (.int what), some (.int bb), some (.int mo), some (.int (nI l)), some (.int (sumI (f_rid d l) i)), some (.int (sumI (f_fre d l) i)), some (.int (nI i)), none]) (st' := [.int (nI 0)]) (σ' := (γ, ν)) (pc' := 75) kX12_fair_74 rfl rfl rf_a0 ?_
      refine ok_step (ps := []) (L' := [some (.ref 94), some (.int what), some (.int bb), some (.int mo), some (.int (nI l)), some (.int (sumI (f_rid d l) i)), some (.int (sumI (f_fre d l) i)), some (.int (nI i)), some (.int (nI 0))]) (st' := [.int (nI 0), .int (sumI (f_rid d l) i)]) (σ' := (γ, ν)) (pc' := 81) kX12_fair_75 rfl rfl rf_a0 ?_
      refine ok_if_eq bX12_fair_81 (fun _ => ?_) (fun h81 => absurd ((by decide)) h81)
      refine ok_step (ps := []) (L' := [some (.ref 94), some (.int what), some (.int bb), some (.int mo), some (.int (nI l)), some (.int (sumI (f_rid d l) i)), some (.int (sumI (f_fre d l) i)), some (.int (nI i)), some (.int (nI 0))]) (st' := [.int (nI 0), .int (sumI (f_rid d l) i)]) (σ' := (γ, ν)) (pc' := 95) kX12_fair_94 rfl rfl rf_a0 ?_
      refine ok_step (ps := []) (L' := [some (.ref 94), some (.int what), some (.int bb), some (.int mo), some (.int (nI l)), some (.int ((sumI (f_rid d l) i) + (nI 0))), some (.int (sumI (f_fre d l) i)), some (.int (nI i)), some (.int (nI 0))]) (st' := [.int (nI 0), .int (sumI (f_fre d l) i)]) (σ' := (γ, ν)) (pc' := 102) kX12_fair_95 rfl rfl rf_a0 ?_
      refine ok_if_eq bX12_fair_102 (fun _ => ?_) (fun h102 => absurd ((by decide)) h102)
      refine ok_step (ps := []) (L' := [some (.ref 94), some (.int what), some (.int bb), some (.int mo), some (.int (nI l)), some (.int ((sumI (f_rid d l) i) + (nI 0))), some (.int (sumI (f_fre d l) i)), some (.int (nI i)), some (.int (nI 0))]) (st' := [.int (nI 0), .int (sumI (f_fre d l) i)]) (σ' := (γ, ν)) (pc' := 125) kX12_fair_124 rfl rfl rf_a0 ?_
      refine ok_step (ps := []) (L' := [some (.ref 94), some (.int what), some (.int bb), some (.int mo), some (.int (nI l)), some (.int ((sumI (f_rid d l) i) + (nI 0))), some (.int ((sumI (f_fre d l) i) + (nI 0))), some (.int ((nI i) + (nI 1))), some (.int (nI 0))]) (st' := []) (σ' := (γ, ν)) (pc' := 131) kX12_fair_125 rfl rfl rf_a0 ?_
      try rw [(show ((nI i) + (nI 1)) = nI (i + 1) from nI_add _ _)]
      refine ok_goto bX12_fair_131 ?_
      rw [show ((sumI (f_rid d l) i) + (nI 0) : Int32) = sumI (f_rid d l) (i + 1) from sI_1 (by simp [f_rid, f_fre, nI_0, h67])]
      rw [show ((sumI (f_fre d l) i) + (nI 0) : Int32) = sumI (f_fre d l) (i + 1) from sI_1 (by simp [f_rid, f_fre, nI_0, h67])]
      refine ok_kill (x := 8) ?_
      exact ih (i + 1) ν hJ hd (by omega)
    · refine ok_step (ps := []) (L' := [some (.ref 94), some (.int what), some (.int bb), some (.int mo), some (.int (nI l)), some (.int (sumI (f_rid d l) i)), some (.int (sumI (f_fre d l) i)), some (.int (nI i)), none]) (st' := [.int (nI 1)]) (σ' := (γ, ν)) (pc' := 71) kX12_fair_70 rfl rfl rf_a0 ?_
      refine ok_goto bX12_fair_71 ?_
      refine ok_step (ps := []) (L' := [some (.ref 94), some (.int what), some (.int bb), some (.int mo), some (.int (nI l)), some (.int (sumI (f_rid d l) i)), some (.int (sumI (f_fre d l) i)), some (.int (nI i)), some (.int (nI 1))]) (st' := [.int (nI 1), .int (sumI (f_rid d l) i)]) (σ' := (γ, ν)) (pc' := 81) kX12_fair_75 rfl rfl rf_a0 ?_
      refine ok_if_eq bX12_fair_81 (fun h81 => absurd h81 ((by decide))) (fun _ => ?_)
      refine ok_step (ps := []) (L' := [some (.ref 94), some (.int what), some (.int bb), some (.int mo), some (.int (nI l)), some (.int (sumI (f_rid d l) i)), some (.int (sumI (f_fre d l) i)), some (.int (nI i)), some (.int (nI 1))]) (st' := [.int (nI 4), .int (nI i), .ref 94, .int (sumI (f_rid d l) i)]) (σ' := (γ, ν)) (pc' := 88) kX12_fair_84 rfl rfl rf_a0 ?_
      refine ok_V (As := [.int (nI i), .int (nI 4)]) (b := 94) (st := [.int (sumI (f_rid d l) i)]) mkX12_gr qX12_fair_88 rfl (rc_94) rfl rfl rfl rfl (Nat.le_of_ble_eq_true rfl) (m_gr_d (j := (194 + 8 * i)) hd (by omega) (by omega) (by omega)) ?_
      refine ok_goto bX12_fair_91 ?_
      refine ok_step (ps := []) (L' := [some (.ref 94), some (.int what), some (.int bb), some (.int mo), some (.int (nI l)), some (.int ((sumI (f_rid d l) i) + (d (194 + 8 * i)))), some (.int (sumI (f_fre d l) i)), some (.int (nI i)), some (.int (nI 1))]) (st' := [.int (nI 1), .int (sumI (f_fre d l) i)]) (σ' := (γ, ν)) (pc' := 102) kX12_fair_95 rfl rfl rf_a0 ?_
      refine ok_if_eq bX12_fair_102 (fun h102 => absurd h102 ((by decide))) (fun _ => ?_)
      refine ok_step (ps := []) (L' := [some (.ref 94), some (.int what), some (.int bb), some (.int mo), some (.int (nI l)), some (.int ((sumI (f_rid d l) i) + (d (194 + 8 * i)))), some (.int (sumI (f_fre d l) i)), some (.int (nI i)), some (.int (nI 1))]) (st' := [.int (nI i), .ref 94, .int (sumI (f_fre d l) i)]) (σ' := (γ, ν)) (pc' := 108) kX12_fair_105 rfl rfl rf_a0 ?_
      refine ok_Vx (As := [.int (nI i)]) (b := 94) (st := [.int (sumI (f_fre d l) i)]) mkX12_pays qX12_fair_108 rfl (rc_94) rfl rfl rfl rfl (Nat.le_of_ble_eq_true rfl) (m_pays hJ hd (by omega)) (fun r1 σ1 hq => ?_)
      obtain ⟨rfl, ν, rfl, hJ, hd, -⟩ := hq
      refine ok_if_ne bX12_fair_111 (fun h111 => ?_) (fun h111 => ?_)
      · refine ok_step (ps := []) (L' := [some (.ref 94), some (.int what), some (.int bb), some (.int mo), some (.int (nI l)), some (.int ((sumI (f_rid d l) i) + (d (194 + 8 * i)))), some (.int (sumI (f_fre d l) i)), some (.int (nI i)), some (.int (nI 1))]) (st' := [.int (nI 0), .int (sumI (f_fre d l) i)]) (σ' := (γ, ν)) (pc' := 125) kX12_fair_124 rfl rfl rf_a0 ?_
        refine ok_step (ps := []) (L' := [some (.ref 94), some (.int what), some (.int bb), some (.int mo), some (.int (nI l)), some (.int ((sumI (f_rid d l) i) + (d (194 + 8 * i)))), some (.int ((sumI (f_fre d l) i) + (nI 0))), some (.int ((nI i) + (nI 1))), some (.int (nI 1))]) (st' := []) (σ' := (γ, ν)) (pc' := 131) kX12_fair_125 rfl rfl rf_a0 ?_
        try rw [(show ((nI i) + (nI 1)) = nI (i + 1) from nI_add _ _)]
        refine ok_goto bX12_fair_131 ?_
        rw [show ((sumI (f_rid d l) i) + (d (194 + 8 * i)) : Int32) = sumI (f_rid d l) (i + 1) from sI_1 (by simp [f_rid, f_fre, nI_0, h67, bI_n0.mp h111])]
        rw [show ((sumI (f_fre d l) i) + (nI 0) : Int32) = sumI (f_fre d l) (i + 1) from sI_1 (by simp [f_rid, f_fre, nI_0, h67, bI_n0.mp h111])]
        refine ok_kill (x := 8) ?_
        exact ih (i + 1) ν hJ hd (by omega)
      · refine ok_step (ps := []) (L' := [some (.ref 94), some (.int what), some (.int bb), some (.int mo), some (.int (nI l)), some (.int ((sumI (f_rid d l) i) + (d (194 + 8 * i)))), some (.int (sumI (f_fre d l) i)), some (.int (nI i)), some (.int (nI 1))]) (st' := [.int (nI 4), .int (nI i), .ref 94, .int (sumI (f_fre d l) i)]) (σ' := (γ, ν)) (pc' := 118) kX12_fair_114 rfl rfl rf_a0 ?_
        refine ok_V (As := [.int (nI i), .int (nI 4)]) (b := 94) (st := [.int (sumI (f_fre d l) i)]) mkX12_gr qX12_fair_118 rfl (rc_94) rfl rfl rfl rfl (Nat.le_of_ble_eq_true rfl) (m_gr_d (j := (194 + 8 * i)) hd (by omega) (by omega) (by omega)) ?_
        refine ok_goto bX12_fair_121 ?_
        refine ok_step (ps := []) (L' := [some (.ref 94), some (.int what), some (.int bb), some (.int mo), some (.int (nI l)), some (.int ((sumI (f_rid d l) i) + (d (194 + 8 * i)))), some (.int ((sumI (f_fre d l) i) + (d (194 + 8 * i)))), some (.int ((nI i) + (nI 1))), some (.int (nI 1))]) (st' := []) (σ' := (γ, ν)) (pc' := 131) kX12_fair_125 rfl rfl rf_a0 ?_
        try rw [(show ((nI i) + (nI 1)) = nI (i + 1) from nI_add _ _)]
        refine ok_goto bX12_fair_131 ?_
        rw [show ((sumI (f_rid d l) i) + (d (194 + 8 * i)) : Int32) = sumI (f_rid d l) (i + 1) from sI_1 (by simp [f_rid, f_fre, nI_0, h67, bI_0.mp h111])]
        rw [show ((sumI (f_fre d l) i) + (d (194 + 8 * i)) : Int32) = sumI (f_fre d l) (i + 1) from sI_1 (by simp [f_rid, f_fre, nI_0, h67, bI_0.mp h111])]
        refine ok_kill (x := 8) ?_
        exact ih (i + 1) ν hJ hd (by omega)
theorem shr_m {l : Nat} {x : Int32} (h : ¬ sumI (f_rid d l) (cn d 4) = 0) : nI 100 * sumI (f_fre d l) (cn d 4) / sumI (f_rid d l) (cn d 4) = s_shr d l := by
  unfold s_shr
  rw [if_neg h, Int32.mul_comm]
theorem shr_0 {l : Nat} (h : sumI (f_rid d l) (cn d 4) = 0) : (-1) = s_shr d l := by
  unfold s_shr
  rw [if_pos h]
theorem m_fair_l {what : Int32} : ∀ (j i : Nat) (ν : Nat → Nat → Int32), J α ν → ν 95 = d → i + j = cn d 2 → rf_Ok (rf_T Ln xs) MX12_fair 60 23 [some (.ref 94), some (.int what), some (.int ((s_fair d i).1)), some (.int ((s_fair d i).2)), some (.int (nI i)), none, none, none, none] [] (γ, ν) (fun r s => r = some (.int (if (s_fair d (cn d 2)).1 < 0 then (-1000000000) - nI 2 else if what = 0 then (s_fair d (cn d 2)).1 else (s_fair d (cn d 2)).2)) ∧ ∃ ν1 : Nat → Nat → Int32, J α ν1 ∧ s = (γ, if (s_fair d (cn d 2)).1 < 0 then rf_w ν1 97 2 (ν1 97 2 + nI 1) else ν1)) := by
  intro j
  induction j with
  | zero =>
    intro i ν hJ hd hj
    have hI : Iv d := by rw [← hd]; exact hJ.2
    have b0 := hI.le0
    have b2 := hI.le2
    have b3 := hI.le3
    have b4 := hI.le4
    have b5 := hI.le5
    have b8 := hI.le8
    have b9 := hI.le9
    obtain rfl : i = cn d 2 := by omega
    refine ok_step (ps := [rf_in (nI 2) 700]) (L' := [some (.ref 94), some (.int what), some (.int ((s_fair d (cn d 2)).1)), some (.int ((s_fair d (cn d 2)).2)), some (.int (nI ((cn d 2)))), none, none, none, none]) (st' := [.int (ν 95 ((nI 2).toNatClampNeg)), .int (nI ((cn d 2)))]) (σ' := (γ, ν)) (pc' := 31) kX12_fair_23 rfl rfl (rf_a1 (rf_in_n (a := 2) rfl (by omega)) rf_a0) ?_
    try rw [(show (nI 2).toNatClampNeg = 2 from rf_cl_n rfl (by omega))]
    try rw [(show ν 95 2 = d 2 from congrFun hd _)]
    refine ok_icmp_ge bX12_fair_31 (fun _ => ?_) (fun h31 => absurd (le_of hI.at2 (by omega) (by omega)) h31)
    refine ok_step (ps := []) (L' := [some (.ref 94), some (.int what), some (.int ((s_fair d (cn d 2)).1)), some (.int ((s_fair d (cn d 2)).2)), some (.int (nI ((cn d 2)))), none, none, none, none]) (st' := [.int ((s_fair d (cn d 2)).1)]) (σ' := (γ, ν)) (pc' := 186) kX12_fair_185 rfl rfl rf_a0 ?_
    refine ok_if_ge bX12_fair_186 (fun h186 => ?_) (fun h186 => ?_)
    · refine ok_step (ps := []) (L' := [some (.ref 94), some (.int what), some (.int ((s_fair d (cn d 2)).1)), some (.int ((s_fair d (cn d 2)).2)), some (.int (nI ((cn d 2)))), none, none, none, none]) (st' := [.int what]) (σ' := (γ, ν)) (pc' := 198) kX12_fair_197 rfl rfl rf_a0 ?_
      refine ok_if_ne bX12_fair_198 (fun h198 => ?_) (fun h198 => ?_)
      · refine ok_step (ps := []) (L' := [some (.ref 94), some (.int what), some (.int ((s_fair d (cn d 2)).1)), some (.int ((s_fair d (cn d 2)).2)), some (.int (nI ((cn d 2)))), none, none, none, none]) (st' := [.int ((s_fair d (cn d 2)).2)]) (σ' := (γ, ν)) (pc' := 206) kX12_fair_205 rfl rfl rf_a0 ?_
        refine ok_reti eX12_fair_206 rfl ?_
        exact ⟨by first | rw [if_pos (Int32.not_le.mp h186)] | rw [if_neg (Int32.not_lt.mpr h186), if_pos h198] | rw [if_neg (Int32.not_lt.mpr h186), if_neg h198], ν, hJ, by first | rw [if_pos (Int32.not_le.mp h186)] | rw [if_neg (Int32.not_lt.mpr h186)]⟩
      · refine ok_step (ps := []) (L' := [some (.ref 94), some (.int what), some (.int ((s_fair d (cn d 2)).1)), some (.int ((s_fair d (cn d 2)).2)), some (.int (nI ((cn d 2)))), none, none, none, none]) (st' := [.int ((s_fair d (cn d 2)).1)]) (σ' := (γ, ν)) (pc' := 202) kX12_fair_201 rfl rfl rf_a0 ?_
        refine ok_goto bX12_fair_202 ?_
        refine ok_reti eX12_fair_206 rfl ?_
        exact ⟨by first | rw [if_pos (Int32.not_le.mp h186)] | rw [if_neg (Int32.not_lt.mpr h186), if_pos h198] | rw [if_neg (Int32.not_lt.mpr h186), if_neg h198], ν, hJ, by first | rw [if_pos (Int32.not_le.mp h186)] | rw [if_neg (Int32.not_lt.mpr h186)]⟩
    · refine ok_step (ps := []) (L' := [some (.ref 94), some (.int what), some (.int ((s_fair d (cn d 2)).1)), some (.int ((s_fair d (cn d 2)).2)), some (.int (nI ((cn d 2)))), none, none, none, none]) (st' := [.int (nI 2), .ref 94]) (σ' := (γ, ν)) (pc' := 191) kX12_fair_189 rfl rfl rf_a0 ?_
      refine ok_V (As := [.int (nI 2)]) (b := 94) (st := []) mkX12_finds qX12_fair_191 rfl (rc_94) rfl rfl rfl rfl (Nat.le_of_ble_eq_true rfl) (m_finds (k := 2) (by decide)) ?_
      refine ok_goto bX12_fair_194 ?_
      refine ok_reti eX12_fair_206 rfl ?_
      exact ⟨by first | rw [if_pos (Int32.not_le.mp h186)] | rw [if_neg (Int32.not_lt.mpr h186), if_pos h198] | rw [if_neg (Int32.not_lt.mpr h186), if_neg h198], ν, hJ, by first | rw [if_pos (Int32.not_le.mp h186)] | rw [if_neg (Int32.not_lt.mpr h186)]⟩
  | succ j ih =>
    intro i ν hJ hd hj
    have hI : Iv d := by rw [← hd]; exact hJ.2
    have b0 := hI.le0
    have b2 := hI.le2
    have b3 := hI.le3
    have b4 := hI.le4
    have b5 := hI.le5
    have b8 := hI.le8
    have b9 := hI.le9
    refine ok_step (ps := [rf_in (nI 2) 700]) (L' := [some (.ref 94), some (.int what), some (.int ((s_fair d i).1)), some (.int ((s_fair d i).2)), some (.int (nI i)), none, none, none, none]) (st' := [.int (ν 95 ((nI 2).toNatClampNeg)), .int (nI i)]) (σ' := (γ, ν)) (pc' := 31) kX12_fair_23 rfl rfl (rf_a1 (rf_in_n (a := 2) rfl (by omega)) rf_a0) ?_
    try rw [(show (nI 2).toNatClampNeg = 2 from rf_cl_n rfl (by omega))]
    try rw [(show ν 95 2 = d 2 from congrFun hd _)]
    refine ok_icmp_ge bX12_fair_31 (fun h31 => absurd h31 (nle_of hI.at2 (by omega) (by omega))) (fun _ => ?_)
    refine ok_step (ps := []) (L' := [some (.ref 94), some (.int what), some (.int ((s_fair d i).1)), some (.int ((s_fair d i).2)), some (.int (nI i)), some (.int (nI 0)), some (.int (nI 0)), some (.int (nI 0)), none]) (st' := []) (σ' := (γ, ν)) (pc' := 43) kX12_fair_34 rfl rfl rf_a0 ?_
    refine m_fair_g (l := i) (fun ν hJ hd => ?_) (cn d 4) 0 ν hJ hd (by omega)
    have e3 : ∀ v : Int32, v = s_shr d i → rf_Ok (rf_T Ln xs) MX12_fair 60 151 [some (.ref 94), some (.int what), some (.int ((s_fair d i).1)), some (.int ((s_fair d i).2)), some (.int (nI i)), some (.int (sumI (f_rid d i) (cn d 4))), some (.int (sumI (f_fre d i) (cn d 4))), none, none] [.int v] (γ, ν) (fun r s => r = some (.int (if (s_fair d (cn d 2)).1 < 0 then (-1000000000) - nI 2 else if what = 0 then (s_fair d (cn d 2)).1 else (s_fair d (cn d 2)).2)) ∧ ∃ ν1 : Nat → Nat → Int32, J α ν1 ∧ s = (γ, if (s_fair d (cn d 2)).1 < 0 then rf_w ν1 97 2 (ν1 97 2 + nI 1) else ν1)) := by
      intro v hv
      subst hv
      refine ok_step (ps := []) (L' := [some (.ref 94), some (.int what), some (.int ((s_fair d i).1)), some (.int ((s_fair d i).2)), some (.int (nI i)), some (.int (sumI (f_rid d i) (cn d 4))), some (.int (sumI (f_fre d i) (cn d 4))), some (.int (s_shr d i)), none]) (st' := [.int ((s_fair d i).2), .int (s_shr d i)]) (σ' := (γ, ν)) (pc' := 156) kX12_fair_151 rfl rfl rf_a0 ?_
      refine ok_icmp_le bX12_fair_156 (fun h156 => ?_) (fun h156 => ?_)
      · refine ok_step (ps := []) (L' := [some (.ref 94), some (.int what), some (.int ((s_fair d i).1)), some (.int ((s_fair d i).2)), some (.int (nI i)), some (.int (sumI (f_rid d i) (cn d 4))), some (.int (sumI (f_fre d i) (cn d 4))), some (.int (s_shr d i)), none]) (st' := [.int ((s_fair d i).1)]) (σ' := (γ, ν)) (pc' := 165) kX12_fair_164 rfl rfl rf_a0 ?_
        refine ok_step (ps := []) (L' := [some (.ref 94), some (.int what), some (.int ((s_fair d i).1)), some (.int ((s_fair d i).2)), some (.int (nI i)), some (.int (sumI (f_rid d i) (cn d 4))), some (.int (sumI (f_fre d i) (cn d 4))), some (.int (s_shr d i)), none]) (st' := [.int ((s_fair d i).2), .int (s_shr d i)]) (σ' := (γ, ν)) (pc' := 169) kX12_fair_165 rfl rfl rf_a0 ?_
        refine ok_icmp_le bX12_fair_169 (fun _ => ?_) (fun h169 => absurd (h156) h169)
        refine ok_step (ps := []) (L' := [some (.ref 94), some (.int what), some (.int ((s_fair d i).1)), some (.int ((s_fair d i).2)), some (.int (nI i)), some (.int (sumI (f_rid d i) (cn d 4))), some (.int (sumI (f_fre d i) (cn d 4))), some (.int (s_shr d i)), none]) (st' := [.int ((s_fair d i).2)]) (σ' := (γ, ν)) (pc' := 178) kX12_fair_177 rfl rfl rf_a0 ?_
        refine ok_step (ps := []) (L' := [some (.ref 94), some (.int what), some (.int ((s_fair d i).1)), some (.int ((s_fair d i).2)), some (.int ((nI i) + (nI 1))), some (.int (sumI (f_rid d i) (cn d 4))), some (.int (sumI (f_fre d i) (cn d 4))), some (.int (s_shr d i)), none]) (st' := []) (σ' := (γ, ν)) (pc' := 182) kX12_fair_178 rfl rfl rf_a0 ?_
        try rw [(show ((nI i) + (nI 1)) = nI (i + 1) from nI_add _ _)]
        refine ok_goto bX12_fair_182 ?_
        have e1 : (s_fair (d) i) = s_fair (d) (i + 1) := fair_0 h156
        rw [show ((s_fair d i).1 : Int32) = (s_fair (d) (i + 1)).1 from congrArg Prod.fst e1, show ((s_fair d i).2 : Int32) = (s_fair (d) (i + 1)).2 from congrArg Prod.snd e1]
        refine ok_kill (x := 5) ?_
        refine ok_kill (x := 6) ?_
        refine ok_kill (x := 7) ?_
        exact ih (i + 1) ν hJ hd (by omega)
      · refine ok_step (ps := []) (L' := [some (.ref 94), some (.int what), some (.int ((s_fair d i).1)), some (.int ((s_fair d i).2)), some (.int (nI i)), some (.int (sumI (f_rid d i) (cn d 4))), some (.int (sumI (f_fre d i) (cn d 4))), some (.int (s_shr d i)), none]) (st' := [.int (nI i)]) (σ' := (γ, ν)) (pc' := 161) kX12_fair_159 rfl rfl rf_a0 ?_
        refine ok_goto bX12_fair_161 ?_
        refine ok_step (ps := []) (L' := [some (.ref 94), some (.int what), some (.int (nI i)), some (.int ((s_fair d i).2)), some (.int (nI i)), some (.int (sumI (f_rid d i) (cn d 4))), some (.int (sumI (f_fre d i) (cn d 4))), some (.int (s_shr d i)), none]) (st' := [.int ((s_fair d i).2), .int (s_shr d i)]) (σ' := (γ, ν)) (pc' := 169) kX12_fair_165 rfl rfl rf_a0 ?_
        refine ok_icmp_le bX12_fair_169 (fun h169 => absurd h169 (h156)) (fun _ => ?_)
        refine ok_step (ps := []) (L' := [some (.ref 94), some (.int what), some (.int (nI i)), some (.int ((s_fair d i).2)), some (.int (nI i)), some (.int (sumI (f_rid d i) (cn d 4))), some (.int (sumI (f_fre d i) (cn d 4))), some (.int (s_shr d i)), none]) (st' := [.int (s_shr d i)]) (σ' := (γ, ν)) (pc' := 174) kX12_fair_172 rfl rfl rf_a0 ?_
        refine ok_goto bX12_fair_174 ?_
        refine ok_step (ps := []) (L' := [some (.ref 94), some (.int what), some (.int (nI i)), some (.int (s_shr d i)), some (.int ((nI i) + (nI 1))), some (.int (sumI (f_rid d i) (cn d 4))), some (.int (sumI (f_fre d i) (cn d 4))), some (.int (s_shr d i)), none]) (st' := []) (σ' := (γ, ν)) (pc' := 182) kX12_fair_178 rfl rfl rf_a0 ?_
        try rw [(show ((nI i) + (nI 1)) = nI (i + 1) from nI_add _ _)]
        refine ok_goto bX12_fair_182 ?_
        have e1 : (nI i, s_shr (d) i) = s_fair (d) (i + 1) := fair_1 h156
        rw [show (nI i : Int32) = (s_fair (d) (i + 1)).1 from congrArg Prod.fst e1, show (s_shr d i : Int32) = (s_fair (d) (i + 1)).2 from congrArg Prod.snd e1]
        refine ok_kill (x := 5) ?_
        refine ok_kill (x := 6) ?_
        refine ok_kill (x := 7) ?_
        exact ih (i + 1) ν hJ hd (by omega)
    refine ok_step (ps := []) (L' := [some (.ref 94), some (.int what), some (.int ((s_fair d i).1)), some (.int ((s_fair d i).2)), some (.int (nI i)), some (.int (sumI (f_rid d i) (cn d 4))), some (.int (sumI (f_fre d i) (cn d 4))), none, none]) (st' := [.int (sumI (f_rid d i) (cn d 4))]) (σ' := (γ, ν)) (pc' := 136) kX12_fair_134 rfl rfl rf_a0 ?_
    refine ok_if_ne bX12_fair_136 (fun h136 => ?_) (fun h136 => ?_)
    · refine ok_step (ps := [rf_nz (sumI (f_rid d i) (cn d 4))]) (L' := [some (.ref 94), some (.int what), some (.int ((s_fair d i).1)), some (.int ((s_fair d i).2)), some (.int (nI i)), some (.int (sumI (f_rid d i) (cn d 4))), some (.int (sumI (f_fre d i) (cn d 4))), none, none]) (st' := [.int (((nI 100) * (sumI (f_fre d i) (cn d 4))) / (sumI (f_rid d i) (cn d 4)))]) (σ' := (γ, ν)) (pc' := 151) kX12_fair_143 rfl rfl (rf_a1 (nz_of h136) rf_a0) ?_
      exact e3 _ (shr_m (x := 0) h136)
    · refine ok_step (ps := []) (L' := [some (.ref 94), some (.int what), some (.int ((s_fair d i).1)), some (.int ((s_fair d i).2)), some (.int (nI i)), some (.int (sumI (f_rid d i) (cn d 4))), some (.int (sumI (f_fre d i) (cn d 4))), none, none]) (st' := [.int (-1)]) (σ' := (γ, ν)) (pc' := 140) kX12_fair_139 rfl rfl rf_a0 ?_
      refine ok_goto bX12_fair_140 ?_
      exact e3 _ (shr_0 h136)
theorem op_fair {what : Int32} (hJ : J α μ)  : Op (rf_T Ln xs) MX11_fair MX12_fair [some (.ref 0), some (.int what), none, none, none, none] [some (.ref 94), some (.int what), none, none, none, none, none, none, none] α μ := by
  have hR := hJ.1.1.1
  have hI := hJ.2
  have b0 := hI.le0
  have b1 := hI.le1
  have b2 := hI.le2
  have b3 := hI.le3
  have b4 := hI.le4
  have b5 := hI.le5
  have b6 := hI.le6
  have b8 := hI.le8
  have b9 := hI.le9
  have b11 := hI.le11
  have b12 := hI.le12
  refine ok_step (ps := []) (L' := [some (.ref 0), some (.int what), none, none, none, none]) (st' := [.int (nI 1), .int (nI 0), .int what]) (σ' := (α, μ)) (pc' := 3) kX11_fair_0 rfl rfl rf_a0 ?_
  refine ok_S (As := [.int what, .int (nI 0), .int (nI 1)]) (st := []) mkX11_within qX11_fair_3 rfl rfl rfl rfl rfl (Nat.le_of_ble_eq_true rfl) (c_within) ?_
  refine ok_if_ne bX11_fair_6 (fun h6 => ?_) (fun h6 => ?_)
  · refine ok_step (ps := []) (L' := [some (.ref 0), some (.int what), some (.int (-1)), some (.int (-1)), some (.int (nI 0)), none]) (st' := []) (σ' := (α, μ)) (pc' := 23) kX11_fair_16 rfl rfl rf_a0 ?_
    refine (c_fair_l (cn (μ 95) 2) 0 α hJ (by omega)).mono (fun r s hq => ?_)
    obtain ⟨rfl, α1, hJ1, rfl⟩ := hq
    refine ⟨rfl, _, rfl, ?_⟩
    refine ok_step (ps := []) (L' := [some (.ref 94), some (.int what), none, none, none, none, none, none, none]) (st' := [.long (lN 1), .long (lN 0), .long what.toInt64]) (σ' := ((if (s_fair (μ 95) (cn (μ 95) 2)).1 < 0 then rf_w α1 93 2 (α1 93 2 + nI 1) else α1), μ)) (pc' := 4) kX12_fair_0 rfl rfl rf_a0 ?_
    refine ok_S (As := [.long what.toInt64, .long (lN 0), .long (lN 1)]) (st := []) mkX12_in qX12_fair_4 rfl rfl rfl rfl rfl (Nat.le_of_ble_eq_true rfl) (m_in) ?_
    rw [show wl what.toInt64 (lN 0) (lN 1) = wi what (nI 0) (nI 1) from wl_of rfl (nI_l (by decide)).symm (nI_l (by decide)).symm]
    refine ok_if_ne bX12_fair_7 (fun _ => ?_) (fun g7 => absurd g7 (h6))
    refine ok_step (ps := []) (L' := [some (.ref 94), some (.int what), some (.int (-1)), some (.int (-1)), some (.int (nI 0)), none, none, none, none]) (st' := []) (σ' := ((if (s_fair (μ 95) (cn (μ 95) 2)).1 < 0 then rf_w α1 93 2 (α1 93 2 + nI 1) else α1), μ)) (pc' := 23) kX12_fair_16 rfl rfl rf_a0 ?_
    refine (m_fair_l (d := μ 95) (cn (μ 95) 2) 0 μ hJ1 rfl (by omega)).mono (fun r s hq => ?_)
    obtain ⟨rfl, ν1, hJ2, rfl⟩ := hq
    by_cases h9 : (s_fair (μ 95) (cn (μ 95) 2)).1 < 0
    · simp only [if_pos h9]
      exact ⟨trivial, _, rfl, hJ2.err (k := 2) (by decide)⟩
    · simp only [if_neg h9]
      exact ⟨trivial, _, rfl, hJ2⟩
  · refine ok_step (ps := []) (L' := [some (.ref 0), some (.int what), none, none, none, none]) (st' := [.int (-1000000001), .ref 0]) (σ' := (α, μ)) (pc' := 12) kX11_fair_9 rfl rfl rf_a0 ?_
    refine ok_V (As := [.int (-1000000001)]) (b := 0) (st := []) mkX11_error qX11_fair_12 rfl (rc_0) rfl rfl rfl rfl (Nat.le_of_ble_eq_true rfl) (c_error (k := 1) (by decide) (by decide) (by decide)) ?_
    refine ok_reti eX11_fair_15 rfl ?_
    refine ⟨rfl, _, rfl, ?_⟩
    refine ok_step (ps := []) (L' := [some (.ref 94), some (.int what), none, none, none, none, none, none, none]) (st' := [.long (lN 1), .long (lN 0), .long what.toInt64]) (σ' := (rf_w α 93 1 (α 93 1 + nI 1), μ)) (pc' := 4) kX12_fair_0 rfl rfl rf_a0 ?_
    refine ok_S (As := [.long what.toInt64, .long (lN 0), .long (lN 1)]) (st := []) mkX12_in qX12_fair_4 rfl rfl rfl rfl rfl (Nat.le_of_ble_eq_true rfl) (m_in) ?_
    rw [show wl what.toInt64 (lN 0) (lN 1) = wi what (nI 0) (nI 1) from wl_of rfl (nI_l (by decide)).symm (nI_l (by decide)).symm]
    refine ok_if_ne bX12_fair_7 (fun g7 => absurd (h6) g7) (fun _ => ?_)
    refine ok_step (ps := []) (L' := [some (.ref 94), some (.int what), none, none, none, none, none, none, none]) (st' := [.int (nI 1), .ref 94]) (σ' := (rf_w α 93 1 (α 93 1 + nI 1), μ)) (pc' := 12) kX12_fair_10 rfl rfl rf_a0 ?_
    refine ok_V (As := [.int (nI 1)]) (b := 94) (st := []) mkX12_finds qX12_fair_12 rfl (rc_94) rfl rfl rfl rfl (Nat.le_of_ble_eq_true rfl) (m_finds (k := 1) (by decide)) ?_
    refine ok_reti eX12_fair_15 rfl ?_
    exact ⟨rfl, _, rfl, hJ.err (k := 1) (by decide)⟩
end H47
