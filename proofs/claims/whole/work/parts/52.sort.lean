def updN (f : Nat → Nat) (k v : Nat) : Nat → Nat := fun x => if x = k then v else f x
/-- room for TRAIN t among the first p: where, and the row with a gap there -/
def shf (d : Nat → Int32) (t : Nat) : Nat → (Nat → Nat) → Nat × (Nat → Nat)
  | 0, f => (0, f)
  | p + 1, f => if d (151 + 3 * f p) ≤ d (151 + 3 * t) then (p + 1, f) else shf d t p (updN f (p + 1) (f p))
/-- how many of the first i TRAINS are in a set, and their order -/
def sro (d : Nat → Int32) (set : Int32) : Nat → Nat × (Nat → Nat)
  | 0 => (0, fun _ => 0)
  | i + 1 => if hb set (nI i) = true then ((sro d set i).1 + 1, updN (shf d i (sro d set i).1 (sro d set i).2).2 (shf d i (sro d set i).1 (sro d set i).2).1 i) else sro d set i
theorem updN_le {f : Nat → Nat} {b k v : Nat} (h : ∀ k, f k ≤ b) (hv : v ≤ b) : ∀ x, updN f k v x ≤ b := fun x => by
  unfold updN
  split
  · exact hv
  · exact h x
theorem shf_le {d : Nat → Int32} {t b : Nat} : ∀ (p : Nat) (f : Nat → Nat), (∀ k, f k ≤ b) → ∀ k, (shf d t p f).2 k ≤ b
  | 0, f, h => h
  | p + 1, f, h => by
    unfold shf
    split
    · exact h
    · exact shf_le p _ (updN_le h (h p))
theorem shf_p {d : Nat → Int32} {t : Nat} : ∀ (p : Nat) (f : Nat → Nat), (shf d t p f).1 ≤ p
  | 0, f => Nat.le_refl _
  | p + 1, f => by
    unfold shf
    split
    · exact Nat.le_refl _
    · exact Nat.le_succ_of_le (shf_p p _)
theorem sro_n {d : Nat → Int32} {set : Int32} : ∀ i, (sro d set i).1 ≤ i
  | 0 => Nat.le_refl _
  | i + 1 => by
    have := sro_n (d := d) (set := set) i
    unfold sro
    split
    · exact Nat.succ_le_succ this
    · exact Nat.le_succ_of_le this
theorem sro_b {d : Nat → Int32} {set : Int32} : ∀ i k, (sro d set i).2 k ≤ i - 1
  | 0, k => Nat.le_refl _
  | i + 1, k => by
    have h := sro_b (d := d) (set := set) i
    have h2 : ∀ k, (sro d set i).2 k ≤ i := fun k => by have := h k; omega
    unfold sro
    split
    · exact updN_le (shf_le _ _ h2) (Nat.le_refl _) k
    · have := h k; omega
/-- the model's memory but for its row of TRAINS -/
def sR (μ ν : Nat → Nat → Int32) : Prop := (∀ k, k ≠ 94 → k ≠ 99 → ν k = μ k) ∧ ∀ i, i ≠ 12 → ν 94 i = μ 94 i
theorem sR.rfl (μ : Nat → Nat → Int32) : sR μ μ := ⟨fun _ _ _ => Eq.refl _, fun _ _ => Eq.refl _⟩
theorem J.sR {α μ ν : Nat → Nat → Int32} (h : J α μ) (g : sR μ ν) : J α ν := h.same (fun _ _ _ => Eq.refl _) (fun k i hk => by
  unfold jB at hk
  by_cases e : k = 94
  · subst e
    exact g.2 i (by omega)
  · rw [g.1 k e (by omega)])
theorem sR.w99 {μ ν : Nat → Nat → Int32} (g : sR μ ν) {i : Nat} {v : Int32} : sR μ (rf_w ν 99 i v) := ⟨fun k h1 h2 => by rw [rf_w_row h2]; exact g.1 k h1 h2, fun i hi => by rw [rf_w_row (by decide)]; exact g.2 i hi⟩
theorem sR.w94 {μ ν : Nat → Nat → Int32} (g : sR μ ν) {v : Int32} : sR μ (rf_w ν 94 12 v) := ⟨fun k h1 h2 => by rw [rf_w_row h1]; exact g.1 k h1 h2, fun i hi => by rw [rf_w_at, if_neg (by omega)]; exact g.2 i hi⟩
theorem J.c36 {α β μ : Nat → Nat → Int32} (h : J α μ) (hb : ∀ k, k ≠ 36 → β k = α k) : J β μ := h.same (fun k i hk => by rw [hb k (by unfold jA at hk; omega)]) (fun _ _ _ => rfl)
section H52
variable {Ln : Nat} {xs : Nat → Int32} {α μ ν δ γ : Nat → Nat → Int32}
theorem c_shf {set : Int32} {i n : Nat} {Q : Option Value → rf_Mem → Prop} (hJ : J α μ) (hi : i < 12) (hn : n ≤ i) : ∀ (p : Nat) (f : Nat → Nat) (β : Nat → Nat → Int32), p ≤ n → (∀ k, f k ≤ 11) → (∀ k, k ≠ 36 → β k = α k) → (∀ k, k < n + 1 → k ≠ p → β 36 k = nI (f k)) → (∀ β : Nat → Nat → Int32, (∀ k, k ≠ 36 → β k = α k) → (∀ k, k < (n + 1) → β 36 k = nI ((updN (shf (μ 95) i p f).2 (shf (μ 95) i p f).1 i) k)) → rf_Ok (rf_T Ln xs) MX4_sortByStart 3 5 [some (.ref 2), some (.int set), some (.ref 36), some (.int (nI (n + 1))), some (.int (nI (i + 1))), none] [] (β, δ) Q) → rf_Ok (rf_T Ln xs) MX4_sortByStart 3 26 [some (.ref 2), some (.int set), some (.ref 36), some (.int (nI n)), some (.int (nI i)), some (.int (nI p))] [] (β, δ) Q := by
  intro p
  induction p with
  | zero =>
    intro f β hp hf hw hr hq
    have hR : Rl 1 β (μ 95) := (hJ.c36 hw).1.1.1
    have hI := hJ.2
    have hfp := hf 0
    refine ok_step (ps := []) (L' := [some (.ref 2), some (.int set), some (.ref 36), some (.int (nI n)), some (.int (nI i)), some (.int (nI 0))]) (st' := [.int (nI 0)]) (σ' := (β, δ)) (pc' := 28) kX4_sortByStart_26 rfl rfl rf_a0 ?_
    refine ok_if_le bX4_sortByStart_28 (fun _ => ?_) (fun h28 => absurd ((by decide)) h28)
    refine ok_step (ps := [rf_in (nI 0) 12]) (L' := [some (.ref 2), some (.int set), some (.ref 36), some (.int ((nI n) + (nI 1))), some (.int (nI i)), some (.int (nI 0))]) (st' := []) (σ' := (rf_w β 36 ((nI 0).toNatClampNeg) (nI i), δ)) (pc' := 77) kX4_sortByStart_68 rfl rfl (rf_a1 (rf_in_n (a := 0) rfl (by omega)) rf_a0) ?_
    try rw [(show (nI 0).toNatClampNeg = 0 from rf_cl_n rfl (by omega))]
    try rw [(show ((nI n) + (nI 1)) = nI (n + 1) from nI_add _ _)]
    refine ok_step (ps := []) (L' := [some (.ref 2), some (.int set), some (.ref 36), some (.int (nI (n + 1))), some (.int ((nI i) + (nI 1))), some (.int (nI 0))]) (st' := []) (σ' := (rf_w β 36 0 (nI i), δ)) (pc' := 80) kX4_sortByStart_77 rfl rfl rf_a0 ?_
    try rw [(show ((nI i) + (nI 1)) = nI (i + 1) from nI_add _ _)]
    refine ok_goto bX4_sortByStart_80 ?_
    have es : shf (μ 95) i 0 f = (0, f) := rfl
    rw [es] at hq
    refine ok_kill (x := 5) ?_
    refine hq _ (fun k hk => by rw [rf_w_row hk]; exact hw k hk) (fun k hk => ?_)
    rw [rf_w_at]
    unfold updN
    by_cases e : k = 0
    · rw [if_pos ⟨rfl, by omega⟩, if_pos e]
    · rw [if_neg (by omega), if_neg e]
      exact hr k hk (by omega)
  | succ p ih =>
    intro f β hp hf hw hr hq
    rw [Nat.add_comm p 1]
    have hR : Rl 1 β (μ 95) := (hJ.c36 hw).1.1.1
    have hI := hJ.2
    have hfp := hf p
    refine ok_step (ps := []) (L' := [some (.ref 2), some (.int set), some (.ref 36), some (.int (nI n)), some (.int (nI i)), some (.int (nI (1 + p)))]) (st' := [.int (nI (1 + p))]) (σ' := (β, δ)) (pc' := 28) kX4_sortByStart_26 rfl rfl rf_a0 ?_
    refine ok_if_le bX4_sortByStart_28 (fun h28 => absurd h28 (show ¬ nI (1 + p) ≤ nI 0 from nI_ge (by omega) (by omega))) (fun _ => ?_)
    refine ok_step (ps := [rf_in ((nI (1 + p)) - (nI 1)) 12, rf_in (β 36 (((nI (1 + p)) - (nI 1)).toNatClampNeg)) 12, rf_in (nI i) 12]) (L' := [some (.ref 2), some (.int set), some (.ref 36), some (.int (nI n)), some (.int (nI i)), some (.int (nI (1 + p)))]) (st' := [.int (β 8 ((nI i).toNatClampNeg)), .int (β 8 ((β 36 (((nI (1 + p)) - (nI 1)).toNatClampNeg)).toNatClampNeg))]) (σ' := (β, δ)) (pc' := 49) kX4_sortByStart_31 rfl rfl (rf_a1 (rf_in_n (a := p) (by (try rw [(show ((nI (1 + p)) - (nI 1)) = nI p from rf_eq (rf_nsub (x := nI (1 + p)) (y := nI 1) rfl rfl (by omega)) (by omega))]); all_goals exact rfl) (by omega)) (rf_a1 (rf_in_n (a := (f p)) (by (try rw [(show ((nI (1 + p)) - (nI 1)) = nI p from rf_eq (rf_nsub (x := nI (1 + p)) (y := nI 1) rfl rfl (by omega)) (by omega))]); (try rw [(show (nI p).toNatClampNeg = p from rf_cl_n rfl (by omega))]); (try rw [(show β 36 p = nI (f p) from hr p (by omega) (by omega))]); all_goals exact rfl) (by omega)) (rf_a1 (rf_in_n (a := i) rfl (by omega)) rf_a0))) ?_
    try rw [(show ((nI (1 + p)) - (nI 1)) = nI p from rf_eq (rf_nsub (x := nI (1 + p)) (y := nI 1) rfl rfl (by omega)) (by omega))]
    try rw [(show (nI p).toNatClampNeg = p from rf_cl_n rfl (by omega))]
    try rw [(show β 36 p = nI (f p) from hr p (by omega) (by omega))]
    try rw [(show (nI (f p)).toNatClampNeg = (f p) from rf_cl_n rfl (by omega))]
    try rw [(show β 8 (f p) = μ 95 (151 + 3 * f p) from rl_7 hR (i := (f p)) (by omega) (by omega))]
    try rw [(show (nI i).toNatClampNeg = i from rf_cl_n rfl (by omega))]
    try rw [(show β 8 i = μ 95 (151 + 3 * i) from rl_7 hR (i := i) (by omega) (by omega))]
    refine ok_icmp_le bX4_sortByStart_49 (fun h49 => ?_) (fun h49 => ?_)
    · refine ok_step (ps := [rf_in (nI (1 + p)) 12]) (L' := [some (.ref 2), some (.int set), some (.ref 36), some (.int ((nI n) + (nI 1))), some (.int (nI i)), some (.int (nI (1 + p)))]) (st' := []) (σ' := (rf_w β 36 ((nI (1 + p)).toNatClampNeg) (nI i), δ)) (pc' := 77) kX4_sortByStart_68 rfl rfl (rf_a1 (rf_in_n (a := (1 + p)) rfl (by omega)) rf_a0) ?_
      try rw [(show (nI (1 + p)).toNatClampNeg = (1 + p) from rf_cl_n rfl (by omega))]
      try rw [(show ((nI n) + (nI 1)) = nI (n + 1) from nI_add _ _)]
      refine ok_step (ps := []) (L' := [some (.ref 2), some (.int set), some (.ref 36), some (.int (nI (n + 1))), some (.int ((nI i) + (nI 1))), some (.int (nI (1 + p)))]) (st' := []) (σ' := (rf_w β 36 (1 + p) (nI i), δ)) (pc' := 80) kX4_sortByStart_77 rfl rfl rf_a0 ?_
      try rw [(show ((nI i) + (nI 1)) = nI (i + 1) from nI_add _ _)]
      refine ok_goto bX4_sortByStart_80 ?_
      have es : shf (μ 95) i (p + 1) f = (p + 1, f) := by rw [shf, if_pos h49]
      rw [es] at hq
      refine ok_kill (x := 5) ?_
      refine hq _ (fun k hk => by rw [rf_w_row hk]; exact hw k hk) (fun k hk => ?_)
      rw [rf_w_at]
      unfold updN
      by_cases e : k = p + 1
      · rw [if_pos ⟨rfl, by omega⟩, if_pos e]
      · rw [if_neg (by omega), if_neg e]
        exact hr k hk (by omega)
    · refine ok_step (ps := [rf_in ((nI (1 + p)) - (nI 1)) 12, rf_in (nI (1 + p)) 12]) (L' := [some (.ref 2), some (.int set), some (.ref 36), some (.int (nI n)), some (.int (nI i)), some (.int ((nI (1 + p)) + (-1)))]) (st' := []) (σ' := (rf_w β 36 ((nI (1 + p)).toNatClampNeg) (β 36 (((nI (1 + p)) - (nI 1)).toNatClampNeg)), δ)) (pc' := 65) kX4_sortByStart_52 rfl rfl (rf_a1 (rf_in_n (a := p) (by (try rw [(show ((nI (1 + p)) - (nI 1)) = nI p from rf_eq (rf_nsub (x := nI (1 + p)) (y := nI 1) rfl rfl (by omega)) (by omega))]); all_goals exact rfl) (by omega)) (rf_a1 (rf_in_n (a := (1 + p)) rfl (by omega)) rf_a0)) ?_
      try rw [(show ((nI (1 + p)) - (nI 1)) = nI p from rf_eq (rf_nsub (x := nI (1 + p)) (y := nI 1) rfl rfl (by omega)) (by omega))]
      try rw [(show (nI p).toNatClampNeg = p from rf_cl_n rfl (by omega))]
      try rw [(show β 36 p = nI (f p) from hr p (by omega) (by omega))]
      try rw [(show (nI (1 + p)).toNatClampNeg = (1 + p) from rf_cl_n rfl (by omega))]
      try rw [(show ((nI (1 + p)) + (-1)) = nI p from rf_eq (rf_ndec (x := nI (1 + p)) rfl (by omega)) (by omega))]
      refine ok_goto bX4_sortByStart_65 ?_
      have es : shf (μ 95) i (p + 1) f = shf (μ 95) i p (updN f (p + 1) (f p)) := by rw [shf, if_neg h49]
      rw [es] at hq
      refine ih (updN f (p + 1) (f p)) _ (by omega) (updN_le hf hfp) (fun k hk => by rw [rf_w_row hk]; exact hw k hk) (fun k hk hkp => ?_) hq
      rw [rf_w_at]
      unfold updN
      by_cases e : k = p + 1
      · rw [if_pos ⟨rfl, by omega⟩, if_pos e]
      · rw [if_neg (by omega), if_neg e]
        exact hr k hk e
theorem c_sro_l {set : Int32} (hJ : J α μ) : ∀ (j i : Nat) (β : Nat → Nat → Int32), i + j = cn (μ 95) 3 → (∀ k, k ≠ 36 → β k = α k) → (∀ k, k < (sro (μ 95) set i).1 → β 36 k = nI ((sro (μ 95) set i).2 k)) → rf_Ok (rf_T Ln xs) MX4_sortByStart 3 5 [some (.ref 2), some (.int set), some (.ref 36), some (.int (nI ((sro (μ 95) set i).1))), some (.int (nI i)), none] [] (β, δ) (fun r s => r = some (.int (nI ((sro (μ 95) set (cn (μ 95) 3)).1))) ∧ ∃ β : Nat → Nat → Int32, s = (β, δ) ∧ (∀ k, k ≠ 36 → β k = α k) ∧ (∀ k, k < (sro (μ 95) set (cn (μ 95) 3)).1 → β 36 k = nI ((sro (μ 95) set (cn (μ 95) 3)).2 k))) := by
  intro j
  induction j with
  | zero =>
    intro i β hj hw hr
    have hR : Rl 1 β (μ 95) := (hJ.c36 hw).1.1.1
    have hI := hJ.2
    have b3 := hI.le3
    have hn := sro_n (d := (μ 95)) (set := set) i
    have hs := sro_b (d := (μ 95)) (set := set) i
    obtain rfl : i = cn (μ 95) 3 := by omega
    refine ok_step (ps := []) (L' := [some (.ref 2), some (.int set), some (.ref 36), some (.int (nI ((sro (μ 95) set (cn (μ 95) 3)).1))), some (.int (nI ((cn (μ 95) 3)))), none]) (st' := [.int (β 2 2), .int (nI ((cn (μ 95) 3)))]) (σ' := (β, δ)) (pc' := 11) kX4_sortByStart_5 rfl rfl rf_a0 ?_
    try rw [(show β 2 2 = μ 95 3 from hR 1 2 3 rfl)]
    refine ok_icmp_ge bX4_sortByStart_11 (fun _ => ?_) (fun h11 => absurd (le_of hI.at3 (by omega) (by omega)) h11)
    refine ok_step (ps := []) (L' := [some (.ref 2), some (.int set), some (.ref 36), some (.int (nI ((sro (μ 95) set (cn (μ 95) 3)).1))), some (.int (nI ((cn (μ 95) 3)))), none]) (st' := [.int (nI ((sro (μ 95) set (cn (μ 95) 3)).1))]) (σ' := (β, δ)) (pc' := 84) kX4_sortByStart_83 rfl rfl rf_a0 ?_
    refine ok_reti eX4_sortByStart_84 rfl ?_
    exact ⟨rfl, β, rfl, hw, hr⟩
  | succ j ih =>
    intro i β hj hw hr
    have hR : Rl 1 β (μ 95) := (hJ.c36 hw).1.1.1
    have hI := hJ.2
    have b3 := hI.le3
    have hn := sro_n (d := (μ 95)) (set := set) i
    have hs := sro_b (d := (μ 95)) (set := set) i
    refine ok_step (ps := []) (L' := [some (.ref 2), some (.int set), some (.ref 36), some (.int (nI ((sro (μ 95) set i).1))), some (.int (nI i)), none]) (st' := [.int (β 2 2), .int (nI i)]) (σ' := (β, δ)) (pc' := 11) kX4_sortByStart_5 rfl rfl rf_a0 ?_
    try rw [(show β 2 2 = μ 95 3 from hR 1 2 3 rfl)]
    refine ok_icmp_ge bX4_sortByStart_11 (fun h11 => absurd h11 (nle_of hI.at3 (by omega) (by omega))) (fun _ => ?_)
    refine ok_step (ps := []) (L' := [some (.ref 2), some (.int set), some (.ref 36), some (.int (nI ((sro (μ 95) set i).1))), some (.int (nI i)), none]) (st' := [.int (nI i), .int set]) (σ' := (β, δ)) (pc' := 17) kX4_sortByStart_14 rfl rfl rf_a0 ?_
    refine ok_S (As := [.int set, .int (nI i)]) (st := []) mkX11_has qX4_sortByStart_17 rfl rfl rfl rfl rfl (Nat.le_of_ble_eq_true rfl) (c_has) ?_
    refine ok_if_eq bX4_sortByStart_20 (fun h20 => ?_) (fun h20 => ?_)
    · refine ok_step (ps := []) (L' := [some (.ref 2), some (.int set), some (.ref 36), some (.int (nI ((sro (μ 95) set i).1))), some (.int ((nI i) + (nI 1))), none]) (st' := []) (σ' := (β, δ)) (pc' := 80) kX4_sortByStart_77 rfl rfl rf_a0 ?_
      try rw [(show ((nI i) + (nI 1)) = nI (i + 1) from nI_add _ _)]
      refine ok_goto bX4_sortByStart_80 ?_
      have es : sro (μ 95) set (i + 1) = sro (μ 95) set i := by rw [sro, if_neg (by rw [bI_0.mp h20]; decide)]
      have hih := ih (i + 1) β (by omega)
      rw [es] at hih
      exact hih hw hr
    · refine ok_step (ps := []) (L' := [some (.ref 2), some (.int set), some (.ref 36), some (.int (nI ((sro (μ 95) set i).1))), some (.int (nI i)), some (.int (nI ((sro (μ 95) set i).1)))]) (st' := []) (σ' := (β, δ)) (pc' := 26) kX4_sortByStart_23 rfl rfl rf_a0 ?_
      refine c_shf hJ (by omega) (by omega) ((sro (μ 95) set i).1) ((sro (μ 95) set i).2) β (Nat.le_refl _) (fun k => by have := hs k; omega) hw (fun k hk hkp => hr k (by omega)) (fun β2 hb2 hr2 => ?_)
      have es : sro (μ 95) set (i + 1) = ((sro (μ 95) set i).1 + 1, updN (shf (μ 95) i (sro (μ 95) set i).1 (sro (μ 95) set i).2).2 (shf (μ 95) i (sro (μ 95) set i).1 (sro (μ 95) set i).2).1 i) := by rw [sro, if_pos (bI_n0.mp h20)]
      have hih := ih (i + 1) β2 (by omega)
      rw [es] at hih
      exact hih hb2 hr2
theorem c_sro {set : Int32} (hJ : J α μ) : rf_Ok (rf_T Ln xs) MX4_sortByStart 3 0 [some (.ref 2), some (.int set), some (.ref 36), none, none, none] [] (α, δ) (fun r s => r = some (.int (nI ((sro (μ 95) set (cn (μ 95) 3)).1))) ∧ ∃ β : Nat → Nat → Int32, s = (β, δ) ∧ (∀ k, k ≠ 36 → β k = α k) ∧ (∀ k, k < (sro (μ 95) set (cn (μ 95) 3)).1 → β 36 k = nI ((sro (μ 95) set (cn (μ 95) 3)).2 k))) := by
  refine ok_step (ps := []) (L' := [some (.ref 2), some (.int set), some (.ref 36), some (.int (nI 0)), some (.int (nI 0)), none]) (st' := []) (σ' := (α, δ)) (pc' := 5) kX4_sortByStart_0 rfl rfl rf_a0 ?_
  exact c_sro_l hJ (cn (μ 95) 3) 0 α (by omega) (fun _ _ => rfl) (fun k hk => absurd hk (Nat.not_lt_zero k))
theorem m_shf {set : Int32} {i n : Nat} {Q : Option Value → rf_Mem → Prop} (hJ : J α ν) (hi : i < 12) (hn : n ≤ i) : ∀ (p : Nat) (f : Nat → Nat) (β : Nat → Nat → Int32), p ≤ n → (∀ k, f k ≤ 11) → (sR ν β ∧ β 94 12 = nI n) → (∀ k, k < n + 1 → k ≠ p → β 99 k = nI (f k)) → (∀ β : Nat → Nat → Int32, (sR ν β ∧ β 94 12 = nI (n + 1)) → (∀ k, k < (n + 1) → β 99 k = nI ((updN (shf (ν 95) i p f).2 (shf (ν 95) i p f).1 i) k)) → rf_Ok (rf_T Ln xs) MX12_findRow 3 7 [some (.ref 94), some (.int set), some (.int (nI (i + 1))), none] [] (γ, β) Q) → rf_Ok (rf_T Ln xs) MX12_findRow 3 31 [some (.ref 94), some (.int set), some (.int (nI i)), some (.int (nI p))] [] (γ, β) Q := by
  intro p
  induction p with
  | zero =>
    intro f β hp hf hw hr hq
    have hI := hJ.2
    have h95 : β 95 = ν 95 := hw.1.1 95 (by decide) (by decide)
    have hfp := hf 0
    refine ok_step (ps := []) (L' := [some (.ref 94), some (.int set), some (.int (nI i)), some (.int (nI 0))]) (st' := [.int (nI 0)]) (σ' := (γ, β)) (pc' := 32) kX12_findRow_31 rfl rfl rf_a0 ?_
    refine ok_if_le bX12_findRow_32 (fun _ => ?_) (fun h32 => absurd ((by decide)) h32)
    refine ok_step (ps := [rf_in (nI 0) 12]) (L' := [some (.ref 94), some (.int set), some (.int (nI i)), some (.int (nI 0))]) (st' := []) (σ' := (γ, rf_w (rf_w β 99 ((nI 0).toNatClampNeg) (nI i)) 94 12 (((rf_w β 99 ((nI 0).toNatClampNeg) (nI i)) 94 12) + (nI 1)))) (pc' := 92) kX12_findRow_75 rfl rfl (rf_a1 (rf_in_n (a := 0) rfl (by omega)) rf_a0) ?_
    try rw [(show (nI 0).toNatClampNeg = 0 from rf_cl_n rfl (by omega))]
    try rw [(show (rf_w β 99 0 (nI i)) 94 12 = β 94 12 from by rw [rf_w_at, if_neg (fun h => absurd h.1 (by decide))])]
    try rw [(show β 94 12 = nI n from hw.2)]
    try rw [(show ((nI n) + (nI 1)) = nI (1 + n) from rf_eq (rf_nadd (x := nI n) (y := nI 1) rfl rfl) (by omega))]
    refine ok_step (ps := []) (L' := [some (.ref 94), some (.int set), some (.int ((nI i) + (nI 1))), some (.int (nI 0))]) (st' := []) (σ' := (γ, rf_w (rf_w β 99 0 (nI i)) 94 12 (nI (1 + n)))) (pc' := 95) kX12_findRow_92 rfl rfl rf_a0 ?_
    try rw [(show ((nI i) + (nI 1)) = nI (i + 1) from nI_add _ _)]
    refine ok_goto bX12_findRow_95 ?_
    have es : shf (ν 95) i 0 f = (0, f) := rfl
    rw [es] at hq
    refine ok_kill (x := 3) ?_
    refine hq _ ⟨hw.1.w99.w94, by rw [rf_w_at, if_pos ⟨rfl, rfl⟩, Nat.add_comm]⟩ (fun k hk => ?_)
    rw [rf_w_row (by decide)]
    rw [rf_w_at]
    unfold updN
    by_cases e : k = 0
    · rw [if_pos ⟨rfl, by omega⟩, if_pos e]
    · rw [if_neg (by omega), if_neg e]
      exact hr k hk (by omega)
  | succ p ih =>
    intro f β hp hf hw hr hq
    rw [Nat.add_comm p 1]
    have hI := hJ.2
    have h95 : β 95 = ν 95 := hw.1.1 95 (by decide) (by decide)
    have hfp := hf p
    refine ok_step (ps := []) (L' := [some (.ref 94), some (.int set), some (.int (nI i)), some (.int (nI (1 + p)))]) (st' := [.int (nI (1 + p))]) (σ' := (γ, β)) (pc' := 32) kX12_findRow_31 rfl rfl rf_a0 ?_
    refine ok_if_le bX12_findRow_32 (fun h32 => absurd h32 (show ¬ nI (1 + p) ≤ nI 0 from nI_ge (by omega) (by omega))) (fun _ => ?_)
    refine ok_step (ps := [rf_in ((nI (1 + p)) - (nI 1)) 12]) (L' := [some (.ref 94), some (.int set), some (.int (nI i)), some (.int (nI (1 + p)))]) (st' := [.int (β 99 (((nI (1 + p)) - (nI 1)).toNatClampNeg)), .ref 94]) (σ' := (γ, β)) (pc' := 44) kX12_findRow_35 rfl rfl (rf_a1 (rf_in_n (a := p) (by (try rw [(show ((nI (1 + p)) - (nI 1)) = nI p from rf_eq (rf_nsub (x := nI (1 + p)) (y := nI 1) rfl rfl (by omega)) (by omega))]); all_goals exact rfl) (by omega)) rf_a0) ?_
    try rw [(show ((nI (1 + p)) - (nI 1)) = nI p from rf_eq (rf_nsub (x := nI (1 + p)) (y := nI 1) rfl rfl (by omega)) (by omega))]
    try rw [(show (nI p).toNatClampNeg = p from rf_cl_n rfl (by omega))]
    try rw [(show β 99 p = nI (f p) from hr p (by omega) (by omega))]
    refine ok_V (As := [.int (nI (f p))]) (b := 94) (st := []) mkX12_startOf qX12_findRow_44 rfl (rc_94) rfl rfl rfl rfl (Nat.le_of_ble_eq_true rfl) (m_startOf_d (d := ν 95) hI h95 (by omega)) ?_
    refine ok_step (ps := []) (L' := [some (.ref 94), some (.int set), some (.int (nI i)), some (.int (nI (1 + p)))]) (st' := [.int (nI i), .ref 94, .int (ν 95 (151 + 3 * f p))]) (σ' := (γ, β)) (pc' := 49) kX12_findRow_47 rfl rfl rf_a0 ?_
    refine ok_V (As := [.int (nI i)]) (b := 94) (st := [.int (ν 95 (151 + 3 * f p))]) mkX12_startOf qX12_findRow_49 rfl (rc_94) rfl rfl rfl rfl (Nat.le_of_ble_eq_true rfl) (m_startOf_d (d := ν 95) hI h95 (by omega)) ?_
    refine ok_icmp_le bX12_findRow_52 (fun h52 => ?_) (fun h52 => ?_)
    · refine ok_step (ps := [rf_in (nI (1 + p)) 12]) (L' := [some (.ref 94), some (.int set), some (.int (nI i)), some (.int (nI (1 + p)))]) (st' := []) (σ' := (γ, rf_w (rf_w β 99 ((nI (1 + p)).toNatClampNeg) (nI i)) 94 12 (((rf_w β 99 ((nI (1 + p)).toNatClampNeg) (nI i)) 94 12) + (nI 1)))) (pc' := 92) kX12_findRow_75 rfl rfl (rf_a1 (rf_in_n (a := (1 + p)) rfl (by omega)) rf_a0) ?_
      try rw [(show (nI (1 + p)).toNatClampNeg = (1 + p) from rf_cl_n rfl (by omega))]
      try rw [(show (rf_w β 99 (1 + p) (nI i)) 94 12 = β 94 12 from by rw [rf_w_at, if_neg (fun h => absurd h.1 (by decide))])]
      try rw [(show β 94 12 = nI n from hw.2)]
      try rw [(show ((nI n) + (nI 1)) = nI (1 + n) from rf_eq (rf_nadd (x := nI n) (y := nI 1) rfl rfl) (by omega))]
      refine ok_step (ps := []) (L' := [some (.ref 94), some (.int set), some (.int ((nI i) + (nI 1))), some (.int (nI (1 + p)))]) (st' := []) (σ' := (γ, rf_w (rf_w β 99 (1 + p) (nI i)) 94 12 (nI (1 + n)))) (pc' := 95) kX12_findRow_92 rfl rfl rf_a0 ?_
      try rw [(show ((nI i) + (nI 1)) = nI (i + 1) from nI_add _ _)]
      refine ok_goto bX12_findRow_95 ?_
      have es : shf (ν 95) i (p + 1) f = (p + 1, f) := by rw [shf, if_pos h52]
      rw [es] at hq
      refine ok_kill (x := 3) ?_
      refine hq _ ⟨hw.1.w99.w94, by rw [rf_w_at, if_pos ⟨rfl, rfl⟩, Nat.add_comm]⟩ (fun k hk => ?_)
      rw [rf_w_row (by decide)]
      rw [rf_w_at]
      unfold updN
      by_cases e : k = p + 1
      · rw [if_pos ⟨rfl, by omega⟩, if_pos e]
      · rw [if_neg (by omega), if_neg e]
        exact hr k hk (by omega)
    · refine ok_step (ps := [rf_in ((nI (1 + p)) - (nI 1)) 12, rf_in (nI (1 + p)) 12]) (L' := [some (.ref 94), some (.int set), some (.int (nI i)), some (.int ((nI (1 + p)) + (-1)))]) (st' := []) (σ' := (γ, rf_w β 99 ((nI (1 + p)).toNatClampNeg) (β 99 (((nI (1 + p)) - (nI 1)).toNatClampNeg)))) (pc' := 72) kX12_findRow_55 rfl rfl (rf_a1 (rf_in_n (a := p) (by (try rw [(show ((nI (1 + p)) - (nI 1)) = nI p from rf_eq (rf_nsub (x := nI (1 + p)) (y := nI 1) rfl rfl (by omega)) (by omega))]); all_goals exact rfl) (by omega)) (rf_a1 (rf_in_n (a := (1 + p)) rfl (by omega)) rf_a0)) ?_
      try rw [(show ((nI (1 + p)) - (nI 1)) = nI p from rf_eq (rf_nsub (x := nI (1 + p)) (y := nI 1) rfl rfl (by omega)) (by omega))]
      try rw [(show (nI p).toNatClampNeg = p from rf_cl_n rfl (by omega))]
      try rw [(show β 99 p = nI (f p) from hr p (by omega) (by omega))]
      try rw [(show (nI (1 + p)).toNatClampNeg = (1 + p) from rf_cl_n rfl (by omega))]
      try rw [(show ((nI (1 + p)) + (-1)) = nI p from rf_eq (rf_ndec (x := nI (1 + p)) rfl (by omega)) (by omega))]
      refine ok_goto bX12_findRow_72 ?_
      have es : shf (ν 95) i (p + 1) f = shf (ν 95) i p (updN f (p + 1) (f p)) := by rw [shf, if_neg h52]
      rw [es] at hq
      refine ih (updN f (p + 1) (f p)) _ (by omega) (updN_le hf hfp) ⟨hw.1.w99, by rw [rf_w_row (by decide)]; exact hw.2⟩ (fun k hk hkp => ?_) hq
      rw [rf_w_at]
      unfold updN
      by_cases e : k = p + 1
      · rw [if_pos ⟨rfl, by omega⟩, if_pos e]
      · rw [if_neg (by omega), if_neg e]
        exact hr k hk e
theorem m_sro_l {set : Int32} (hJ : J α ν) : ∀ (j i : Nat) (β : Nat → Nat → Int32), i + j = cn (ν 95) 3 → (sR ν β ∧ β 94 12 = nI ((sro (ν 95) set i).1)) → (∀ k, k < (sro (ν 95) set i).1 → β 99 k = nI ((sro (ν 95) set i).2 k)) → rf_Ok (rf_T Ln xs) MX12_findRow 3 7 [some (.ref 94), some (.int set), some (.int (nI i)), none] [] (γ, β) (fun r s => r = none ∧ ∃ β : Nat → Nat → Int32, s = (γ, β) ∧ (sR ν β ∧ β 94 12 = nI ((sro (ν 95) set (cn (ν 95) 3)).1)) ∧ (∀ k, k < (sro (ν 95) set (cn (ν 95) 3)).1 → β 99 k = nI ((sro (ν 95) set (cn (ν 95) 3)).2 k))) := by
  intro j
  induction j with
  | zero =>
    intro i β hj hw hr
    have hI := hJ.2
    have h95 : β 95 = ν 95 := hw.1.1 95 (by decide) (by decide)
    have b3 := hI.le3
    have hn := sro_n (d := (ν 95)) (set := set) i
    have hs := sro_b (d := (ν 95)) (set := set) i
    obtain rfl : i = cn (ν 95) 3 := by omega
    refine ok_step (ps := [rf_in (nI 3) 700]) (L' := [some (.ref 94), some (.int set), some (.int (nI ((cn (ν 95) 3)))), none]) (st' := [.int (β 95 ((nI 3).toNatClampNeg)), .int (nI ((cn (ν 95) 3)))]) (σ' := (γ, β)) (pc' := 14) kX12_findRow_7 rfl rfl (rf_a1 (rf_in_n (a := 3) rfl (by omega)) rf_a0) ?_
    try rw [(show (nI 3).toNatClampNeg = 3 from rf_cl_n rfl (by omega))]
    try rw [(show β 95 3 = ν 95 3 from congrFun h95 _)]
    refine ok_icmp_ge bX12_findRow_14 (fun _ => ?_) (fun h14 => absurd (le_of hI.at3 (by omega) (by omega)) h14)
    refine ok_retv eX12_findRow_98 rfl ?_
    exact ⟨rfl, β, rfl, hw, hr⟩
  | succ j ih =>
    intro i β hj hw hr
    have hI := hJ.2
    have h95 : β 95 = ν 95 := hw.1.1 95 (by decide) (by decide)
    have b3 := hI.le3
    have hn := sro_n (d := (ν 95)) (set := set) i
    have hs := sro_b (d := (ν 95)) (set := set) i
    refine ok_step (ps := [rf_in (nI 3) 700]) (L' := [some (.ref 94), some (.int set), some (.int (nI i)), none]) (st' := [.int (β 95 ((nI 3).toNatClampNeg)), .int (nI i)]) (σ' := (γ, β)) (pc' := 14) kX12_findRow_7 rfl rfl (rf_a1 (rf_in_n (a := 3) rfl (by omega)) rf_a0) ?_
    try rw [(show (nI 3).toNatClampNeg = 3 from rf_cl_n rfl (by omega))]
    try rw [(show β 95 3 = ν 95 3 from congrFun h95 _)]
    refine ok_icmp_ge bX12_findRow_14 (fun h14 => absurd h14 (nle_of hI.at3 (by omega) (by omega))) (fun _ => ?_)
    refine ok_step (ps := []) (L' := [some (.ref 94), some (.int set), some (.int (nI i)), none]) (st' := [.int (nI 1), .int ((set >>> ((nI i) &&& 31)) &&& (nI 1))]) (σ' := (γ, β)) (pc' := 23) kX12_findRow_17 rfl rfl rf_a0 ?_
    refine ok_icmp_ne bX12_findRow_23 (fun h23 => ?_) (fun h23 => ?_)
    · refine ok_step (ps := []) (L' := [some (.ref 94), some (.int set), some (.int ((nI i) + (nI 1))), none]) (st' := []) (σ' := (γ, β)) (pc' := 95) kX12_findRow_92 rfl rfl rf_a0 ?_
      try rw [(show ((nI i) + (nI 1)) = nI (i + 1) from nI_add _ _)]
      refine ok_goto bX12_findRow_95 ?_
      have es : sro (ν 95) set (i + 1) = sro (ν 95) set i := by rw [sro, if_neg (by rw [show hb set (nI i) = false from decide_eq_false h23]; decide)]
      have hih := ih (i + 1) β (by omega)
      rw [es] at hih
      exact hih hw hr
    · refine ok_step (ps := []) (L' := [some (.ref 94), some (.int set), some (.int (nI i)), some (.int (β 94 12))]) (st' := []) (σ' := (γ, β)) (pc' := 31) kX12_findRow_26 rfl rfl rf_a0 ?_
      try rw [(show β 94 12 = nI ((sro (ν 95) set i).1) from hw.2)]
      refine m_shf hJ (by omega) (by omega) ((sro (ν 95) set i).1) ((sro (ν 95) set i).2) β (Nat.le_refl _) (fun k => by have := hs k; omega) hw (fun k hk hkp => hr k (by omega)) (fun β2 hb2 hr2 => ?_)
      have es : sro (ν 95) set (i + 1) = ((sro (ν 95) set i).1 + 1, updN (shf (ν 95) i (sro (ν 95) set i).1 (sro (ν 95) set i).2).2 (shf (ν 95) i (sro (ν 95) set i).1 (sro (ν 95) set i).2).1 i) := by rw [sro, if_pos (show hb set (nI i) = true from decide_eq_true h23)]
      have hih := ih (i + 1) β2 (by omega)
      rw [es] at hih
      exact hih hb2 hr2
theorem m_sro {set : Int32} (hJ : J α ν) : rf_Ok (rf_T Ln xs) MX12_findRow 3 0 [some (.ref 94), some (.int set), none, none] [] (γ, ν) (fun r s => r = none ∧ ∃ β : Nat → Nat → Int32, s = (γ, β) ∧ (sR ν β ∧ β 94 12 = nI ((sro (ν 95) set (cn (ν 95) 3)).1)) ∧ (∀ k, k < (sro (ν 95) set (cn (ν 95) 3)).1 → β 99 k = nI ((sro (ν 95) set (cn (ν 95) 3)).2 k))) := by
  refine ok_step (ps := []) (L' := [some (.ref 94), some (.int set), some (.int (nI 0)), none]) (st' := []) (σ' := (γ, rf_w ν 94 12 (nI 0))) (pc' := 7) kX12_findRow_0 rfl rfl rf_a0 ?_
  exact m_sro_l hJ (cn (ν 95) 3) 0 _ (by omega) ⟨(sR.rfl ν).w94, by rw [rf_w_at, if_pos ⟨rfl, rfl⟩]; rfl⟩ (fun k hk => absurd hk (Nat.not_lt_zero k))
end H52
