theorem bb_bI {b : Bool} : rf_bb (bI b) = true := by cases b <;> rfl
theorem rf_min_n {a b : Nat} (ha : a < 2147483648) (hb : b < 2147483648) : rf_min (nI a) (nI b) = nI (min a b) := by
  unfold rf_min
  rcases Nat.lt_or_ge b a with h | h
  · rw [if_pos (nI_lt h (by omega)), Nat.min_eq_right (by omega)]
  · rw [if_neg (nI_nlt h (by omega)), Nat.min_eq_left h]
theorem rf_max_b {a : Nat} (h1 : 1 ≤ a) (ha : a < 2147483648) : rf_max (nI a) (nI 1) = nI a := by
  unfold rf_max
  rw [if_neg (nI_nlt h1 (by omega))]
theorem fm_t {d : Nat → Int32} {S g : Nat} (h : fnd d S g = true) : nI (sumN (fm d S) g + cn d (194 + 8 * g)) = nI (sumN (fm d S) (g + 1)) := by rw [sumN, show fm d S g = cn d (194 + 8 * g) from if_pos h]
theorem fm_f {d : Nat → Int32} {S g : Nat} (h : fnd d S g = false) : nI (sumN (fm d S) g) = nI (sumN (fm d S) (g + 1)) := by rw [sumN, show fm d S g = 0 from if_neg (by rw [h]; decide), Nat.add_zero]
theorem fm_le {d : Nat → Int32} {S n : Nat} (hI : Iv d) (hn : n ≤ 16) : sumN (fm d S) n ≤ 15984 := s16 (fun g hg => by
  have := (m194 hI (g := g) (by omega)).1
  unfold fm
  split <;> omega) hn
theorem ct_t {d : Nat → Int32} {S g : Nat} (h : fnd d S g = true) : ct d S (g + 1) = cat d (ct d S g) g := by rw [ct, if_pos h]
theorem ct_f {d : Nat → Int32} {S g : Nat} (h : fnd d S g = false) : ct d S (g + 1) = ct d S g := by rw [ct, if_neg (by rw [h]; decide)]
theorem sC.rfl (α : Nat → Nat → Int32) : sC α α := fun _ _ _ _ _ _ => Eq.refl _
theorem sC.w {α β : Nat → Nat → Int32} (h : sC α β) {k i : Nat} {v : Int32} (hk : (2 ≤ k ∧ k ≤ 28) ∨ k = 37) : sC α (rf_w β k i v) := fun k' h1 h2 h3 h4 h5 => by
  rw [rf_w_row (by omega)]
  exact h k' h1 h2 h3 h4 h5
theorem sC.a {α β β2 : Nat → Nat → Int32} (h : sC α β) (g : sA β β2) : sC α β2 := fun k' h1 h2 h3 h4 h5 => by
  rw [g k' h2 h3 h4]
  exact h k' h1 h2 h3 h4 h5
section H62
variable {Ln : Nat} {xs : Nat → Int32} {α μ δ : Nat → Nat → Int32}
theorem c_pd1 {Q : Option Value → rf_Mem → Prop} (hk : (∀ β : Nat → Nat → Int32, J β μ → sC α β → (∀ k, k < cn (μ 95) 4 → β 37 k = bI (s_now (μ 95) k)) → rf_Ok (rf_T Ln xs) MX10_passDay 20 30 [some (.ref 1), none, none, none, none] [] (β, δ) Q)) : ∀ (j i : Nat) (β : Nat → Nat → Int32), J β μ → sC α β → (∀ k, k < i → β 37 k = bI (s_now (μ 95) k)) → i + j = cn (μ 95) 4 → rf_Ok (rf_T Ln xs) MX10_passDay 20 2 [some (.ref 1), some (.int (nI i)), none, none, none] [] (β, δ) Q := by
  intro j
  induction j with
  | zero =>
    intro i β hJ hs hp hj
    have hR := hJ.1.1.1
    have hI := hJ.2
    have b4 := hI.le4
    obtain rfl : i = cn (μ 95) 4 := by omega
    refine ok_step (ps := []) (L' := [some (.ref 1), some (.int (nI (cn (μ 95) 4))), none, none, none]) (st' := [.int (β 10 0), .int (nI (cn (μ 95) 4))]) (σ' := (β, δ)) (pc' := 10) kX10_passDay_2 rfl rfl rf_a0 ?_
    try rw [(show β 10 0 = μ 95 4 from hR 9 0 4 rfl)]
    refine ok_icmp_ge bX10_passDay_10 (fun _ => ?_) (fun h10 => absurd (le_of hI.at4 (by omega) (by omega)) h10)
    refine ok_kill (x := 1) ?_
    exact hk β hJ hs hp
  | succ j ih =>
    intro i β hJ hs hp hj
    have hR := hJ.1.1.1
    have hI := hJ.2
    have b4 := hI.le4
    refine ok_step (ps := []) (L' := [some (.ref 1), some (.int (nI i)), none, none, none]) (st' := [.int (β 10 0), .int (nI i)]) (σ' := (β, δ)) (pc' := 10) kX10_passDay_2 rfl rfl rf_a0 ?_
    try rw [(show β 10 0 = μ 95 4 from hR 9 0 4 rfl)]
    refine ok_icmp_ge bX10_passDay_10 (fun h10 => absurd h10 (nle_of hI.at4 (by omega) (by omega))) (fun _ => ?_)
    refine ok_step (ps := []) (L' := [some (.ref 1), some (.int (nI i)), none, none, none]) (st' := [.int (nI i), .ref 1, .int (nI i), .ref 37]) (σ' := (β, δ)) (pc' := 20) kX10_passDay_13 rfl rfl rf_a0 ?_
    refine ok_Vx (As := [.int (nI i)]) (b := 1) (st := [.int (nI i), .ref 37]) mkX10_paysNow qX10_passDay_20 rfl (rc_1) rfl rfl rfl rfl (Nat.le_of_ble_eq_true rfl) (c_now hJ (by omega)) (fun r1 σ1 hq => ?_)
    obtain ⟨rfl, β2, rfl, ha⟩ := hq
    refine ok_step (ps := [rf_in (nI i) 16, rf_bb (bI (s_now (μ 95) i))]) (L' := [some (.ref 1), some (.int ((nI i) + (nI 1))), none, none, none]) (st' := []) (σ' := (rf_w β2 37 ((nI i).toNatClampNeg) (bI (s_now (μ 95) i)), δ)) (pc' := 27) kX10_passDay_23 rfl rfl (rf_a1 (rf_in_n (a := i) rfl (by omega)) (rf_a1 (bb_bI) rf_a0)) ?_
    try rw [(show (nI i).toNatClampNeg = i from rf_cl_n rfl (by omega))]
    try rw [(show ((nI i) + (nI 1)) = nI (i + 1) from nI_add _ _)]
    refine ok_goto bX10_passDay_27 ?_
    have hJ2 := hJ.sA ha
    refine ih (i + 1) _ ⟨hJ2.1.scr (k := 37) (by unfold jA; omega), hJ2.2⟩ ((hs.a ha).w (Or.inr rfl)) (fun k hk => ?_) (by omega)
    rw [rf_w_at]
    by_cases e : k = i
    · rw [if_pos ⟨rfl, e⟩, e]
    · rw [if_neg (fun h => e h.2), ha 37 (by decide) (by decide) (by decide)]
      exact hp k (by omega)
theorem c_draw {β : Nat → Nat → Int32} {d : Nat → Int32} (h : β 22 2 = d 10) : rf_At (rf_T Ln xs) MX1_draw 1 0 ([some (.ref 22)], [], 108, (β, δ)) (some (.int (zr d))) 108 (rf_w β 22 2 (zz d), δ) := by
  refine rf_pa ?_
  refine ok_step (ps := []) (L' := [some (.ref 22)]) (st' := [.int ((((rf_w β 22 2 (((β 22 2) * (nI 1103515245)) + (nI 12345))) 22 2).toUInt32 >>> ((nI 8).toUInt32 &&& Int32.toUInt32 31)).toInt32)]) (σ' := (rf_w β 22 2 (((β 22 2) * (nI 1103515245)) + (nI 12345)), δ)) (pc' := 22) kX1_draw_0 rfl rfl rf_a0 ?_
  try rw [(show β 22 2 = d 10 from h)]
  try rw [(show (rf_w β 22 2 (((d 10) * (nI 1103515245)) + (nI 12345))) 22 2 = (((d 10) * (nI 1103515245)) + (nI 12345)) from by rw [rf_w_at, if_pos ⟨rfl, rfl⟩])]
  refine ok_reti eX1_draw_22 rfl ?_
  exact ⟨rfl, rfl⟩
theorem c_shof {β : Nat → Nat → Int32} {d : Nat → Int32} {r S : Nat} (hR : Rl 1 β d) (hI : Iv d) (hS : S < cn d 5) (h1 : csum d S ≤ r) (h2 : r < csum d (S + 1)) (hr : r < 1000) : ∀ (j at_ : Nat) (s : Nat), at_ + j = S + 1 → (at_ = S + 1 → s = S) → rf_Ok (rf_T Ln xs) MX7_shiftOf 2 7 [some (.ref 19), some (.int (nI r)), some (.int (nI (csum d at_))), some (.int (nI s)), some (.int (nI at_))] [] (β, δ) (fun r t => r = some (.int (nI S)) ∧ t = (β, δ)) := by
  have b5 := hI.le5
  have hc : csum d (cn d 5) ≤ 72 := nA_le hI
  have hc1 : csum d (S + 1) ≤ csum d (cn d 5) := csum_inc (by omega)
  intro j
  induction j with
  | zero =>
    intro at_ s hj hs
    obtain rfl : at_ = S + 1 := by omega
    obtain rfl := hs rfl
    rcases Nat.lt_or_ge (s + 1) (cn d 5) with h3 | h3
    · refine ok_step (ps := []) (L' := [some (.ref 19), some (.int (nI r)), some (.int (nI (csum d (s + 1)))), some (.int (nI s)), some (.int (nI (s + 1)))]) (st' := [.int (β 19 0), .int (nI (s + 1))]) (σ' := (β, δ)) (pc' := 13) kX7_shiftOf_7 rfl rfl rf_a0 ?_
      try rw [(show β 19 0 = d 5 from hR 18 0 5 rfl)]
      refine ok_icmp_ge bX7_shiftOf_13 (fun h13 => absurd h13 (nle_of hI.at5 (by omega) (by omega))) (fun _ => ?_)
      refine ok_step (ps := []) (L' := [some (.ref 19), some (.int (nI r)), some (.int (nI (csum d (s + 1)))), some (.int (nI s)), some (.int (nI (s + 1)))]) (st' := [.int (nI r), .int (nI (csum d (s + 1)))]) (σ' := (β, δ)) (pc' := 18) kX7_shiftOf_16 rfl rfl rf_a0 ?_
      refine ok_icmp_gt bX7_shiftOf_18 (fun _ => ?_) (fun h18 => absurd (nI_lt (by omega) (by omega)) h18)
      refine ok_step (ps := []) (L' := [some (.ref 19), some (.int (nI r)), some (.int (nI (csum d (s + 1)))), some (.int (nI s)), some (.int (nI (s + 1)))]) (st' := [.int (nI s)]) (σ' := (β, δ)) (pc' := 41) kX7_shiftOf_40 rfl rfl rf_a0 ?_
      refine ok_reti eX7_shiftOf_41 rfl ?_
      exact ⟨rfl, rfl⟩
    · refine ok_step (ps := []) (L' := [some (.ref 19), some (.int (nI r)), some (.int (nI (csum d (s + 1)))), some (.int (nI s)), some (.int (nI (s + 1)))]) (st' := [.int (β 19 0), .int (nI (s + 1))]) (σ' := (β, δ)) (pc' := 13) kX7_shiftOf_7 rfl rfl rf_a0 ?_
      try rw [(show β 19 0 = d 5 from hR 18 0 5 rfl)]
      refine ok_icmp_ge bX7_shiftOf_13 (fun _ => ?_) (fun h13 => absurd (le_of hI.at5 (by omega) (by omega)) h13)
      refine ok_step (ps := []) (L' := [some (.ref 19), some (.int (nI r)), some (.int (nI (csum d (s + 1)))), some (.int (nI s)), some (.int (nI (s + 1)))]) (st' := [.int (nI s)]) (σ' := (β, δ)) (pc' := 41) kX7_shiftOf_40 rfl rfl rf_a0 ?_
      refine ok_reti eX7_shiftOf_41 rfl ?_
      exact ⟨rfl, rfl⟩
  | succ j ih =>
    intro at_ s hj hs
    have h3 : csum d at_ ≤ csum d S := csum_inc (by omega)
    have b330 := hI.leb (b := 9) (bd_330 (i := at_) (by omega) rfl) (by decide)
    refine ok_step (ps := []) (L' := [some (.ref 19), some (.int (nI r)), some (.int (nI (csum d at_))), some (.int (nI s)), some (.int (nI at_))]) (st' := [.int (β 19 0), .int (nI at_)]) (σ' := (β, δ)) (pc' := 13) kX7_shiftOf_7 rfl rfl rf_a0 ?_
    try rw [(show β 19 0 = d 5 from hR 18 0 5 rfl)]
    refine ok_icmp_ge bX7_shiftOf_13 (fun h13 => absurd h13 (nle_of hI.at5 (by omega) (by omega))) (fun _ => ?_)
    refine ok_step (ps := []) (L' := [some (.ref 19), some (.int (nI r)), some (.int (nI (csum d at_))), some (.int (nI s)), some (.int (nI at_))]) (st' := [.int (nI r), .int (nI (csum d at_))]) (σ' := (β, δ)) (pc' := 18) kX7_shiftOf_16 rfl rfl rf_a0 ?_
    refine ok_icmp_gt bX7_shiftOf_18 (fun h18 => absurd h18 (nI_nlt (by omega) (by omega))) (fun _ => ?_)
    refine ok_step (ps := [rf_in (nI at_) 8]) (L' := [some (.ref 19), some (.int (nI r)), some (.int ((nI (csum d at_)) + (β 21 ((nI at_).toNatClampNeg)))), some (.int (nI at_)), some (.int ((nI at_) + (nI 1)))]) (st' := []) (σ' := (β, δ)) (pc' := 37) kX7_shiftOf_21 rfl rfl (rf_a1 (rf_in_n (a := at_) rfl (by omega)) rf_a0) ?_
    try rw [(show (nI at_).toNatClampNeg = at_ from rf_cl_n rfl (by omega))]
    try rw [(show β 21 at_ = d (330 + at_) from rl_20 hR (i := at_) (by omega) (by omega))]
    try rw [(show ((nI (csum d at_)) + (d (330 + at_))) = nI ((csum d at_) + cn (d) (330 + at_)) from rf_eq (rf_nadd (x := nI (csum d at_)) (y := d (330 + at_)) rfl (hI.atb (k := (330 + at_)) (bd_330 (i := at_) (by omega) (by omega)) (by decide))) (by omega))]
    try rw [(show ((nI at_) + (nI 1)) = nI (at_ + 1) from nI_add _ _)]
    refine ok_goto bX7_shiftOf_37 ?_
    exact ih (at_ + 1) at_ (by omega) (fun e => by omega)
theorem sw_cn0 {d : Nat → Int32} {g : Nat} (hI : Iv d) (hg : g < 16) (h : (d (190 + 8 * g)).toInt < 2 ∨ 7 < (d (190 + 8 * g)).toInt) : cn d (190 + 8 * g) = 0 ∨ cn d (190 + 8 * g) = 1 ∨ cn d (190 + 8 * g) = 6 := by
  have h1 := hI.leb (b := 7) (bd_190 (i := g) hg rfl) (by decide)
  have h2 := hI.atb (b := 7) (bd_190 (i := g) hg rfl) (by decide)
  rw [h2, nI_toInt (by omega)] at h
  omega
theorem cat_n {d c : Nat → Int32} {g : Nat} (h : cn d (190 + 8 * g) = 0 ∨ cn d (190 + 8 * g) = 1 ∨ cn d (190 + 8 * g) = 6) : cat d c g = c := by
  unfold cat
  rcases h with h | h | h <;> rw [h] <;> rfl
theorem cat_p {d c : Nat → Int32} {g : Nat} (h : cn d (190 + 8 * g) = 2 ∨ cn d (190 + 8 * g) = 3 ∨ cn d (190 + 8 * g) = 4) : cat d c g = upd c (195 + 8 * g) (nI (pn d g)) := by
  unfold cat
  rcases h with h | h | h <;> rw [h] <;> rfl
theorem cat_5 {d c : Nat → Int32} {g : Nat} (h : cn d (190 + 8 * g) = 5) : cat d c g = upd c (197 + 8 * g) (nI (cn d 0 + 30)) := by
  unfold cat
  rw [h]
  rfl
theorem cat_7 {d c : Nat → Int32} {g : Nat} (h : cn d (190 + 8 * g) = 7) : cat d c g = upd c (197 + 8 * g) (nI (un d g)) := by
  unfold cat
  rw [h]
  rfl
theorem c_shof0 {β : Nat → Nat → Int32} {d : Nat → Int32} {r S : Nat} (hR : Rl 1 β d) (hI : Iv d) (hS : S < cn d 5) (h1 : csum d S ≤ r) (h2 : r < csum d (S + 1)) (hr : r < 1000) : rf_Ok (rf_T Ln xs) MX7_shiftOf 2 0 [some (.ref 19), some (.int (nI r)), none, none, none] [] (β, δ) (fun r t => r = some (.int (nI S)) ∧ t = (β, δ)) := by
  refine ok_step (ps := []) (L' := [some (.ref 19), some (.int (nI r)), some (.int (nI 0)), some (.int (nI 0)), some (.int (nI 0))]) (st' := []) (σ' := (β, δ)) (pc' := 7) kX7_shiftOf_0 rfl rfl rf_a0 ?_
  exact c_shof hR hI hS h1 h2 hr (S + 1) 0 0 (by omega) (fun e => by omega)
theorem c_kf1 {β : Nat → Nat → Int32} {F : Nat} {s m r : Int32} (hF : β 22 3 = nI F) (h6 : F < 60) : rf_At (rf_T Ln xs) MX1_keepFind 1 0 ([some (.ref 22), some (.int s), some (.int m), some (.int r)], [], 108, (β, δ)) none 108 (rf_w (rf_w (rf_w (rf_w β 23 F s) 24 F m) 25 F r) 22 3 (nI (1 + F)), δ) := by
  refine rf_pa ?_
  refine ok_step (ps := []) (L' := [some (.ref 22), some (.int s), some (.int m), some (.int r)]) (st' := [.int (nI 60), .int (β 22 3)]) (σ' := (β, δ)) (pc' := 6) kX1_keepFind_0 rfl rfl rf_a0 ?_
  try rw [(show β 22 3 = nI F from hF)]
  refine ok_icmp_ge bX1_keepFind_6 (fun h6 => absurd h6 (nI_ge (by omega) (by omega))) (fun _ => ?_)
  refine ok_step (ps := [rf_in (β 22 3) 60, rf_in ((rf_w β 23 ((β 22 3).toNatClampNeg) s) 22 3) 60, rf_in ((rf_w (rf_w β 23 ((β 22 3).toNatClampNeg) s) 24 (((rf_w β 23 ((β 22 3).toNatClampNeg) s) 22 3).toNatClampNeg) m) 22 3) 60]) (L' := [some (.ref 22), some (.int s), some (.int m), some (.int r)]) (st' := []) (σ' := (rf_w (rf_w (rf_w (rf_w β 23 ((β 22 3).toNatClampNeg) s) 24 (((rf_w β 23 ((β 22 3).toNatClampNeg) s) 22 3).toNatClampNeg) m) 25 (((rf_w (rf_w β 23 ((β 22 3).toNatClampNeg) s) 24 (((rf_w β 23 ((β 22 3).toNatClampNeg) s) 22 3).toNatClampNeg) m) 22 3).toNatClampNeg) r) 22 3 (((rf_w (rf_w (rf_w β 23 ((β 22 3).toNatClampNeg) s) 24 (((rf_w β 23 ((β 22 3).toNatClampNeg) s) 22 3).toNatClampNeg) m) 25 (((rf_w (rf_w β 23 ((β 22 3).toNatClampNeg) s) 24 (((rf_w β 23 ((β 22 3).toNatClampNeg) s) 22 3).toNatClampNeg) m) 22 3).toNatClampNeg) r) 22 3) + (nI 1)), δ)) (pc' := 49) kX1_keepFind_9 rfl rfl (rf_a1 (rf_in_n (a := F) (by (try rw [(show β 22 3 = nI F from hF)]); all_goals exact rfl) (by omega)) (rf_a1 (rf_in_n (a := F) (by (try rw [(show β 22 3 = nI F from hF)]); (try rw [(show (nI F).toNatClampNeg = F from rf_cl_n rfl (by omega))]); (try rw [(show (rf_w β 23 F s) 22 3 = β 22 3 from by rw [rf_w_at, if_neg (fun h => absurd h.1 (by decide))])]); (try rw [(show β 22 3 = nI F from hF)]); all_goals exact rfl) (by omega)) (rf_a1 (rf_in_n (a := F) (by (try rw [(show β 22 3 = nI F from hF)]); (try rw [(show (nI F).toNatClampNeg = F from rf_cl_n rfl (by omega))]); (try rw [(show (rf_w β 23 F s) 22 3 = β 22 3 from by rw [rf_w_at, if_neg (fun h => absurd h.1 (by decide))])]); (try rw [(show β 22 3 = nI F from hF)]); (try rw [(show (nI F).toNatClampNeg = F from rf_cl_n rfl (by omega))]); (try rw [(show (rf_w (rf_w β 23 F s) 24 F m) 22 3 = (rf_w β 23 F s) 22 3 from by rw [rf_w_at, if_neg (fun h => absurd h.1 (by decide))])]); (try rw [(show (rf_w β 23 F s) 22 3 = β 22 3 from by rw [rf_w_at, if_neg (fun h => absurd h.1 (by decide))])]); (try rw [(show β 22 3 = nI F from hF)]); all_goals exact rfl) (by omega)) rf_a0))) ?_
  try rw [(show β 22 3 = nI F from hF)]
  try rw [(show (nI F).toNatClampNeg = F from rf_cl_n rfl (by omega))]
  try rw [(show (rf_w β 23 F s) 22 3 = β 22 3 from by rw [rf_w_at, if_neg (fun h => absurd h.1 (by decide))])]
  try rw [(show β 22 3 = nI F from hF)]
  try rw [(show (nI F).toNatClampNeg = F from rf_cl_n rfl (by omega))]
  try rw [(show (rf_w (rf_w β 23 F s) 24 F m) 22 3 = (rf_w β 23 F s) 22 3 from by rw [rf_w_at, if_neg (fun h => absurd h.1 (by decide))])]
  try rw [(show (rf_w β 23 F s) 22 3 = β 22 3 from by rw [rf_w_at, if_neg (fun h => absurd h.1 (by decide))])]
  try rw [(show β 22 3 = nI F from hF)]
  try rw [(show (nI F).toNatClampNeg = F from rf_cl_n rfl (by omega))]
  try rw [(show (rf_w (rf_w (rf_w β 23 F s) 24 F m) 25 F r) 22 3 = (rf_w (rf_w β 23 F s) 24 F m) 22 3 from by rw [rf_w_at, if_neg (fun h => absurd h.1 (by decide))])]
  try rw [(show (rf_w (rf_w β 23 F s) 24 F m) 22 3 = (rf_w β 23 F s) 22 3 from by rw [rf_w_at, if_neg (fun h => absurd h.1 (by decide))])]
  try rw [(show (rf_w β 23 F s) 22 3 = β 22 3 from by rw [rf_w_at, if_neg (fun h => absurd h.1 (by decide))])]
  try rw [(show β 22 3 = nI F from hF)]
  try rw [(show ((nI F) + (nI 1)) = nI (1 + F) from rf_eq (rf_nadd (x := nI F) (y := nI 1) rfl rfl) (by omega))]
  refine ok_retv eX1_keepFind_49 rfl ?_
  exact ⟨rfl, rfl⟩
theorem c_kf2 {β : Nat → Nat → Int32} {F : Nat} {s m r : Int32} (hF : β 22 3 = nI F) (h6 : 60 ≤ F) (h7 : F ≤ 60) : rf_At (rf_T Ln xs) MX1_keepFind 1 0 ([some (.ref 22), some (.int s), some (.int m), some (.int r)], [], 108, (β, δ)) none 108 (β, δ) := by
  refine rf_pa ?_
  refine ok_step (ps := []) (L' := [some (.ref 22), some (.int s), some (.int m), some (.int r)]) (st' := [.int (nI 60), .int (β 22 3)]) (σ' := (β, δ)) (pc' := 6) kX1_keepFind_0 rfl rfl rf_a0 ?_
  try rw [(show β 22 3 = nI F from hF)]
  refine ok_icmp_ge bX1_keepFind_6 (fun _ => ?_) (fun h6 => absurd (nI_le (by omega) (by omega)) h6)
  refine ok_retv eX1_keepFind_49 rfl ?_
  exact ⟨rfl, rfl⟩
theorem c_bf {β : Nat → Nat → Int32} {d c : Nat → Int32} {g : Nat} (hR : Rl 1 β c) (hI : Iv d) (hg : g < 16) (hpq : cn d (195 + 8 * g) ≤ cn d (196 + 8 * g)) (hc : ∀ j, j ≠ 10 → 190 + 8 * g ≤ j → c j = d j) (h0 : c 0 = d 0) : rf_Ok (rf_T Ln xs) MX3_beFound 1 0 [some (.ref 10), some (.int (nI g)), some (.int (nI (cn d 0)))] [] (β, δ) (fun r t => r = none ∧ ∃ β2 : Nat → Nat → Int32, t = (β2, δ) ∧ Rl 1 β2 (cat d c g) ∧ ∀ k, k ≠ 16 → k ≠ 18 → β2 k = β k) := by
  have b0 := hI.le0
  have b195 := hI.leb (b := 9) (bd_195 (i := g) hg rfl) (by decide)
  have b196 := hI.leb (b := 9) (bd_196 (i := g) hg rfl) (by decide)
  refine ok_step (ps := [rf_in (nI g) 16]) (L' := [some (.ref 10), some (.int (nI g)), some (.int (nI (cn d 0)))]) (st' := [.int (β 11 ((nI g).toNatClampNeg))]) (σ' := (β, δ)) (pc' := 6) kX3_beFound_0 rfl rfl (rf_a1 (rf_in_n (a := g) rfl (by omega)) rf_a0) ?_
  try rw [(show (nI g).toNatClampNeg = g from rf_cl_n rfl (by omega))]
  try rw [(show β 11 g = d (190 + 8 * g) from ((show β 11 g = c (190 + 8 * g) from rl_10 hR (i := g) (by omega) (by omega))).trans (hc _ (by omega) (by omega)))]
  refine ok_table bX3_beFound_6 (fun h6 => ?_) (fun i t ht h6 => ?_)
  · refine ok_retv eX3_beFound_111 rfl ?_
    have hk := sw_cn0 hI hg h6
    exact ⟨rfl, β, rfl, by rw [cat_n hk]; exact hR, fun _ _ _ => rfl⟩
  · match i, ht, h6 with
    | 0, ht, h6 =>
      cases ht
      refine ok_step (ps := [rf_in (nI g) 16, rf_in (nI g) 16, rf_in (nI g) 16]) (L' := [some (.ref 10), some (.int (nI g)), some (.int (nI (cn d 0)))]) (st' := []) (σ' := (rf_w β 16 ((nI g).toNatClampNeg) (rf_min ((β 16 ((nI g).toNatClampNeg)) + (nI 1)) (β 17 ((nI g).toNatClampNeg))), δ)) (pc' := 67) kX3_beFound_44 rfl rfl (rf_a1 (rf_in_n (a := g) rfl (by omega)) (rf_a1 (rf_in_n (a := g) rfl (by omega)) (rf_a1 (rf_in_n (a := g) rfl (by omega)) rf_a0))) ?_
      try rw [(show (nI g).toNatClampNeg = g from rf_cl_n rfl (by omega))]
      try rw [(show β 16 g = d (195 + 8 * g) from ((show β 16 g = c (195 + 8 * g) from rl_15 hR (i := g) (by omega) (by omega))).trans (hc _ (by omega) (by omega)))]
      try rw [(show ((d (195 + 8 * g)) + (nI 1)) = nI (1 + cn (d) (195 + 8 * g)) from rf_eq (rf_nadd (x := d (195 + 8 * g)) (y := nI 1) (hI.atb (k := (195 + 8 * g)) (bd_195 (i := g) (by omega) (by omega)) (by decide)) rfl) (by omega))]
      try rw [(show (nI g).toNatClampNeg = g from rf_cl_n rfl (by omega))]
      try rw [(show β 17 g = d (196 + 8 * g) from ((show β 17 g = c (196 + 8 * g) from rl_16 hR (i := g) (by omega) (by omega))).trans (hc _ (by omega) (by omega)))]
      try rw [(show (nI g).toNatClampNeg = g from rf_cl_n rfl (by omega))]
      refine ok_goto bX3_beFound_67 ?_
      refine ok_retv eX3_beFound_111 rfl ?_
      have hk : cn d (190 + 8 * g) = 2 := sw_cn (n := 2) (by omega) (by decide)
      have ev : rf_min (nI (1 + cn (d) (195 + 8 * g))) (d (196 + 8 * g)) = nI (pn d g) := by rw [show d (196 + 8 * g) = nI (cn d (196 + 8 * g)) from hI.atb (b := 9) (bd_196 (i := g) hg rfl) (by decide), rf_min_n (by omega) (by omega)]; exact congrArg nI (by unfold pn; split <;> omega)
      rw [ev]
      exact ⟨rfl, _, rfl, by rw [cat_p (by omega)]; exact hR.put (c := 15) (i := g) (off_15 hg rfl) _, fun k k1 k2 => by rw [rf_w_row k1]⟩
    | 1, ht, h6 =>
      cases ht
      refine ok_step (ps := [rf_in (nI g) 16, rf_in (nI g) 16, rf_in (nI g) 16]) (L' := [some (.ref 10), some (.int (nI g)), some (.int (nI (cn d 0)))]) (st' := []) (σ' := (rf_w β 16 ((nI g).toNatClampNeg) (rf_min ((β 16 ((nI g).toNatClampNeg)) + (nI 1)) (β 17 ((nI g).toNatClampNeg))), δ)) (pc' := 67) kX3_beFound_44 rfl rfl (rf_a1 (rf_in_n (a := g) rfl (by omega)) (rf_a1 (rf_in_n (a := g) rfl (by omega)) (rf_a1 (rf_in_n (a := g) rfl (by omega)) rf_a0))) ?_
      try rw [(show (nI g).toNatClampNeg = g from rf_cl_n rfl (by omega))]
      try rw [(show β 16 g = d (195 + 8 * g) from ((show β 16 g = c (195 + 8 * g) from rl_15 hR (i := g) (by omega) (by omega))).trans (hc _ (by omega) (by omega)))]
      try rw [(show ((d (195 + 8 * g)) + (nI 1)) = nI (1 + cn (d) (195 + 8 * g)) from rf_eq (rf_nadd (x := d (195 + 8 * g)) (y := nI 1) (hI.atb (k := (195 + 8 * g)) (bd_195 (i := g) (by omega) (by omega)) (by decide)) rfl) (by omega))]
      try rw [(show (nI g).toNatClampNeg = g from rf_cl_n rfl (by omega))]
      try rw [(show β 17 g = d (196 + 8 * g) from ((show β 17 g = c (196 + 8 * g) from rl_16 hR (i := g) (by omega) (by omega))).trans (hc _ (by omega) (by omega)))]
      try rw [(show (nI g).toNatClampNeg = g from rf_cl_n rfl (by omega))]
      refine ok_goto bX3_beFound_67 ?_
      refine ok_retv eX3_beFound_111 rfl ?_
      have hk : cn d (190 + 8 * g) = 3 := sw_cn (n := 3) (by omega) (by decide)
      have ev : rf_min (nI (1 + cn (d) (195 + 8 * g))) (d (196 + 8 * g)) = nI (pn d g) := by rw [show d (196 + 8 * g) = nI (cn d (196 + 8 * g)) from hI.atb (b := 9) (bd_196 (i := g) hg rfl) (by decide), rf_min_n (by omega) (by omega)]; exact congrArg nI (by unfold pn; split <;> omega)
      rw [ev]
      exact ⟨rfl, _, rfl, by rw [cat_p (by omega)]; exact hR.put (c := 15) (i := g) (off_15 hg rfl) _, fun k k1 k2 => by rw [rf_w_row k1]⟩
    | 2, ht, h6 =>
      cases ht
      refine ok_step (ps := [rf_in (nI g) 16, rf_in (nI g) 16, rf_in (nI g) 16]) (L' := [some (.ref 10), some (.int (nI g)), some (.int (nI (cn d 0)))]) (st' := []) (σ' := (rf_w β 16 ((nI g).toNatClampNeg) (rf_min ((β 16 ((nI g).toNatClampNeg)) + (nI 1)) (β 17 ((nI g).toNatClampNeg))), δ)) (pc' := 67) kX3_beFound_44 rfl rfl (rf_a1 (rf_in_n (a := g) rfl (by omega)) (rf_a1 (rf_in_n (a := g) rfl (by omega)) (rf_a1 (rf_in_n (a := g) rfl (by omega)) rf_a0))) ?_
      try rw [(show (nI g).toNatClampNeg = g from rf_cl_n rfl (by omega))]
      try rw [(show β 16 g = d (195 + 8 * g) from ((show β 16 g = c (195 + 8 * g) from rl_15 hR (i := g) (by omega) (by omega))).trans (hc _ (by omega) (by omega)))]
      try rw [(show ((d (195 + 8 * g)) + (nI 1)) = nI (1 + cn (d) (195 + 8 * g)) from rf_eq (rf_nadd (x := d (195 + 8 * g)) (y := nI 1) (hI.atb (k := (195 + 8 * g)) (bd_195 (i := g) (by omega) (by omega)) (by decide)) rfl) (by omega))]
      try rw [(show (nI g).toNatClampNeg = g from rf_cl_n rfl (by omega))]
      try rw [(show β 17 g = d (196 + 8 * g) from ((show β 17 g = c (196 + 8 * g) from rl_16 hR (i := g) (by omega) (by omega))).trans (hc _ (by omega) (by omega)))]
      try rw [(show (nI g).toNatClampNeg = g from rf_cl_n rfl (by omega))]
      refine ok_goto bX3_beFound_67 ?_
      refine ok_retv eX3_beFound_111 rfl ?_
      have hk : cn d (190 + 8 * g) = 4 := sw_cn (n := 4) (by omega) (by decide)
      have ev : rf_min (nI (1 + cn (d) (195 + 8 * g))) (d (196 + 8 * g)) = nI (pn d g) := by rw [show d (196 + 8 * g) = nI (cn d (196 + 8 * g)) from hI.atb (b := 9) (bd_196 (i := g) hg rfl) (by decide), rf_min_n (by omega) (by omega)]; exact congrArg nI (by unfold pn; split <;> omega)
      rw [ev]
      exact ⟨rfl, _, rfl, by rw [cat_p (by omega)]; exact hR.put (c := 15) (i := g) (off_15 hg rfl) _, fun k k1 k2 => by rw [rf_w_row k1]⟩
    | 3, ht, h6 =>
      cases ht
      refine ok_step (ps := [rf_in (nI g) 16]) (L' := [some (.ref 10), some (.int (nI g)), some (.int (nI (cn d 0)))]) (st' := []) (σ' := (rf_w β 18 ((nI g).toNatClampNeg) ((nI (cn d 0)) + (nI 30)), δ)) (pc' := 80) kX3_beFound_70 rfl rfl (rf_a1 (rf_in_n (a := g) rfl (by omega)) rf_a0) ?_
      try rw [(show ((nI (cn d 0)) + (nI 30)) = nI (30 + cn d 0) from rf_eq (rf_nadd (x := nI (cn d 0)) (y := nI 30) rfl rfl) (by omega))]
      try rw [(show (nI g).toNatClampNeg = g from rf_cl_n rfl (by omega))]
      refine ok_goto bX3_beFound_80 ?_
      refine ok_retv eX3_beFound_111 rfl ?_
      have hk : cn d (190 + 8 * g) = 5 := sw_cn (n := 5) (by omega) (by decide)
      rw [Nat.add_comm 30]
      exact ⟨rfl, _, rfl, by rw [cat_5 hk]; exact hR.put (c := 17) (i := g) (off_17 hg rfl) _, fun k k1 k2 => by rw [rf_w_row k2]⟩
    | 4, ht, h6 =>
      cases ht
      refine ok_retv eX3_beFound_111 rfl ?_
      have hk : cn d (190 + 8 * g) = 6 := sw_cn (n := 6) (by omega) (by decide)
      exact ⟨rfl, β, rfl, by rw [cat_n (Or.inr (Or.inr hk))]; exact hR, fun _ _ _ => rfl⟩
    | 5, ht, h6 =>
      cases ht
      refine ok_step (ps := [rf_in (nI g) 16]) (L' := [some (.ref 10), some (.int (nI g)), some (.int (nI (cn d 0)))]) (st' := [.int (β 18 ((nI g).toNatClampNeg)), .int (nI g), .ref 18]) (σ' := (β, δ)) (pc' := 94) kX3_beFound_83 rfl rfl (rf_a1 (rf_in_n (a := g) rfl (by omega)) rf_a0) ?_
      try rw [(show (nI g).toNatClampNeg = g from rf_cl_n rfl (by omega))]
      try rw [(show β 18 g = d (197 + 8 * g) from ((show β 18 g = c (197 + 8 * g) from rl_17 hR (i := g) (by omega) (by omega))).trans (hc _ (by omega) (by omega)))]
      refine ok_if_ne bX3_beFound_94 (fun h94 => ?_) (fun h94 => ?_)
      · refine ok_step (ps := []) (L' := [some (.ref 10), some (.int (nI g)), some (.int (nI (cn d 0)))]) (st' := [.int ((nI (cn d 0)) + (nI 30)), .int (nI g), .ref 18]) (σ' := (β, δ)) (pc' := 107) kX3_beFound_103 rfl rfl rf_a0 ?_
        try rw [(show ((nI (cn d 0)) + (nI 30)) = nI (30 + cn d 0) from rf_eq (rf_nadd (x := nI (cn d 0)) (y := nI 30) rfl rfl) (by omega))]
        refine ok_step (ps := [rf_in (nI g) 16]) (L' := [some (.ref 10), some (.int (nI g)), some (.int (nI (cn d 0)))]) (st' := []) (σ' := (rf_w β 18 ((nI g).toNatClampNeg) (nI (30 + cn d 0)), δ)) (pc' := 108) kX3_beFound_107 rfl rfl (rf_a1 (rf_in_n (a := g) rfl (by omega)) rf_a0) ?_
        try rw [(show (nI g).toNatClampNeg = g from rf_cl_n rfl (by omega))]
        refine ok_goto bX3_beFound_108 ?_
        refine ok_retv eX3_beFound_111 rfl ?_
        have hk : cn d (190 + 8 * g) = 7 := sw_cn (n := 7) (by omega) (by decide)
        have ev : nI (30 + cn d 0) = nI (un d g) := by unfold un; rw [if_neg h94, Nat.add_comm]
        rw [ev]
        exact ⟨rfl, _, rfl, by rw [cat_7 hk]; exact hR.put (c := 17) (i := g) (off_17 hg rfl) _, fun k k1 k2 => by rw [rf_w_row k2]⟩
      · refine ok_step (ps := []) (L' := [some (.ref 10), some (.int (nI g)), some (.int (nI (cn d 0)))]) (st' := [.int ((nI (cn d 0)) + (nI 1)), .int (nI g), .ref 18]) (σ' := (β, δ)) (pc' := 100) kX3_beFound_97 rfl rfl rf_a0 ?_
        try rw [(show ((nI (cn d 0)) + (nI 1)) = nI (1 + cn d 0) from rf_eq (rf_nadd (x := nI (cn d 0)) (y := nI 1) rfl rfl) (by omega))]
        refine ok_goto bX3_beFound_100 ?_
        refine ok_step (ps := [rf_in (nI g) 16]) (L' := [some (.ref 10), some (.int (nI g)), some (.int (nI (cn d 0)))]) (st' := []) (σ' := (rf_w β 18 ((nI g).toNatClampNeg) (nI (1 + cn d 0)), δ)) (pc' := 108) kX3_beFound_107 rfl rfl (rf_a1 (rf_in_n (a := g) rfl (by omega)) rf_a0) ?_
        try rw [(show (nI g).toNatClampNeg = g from rf_cl_n rfl (by omega))]
        refine ok_goto bX3_beFound_108 ?_
        refine ok_retv eX3_beFound_111 rfl ?_
        have hk : cn d (190 + 8 * g) = 7 := sw_cn (n := 7) (by omega) (by decide)
        have ev : nI (1 + cn d 0) = nI (un d g) := by unfold un; rw [if_pos h94, Nat.add_comm]
        rw [ev]
        exact ⟨rfl, _, rfl, by rw [cat_7 hk]; exact hR.put (c := 17) (i := g) (off_17 hg rfl) _, fun k k1 k2 => by rw [rf_w_row k2]⟩
    | i + 6, ht, _ => simp at ht
theorem c_pd2 {A S m : Nat} (hI : Iv (μ 95)) (hA : 1 ≤ A ∧ A ≤ 72) (hS : S < cn (μ 95) 5) (hl : 1 ≤ cn (μ 95) (330 + S)) (hm : (sumN (fm (μ 95) S) (cn (μ 95) 4)) = m) : ∀ (j i : Nat) (β : Nat → Nat → Int32), sC α β → (∀ k, k < cn (μ 95) 4 → β 37 k = bI (s_now (μ 95) k)) → Rl 1 β (ct (μ 95) S i) → i + j = cn (μ 95) 4 → rf_Ok (rf_T Ln xs) MX10_passDay 20 60 [some (.ref 1), some (.int (nI A)), some (.int (nI S)), some (.int (nI (sumN (fm (μ 95) S) i))), some (.int (nI i))] [] (β, δ) (fun r t => r = some (.int (nI m)) ∧ ∃ β : Nat → Nat → Int32, sC α β ∧ Rl 1 β (ct (μ 95) S (cn (μ 95) 4)) ∧ t = (fA (cn (μ 95) 6) (nI S) (nI m) (nI (m * A / cn (μ 95) (330 + S))) (nI (min (cn (μ 95) 7 + cn (μ 95) 9 * m) 1999999999)) (nI (1 + cn (μ 95) 0)) β, δ)) := by
  have b0 := hI.le0
  have b4 := hI.le4
  have b5 := hI.le5
  have b6 := hI.le6
  have b7 := hI.le7
  have b9 := hI.le9
  have bl := hI.leb (b := 9) (bd_330 (i := S) (by omega) rfl) (by decide)
  have hm9 : m ≤ 15984 := by rw [← hm]; exact fm_le hI b4
  have hfm : cn (μ 95) 9 * m ≤ 999 * 15984 := Nat.mul_le_mul b9 hm9
  have hmA : m * A ≤ 15984 * 72 := Nat.mul_le_mul hm9 hA.2
  intro j
  induction j with
  | zero =>
    intro i β hs hp hR hj
    obtain rfl : i = cn (μ 95) 4 := by omega
    rw [hm]
    rcases Nat.lt_or_ge (cn (μ 95) 6) 60 with h6 | h6
    · have hF : β 22 3 = nI (cn (μ 95) 6) := (hR 21 3 6 rfl).trans ((ct_o (by omega) (fun k hk => ⟨by omega, by omega⟩)).trans hI.at6)
      have hlot : β 21 S = nI (cn (μ 95) (330 + S)) := (rl_20 hR (i := S) (by omega) rfl).trans ((ct_o (by omega) (fun k hk => ⟨by omega, by omega⟩)).trans (hI.atb (b := 9) (bd_330 (i := S) (by omega) rfl) (by decide)))
      refine ok_step (ps := []) (L' := [some (.ref 1), some (.int (nI A)), some (.int (nI S)), some (.int (nI m)), some (.int (nI (cn (μ 95) 4)))]) (st' := [.int (β 10 0), .int (nI (cn (μ 95) 4))]) (σ' := (β, δ)) (pc' := 69) kX10_passDay_60 rfl rfl rf_a0 ?_
      try rw [(show β 10 0 = μ 95 4 from (show β 10 0 = ct (μ 95) S (cn (μ 95) 4) 4 from hR 9 0 4 rfl).trans (ct_o (by omega) (fun k hk => ⟨by omega, by omega⟩)))]
      refine ok_icmp_ge bX10_passDay_69 (fun _ => ?_) (fun h69 => absurd (le_of hI.at4 (by omega) (by omega)) h69)
      refine ok_step (ps := [rf_in (nI S) 8, rf_nz (rf_max (β 21 ((nI S).toNatClampNeg)) (nI 1))]) (L' := [some (.ref 1), some (.int (nI A)), some (.int (nI S)), some (.int (nI m)), some (.int (nI (cn (μ 95) 4)))]) (st' := [.int (((nI m) * (nI A)) / (rf_max (β 21 ((nI S).toNatClampNeg)) (nI 1))), .int (nI m), .int (nI S), .ref 22]) (σ' := (β, δ)) (pc' := 165) kX10_passDay_142 rfl rfl (rf_a1 (rf_in_n (a := S) rfl (by omega)) (rf_a1 (by rw [show (nI S).toNatClampNeg = S from rf_cl_n rfl (by omega), hlot, rf_max_b hl (by omega)]; exact nz_of (fun e => by have := nI_inj (b := 0) e (by omega) (by omega); omega)) rf_a0)) ?_
      try rw [(show ((nI m) * (nI A)) = nI (m * A) from pk_mul _ _)]
      try rw [(show (nI S).toNatClampNeg = S from rf_cl_n rfl (by omega))]
      try rw [(show β 21 S = μ 95 (330 + S) from (show β 21 S = ct (μ 95) S (cn (μ 95) 4) (330 + S) from rl_20 hR (i := S) (by omega) (by omega)).trans (ct_o (by omega) (fun k hk => ⟨by omega, by omega⟩)))]
      try rw [(show (rf_max (μ 95 (330 + S)) (nI 1)) = nI (cn (μ 95) (330 + S)) from by rw [hI.atb (b := 9) (bd_330 (i := S) (by omega) rfl) (by decide)]; exact rf_max_b hl (by omega))]
      try rw [(show ((nI (m * A)) / (nI (cn (μ 95) (330 + S)))) = nI (m * A / cn (μ 95) (330 + S)) from pk_div (by omega) (by omega) (by omega))]
      refine ok_V (As := [.int (nI S), .int (nI m), .int (nI (m * A / cn (μ 95) (330 + S)))]) (b := 22) (st := []) mkX1_keepFind qX10_passDay_165 rfl (rc_22) rfl rfl rfl rfl (Nat.le_of_ble_eq_true rfl) (c_kf1 (F := cn (μ 95) 6) hF h6) ?_
      refine ok_step (ps := []) (L' := [some (.ref 1), some (.int (nI A)), some (.int (nI S)), some (.int (nI m)), some (.int (nI (cn (μ 95) 4)))]) (st' := [.int (nI m)]) (σ' := (rf_w (rf_w (rf_w (rf_w (rf_w (rf_w β 23 (cn (μ 95) 6) (nI S)) 24 (cn (μ 95) 6) (nI m)) 25 (cn (μ 95) 6) (nI (m * A / cn (μ 95) (330 + S)))) 22 3 (nI (1 + cn (μ 95) 6))) 22 1 (rf_min (((rf_w (rf_w (rf_w (rf_w β 23 (cn (μ 95) 6) (nI S)) 24 (cn (μ 95) 6) (nI m)) 25 (cn (μ 95) 6) (nI (m * A / cn (μ 95) (330 + S)))) 22 3 (nI (1 + cn (μ 95) 6))) 22 1) + (((rf_w (rf_w (rf_w (rf_w β 23 (cn (μ 95) 6) (nI S)) 24 (cn (μ 95) 6) (nI m)) 25 (cn (μ 95) 6) (nI (m * A / cn (μ 95) (330 + S)))) 22 3 (nI (1 + cn (μ 95) 6))) 10 2) * (nI m))) (nI 1999999999))) 22 0 (((rf_w (rf_w (rf_w (rf_w (rf_w β 23 (cn (μ 95) 6) (nI S)) 24 (cn (μ 95) 6) (nI m)) 25 (cn (μ 95) 6) (nI (m * A / cn (μ 95) (330 + S)))) 22 3 (nI (1 + cn (μ 95) 6))) 22 1 (rf_min (((rf_w (rf_w (rf_w (rf_w β 23 (cn (μ 95) 6) (nI S)) 24 (cn (μ 95) 6) (nI m)) 25 (cn (μ 95) 6) (nI (m * A / cn (μ 95) (330 + S)))) 22 3 (nI (1 + cn (μ 95) 6))) 22 1) + (((rf_w (rf_w (rf_w (rf_w β 23 (cn (μ 95) 6) (nI S)) 24 (cn (μ 95) 6) (nI m)) 25 (cn (μ 95) 6) (nI (m * A / cn (μ 95) (330 + S)))) 22 3 (nI (1 + cn (μ 95) 6))) 10 2) * (nI m))) (nI 1999999999))) 22 0) + (nI 1)), δ)) (pc' := 211) kX10_passDay_168 rfl rfl rf_a0 ?_
      try rw [(show (rf_w (rf_w (rf_w (rf_w β 23 (cn (μ 95) 6) (nI S)) 24 (cn (μ 95) 6) (nI m)) 25 (cn (μ 95) 6) (nI (m * A / cn (μ 95) (330 + S)))) 22 3 (nI (1 + cn (μ 95) 6))) 22 1 = (rf_w (rf_w (rf_w β 23 (cn (μ 95) 6) (nI S)) 24 (cn (μ 95) 6) (nI m)) 25 (cn (μ 95) 6) (nI (m * A / cn (μ 95) (330 + S)))) 22 1 from by rw [rf_w_at, if_neg (fun h => absurd h.2 (by omega))])]
      try rw [(show (rf_w (rf_w (rf_w β 23 (cn (μ 95) 6) (nI S)) 24 (cn (μ 95) 6) (nI m)) 25 (cn (μ 95) 6) (nI (m * A / cn (μ 95) (330 + S)))) 22 1 = (rf_w (rf_w β 23 (cn (μ 95) 6) (nI S)) 24 (cn (μ 95) 6) (nI m)) 22 1 from by rw [rf_w_at, if_neg (fun h => absurd h.1 (by decide))])]
      try rw [(show (rf_w (rf_w β 23 (cn (μ 95) 6) (nI S)) 24 (cn (μ 95) 6) (nI m)) 22 1 = (rf_w β 23 (cn (μ 95) 6) (nI S)) 22 1 from by rw [rf_w_at, if_neg (fun h => absurd h.1 (by decide))])]
      try rw [(show (rf_w β 23 (cn (μ 95) 6) (nI S)) 22 1 = β 22 1 from by rw [rf_w_at, if_neg (fun h => absurd h.1 (by decide))])]
      try rw [(show β 22 1 = μ 95 7 from (show β 22 1 = ct (μ 95) S (cn (μ 95) 4) 7 from hR 21 1 7 rfl).trans (ct_o (by omega) (fun k hk => ⟨by omega, by omega⟩)))]
      try rw [(show (rf_w (rf_w (rf_w (rf_w β 23 (cn (μ 95) 6) (nI S)) 24 (cn (μ 95) 6) (nI m)) 25 (cn (μ 95) 6) (nI (m * A / cn (μ 95) (330 + S)))) 22 3 (nI (1 + cn (μ 95) 6))) 10 2 = (rf_w (rf_w (rf_w β 23 (cn (μ 95) 6) (nI S)) 24 (cn (μ 95) 6) (nI m)) 25 (cn (μ 95) 6) (nI (m * A / cn (μ 95) (330 + S)))) 10 2 from by rw [rf_w_at, if_neg (fun h => absurd h.1 (by decide))])]
      try rw [(show (rf_w (rf_w (rf_w β 23 (cn (μ 95) 6) (nI S)) 24 (cn (μ 95) 6) (nI m)) 25 (cn (μ 95) 6) (nI (m * A / cn (μ 95) (330 + S)))) 10 2 = (rf_w (rf_w β 23 (cn (μ 95) 6) (nI S)) 24 (cn (μ 95) 6) (nI m)) 10 2 from by rw [rf_w_at, if_neg (fun h => absurd h.1 (by decide))])]
      try rw [(show (rf_w (rf_w β 23 (cn (μ 95) 6) (nI S)) 24 (cn (μ 95) 6) (nI m)) 10 2 = (rf_w β 23 (cn (μ 95) 6) (nI S)) 10 2 from by rw [rf_w_at, if_neg (fun h => absurd h.1 (by decide))])]
      try rw [(show (rf_w β 23 (cn (μ 95) 6) (nI S)) 10 2 = β 10 2 from by rw [rf_w_at, if_neg (fun h => absurd h.1 (by decide))])]
      try rw [(show β 10 2 = μ 95 9 from (show β 10 2 = ct (μ 95) S (cn (μ 95) 4) 9 from hR 9 2 9 rfl).trans (ct_o (by omega) (fun k hk => ⟨by omega, by omega⟩)))]
      try rw [(show ((μ 95 9) * (nI m)) = nI (cn (μ 95) 9 * m) from by rw [hI.at9]; exact pk_mul _ _)]
      try rw [(show ((μ 95 7) + (nI (cn (μ 95) 9 * m))) = nI (cn (μ 95) 7 + (cn (μ 95) 9 * m)) from rf_eq (rf_nadd (x := μ 95 7) (y := nI (cn (μ 95) 9 * m)) (hI.at7) rfl) (by omega))]
      try rw [(show (rf_min (nI (cn (μ 95) 7 + (cn (μ 95) 9 * m))) (nI 1999999999)) = nI (min (cn (μ 95) 7 + cn (μ 95) 9 * m) 1999999999) from rf_min_n (by omega) (by omega))]
      try rw [(show (rf_w (rf_w (rf_w (rf_w (rf_w β 23 (cn (μ 95) 6) (nI S)) 24 (cn (μ 95) 6) (nI m)) 25 (cn (μ 95) 6) (nI (m * A / cn (μ 95) (330 + S)))) 22 3 (nI (1 + cn (μ 95) 6))) 22 1 (nI (min (cn (μ 95) 7 + cn (μ 95) 9 * m) 1999999999))) 22 0 = (rf_w (rf_w (rf_w (rf_w β 23 (cn (μ 95) 6) (nI S)) 24 (cn (μ 95) 6) (nI m)) 25 (cn (μ 95) 6) (nI (m * A / cn (μ 95) (330 + S)))) 22 3 (nI (1 + cn (μ 95) 6))) 22 0 from by rw [rf_w_at, if_neg (fun h => absurd h.2 (by omega))])]
      try rw [(show (rf_w (rf_w (rf_w (rf_w β 23 (cn (μ 95) 6) (nI S)) 24 (cn (μ 95) 6) (nI m)) 25 (cn (μ 95) 6) (nI (m * A / cn (μ 95) (330 + S)))) 22 3 (nI (1 + cn (μ 95) 6))) 22 0 = (rf_w (rf_w (rf_w β 23 (cn (μ 95) 6) (nI S)) 24 (cn (μ 95) 6) (nI m)) 25 (cn (μ 95) 6) (nI (m * A / cn (μ 95) (330 + S)))) 22 0 from by rw [rf_w_at, if_neg (fun h => absurd h.2 (by omega))])]
      try rw [(show (rf_w (rf_w (rf_w β 23 (cn (μ 95) 6) (nI S)) 24 (cn (μ 95) 6) (nI m)) 25 (cn (μ 95) 6) (nI (m * A / cn (μ 95) (330 + S)))) 22 0 = (rf_w (rf_w β 23 (cn (μ 95) 6) (nI S)) 24 (cn (μ 95) 6) (nI m)) 22 0 from by rw [rf_w_at, if_neg (fun h => absurd h.1 (by decide))])]
      try rw [(show (rf_w (rf_w β 23 (cn (μ 95) 6) (nI S)) 24 (cn (μ 95) 6) (nI m)) 22 0 = (rf_w β 23 (cn (μ 95) 6) (nI S)) 22 0 from by rw [rf_w_at, if_neg (fun h => absurd h.1 (by decide))])]
      try rw [(show (rf_w β 23 (cn (μ 95) 6) (nI S)) 22 0 = β 22 0 from by rw [rf_w_at, if_neg (fun h => absurd h.1 (by decide))])]
      try rw [(show β 22 0 = μ 95 0 from (show β 22 0 = ct (μ 95) S (cn (μ 95) 4) 0 from hR 21 0 0 rfl).trans (ct_o (by omega) (fun k hk => ⟨by omega, by omega⟩)))]
      try rw [(show ((μ 95 0) + (nI 1)) = nI (1 + cn (μ 95) 0) from rf_eq (rf_nadd (x := μ 95 0) (y := nI 1) (hI.at0) rfl) (by omega))]
      refine ok_reti eX10_passDay_211 rfl ?_
      exact ⟨rfl, β, hs, hR, by rw [fA, if_pos h6]⟩
    · have hF : β 22 3 = nI (cn (μ 95) 6) := (hR 21 3 6 rfl).trans ((ct_o (by omega) (fun k hk => ⟨by omega, by omega⟩)).trans hI.at6)
      have hlot : β 21 S = nI (cn (μ 95) (330 + S)) := (rl_20 hR (i := S) (by omega) rfl).trans ((ct_o (by omega) (fun k hk => ⟨by omega, by omega⟩)).trans (hI.atb (b := 9) (bd_330 (i := S) (by omega) rfl) (by decide)))
      refine ok_step (ps := []) (L' := [some (.ref 1), some (.int (nI A)), some (.int (nI S)), some (.int (nI m)), some (.int (nI (cn (μ 95) 4)))]) (st' := [.int (β 10 0), .int (nI (cn (μ 95) 4))]) (σ' := (β, δ)) (pc' := 69) kX10_passDay_60 rfl rfl rf_a0 ?_
      try rw [(show β 10 0 = μ 95 4 from (show β 10 0 = ct (μ 95) S (cn (μ 95) 4) 4 from hR 9 0 4 rfl).trans (ct_o (by omega) (fun k hk => ⟨by omega, by omega⟩)))]
      refine ok_icmp_ge bX10_passDay_69 (fun _ => ?_) (fun h69 => absurd (le_of hI.at4 (by omega) (by omega)) h69)
      refine ok_step (ps := [rf_in (nI S) 8, rf_nz (rf_max (β 21 ((nI S).toNatClampNeg)) (nI 1))]) (L' := [some (.ref 1), some (.int (nI A)), some (.int (nI S)), some (.int (nI m)), some (.int (nI (cn (μ 95) 4)))]) (st' := [.int (((nI m) * (nI A)) / (rf_max (β 21 ((nI S).toNatClampNeg)) (nI 1))), .int (nI m), .int (nI S), .ref 22]) (σ' := (β, δ)) (pc' := 165) kX10_passDay_142 rfl rfl (rf_a1 (rf_in_n (a := S) rfl (by omega)) (rf_a1 (by rw [show (nI S).toNatClampNeg = S from rf_cl_n rfl (by omega), hlot, rf_max_b hl (by omega)]; exact nz_of (fun e => by have := nI_inj (b := 0) e (by omega) (by omega); omega)) rf_a0)) ?_
      try rw [(show ((nI m) * (nI A)) = nI (m * A) from pk_mul _ _)]
      try rw [(show (nI S).toNatClampNeg = S from rf_cl_n rfl (by omega))]
      try rw [(show β 21 S = μ 95 (330 + S) from (show β 21 S = ct (μ 95) S (cn (μ 95) 4) (330 + S) from rl_20 hR (i := S) (by omega) (by omega)).trans (ct_o (by omega) (fun k hk => ⟨by omega, by omega⟩)))]
      try rw [(show (rf_max (μ 95 (330 + S)) (nI 1)) = nI (cn (μ 95) (330 + S)) from by rw [hI.atb (b := 9) (bd_330 (i := S) (by omega) rfl) (by decide)]; exact rf_max_b hl (by omega))]
      try rw [(show ((nI (m * A)) / (nI (cn (μ 95) (330 + S)))) = nI (m * A / cn (μ 95) (330 + S)) from pk_div (by omega) (by omega) (by omega))]
      refine ok_V (As := [.int (nI S), .int (nI m), .int (nI (m * A / cn (μ 95) (330 + S)))]) (b := 22) (st := []) mkX1_keepFind qX10_passDay_165 rfl (rc_22) rfl rfl rfl rfl (Nat.le_of_ble_eq_true rfl) (c_kf2 (F := cn (μ 95) 6) hF h6 b6) ?_
      refine ok_step (ps := []) (L' := [some (.ref 1), some (.int (nI A)), some (.int (nI S)), some (.int (nI m)), some (.int (nI (cn (μ 95) 4)))]) (st' := [.int (nI m)]) (σ' := (rf_w (rf_w β 22 1 (rf_min ((β 22 1) + ((β 10 2) * (nI m))) (nI 1999999999))) 22 0 (((rf_w β 22 1 (rf_min ((β 22 1) + ((β 10 2) * (nI m))) (nI 1999999999))) 22 0) + (nI 1)), δ)) (pc' := 211) kX10_passDay_168 rfl rfl rf_a0 ?_
      try rw [(show β 22 1 = μ 95 7 from (show β 22 1 = ct (μ 95) S (cn (μ 95) 4) 7 from hR 21 1 7 rfl).trans (ct_o (by omega) (fun k hk => ⟨by omega, by omega⟩)))]
      try rw [(show β 10 2 = μ 95 9 from (show β 10 2 = ct (μ 95) S (cn (μ 95) 4) 9 from hR 9 2 9 rfl).trans (ct_o (by omega) (fun k hk => ⟨by omega, by omega⟩)))]
      try rw [(show ((μ 95 9) * (nI m)) = nI (cn (μ 95) 9 * m) from by rw [hI.at9]; exact pk_mul _ _)]
      try rw [(show ((μ 95 7) + (nI (cn (μ 95) 9 * m))) = nI (cn (μ 95) 7 + (cn (μ 95) 9 * m)) from rf_eq (rf_nadd (x := μ 95 7) (y := nI (cn (μ 95) 9 * m)) (hI.at7) rfl) (by omega))]
      try rw [(show (rf_min (nI (cn (μ 95) 7 + (cn (μ 95) 9 * m))) (nI 1999999999)) = nI (min (cn (μ 95) 7 + cn (μ 95) 9 * m) 1999999999) from rf_min_n (by omega) (by omega))]
      try rw [(show (rf_w β 22 1 (nI (min (cn (μ 95) 7 + cn (μ 95) 9 * m) 1999999999))) 22 0 = β 22 0 from by rw [rf_w_at, if_neg (fun h => absurd h.2 (by omega))])]
      try rw [(show β 22 0 = μ 95 0 from (show β 22 0 = ct (μ 95) S (cn (μ 95) 4) 0 from hR 21 0 0 rfl).trans (ct_o (by omega) (fun k hk => ⟨by omega, by omega⟩)))]
      try rw [(show ((μ 95 0) + (nI 1)) = nI (1 + cn (μ 95) 0) from rf_eq (rf_nadd (x := μ 95 0) (y := nI 1) (hI.at0) rfl) (by omega))]
      refine ok_reti eX10_passDay_211 rfl ?_
      exact ⟨rfl, β, hs, hR, by rw [fA, if_neg (by omega)]⟩
  | succ j ih =>
    intro i β hs hp hR hj
    have b194 := (m194 hI (g := i) (by omega)).1
    have hfi := fm_le (S := S) (n := i) hI (by omega)
    refine ok_step (ps := []) (L' := [some (.ref 1), some (.int (nI A)), some (.int (nI S)), some (.int (nI (sumN (fm (μ 95) S) i))), some (.int (nI i))]) (st' := [.int (β 10 0), .int (nI i)]) (σ' := (β, δ)) (pc' := 69) kX10_passDay_60 rfl rfl rf_a0 ?_
    try rw [(show β 10 0 = μ 95 4 from (show β 10 0 = ct (μ 95) S i 4 from hR 9 0 4 rfl).trans (ct_o (by omega) (fun k hk => ⟨by omega, by omega⟩)))]
    refine ok_icmp_ge bX10_passDay_69 (fun h69 => absurd h69 (nle_of hI.at4 (by omega) (by omega))) (fun _ => ?_)
    refine ok_step (ps := [rf_in (nI i) 16]) (L' := [some (.ref 1), some (.int (nI A)), some (.int (nI S)), some (.int (nI (sumN (fm (μ 95) S) i))), some (.int (nI i))]) (st' := [.int (β 37 ((nI i).toNatClampNeg))]) (σ' := (β, δ)) (pc' := 79) kX10_passDay_72 rfl rfl (rf_a1 (rf_in_n (a := i) rfl (by omega)) rf_a0) ?_
    try rw [(show (nI i).toNatClampNeg = i from rf_cl_n rfl (by omega))]
    try rw [(show β 37 i = bI (s_now (μ 95) i) from hp _ (by omega))]
    refine ok_if_ne bX10_passDay_79 (fun h79 => ?_) (fun h79 => ?_)
    · refine ok_step (ps := []) (L' := [some (.ref 1), some (.int (nI A)), some (.int (nI S)), some (.int (nI (sumN (fm (μ 95) S) i))), some (.int ((nI i) + (nI 1)))]) (st' := []) (σ' := (β, δ)) (pc' := 139) kX10_passDay_136 rfl rfl rf_a0 ?_
      try rw [(show ((nI i) + (nI 1)) = nI (i + 1) from nI_add _ _)]
      refine ok_goto bX10_passDay_139 ?_
      have ef : fnd (μ 95) S i = false := by unfold fnd; rw [bI_n0.mp h79]; rfl
      rw [show (nI (sumN (fm (μ 95) S) i) : Int32) = nI (sumN (fm (μ 95) S) (i + 1)) from fm_f ef]
      exact ih (i + 1) β hs hp (by rw [ct_f ef]; exact hR) (by omega)
    · refine ok_step (ps := [rf_in (nI S) 8, rf_in (nI i) 16]) (L' := [some (.ref 1), some (.int (nI A)), some (.int (nI S)), some (.int (nI (sumN (fm (μ 95) S) i))), some (.int (nI i))]) (st' := [.int (β 12 ((nI i).toNatClampNeg)), .int (β 20 ((nI S).toNatClampNeg))]) (σ' := (β, δ)) (pc' := 101) kX10_passDay_82 rfl rfl (rf_a1 (rf_in_n (a := S) rfl (by omega)) (rf_a1 (rf_in_n (a := i) rfl (by omega)) rf_a0)) ?_
      try rw [(show (nI S).toNatClampNeg = S from rf_cl_n rfl (by omega))]
      try rw [(show β 20 S = μ 95 (320 + S) from (show β 20 S = ct (μ 95) S i (320 + S) from rl_19 hR (i := S) (by omega) (by omega)).trans (ct_o (by omega) (fun k hk => ⟨by omega, by omega⟩)))]
      try rw [(show (nI i).toNatClampNeg = i from rf_cl_n rfl (by omega))]
      try rw [(show β 12 i = μ 95 (191 + 8 * i) from (show β 12 i = ct (μ 95) S i (191 + 8 * i) from rl_11 hR (i := i) (by omega) (by omega)).trans (ct_o (by omega) (fun k hk => ⟨by omega, by omega⟩)))]
      refine ok_S (As := [.int (μ 95 (320 + S)), .int (μ 95 (191 + 8 * i))]) (st := []) mkX11_has qX10_passDay_101 rfl rfl rfl rfl rfl (Nat.le_of_ble_eq_true rfl) (c_has) ?_
      refine ok_if_eq bX10_passDay_104 (fun h104 => ?_) (fun h104 => ?_)
      · refine ok_step (ps := []) (L' := [some (.ref 1), some (.int (nI A)), some (.int (nI S)), some (.int (nI (sumN (fm (μ 95) S) i))), some (.int ((nI i) + (nI 1)))]) (st' := []) (σ' := (β, δ)) (pc' := 139) kX10_passDay_136 rfl rfl rf_a0 ?_
        try rw [(show ((nI i) + (nI 1)) = nI (i + 1) from nI_add _ _)]
        refine ok_goto bX10_passDay_139 ?_
        have ef : fnd (μ 95) S i = false := by unfold fnd; rw [bI_0.mp h104, Bool.and_false]
        rw [show (nI (sumN (fm (μ 95) S) i) : Int32) = nI (sumN (fm (μ 95) S) (i + 1)) from fm_f ef]
        exact ih (i + 1) β hs hp (by rw [ct_f ef]; exact hR) (by omega)
      · refine ok_step (ps := [rf_in (nI i) 16]) (L' := [some (.ref 1), some (.int (nI A)), some (.int (nI S)), some (.int ((nI (sumN (fm (μ 95) S) i)) + (β 15 ((nI i).toNatClampNeg)))), some (.int (nI i))]) (st' := [.int (β 22 0), .int (nI i), .ref 10]) (σ' := (β, δ)) (pc' := 133) kX10_passDay_107 rfl rfl (rf_a1 (rf_in_n (a := i) rfl (by omega)) rf_a0) ?_
        try rw [(show (nI i).toNatClampNeg = i from rf_cl_n rfl (by omega))]
        try rw [(show β 15 i = μ 95 (194 + 8 * i) from (show β 15 i = ct (μ 95) S i (194 + 8 * i) from rl_14 hR (i := i) (by omega) (by omega)).trans (ct_o (by omega) (fun k hk => ⟨by omega, by omega⟩)))]
        try rw [(show ((nI (sumN (fm (μ 95) S) i)) + (μ 95 (194 + 8 * i))) = nI ((sumN (fm (μ 95) S) i) + cn (μ 95) (194 + 8 * i)) from rf_eq (rf_nadd (x := nI (sumN (fm (μ 95) S) i)) (y := μ 95 (194 + 8 * i)) rfl (hI.atb (k := (194 + 8 * i)) (bd_194 (i := i) (by omega) (by omega)) (by decide))) (by omega))]
        try rw [(show β 22 0 = μ 95 0 from (show β 22 0 = ct (μ 95) S i 0 from hR 21 0 0 rfl).trans (ct_o (by omega) (fun k hk => ⟨by omega, by omega⟩)))]
        rw [show (μ 95 0 : Int32) = nI (cn (μ 95) 0) from hI.at0]
        refine ok_Vx (As := [.int (nI i), .int (nI (cn (μ 95) 0))]) (b := 10) (st := []) mkX3_beFound qX10_passDay_133 rfl (rc_10) rfl rfl rfl rfl (Nat.le_of_ble_eq_true rfl) (c_bf (d := μ 95) (c := ct (μ 95) S i) hR hI (by omega) (hI.2.2.2.1 i (by omega)).2 (fun j j1 j2 => ct_o j1 (fun k hk => ⟨by omega, by omega⟩)) (ct_o (by omega) (fun k hk => ⟨by omega, by omega⟩))) (fun r1 σ1 hq => ?_)
        obtain ⟨rfl, β2, rfl, hR2, hb2⟩ := hq
        refine ok_step (ps := []) (L' := [some (.ref 1), some (.int (nI A)), some (.int (nI S)), some (.int (nI ((sumN (fm (μ 95) S) i) + cn (μ 95) (194 + 8 * i)))), some (.int ((nI i) + (nI 1)))]) (st' := []) (σ' := (β2, δ)) (pc' := 139) kX10_passDay_136 rfl rfl rf_a0 ?_
        try rw [(show ((nI i) + (nI 1)) = nI (i + 1) from nI_add _ _)]
        refine ok_goto bX10_passDay_139 ?_
        have ef : fnd (μ 95) S i = true := by unfold fnd; rw [bI_0.mp h79, bI_n0.mp h104]; rfl
        rw [show (nI ((sumN (fm (μ 95) S) i) + cn (μ 95) (194 + 8 * i)) : Int32) = nI (sumN (fm (μ 95) S) (i + 1)) from fm_t ef]
        exact ih (i + 1) β2 (fun k h1 h2 h3 h4 h5 => by rw [hb2 k (by omega) (by omega)]; exact hs k h1 h2 h3 h4 h5) (fun k hk => by rw [hb2 37 (by decide) (by decide)]; exact hp k hk) (by rw [ct_t ef]; exact hR2) (by omega)
theorem c_day {a S A m : Nat} (hJ : J α μ) (hA : nA (μ 95) = A) (hA1 : 1 ≤ A) (ea : zr (μ 95) = nI a) (ha : a < 2 ^ 24) (hS : S < cn (μ 95) 5) (h1 : csum (μ 95) S ≤ a % A) (h2 : a % A < csum (μ 95) (S + 1)) (hm : (sumN (fm (μ 95) S) (cn (μ 95) 4)) = m) : rf_Ok (rf_T Ln xs) MX10_passDay 20 0 [some (.ref 1), none, none, none, none] [] (α, δ) (fun r t => r = some (.int (nI m)) ∧ ∃ β : Nat → Nat → Int32, sC α β ∧ Rl 1 β (ct (μ 95) S (cn (μ 95) 4)) ∧ t = (fA (cn (μ 95) 6) (nI S) (nI m) (nI (m * A / cn (μ 95) (330 + S))) (nI (min (cn (μ 95) 7 + cn (μ 95) 9 * m) 1999999999)) (nI (1 + cn (μ 95) 0)) β, δ)) := by
  have hI := hJ.2
  have hA2 : A ≤ 72 := by rw [← hA]; exact nA_le hI
  have b5 := hI.le5
  have hl : 1 ≤ cn (μ 95) (330 + S) := by
    have : csum (μ 95) (S + 1) = csum (μ 95) S + cn (μ 95) (330 + S) := rfl
    omega
  have hAll : rf_max (s_all (μ 95)) (nI 1) = nI A := by
    rw [below_n hI, ← hA]
    exact congrArg nI (if_neg (by omega))
  have hmod : a % A < A := Nat.mod_lt _ (by omega)
  have hI1 := ct_Iv (S := S) hI (g := 0) (by omega)
  refine ok_step (ps := []) (L' := [some (.ref 1), some (.int (nI 0)), none, none, none]) (st' := []) (σ' := (α, δ)) (pc' := 2) kX10_passDay_0 rfl rfl rf_a0 ?_
  refine c_pd1 (α := α) (fun β hJ2 hs hp => ?_) (cn (μ 95) 4) 0 α hJ (sC.rfl α) (fun k hk => absurd hk (Nat.not_lt_zero k)) (by omega)
  have hR := hJ2.1.1.1
  have hR1 : Rl 1 (rf_w β 22 2 (zz (μ 95))) (ct (μ 95) S 0) := hR.put (c := 21) (i := 2) (j := 10) rfl _
  have hcs : ∀ k, csum (ct (μ 95) S 0) k = csum (μ 95) k := fun k => by
    unfold csum
    congr 1
    funext s
    show cn (upd (μ 95) 10 (zz (μ 95))) (330 + s) = _
    exact cn_upd (by omega)
  refine ok_step (ps := []) (L' := [some (.ref 1), none, none, none, none]) (st' := [.ref 19]) (σ' := (β, δ)) (pc' := 34) kX10_passDay_30 rfl rfl rf_a0 ?_
  refine ok_V (As := []) (b := 19) (st := []) mkX7_below qX10_passDay_34 rfl (rc_19) rfl rfl rfl rfl (Nat.le_of_ble_eq_true rfl) (c_below_x hR hI) ?_
  rw [hAll]
  refine ok_step (ps := []) (L' := [some (.ref 1), some (.int (nI A)), none, none, none]) (st' := [.ref 22, .ref 19]) (σ' := (β, δ)) (pc' := 46) kX10_passDay_37 rfl rfl rf_a0 ?_
  refine ok_V (As := []) (b := 22) (st := [.ref 19]) mkX1_draw qX10_passDay_46 rfl (rc_22) rfl rfl rfl rfl (Nat.le_of_ble_eq_true rfl) (c_draw (d := μ 95) (hR 21 2 10 rfl)) ?_
  rw [ea]
  refine ok_step (ps := [rf_nz (nI A)]) (L' := [some (.ref 1), some (.int (nI A)), none, none, none]) (st' := [.int ((nI a) - (nI a) / (nI A) * (nI A)), .ref 19]) (σ' := (rf_w β 22 2 (zz (μ 95)), δ)) (pc' := 51) kX10_passDay_49 rfl rfl (rf_a1 (nz_of (fun e => by have := nI_inj (b := 0) e (by omega) (by omega); omega)) rf_a0) ?_
  try rw [(show ((nI a) - (nI a) / (nI A) * (nI A)) = nI (a % A) from pk_rem (by omega) (by omega) (by omega))]
  refine ok_Vx (As := [.int (nI (a % A))]) (b := 19) (st := []) mkX7_shiftOf qX10_passDay_51 rfl (rc_19) rfl rfl rfl rfl (Nat.le_of_ble_eq_true rfl) (c_shof0 (d := ct (μ 95) S 0) hR1 hI1 (show S < cn (upd (μ 95) 10 (zz (μ 95))) 5 by rw [cn_upd (by decide)]; exact hS) (by rw [hcs]; exact h1) (by rw [hcs]; exact h2) (by omega)) (fun r1 σ1 hq => ?_)
  obtain ⟨rfl, rfl⟩ := hq
  refine ok_step (ps := []) (L' := [some (.ref 1), some (.int (nI A)), some (.int (nI S)), some (.int (nI 0)), some (.int (nI 0))]) (st' := []) (σ' := (rf_w β 22 2 (zz (μ 95)), δ)) (pc' := 60) kX10_passDay_54 rfl rfl rf_a0 ?_
  exact c_pd2 hI ⟨hA1, hA2⟩ hS hl hm (cn (μ 95) 4) 0 _ (hs.w (Or.inl (by omega))) (fun k hk => by rw [rf_w_row (by decide)]; exact hp k hk) hR1 (by omega)
end H62
