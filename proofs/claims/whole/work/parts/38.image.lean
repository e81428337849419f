theorem Iv.same {d d' : Nat → Int32} (h : Iv d) (e : ∀ j, j < 700 → d' j = d j) : Iv d' := by
  have b2 := h.le2
  have b3 := h.le3
  have b4 := h.le4
  have b5 := h.le5
  have q : ∀ k, k < 700 → cn d' k = cn d k := fun k hk => by unfold cn; rw [e k hk]
  refine ⟨fun k b hk => ?_, fun l hl => ?_, fun t ht => ?_, fun g hg => ?_, fun s hs => ?_, fun s hs hs8 => ?_⟩
  · rcases Nat.lt_or_ge k 680 with h1 | h1
    · rw [e k (by omega)]
      exact h.1 k b hk
    · rw [bdN (by omega)] at hk
      cases hk
  · rw [q 2 (by omega)] at hl
    rw [q _ (by omega)]
    exact h.2.1 l hl
  · rw [q 3 (by omega)] at ht
    rw [q _ (by omega), q 2 (by omega)]
    exact h.2.2.1 t ht
  · rw [q 4 (by omega)] at hg
    rw [q _ (by omega), q 3 (by omega), q _ (by omega), q _ (by omega)]
    exact h.2.2.2.1 g hg
  · rw [q 5 (by omega)] at hs
    rw [q _ (by omega), q 3 (by omega)]
    exact h.2.2.2.2.1 s hs
  · rw [q 5 (by omega)] at hs
    rw [q _ (by omega)]
    exact h.2.2.2.2.2 s hs hs8
theorem off_ln {c i j : Nat} (h : off c i = some j) : 1 ≤ c ∧ i < ln c := by
  unfold off at h
  repeat' split at h
  all_goals first | (cases h; done) | exact ⟨by decide, by decide⟩ | (refine ⟨by decide, ?_⟩; show i < _; simp only [ln, List.getD_cons_succ, List.getD_cons_zero]; omega)
theorem Rl.cp {t f : Nat} {α α' : Nat → Nat → Int32} {d d' : Nat → Int32} (h : Rl f α d) (hw : ∀ c i, 1 ≤ c → c ≤ 32 → i < ln c → α' (t + c) i = α (f + c) i) (hd : ∀ j, j < 700 → d' j = d j) : Rl t α' d' := by
  intro c i j ho
  have h1 := off_bd ho
  have h2 := off_ln ho
  rw [hw c i h2.1 (by omega) h2.2, hd j h1.2.2]
  exact h c i j ho
theorem Tx.cp {u t f c : Nat} {α α' : Nat → Nat → Int32} {n n' : Int32} {b b' : Nat → Int32} (h : Tx u (α (f + c) 0) (α (f + (c + 1))) n b) (hw : ∀ c i, 1 ≤ c → c ≤ 32 → i < ln c → α' (t + c) i = α (f + c) i) (hc : c = 28 ∨ c = 31) (hn : n' = n) (hb : ∀ i, i < 50 → b' i = b i) : Tx u (α' (t + c) 0) (α' (t + (c + 1))) n' b' := by
  subst hn
  rcases hc with rfl | rfl
  · rw [hw 28 0 (by omega) (by omega) (by decide)]
    exact h.same hb (fun i hi => hw 29 i (by omega) (by omega) hi)
  · rw [hw 31 0 (by omega) (by omega) (by decide)]
    exact h.same hb (fun i hi => hw 32 i (by omega) (by omega) hi)
/-- the first n places of g, then f -/
def cpn (n : Nat) (g f : Nat → Int32) : Nat → Int32 := fun j => if j < n then g j else f j
theorem rfw_cpn {m : Nat → Nat → Int32} {k i : Nat} {v : Int32} {g f : Nat → Int32} (hv : v = g i) : rf_w (rf_r m k (cpn i g f)) k i v = rf_r m k (cpn (i + 1) g f) := by
  subst hv
  funext x y
  rw [rf_w_at]
  simp only [rf_r]
  by_cases h : x = k
  · subst h
    simp only [true_and, if_true]
    unfold cpn
    by_cases h2 : y = i
    · rw [if_pos h2, if_pos (by omega), h2]
    · rw [if_neg h2]
      by_cases h3 : y < i
      · rw [if_pos h3, if_pos (by omega)]
      · rw [if_neg h3, if_neg (by omega)]
  · simp [h]
theorem rfr_c0 {m : Nat → Nat → Int32} {k : Nat} {g : Nat → Int32} : rf_r m k (cpn 0 g (m k)) = m := by
  funext x y
  simp only [rf_r]
  by_cases h : x = k
  · subst h
    simp [cpn]
  · simp [h]
theorem J.image {α α' μ : Nat → Nat → Int32} (h : J α μ) (hw : Wc 38 1 1 32 α α') {v : Int32} : J (rf_w α' 0 7 v) (rf_w (rf_r μ 96 (cpn 700 (μ 95) (μ 96))) 94 2 v) := by
  obtain ⟨⟨⟨r1, t1, t2⟩, h2, h3, h4, ⟨v1, v2, v3⟩, h6⟩, hI⟩ := h
  have ha : ∀ k, ¬ (39 ≤ k ∧ k ≤ 70) → 0 < k → rf_w α' 0 7 v k = α k := fun k hk h0 => by rw [rf_w_row (by omega), hw.2 k (by omega)]
  have hm : ∀ k, k ≠ 94 → k ≠ 96 → rf_w (rf_r μ 96 (cpn 700 (μ 95) (μ 96))) 94 2 v k = μ k := fun k h1 h2 => by rw [rf_w_row h1, rfr_row h2]
  have e96 : rf_w (rf_r μ 96 (cpn 700 (μ 95) (μ 96))) 94 2 v 96 = cpn 700 (μ 95) (μ 96) := by rw [rf_w_row (by decide), rfr_self]
  have e94 : rf_w (rf_r μ 96 (cpn 700 (μ 95) (μ 96))) 94 2 v 94 18 = μ 94 18 := by rw [rf_w_at, if_neg (by omega), rfr_row (by decide)]
  have w1 : ∀ c i, 1 ≤ c → c ≤ 32 → i < ln c → rf_w α' 0 7 v (38 + c) i = α (1 + c) i := fun c i h1 h2 hi => by rw [rf_w_row (by omega)]; exact hw.1 c i h1 h2 hi
  have hd : ∀ j, j < 700 → cpn 700 (μ 95) (μ 96) j = μ 95 j := fun j hj => if_pos hj
  refine ⟨⟨⟨?_, ?_, ?_⟩, fun _ => ?_, ?_, fun k hk => ?_, ⟨?_, ?_, fun i hi => ?_⟩, fun s hs => ?_⟩, ?_⟩
  · rw [hm 95 (by decide) (by decide)]
    exact r1.same (fun c hc i => by rw [ha (1 + c) (by omega) (by omega)]) (fun _ _ => rfl)
  · rw [hm 95 (by decide) (by decide), ha 29 (by omega) (by omega), ha 30 (by omega) (by omega)]
    exact t1
  · rw [hm 95 (by decide) (by decide), ha 32 (by omega) (by omega), ha 33 (by omega) (by omega)]
    exact t2
  · rw [e96]
    exact ⟨Rl.cp r1 w1 hd, hI.same hd, Tx.cp (t := 38) (f := 1) (c := 28) t1 w1 (Or.inl rfl) (hd 520 (by omega)) (fun i hi => hd (530 + i) (by omega)), Tx.cp (t := 38) (f := 1) (c := 31) t2 w1 (Or.inr rfl) (hd 521 (by omega)) (fun i hi => hd (580 + i) (by omega))⟩
  · rw [rf_w_at, rf_w_at, if_pos ⟨rfl, rfl⟩, if_pos ⟨rfl, rfl⟩]
  · rw [ha 93 (by omega) (by omega), hm 97 (by decide) (by decide)]
    exact h4 k hk
  · rw [ha 83 (by omega) (by omega), e94]
    exact v1
  · rw [e94]
    exact v2
  · rw [ha 84 (by omega) (by omega), hm 103 (by decide) (by decide)]
    exact v3 i hi
  · obtain ⟨s1, s2, s3, s4, s5⟩ := h6 s hs
    rw [ha 86 (by omega) (by omega), ha 87 (by omega) (by omega), hm 104 (by decide) (by decide), hm 105 (by decide) (by decide), hm 106 (by decide) (by decide), ha (89 + s) (by omega) (by omega)]
    exact ⟨s1, s2, s3, s4, s5⟩
  · rw [hm 95 (by decide) (by decide)]
    exact hI
theorem J.restore {α α' μ : Nat → Nat → Int32} (h : J α μ) (hw : Wc 1 38 1 32 α α') (h0 : ¬ μ 94 2 = 0) : J α' (rf_r μ 95 (cpn 700 (μ 96) (μ 95))) := by
  obtain ⟨⟨⟨r1, t1, t2⟩, h2, h3, h4, ⟨v1, v2, v3⟩, h6⟩, hI⟩ := h
  have ha : ∀ k, ¬ (2 ≤ k ∧ k ≤ 33) → α' k = α k := fun k hk => hw.2 k (by omega)
  have hm : ∀ k, k ≠ 95 → rf_r μ 95 (cpn 700 (μ 96) (μ 95)) k = μ k := fun k h1 => rfr_row h1
  have hd : ∀ j, j < 700 → cpn 700 (μ 96) (μ 95) j = μ 96 j := fun j hj => if_pos hj
  obtain ⟨q1, q2, q3, q4⟩ := h2 h0
  refine ⟨⟨⟨?_, ?_, ?_⟩, fun _ => ?_, ?_, fun k hk => ?_, ⟨?_, ?_, fun i hi => ?_⟩, fun s hs => ?_⟩, ?_⟩
  · rw [rfr_self]
    exact Rl.cp q1 hw.1 hd
  · rw [rfr_self]
    exact Tx.cp (t := 1) (f := 38) (c := 28) q3 hw.1 (Or.inl rfl) (hd 520 (by omega)) (fun i hi => hd (530 + i) (by omega))
  · rw [rfr_self]
    exact Tx.cp (t := 1) (f := 38) (c := 31) q4 hw.1 (Or.inr rfl) (hd 521 (by omega)) (fun i hi => hd (580 + i) (by omega))
  · rw [hm 96 (by decide)]
    refine ⟨q1.same (fun c hc i => by rw [ha (38 + c) (by omega)]) (fun _ _ => rfl), q2, ?_, ?_⟩
    · rw [ha (38 + 28) (by omega), ha (38 + 29) (by omega)]
      exact q3
    · rw [ha (38 + 31) (by omega), ha (38 + 32) (by omega)]
      exact q4
  · rw [ha 0 (by omega), hm 94 (by decide)]
    exact h3
  · rw [ha 93 (by omega), hm 97 (by decide)]
    exact h4 k hk
  · rw [ha 83 (by omega), hm 94 (by decide)]
    exact v1
  · rw [hm 94 (by decide)]
    exact v2
  · rw [ha 84 (by omega), hm 103 (by decide)]
    exact v3 i hi
  · obtain ⟨s1, s2, s3, s4, s5⟩ := h6 s hs
    rw [ha 86 (by omega), ha 87 (by omega), hm 104 (by decide), hm 105 (by decide), hm 106 (by decide), ha (89 + s) (by omega)]
    exact ⟨s1, s2, s3, s4, s5⟩
  · rw [rfr_self]
    exact q2.same hd
section H38
variable {Ln : Nat} {xs : Nat → Int32} {α μ : Nat → Nat → Int32}
theorem m_img_l   : ∀ (j i : Nat), i + j = 700 → rf_Ok (rf_T Ln xs) MX12_image 60 2 [some (.ref 94), some (.int (nI i))] [] (α, rf_r μ 96 (cpn i (μ 95) (μ 96))) (fun r s => r = some (.int (μ 94 2 + nI 1)) ∧ s = (α, rf_w (rf_r μ 96 (cpn 700 (μ 95) (μ 96))) 94 2 (μ 94 2 + nI 1))) := by
  intro j
  induction j with
  | zero =>
    intro i hj
    have hj : i = 700 := by omega
    refine ok_step (ps := []) (L' := [some (.ref 94), some (.int (nI i))]) (st' := [.int (nI 700), .int (nI i)]) (σ' := (α, rf_r μ 96 (cpn i (μ 95) (μ 96)))) (pc' := 6) kX12_image_2 rfl rfl rf_a0 ?_
    refine ok_icmp_ge bX12_image_6 (fun _ => ?_) (fun h6 => absurd (nI_le (by omega) (by omega)) h6)
    refine ok_step (ps := []) (L' := [some (.ref 94), some (.int (nI i))]) (st' := [.int ((rf_w (rf_r μ 96 (cpn i (μ 95) (μ 96))) 94 2 (((rf_r μ 96 (cpn i (μ 95) (μ 96))) 94 2) + (nI 1))) 94 2)]) (σ' := (α, rf_w (rf_r μ 96 (cpn i (μ 95) (μ 96))) 94 2 (((rf_r μ 96 (cpn i (μ 95) (μ 96))) 94 2) + (nI 1)))) (pc' := 41) kX12_image_27 rfl rfl rf_a0 ?_
    try rw [(show (rf_w (rf_r μ 96 (cpn i (μ 95) (μ 96))) 94 2 (((rf_r μ 96 (cpn i (μ 95) (μ 96))) 94 2) + (nI 1))) 94 2 = (((rf_r μ 96 (cpn i (μ 95) (μ 96))) 94 2) + (nI 1)) from by rw [rf_w_at, if_pos ⟨rfl, rfl⟩])]
    refine ok_reti eX12_image_41 rfl ?_
    subst hj
    exact ⟨rfl, rfl⟩
  | succ j ih =>
    intro i hj
    refine ok_step (ps := []) (L' := [some (.ref 94), some (.int (nI i))]) (st' := [.int (nI 700), .int (nI i)]) (σ' := (α, rf_r μ 96 (cpn i (μ 95) (μ 96)))) (pc' := 6) kX12_image_2 rfl rfl rf_a0 ?_
    refine ok_icmp_ge bX12_image_6 (fun h6 => absurd h6 (nI_ge (by omega) (by omega))) (fun _ => ?_)
    refine ok_step (ps := [rf_in (nI i) 700, rf_in (nI i) 700]) (L' := [some (.ref 94), some (.int ((nI i) + (nI 1)))]) (st' := []) (σ' := (α, rf_w (rf_r μ 96 (cpn i (μ 95) (μ 96))) 96 ((nI i).toNatClampNeg) ((rf_r μ 96 (cpn i (μ 95) (μ 96))) 95 ((nI i).toNatClampNeg)))) (pc' := 24) kX12_image_9 rfl rfl (rf_a1 (rf_in_n (a := i) rfl (by omega)) (rf_a1 (rf_in_n (a := i) rfl (by omega)) rf_a0)) ?_
    try rw [(show (nI i).toNatClampNeg = i from rf_cl_n rfl (by omega))]
    try rw [(show ((nI i) + (nI 1)) = nI (i + 1) from nI_add _ _)]
    refine ok_goto bX12_image_24 ?_
    rw [rfw_cpn (congrFun (rfr_row (by decide)) i)]
    exact ih (i + 1) (by omega)
theorem m_img {Q : Option Value → rf_Mem → Prop} (hq : Q (some (.int (μ 94 2 + nI 1))) (α, rf_w (rf_r μ 96 (cpn 700 (μ 95) (μ 96))) 94 2 (μ 94 2 + nI 1))) : rf_Ok (rf_T Ln xs) MX12_image 60 2 [some (.ref 94), some (.int (nI 0))] [] (α, μ) Q := by
  have hl := m_img_l (Ln := Ln) (xs := xs) (α := α) (μ := μ) 700 0 (by omega)
  rw [rfr_c0] at hl
  obtain ⟨r, s, h1, h2, h3⟩ := hl
  exact ⟨r, s, h1, by rw [h2, h3]; exact hq⟩
theorem m_rst_l   : ∀ (j i : Nat), i + j = 700 → rf_Ok (rf_T Ln xs) MX12_restore 60 15 [some (.ref 94), some (.int (nI i))] [] (α, rf_r μ 95 (cpn i (μ 96) (μ 95))) (fun r s => r = some (.int (μ 96 0)) ∧ s = (α, rf_r μ 95 (cpn 700 (μ 96) (μ 95)))) := by
  intro j
  induction j with
  | zero =>
    intro i hj
    have hj : i = 700 := by omega
    refine ok_step (ps := []) (L' := [some (.ref 94), some (.int (nI i))]) (st' := [.int (nI 700), .int (nI i)]) (σ' := (α, rf_r μ 95 (cpn i (μ 96) (μ 95)))) (pc' := 19) kX12_restore_15 rfl rfl rf_a0 ?_
    refine ok_icmp_ge bX12_restore_19 (fun _ => ?_) (fun h19 => absurd (nI_le (by omega) (by omega)) h19)
    refine ok_step (ps := [rf_in (nI 0) 700]) (L' := [some (.ref 94), some (.int (nI i))]) (st' := [.int ((rf_r μ 95 (cpn i (μ 96) (μ 95))) 95 ((nI 0).toNatClampNeg))]) (σ' := (α, rf_r μ 95 (cpn i (μ 96) (μ 95)))) (pc' := 46) kX12_restore_40 rfl rfl (rf_a1 (rf_in_n (a := 0) rfl (by omega)) rf_a0) ?_
    try rw [(show (nI 0).toNatClampNeg = 0 from rf_cl_n rfl (by omega))]
    refine ok_reti eX12_restore_46 rfl ?_
    subst hj
    exact ⟨rfl, rfl⟩
  | succ j ih =>
    intro i hj
    refine ok_step (ps := []) (L' := [some (.ref 94), some (.int (nI i))]) (st' := [.int (nI 700), .int (nI i)]) (σ' := (α, rf_r μ 95 (cpn i (μ 96) (μ 95)))) (pc' := 19) kX12_restore_15 rfl rfl rf_a0 ?_
    refine ok_icmp_ge bX12_restore_19 (fun h19 => absurd h19 (nI_ge (by omega) (by omega))) (fun _ => ?_)
    refine ok_step (ps := [rf_in (nI i) 700, rf_in (nI i) 700]) (L' := [some (.ref 94), some (.int ((nI i) + (nI 1)))]) (st' := []) (σ' := (α, rf_w (rf_r μ 95 (cpn i (μ 96) (μ 95))) 95 ((nI i).toNatClampNeg) ((rf_r μ 95 (cpn i (μ 96) (μ 95))) 96 ((nI i).toNatClampNeg)))) (pc' := 37) kX12_restore_22 rfl rfl (rf_a1 (rf_in_n (a := i) rfl (by omega)) (rf_a1 (rf_in_n (a := i) rfl (by omega)) rf_a0)) ?_
    try rw [(show (nI i).toNatClampNeg = i from rf_cl_n rfl (by omega))]
    try rw [(show ((nI i) + (nI 1)) = nI (i + 1) from nI_add _ _)]
    refine ok_goto bX12_restore_37 ?_
    rw [rfw_cpn (congrFun (rfr_row (by decide)) i)]
    exact ih (i + 1) (by omega)
theorem m_rst {Q : Option Value → rf_Mem → Prop} (hq : Q (some (.int (μ 96 0))) (α, rf_r μ 95 (cpn 700 (μ 96) (μ 95)))) : rf_Ok (rf_T Ln xs) MX12_restore 60 15 [some (.ref 94), some (.int (nI 0))] [] (α, μ) Q := by
  have hl := m_rst_l (Ln := Ln) (xs := xs) (α := α) (μ := μ) 700 0 (by omega)
  rw [rfr_c0] at hl
  obtain ⟨r, s, h1, h2, h3⟩ := hl
  exact ⟨r, s, h1, by rw [h2, h3]; exact hq⟩
theorem op_image (hJ : J α μ)  : Op (rf_T Ln xs) MX11_image MX12_image [some (.ref 0)] [some (.ref 94), none] α μ := by
  have hR := hJ.1.1.1
  have hI := hJ.2
  have b0 := hI.le0
  have b1 := hI.le1
  have b2 := hI.le2
  have b3 := hI.le3
  have b4 := hI.le4
  have b5 := hI.le5
  have b6 := hI.le6
  have b8 := hI.le8
  have b9 := hI.le9
  have b11 := hI.le11
  have b12 := hI.le12
  refine ok_step (ps := []) (L' := [some (.ref 0)]) (st' := [.ref 1, .ref 38]) (σ' := (α, μ)) (pc' := 8) kX11_image_0 rfl rfl rf_a0 ?_
  refine ok_Vx (As := [.ref 1]) (b := 38) (st := []) mkX10_copyFrom qX11_image_8 rfl (rc_38) rfl rfl rfl rfl (Nat.le_of_ble_eq_true rfl) (cw_38) (fun r1 σ1 hq => ?_)
  obtain ⟨rfl, α1, rfl, hw⟩ := hq
  refine ok_step (ps := []) (L' := [some (.ref 0)]) (st' := [.int ((rf_w α1 0 7 ((α1 0 7) + (nI 1))) 0 7)]) (σ' := (rf_w α1 0 7 ((α1 0 7) + (nI 1)), μ)) (pc' := 25) kX11_image_11 rfl rfl rf_a0 ?_
  try rw [(show (rf_w α1 0 7 ((α1 0 7) + (nI 1))) 0 7 = ((α1 0 7) + (nI 1)) from by rw [rf_w_at, if_pos ⟨rfl, rfl⟩])]
  refine ok_reti eX11_image_25 rfl ?_
  refine ⟨rfl, _, rfl, ?_⟩
  refine ok_step (ps := []) (L' := [some (.ref 94), some (.int (nI 0))]) (st' := []) (σ' := (rf_w α1 0 7 ((α1 0 7) + (nI 1)), μ)) (pc' := 2) kX12_image_0 rfl rfl rf_a0 ?_
  have e0 : α1 0 7 = μ 94 2 := (congrFun (hw.2 0 (by omega)) 7).trans hJ.1.2.2.1
  rw [e0]
  refine m_img ?_
  exact ⟨rfl, _, rfl, hJ.image hw⟩
theorem op_restore (hJ : J α μ)  : Op (rf_T Ln xs) MX11_restore MX12_restore [some (.ref 0)] [some (.ref 94), none] α μ := by
  have hR := hJ.1.1.1
  have hI := hJ.2
  have b0 := hI.le0
  have b1 := hI.le1
  have b2 := hI.le2
  have b3 := hI.le3
  have b4 := hI.le4
  have b5 := hI.le5
  have b6 := hI.le6
  have b8 := hI.le8
  have b9 := hI.le9
  have b11 := hI.le11
  have b12 := hI.le12
  refine ok_step (ps := []) (L' := [some (.ref 0)]) (st' := [.int (α 0 7)]) (σ' := (α, μ)) (pc' := 4) kX11_restore_0 rfl rfl rf_a0 ?_
  try rw [(show α 0 7 = μ 94 2 from hJ.1.2.2.1)]
  refine ok_if_ne bX11_restore_4 (fun h4 => ?_) (fun h4 => ?_)
  · refine ok_step (ps := []) (L' := [some (.ref 0)]) (st' := [.ref 38, .ref 1]) (σ' := (α, μ)) (pc' := 22) kX11_restore_14 rfl rfl rf_a0 ?_
    refine ok_Vx (As := [.ref 38]) (b := 1) (st := []) mkX10_copyFrom qX11_restore_22 rfl (rc_1) rfl rfl rfl rfl (Nat.le_of_ble_eq_true rfl) (cw_1) (fun r1 σ1 hq => ?_)
    obtain ⟨rfl, α1, rfl, hw⟩ := hq
    refine ok_step (ps := []) (L' := [some (.ref 0)]) (st' := [.int (α1 22 0)]) (σ' := (α1, μ)) (pc' := 35) kX11_restore_25 rfl rfl rf_a0 ?_
    refine ok_reti eX11_restore_35 rfl ?_
    refine ⟨rfl, _, rfl, ?_⟩
    refine ok_step (ps := []) (L' := [some (.ref 94), none]) (st' := [.int (μ 94 2)]) (σ' := (α1, μ)) (pc' := 4) kX12_restore_0 rfl rfl rf_a0 ?_
    refine ok_if_ne bX12_restore_4 (fun _ => ?_) (fun g4 => absurd g4 (h4))
    refine ok_step (ps := []) (L' := [some (.ref 94), some (.int (nI 0))]) (st' := []) (σ' := (α1, μ)) (pc' := 15) kX12_restore_13 rfl rfl rf_a0 ?_
    have e0 : α1 22 0 = μ 96 0 := (hw.1 21 0 (by omega) (by omega) (by decide)).trans ((hJ.1.2.1 h4).1 21 0 0 rfl)
    rw [e0]
    refine m_rst ?_
    exact ⟨rfl, _, rfl, hJ.restore hw h4⟩
  · refine ok_step (ps := []) (L' := [some (.ref 0)]) (st' := [.int (-1000000002), .ref 0]) (σ' := (α, μ)) (pc' := 10) kX11_restore_7 rfl rfl rf_a0 ?_
    refine ok_V (As := [.int (-1000000002)]) (b := 0) (st := []) mkX11_error qX11_restore_10 rfl (rc_0) rfl rfl rfl rfl (Nat.le_of_ble_eq_true rfl) (c_error (k := 2) (by decide) (by decide) (by decide)) ?_
    refine ok_reti eX11_restore_13 rfl ?_
    refine ⟨rfl, _, rfl, ?_⟩
    refine ok_step (ps := []) (L' := [some (.ref 94), none]) (st' := [.int (μ 94 2)]) (σ' := (rf_w α 93 2 (α 93 2 + nI 1), μ)) (pc' := 4) kX12_restore_0 rfl rfl rf_a0 ?_
    refine ok_if_ne bX12_restore_4 (fun g4 => absurd (h4) g4) (fun _ => ?_)
    refine ok_step (ps := []) (L' := [some (.ref 94), none]) (st' := [.int (nI 2), .ref 94]) (σ' := (rf_w α 93 2 (α 93 2 + nI 1), μ)) (pc' := 9) kX12_restore_7 rfl rfl rf_a0 ?_
    refine ok_V (As := [.int (nI 2)]) (b := 94) (st := []) mkX12_finds qX12_restore_9 rfl (rc_94) rfl rfl rfl rfl (Nat.le_of_ble_eq_true rfl) (m_finds (k := 2) (by decide)) ?_
    refine ok_reti eX12_restore_12 rfl ?_
    exact ⟨rfl, _, rfl, hJ.err (k := 2) (by decide)⟩
end H38
