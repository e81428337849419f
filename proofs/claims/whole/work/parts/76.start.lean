/-! ===== what the constructors leave ===== -/
def z0 : Nat → Nat → Int32 := fun _ _ => 0
def mA : Nat → Nat → Int32 := rf_w (rf_w (rf_r (rf_w (rf_w (rf_r (rf_r (rf_r (rf_r (rf_r (rf_w (rf_r (rf_w (rf_r ((rf_r (rf_w (rf_w (rf_w (rf_w (rf_w (rf_r (rf_w ((rf_r (rf_w (rf_w (rf_r (rf_w (rf_r (rf_w (rf_w (rf_w (rf_w (rf_r (rf_w ((rf_r (rf_w (rf_w (rf_w (rf_w (rf_w (rf_w (rf_r (rf_w (rf_r (rf_w ((rf_r ((rf_r (rf_w (rf_w (rf_r (rf_w (rf_r (rf_w (rf_r (rf_w (rf_w (rf_r (rf_w (rf_r (rf_w ((rf_r (rf_w (rf_w (rf_r (rf_w (rf_r (rf_w ((rf_r (rf_w (rf_w (rf_r (rf_w (rf_r (rf_w (rf_w ((rf_r (rf_w (rf_w (rf_r (rf_w (rf_r (rf_w (rf_r (rf_w (rf_w (rf_w (rf_w ((rf_r (rf_w (rf_w (rf_r (rf_w (rf_r (rf_w ((rf_r (rf_w (rf_w (rf_r (rf_w (rf_r (rf_w (rf_r (rf_w (rf_r (rf_w (rf_r (rf_w (rf_r (rf_w (rf_r (rf_w (rf_r (rf_w (rf_w (rf_w ((rf_r (rf_w (rf_r (rf_w (rf_r (rf_w (rf_r (rf_w (rf_r (rf_w (rf_r (rf_w (rf_r (rf_w (rf_r (rf_w (rf_r (rf_w (rf_w (rf_w ((rf_r ((rf_r (rf_w (rf_w (rf_r (rf_w (rf_r (rf_w (rf_r (rf_w (rf_w (rf_r (rf_w (rf_r (rf_w ((rf_r (rf_w (rf_w (rf_r (rf_w (rf_r (rf_w ((rf_r (rf_w (rf_w (rf_r (rf_w (rf_r (rf_w (rf_w ((rf_r (rf_w (rf_w (rf_r (rf_w (rf_r (rf_w (rf_r (rf_w (rf_w (rf_w (rf_w ((rf_r (rf_w (rf_w (rf_r (rf_w (rf_r (rf_w ((rf_r (rf_w (rf_w (rf_r (rf_w (rf_r (rf_w (rf_r (rf_w (rf_r (rf_w (rf_r (rf_w (rf_r (rf_w (rf_r (rf_w (rf_r (rf_w (rf_w (rf_w ((rf_r (rf_w (rf_r (rf_w (rf_r (rf_w (rf_r (rf_w (rf_r (rf_w (rf_r (rf_w (rf_r (rf_w (rf_r (rf_w (rf_r (rf_w (rf_w (rf_w ((rf_r ((rf_r (rf_r z0 0 rf_0) 1 rf_0)) 2 rf_0)) 2 0 (nI 0)) 2 1 (nI 0)) 2 2 (nI 0)) 3 rf_0) 2 3 (nI 4)) 4 rf_0) 2 4 (nI 5)) 5 rf_0) 2 5 (nI 6)) 6 rf_0) 2 6 (nI 7)) 7 rf_0) 2 7 (nI 8)) 8 rf_0) 2 8 (nI 9)) 9 rf_0) 2 9 (nI 10)) 3 (wkr 8)) 1 0 (nI 3)) 10 rf_0)) 10 0 (nI 0)) 10 1 (nI 3)) 10 2 (nI 60)) 11 rf_0) 10 3 (nI 12)) 12 rf_0) 10 4 (nI 13)) 13 rf_0) 10 5 (nI 14)) 14 rf_0) 10 6 (nI 15)) 15 rf_0) 10 7 (nI 16)) 16 rf_0) 10 8 (nI 17)) 17 rf_0) 10 9 (nI 18)) 18 rf_0) 10 10 (nI 19)) 1 1 (nI 11)) 19 rf_0)) 19 0 (nI 0)) 20 rf_0) 19 1 (nI 21)) 21 rf_0) 19 2 (nI 22)) 1 2 (nI 20)) 22 rf_0)) 22 0 (nI 0)) 22 1 (nI 0)) 22 2 (nI 1)) 22 3 (nI 0)) 23 rf_0) 22 4 (nI 24)) 24 rf_0) 22 5 (nI 25)) 25 rf_0) 22 6 (nI 26)) 1 3 (nI 23)) 26 rf_0)) 26 0 (nI 0)) 26 1 (nI 0)) 27 rf_0) 26 2 (nI 28)) 28 rf_0) 26 3 (nI 29)) 1 4 (nI 27)) 29 rf_0)) 29 0 (nI 0)) 30 rf_0) 29 1 (nI 31)) 31 rf_0) 29 2 (nI 32)) 1 5 (nI 30)) 32 rf_0)) 32 0 (nI 0)) 33 rf_0) 32 1 (nI 34)) 34 rf_0) 32 2 (nI 35)) 1 6 (nI 33)) 35 rf_0) 1 7 (nI 36)) 36 rf_0) 1 8 (nI 37)) 37 rf_0) 1 9 (nI 38)) 0 0 (nI 2)) 38 rf_0)) 39 rf_0)) 39 0 (nI 0)) 39 1 (nI 0)) 39 2 (nI 0)) 40 rf_0) 39 3 (nI 41)) 41 rf_0) 39 4 (nI 42)) 42 rf_0) 39 5 (nI 43)) 43 rf_0) 39 6 (nI 44)) 44 rf_0) 39 7 (nI 45)) 45 rf_0) 39 8 (nI 46)) 46 rf_0) 39 9 (nI 47)) 40 (wkr 8)) 38 0 (nI 40)) 47 rf_0)) 47 0 (nI 0)) 47 1 (nI 3)) 47 2 (nI 60)) 48 rf_0) 47 3 (nI 49)) 49 rf_0) 47 4 (nI 50)) 50 rf_0) 47 5 (nI 51)) 51 rf_0) 47 6 (nI 52)) 52 rf_0) 47 7 (nI 53)) 53 rf_0) 47 8 (nI 54)) 54 rf_0) 47 9 (nI 55)) 55 rf_0) 47 10 (nI 56)) 38 1 (nI 48)) 56 rf_0)) 56 0 (nI 0)) 57 rf_0) 56 1 (nI 58)) 58 rf_0) 56 2 (nI 59)) 38 2 (nI 57)) 59 rf_0)) 59 0 (nI 0)) 59 1 (nI 0)) 59 2 (nI 1)) 59 3 (nI 0)) 60 rf_0) 59 4 (nI 61)) 61 rf_0) 59 5 (nI 62)) 62 rf_0) 59 6 (nI 63)) 38 3 (nI 60)) 63 rf_0)) 63 0 (nI 0)) 63 1 (nI 0)) 64 rf_0) 63 2 (nI 65)) 65 rf_0) 63 3 (nI 66)) 38 4 (nI 64)) 66 rf_0)) 66 0 (nI 0)) 67 rf_0) 66 1 (nI 68)) 68 rf_0) 66 2 (nI 69)) 38 5 (nI 67)) 69 rf_0)) 69 0 (nI 0)) 70 rf_0) 69 1 (nI 71)) 71 rf_0) 69 2 (nI 72)) 38 6 (nI 70)) 72 rf_0) 38 7 (nI 73)) 73 rf_0) 38 8 (nI 74)) 74 rf_0) 38 9 (nI 75)) 0 1 (nI 39)) 75 rf_0)) 76 rf_0)) 76 0 (nI 0)) 77 rf_0) 76 1 (nI 78)) 78 rf_0) 76 2 (nI 79)) 75 0 (nI 77)) 75 1 (0)) 75 2 (nI 1006)) 75 3 (nI 0)) 0 2 (nI 76)) 79 rf_0)) 79 0 (nI 0)) 80 rf_0) 79 1 (nI 81)) 79 2 (rf_hi (lN 0))) 79 102 (rf_lo (lN 0))) 79 3 (nI 1)) 81 rf_0) 79 4 (nI 82)) 82 rf_0) 79 5 (nI 83)) 0 3 (nI 80)) 83 rf_0)) 83 0 (nI 0)) 84 rf_0) 83 1 (nI 85)) 83 2 (nI 0)) 83 3 (nI 0)) 83 4 (nI 0)) 0 4 (nI 84)) 85 rf_0)) 86 rf_0) 85 0 (nI 87)) 87 rf_0) 85 1 (nI 88)) 88 rf_0) 89 rf_0) 90 rf_0) 91 rf_0) 92 rf_0) 85 2 (nI 89)) 0 5 (nI 86)) 93 rf_0) 0 6 (nI 94)) 0 7 (nI 0)
def mB : Nat → Nat → Int32 := rf_r (rf_w (rf_w (rf_w (rf_w (rf_r (rf_w (rf_r (rf_w (rf_r (rf_w (rf_r (rf_w (rf_r (rf_w (rf_r (rf_w (rf_r (rf_w (rf_r (rf_w (rf_r (rf_w (rf_r (rf_w (rf_r (rf_w (rf_r (rf_w (rf_r (rf_r z0 94 rf_0) 95 rf_0) 94 0 (nI 96)) 96 rf_0) 94 1 (nI 97)) 97 rf_0) 94 3 (nI 98)) 98 rf_0) 94 10 (nI 99)) 99 rf_0) 94 11 (nI 100)) 100 rf_0) 94 13 (nI 101)) 101 rf_0) 94 14 (nI 102)) 102 rf_0) 94 16 (nI 103)) 103 rf_0) 94 17 (nI 104)) 104 rf_0) 94 20 (nI 105)) 105 rf_0) 94 21 (nI 106)) 106 rf_0) 94 22 (nI 107)) 107 rf_0) 94 23 (nI 108)) 95 8 (nI 3)) 95 9 (nI 60)) 95 10 (nI 1)) 95 (mdr mrow 64)
theorem st_len : ∀ k, k < 108 → (tSh k).2.2.length ≤ 24 := by decide +kernel
theorem st_n1 : ∀ k, k < 54 → ∀ j, j < 24 → cvf k (rf_row (mA, mB) k) j = rf_row (mA, mB) k j := by decide +kernel
theorem st_n2 : ∀ k, k < 54 → ∀ j, j < 24 → cvf (54 + k) (rf_row (mA, mB) (54 + k)) j = rf_row (mA, mB) (54 + k) j := by decide +kernel
theorem st_nrm : nrm (mA, mB) = (mA, mB) := by
  refine nrm_id (fun k hk => funext fun j => ?_)
  by_cases hj : j < 24
  · rcases Nat.lt_or_ge k 54 with h | h
    · exact st_n1 k h j hj
    · have := st_n2 (k - 54) (by omega) j hj
      rw [show 54 + (k - 54) = k by omega] at this
      exact this
  · exact cvf_out (List.getElem?_eq_none (by have := st_len k hk; omega))
theorem st_R : ∀ c, c < 28 → ∀ i, i < 64 → (match off c i with | some j => decide (mA (1 + c) i = mB 95 j) | none => true) = true := by decide +kernel
theorem st_Rl : Rl 1 mA (mB 95) := by
  intro c i j h
  obtain ⟨h1, h2, -⟩ := off_bd h
  have := st_R c h1 i h2
  rw [h] at this
  exact of_decide_eq_true this
theorem st_b : ∀ k, k < 680 → (match bd k with | some b => decide (cn (mB 95) k ≤ b) && decide (mB 95 k = nI (cn (mB 95) k)) | none => true) = true := by decide +kernel
theorem bd_680 {k b : Nat} (h : bd k = some b) : k < 680 := by
  rcases Nat.lt_or_ge k 680 with h1 | h1
  · exact h1
  · unfold bd at h
    rw [if_neg (by omega), if_neg (by omega), if_neg (by omega), if_neg (by omega), if_neg (by omega), if_neg (by omega), if_neg (by omega), if_neg (by omega), if_neg (by omega), if_neg (by omega), if_neg (by omega), if_neg (by omega), if_neg (by omega), if_neg (by omega), if_neg (by omega), if_neg (by omega)] at h
    cases h
theorem st_c : cn (mB 95) 2 = 0 ∧ cn (mB 95) 3 = 0 ∧ cn (mB 95) 4 = 0 ∧ cn (mB 95) 5 = 0 := by decide +kernel
theorem st_l : ∀ s, s < 8 → cn (mB 95) (330 + s) = 0 := by decide +kernel
theorem st_Iv : Iv (mB 95) := by
  obtain ⟨c2, c3, c4, c5⟩ := st_c
  refine ⟨fun k b h => ?_, fun l h => ?_, fun t h => ?_, fun g h => ?_, fun s h => ?_, fun s _ h => st_l s h⟩
  · have := st_b k (bd_680 h)
    rw [h] at this
    simp only [Bool.and_eq_true, decide_eq_true_eq] at this
    exact ⟨_, this.1, this.2⟩
  · rw [c2] at h
    exact absurd h (Nat.not_lt_zero _)
  · rw [c3] at h
    exact absurd h (Nat.not_lt_zero _)
  · rw [c4] at h
    exact absurd h (Nat.not_lt_zero _)
  · rw [c5] at h
    exact absurd h (Nat.not_lt_zero _)
theorem st_t : (mB 95 520 = 0 ∧ mA 29 0 = 0) ∧ (mB 95 521 = 0 ∧ mA 32 0 = 0) ∧ mB 94 2 = 0 ∧ mA 0 7 = mB 94 2 ∧ (∀ k, k < 6 → mA 93 k = mB 97 k) ∧ (mA 83 0 = mB 94 18 ∧ mB 94 18 = nI 0) := by decide +kernel
theorem st_v : ∀ i, i < 40 → mA 84 i = mB 103 i := by decide +kernel
theorem st_s : ∀ s, s < 4 → mA 86 s = mB 104 s ∧ mA 87 s = mB 105 s ∧ mB 105 s = nI 0 ∧ mB 104 s = 0 ∧ ∀ i, i < 40 → mA (89 + s) i = mB 106 (40 * s + i) := by decide +kernel
theorem st_J : J mA mB := by
  obtain ⟨t1, t2, t3, t4, t5, t6, t7⟩ := st_t
  refine ⟨⟨⟨st_Rl, Or.inl t1, Or.inl t2⟩, fun h => absurd t3 h, t4, t5, ⟨t6, ⟨0, by decide, t7⟩, st_v⟩, fun s hs => ?_⟩, st_Iv⟩
  obtain ⟨s1, s2, s3, s4, s5⟩ := st_s s hs
  exact ⟨s1, s2, ⟨0, by decide, s3⟩, Or.inl s4, s5⟩
set_option maxRecDepth 100000 in
/-- the law from its first place, over every script -/
theorem law_all {Ln : Nat} {xs : Nat → Int32} (hL : Ln ≤ 384) : ∃ σ' : rf_Mem, rf_At (rf_Tc Ln xs) ML_law 62 0 ([some (.ref 1000), none, none, none], [], 0, (z0, z0)) (some (.int (nI 1))) 108 σ' := by
  obtain ⟨r, σ', h, rfl⟩ := law_l (Ln := Ln) (xs := xs) hL Ln 0 mA mB (by omega) (by omega) st_J
  have h2 := rf_conv h
  rw [st_nrm] at h2
  refine ⟨nrm σ', ?_⟩
  refine rf_step (ps := []) (S' := ([some (.ref 1000), none, none, none], [.ref 0, .ref 0], 1, (rf_r z0 0 rf_0, z0))) (pc' := 4) kL_law_0 rfl rfl rf_a0 (fun _ => Nat.le_of_ble_eq_true rfl) ?_
  refine rf_callI (As := []) (b := 0) (st := [.ref 0]) mkX11_init qL_law_4 rfl rfl rfl rfl rfl (Nat.le_of_ble_eq_true rfl) (Nat.le_of_ble_eq_true rfl) (Nat.le_of_ble_eq_true rfl) (ci_X11_init_0 (α := rf_r z0 0 rf_0) (μ := z0)) ?_
  refine rf_step (ps := []) (S' := ([some (.ref 1000), some (.ref 0), none, none], [.ref 94, .ref 94], 95, (mA, rf_r z0 94 rf_0))) (pc' := 12) kL_law_7 rfl rfl rf_a0 (fun _ => Nat.le_of_ble_eq_true rfl) ?_
  refine rf_callI (As := []) (b := 94) (st := [.ref 94]) mkX12_init qL_law_12 rfl rfl rfl rfl rfl (Nat.le_of_ble_eq_true rfl) (Nat.le_of_ble_eq_true rfl) (Nat.le_of_ble_eq_true rfl) (ci_X12_init_94 (α := mA) (μ := rf_r z0 94 rf_0)) ?_
  refine rf_step (ps := []) (S' := ([some (.ref 1000), some (.ref 0), some (.ref 94), some (.int (nI 0))], [], 108, (mA, mB))) (pc' := 18) kL_law_15 rfl rfl rf_a0 (fun _ => Nat.le_of_ble_eq_true rfl) ?_
  exact h2
