theorem wi_in {x : Int32} {g n : Nat} (hx : x = nI n) (hg : g < n) (hn : n < 1000) : wi (nI g) (nI 0) (x - nI 1) = true := by
  subst hx
  rw [pk_sub (by omega)]
  exact wi_n (by omega) (by omega) (by omega)
theorem J.vo0 {α μ : Nat → Nat → Int32} {a b c : Int32} (h : J α μ) : J (rf_w (rf_w (rf_w (rf_w α 83 2 a) 83 3 b) 83 4 c) 83 0 (nI 0)) (rf_w (rf_w μ 94 18 (nI 0)) 94 19 b) := by
  refine h.vo (fun k h1 h2 => by rw [rf_w_row h1, rf_w_row h1, rf_w_row h1, rf_w_row h1]) (fun k h1 h2 => by rw [rf_w_row h1, rf_w_row h1]) (fun i hi => by rw [rf_w_at, if_neg (by omega), rf_w_at, if_neg (by omega)]) ⟨?_, ⟨0, by omega, ?_⟩, fun i hi => ?_⟩
  · simp [rf_w_at]
  · simp [rf_w_at]
  · rw [rf_w_row (by decide), rf_w_row (by decide), rf_w_row (by decide), rf_w_row (by decide), rf_w_row (by decide), rf_w_row (by decide)]
    exact h.1.2.2.2.2.1.2.2 i hi
section H60
variable {Ln : Nat} {xs : Nat → Int32} {α μ : Nat → Nat → Int32}
theorem c_hear_0_0 {g : Nat} {x : Int32} (hR : Rl 1 α (μ 95)) (hg : g < 16) (hK : μ 95 (190 + 8 * g) = nI 0) : rf_At (rf_T Ln xs) MX9_hear 25 0 ([some (.ref 83), some (.ref 10), some (.int (nI g)), some (.int (nI 0)), some (.int x)], [], 108, (α, μ)) (some (.int (x + (nI g)))) 108 (apt 84 83 0 (rf_w (rf_w (rf_w (rf_w α 83 2 (nI 0)) 83 3 (nI g)) 83 4 (μ 95 (194 + 8 * g))) 83 0 (nI 0)) 0 [10], μ) := by
  refine rf_pa ?_
  refine ok_step (ps := [rf_in (nI g) 16, rf_in (nI g) 16]) (L' := [some (.ref 83), some (.ref 10), some (.int (nI g)), some (.int (nI 0)), some (.int x)]) (st' := [.int (nI 0), .int x, .int (nI 0), .int ((rf_w (rf_w (rf_w (rf_w α 83 2 (α 11 ((nI g).toNatClampNeg))) 83 3 (nI g)) 83 4 ((rf_w (rf_w α 83 2 (α 11 ((nI g).toNatClampNeg))) 83 3 (nI g)) 15 ((nI g).toNatClampNeg))) 83 0 (nI 0)) 83 2), .ref 83]) (σ' := (rf_w (rf_w (rf_w (rf_w α 83 2 (α 11 ((nI g).toNatClampNeg))) 83 3 (nI g)) 83 4 ((rf_w (rf_w α 83 2 (α 11 ((nI g).toNatClampNeg))) 83 3 (nI g)) 15 ((nI g).toNatClampNeg))) 83 0 (nI 0), μ)) (pc' := 39) kX9_hear_0 rfl rfl (rf_a1 (rf_in_n (a := g) rfl (by omega)) (rf_a1 (rf_in_n (a := g) rfl (by omega)) rf_a0)) ?_
  try rw [(show (nI g).toNatClampNeg = g from rf_cl_n rfl (by omega))]
  try rw [(show α 11 g = μ 95 (190 + 8 * g) from rl_10 hR (i := g) (by omega) (by omega))]
  try rw [hK]
  try rw [(show (nI g).toNatClampNeg = g from rf_cl_n rfl (by omega))]
  try rw [(show (rf_w (rf_w α 83 2 (nI 0)) 83 3 (nI g)) 15 g = (rf_w α 83 2 (nI 0)) 15 g from by rw [rf_w_at, if_neg (fun h => absurd h.1 (by decide))])]
  try rw [(show (rf_w α 83 2 (nI 0)) 15 g = α 15 g from by rw [rf_w_at, if_neg (fun h => absurd h.1 (by decide))])]
  try rw [(show α 15 g = μ 95 (194 + 8 * g) from rl_14 hR (i := g) (by omega) (by omega))]
  try rw [(show (rf_w (rf_w (rf_w (rf_w α 83 2 (nI 0)) 83 3 (nI g)) 83 4 (μ 95 (194 + 8 * g))) 83 0 (nI 0)) 83 2 = (rf_w (rf_w (rf_w α 83 2 (nI 0)) 83 3 (nI g)) 83 4 (μ 95 (194 + 8 * g))) 83 2 from by rw [rf_w_at, if_neg (fun h => absurd h.2 (by omega))])]
  try rw [(show (rf_w (rf_w (rf_w α 83 2 (nI 0)) 83 3 (nI g)) 83 4 (μ 95 (194 + 8 * g))) 83 2 = (rf_w (rf_w α 83 2 (nI 0)) 83 3 (nI g)) 83 2 from by rw [rf_w_at, if_neg (fun h => absurd h.2 (by omega))])]
  try rw [(show (rf_w (rf_w α 83 2 (nI 0)) 83 3 (nI g)) 83 2 = (rf_w α 83 2 (nI 0)) 83 2 from by rw [rf_w_at, if_neg (fun h => absurd h.2 (by omega))])]
  try rw [(show (rf_w α 83 2 (nI 0)) 83 2 = (nI 0) from by rw [rf_w_at, if_pos ⟨rfl, rfl⟩])]
  refine ok_V (As := [.int (nI 0), .int (nI 0), .int x, .int (nI 0)]) (b := 83) (st := []) mkX9_speak qX9_hear_39 rfl (rc_83) rfl rfl rfl rfl (Nat.le_of_ble_eq_true rfl) (cv0_0_0 (α := rf_w (rf_w (rf_w (rf_w α 83 2 (nI 0)) 83 3 (nI g)) 83 4 (μ 95 (194 + 8 * g))) 83 0 (nI 0)) (nu := nI g) (mn := (μ 95 (194 + 8 * g))) (b := 0) (dep := 0) (by simp [rf_w_at]) (by simp [rf_w_at]) (by simp [rf_w_at]) (by simp [rf_w_at]) (by decide) (by decide)) ?_
  refine ok_reti eX9_hear_42 rfl ?_
  exact ⟨rfl, rfl⟩
theorem op_voice_0_0 {g : Nat} {x : Int32} (hJ : J α μ) (hg : g < cn (μ 95) 4) (hK : μ 95 (190 + 8 * g) = nI 0) : Op (rf_T Ln xs) MX11_voice MX12_voice [some (.ref 0), some (.int (nI g)), some (.int (nI 0)), some (.int x)] [some (.ref 94), some (.int (nI g)), some (.int (nI 0)), some (.int x), none] α μ := by
  have hR := hJ.1.1.1
  have hI := hJ.2
  have b0 := hI.le0
  have b1 := hI.le1
  have b2 := hI.le2
  have b3 := hI.le3
  have b4 := hI.le4
  have b5 := hI.le5
  have b6 := hI.le6
  have b8 := hI.le8
  have b9 := hI.le9
  have b11 := hI.le11
  have b12 := hI.le12
  refine ok_step (ps := []) (L' := [some (.ref 0), some (.int (nI g)), some (.int (nI 0)), some (.int x)]) (st' := [.int (nI g), .ref 0]) (σ' := (α, μ)) (pc' := 2) kX11_voice_0 rfl rfl rf_a0 ?_
  refine ok_V (As := [.int (nI g)]) (b := 0) (st := []) mkX11_isGroup qX11_voice_2 rfl (rc_0) rfl rfl rfl rfl (Nat.le_of_ble_eq_true rfl) (c_isGroup hR) ?_
  refine ok_if_eq bX11_voice_5 (fun h5 => absurd h5 ((bI_n0.mpr (wi_in hI.at4 hg (by omega))))) (fun _ => ?_)
  refine ok_step (ps := []) (L' := [some (.ref 0), some (.int (nI g)), some (.int (nI 0)), some (.int x)]) (st' := [.int (nI 3), .int (nI 0), .int (nI 0)]) (σ' := (α, μ)) (pc' := 11) kX11_voice_8 rfl rfl rf_a0 ?_
  refine ok_S (As := [.int (nI 0), .int (nI 0), .int (nI 3)]) (st := []) mkX11_within qX11_voice_11 rfl rfl rfl rfl rfl (Nat.le_of_ble_eq_true rfl) (c_within) ?_
  rw [show bI (wi (nI 0) (nI 0) (nI 3)) = nI 1 from rfl]
  refine ok_if_ne bX11_voice_14 (fun _ => ?_) (fun h14 => absurd h14 ((by decide)))
  refine ok_step (ps := []) (L' := [some (.ref 0), some (.int (nI g)), some (.int (nI 0)), some (.int x)]) (st' := [.int x, .int (nI 0), .int (nI g), .ref 10, .ref 83]) (σ' := (α, μ)) (pc' := 38) kX11_voice_24 rfl rfl rf_a0 ?_
  refine ok_V (As := [.ref 10, .int (nI g), .int (nI 0), .int x]) (b := 83) (st := []) mkX9_hear qX11_voice_38 rfl (rc_83) rfl rfl rfl rfl (Nat.le_of_ble_eq_true rfl) (c_hear_0_0 hR (by omega) hK) ?_
  refine ok_reti eX11_voice_41 rfl ?_
  refine ⟨rfl, _, rfl, ?_⟩
  refine ok_step (ps := []) (L' := [some (.ref 94), some (.int (nI g)), some (.int (nI 0)), some (.int x), none]) (st' := [.int (nI g), .ref 94]) (σ' := (apt 84 83 0 (rf_w (rf_w (rf_w (rf_w α 83 2 (nI 0)) 83 3 (nI g)) 83 4 (μ 95 (194 + 8 * g))) 83 0 (nI 0)) 0 [10], μ)) (pc' := 2) kX12_voice_0 rfl rfl rf_a0 ?_
  refine ok_V (As := [.int (nI g)]) (b := 94) (st := []) mkX12_isGroup qX12_voice_2 rfl (rc_94) rfl rfl rfl rfl (Nat.le_of_ble_eq_true rfl) (m_isGroup) ?_
  refine ok_if_eq bX12_voice_5 (fun g5 => absurd g5 ((bI_n0.mpr (wi_in hI.at4 hg (by omega))))) (fun _ => ?_)
  refine ok_step (ps := []) (L' := [some (.ref 94), some (.int (nI g)), some (.int (nI 0)), some (.int x), none]) (st' := [.long (lN 3), .long (lN 0), .long ((nI 0).toInt64)]) (σ' := (apt 84 83 0 (rf_w (rf_w (rf_w (rf_w α 83 2 (nI 0)) 83 3 (nI g)) 83 4 (μ 95 (194 + 8 * g))) 83 0 (nI 0)) 0 [10], μ)) (pc' := 14) kX12_voice_8 rfl rfl rf_a0 ?_
  refine ok_S (As := [.long ((nI 0).toInt64), .long (lN 0), .long (lN 3)]) (st := []) mkX12_in qX12_voice_14 rfl rfl rfl rfl rfl (Nat.le_of_ble_eq_true rfl) (m_in) ?_
  rw [show wl ((nI 0).toInt64) (lN 0) (lN 3) = wi (nI 0) (nI 0) (nI 3) from wl_of rfl (nI_l (by decide)).symm (nI_l (by decide)).symm, show bI (wi (nI 0) (nI 0) (nI 3)) = nI 1 from rfl]
  refine ok_if_ne bX12_voice_17 (fun _ => ?_) (fun g17 => absurd g17 ((by decide)))
  refine ok_step (ps := []) (L' := [some (.ref 94), some (.int (nI g)), some (.int (nI 0)), some (.int x), none]) (st' := [.ref 94]) (σ' := (apt 84 83 0 (rf_w (rf_w (rf_w (rf_w α 83 2 (nI 0)) 83 3 (nI g)) 83 4 (μ 95 (194 + 8 * g))) 83 0 (nI 0)) 0 [10], rf_w (rf_w μ 94 18 (nI 0)) 94 19 (nI g))) (pc' := 37) kX12_voice_26 rfl rfl rf_a0 ?_
  refine ok_V (As := []) (b := 94) (st := []) mkX12_own qX12_voice_37 rfl (rc_94) rfl rfl rfl rfl (Nat.le_of_ble_eq_true rfl) (m_own (K := 0) (g := g) (by omega) (by rw [rf_w_row (by decide), rf_w_row (by decide)]; exact hK) (by simp [rf_w_at])) ?_
  refine ok_step (ps := []) (L' := [some (.ref 94), some (.int (nI g)), some (.int (nI 0)), some (.int x), some (.int (nI 0))]) (st' := [.int (nI 0)]) (σ' := (apt 84 83 0 (rf_w (rf_w (rf_w (rf_w α 83 2 (nI 0)) 83 3 (nI g)) 83 4 (μ 95 (194 + 8 * g))) 83 0 (nI 0)) 0 [10], rf_w (rf_w μ 94 18 (nI 0)) 94 19 (nI g))) (pc' := 43) kX12_voice_40 rfl rfl rf_a0 ?_
  refine ok_if_ne bX12_voice_43 (fun g43 => absurd ((by decide)) g43) (fun _ => ?_)
  refine ok_step (ps := []) (L' := [some (.ref 94), some (.int (nI g)), some (.int (nI 0)), some (.int x), some (.int (nI 0))]) (st' := [.int x, .int (nI 0), .ref 94]) (σ' := (apt 84 83 0 (rf_w (rf_w (rf_w (rf_w α 83 2 (nI 0)) 83 3 (nI g)) 83 4 (μ 95 (194 + 8 * g))) 83 0 (nI 0)) 0 [10], rf_w (rf_w μ 94 18 (nI 0)) 94 19 (nI g))) (pc' := 50) kX12_voice_46 rfl rfl rf_a0 ?_
  refine ok_V (As := [.int (nI 0), .int x]) (b := 94) (st := []) mkX12_goes qX12_voice_50 rfl (rc_94) rfl rfl rfl rfl (Nat.le_of_ble_eq_true rfl) (mv0_0_0 (ν := rf_w (rf_w μ 94 18 (nI 0)) 94 19 (nI g)) (mn := (μ 95 (194 + 8 * g))) (b := 0) (g := g) (by rw [rf_w_row (by decide), rf_w_row (by decide)]; exact hK) (by rw [rf_w_row (by decide), rf_w_row (by decide)]) (by simp [rf_w_at]) (by omega) (by simp [rf_w_at]) (by decide)) ?_
  refine ok_goto bX12_voice_53 ?_
  refine ok_reti eX12_voice_93 rfl ?_
  exact ⟨rfl, _, rfl, J.apt (α := α) (μ := μ) hJ.vo0 (by simp [rf_w_at]) (by decide)⟩
theorem c_hear_0_1 {g : Nat} {x : Int32} (hR : Rl 1 α (μ 95)) (hg : g < 16) (hK : μ 95 (190 + 8 * g) = nI 0) : rf_At (rf_T Ln xs) MX9_hear 25 0 ([some (.ref 83), some (.ref 10), some (.int (nI g)), some (.int (nI 1)), some (.int x)], [], 108, (α, μ)) (some (.int ((x + (nI g)) * nI 2))) 108 (apt 84 83 0 (rf_w (rf_w (rf_w (rf_w α 83 2 (nI 0)) 83 3 (nI g)) 83 4 (μ 95 (194 + 8 * g))) 83 0 (nI 0)) 0 [11, 10], μ) := by
  refine rf_pa ?_
  refine ok_step (ps := [rf_in (nI g) 16, rf_in (nI g) 16]) (L' := [some (.ref 83), some (.ref 10), some (.int (nI g)), some (.int (nI 1)), some (.int x)]) (st' := [.int (nI 0), .int x, .int (nI 1), .int ((rf_w (rf_w (rf_w (rf_w α 83 2 (α 11 ((nI g).toNatClampNeg))) 83 3 (nI g)) 83 4 ((rf_w (rf_w α 83 2 (α 11 ((nI g).toNatClampNeg))) 83 3 (nI g)) 15 ((nI g).toNatClampNeg))) 83 0 (nI 0)) 83 2), .ref 83]) (σ' := (rf_w (rf_w (rf_w (rf_w α 83 2 (α 11 ((nI g).toNatClampNeg))) 83 3 (nI g)) 83 4 ((rf_w (rf_w α 83 2 (α 11 ((nI g).toNatClampNeg))) 83 3 (nI g)) 15 ((nI g).toNatClampNeg))) 83 0 (nI 0), μ)) (pc' := 39) kX9_hear_0 rfl rfl (rf_a1 (rf_in_n (a := g) rfl (by omega)) (rf_a1 (rf_in_n (a := g) rfl (by omega)) rf_a0)) ?_
  try rw [(show (nI g).toNatClampNeg = g from rf_cl_n rfl (by omega))]
  try rw [(show α 11 g = μ 95 (190 + 8 * g) from rl_10 hR (i := g) (by omega) (by omega))]
  try rw [hK]
  try rw [(show (nI g).toNatClampNeg = g from rf_cl_n rfl (by omega))]
  try rw [(show (rf_w (rf_w α 83 2 (nI 0)) 83 3 (nI g)) 15 g = (rf_w α 83 2 (nI 0)) 15 g from by rw [rf_w_at, if_neg (fun h => absurd h.1 (by decide))])]
  try rw [(show (rf_w α 83 2 (nI 0)) 15 g = α 15 g from by rw [rf_w_at, if_neg (fun h => absurd h.1 (by decide))])]
  try rw [(show α 15 g = μ 95 (194 + 8 * g) from rl_14 hR (i := g) (by omega) (by omega))]
  try rw [(show (rf_w (rf_w (rf_w (rf_w α 83 2 (nI 0)) 83 3 (nI g)) 83 4 (μ 95 (194 + 8 * g))) 83 0 (nI 0)) 83 2 = (rf_w (rf_w (rf_w α 83 2 (nI 0)) 83 3 (nI g)) 83 4 (μ 95 (194 + 8 * g))) 83 2 from by rw [rf_w_at, if_neg (fun h => absurd h.2 (by omega))])]
  try rw [(show (rf_w (rf_w (rf_w α 83 2 (nI 0)) 83 3 (nI g)) 83 4 (μ 95 (194 + 8 * g))) 83 2 = (rf_w (rf_w α 83 2 (nI 0)) 83 3 (nI g)) 83 2 from by rw [rf_w_at, if_neg (fun h => absurd h.2 (by omega))])]
  try rw [(show (rf_w (rf_w α 83 2 (nI 0)) 83 3 (nI g)) 83 2 = (rf_w α 83 2 (nI 0)) 83 2 from by rw [rf_w_at, if_neg (fun h => absurd h.2 (by omega))])]
  try rw [(show (rf_w α 83 2 (nI 0)) 83 2 = (nI 0) from by rw [rf_w_at, if_pos ⟨rfl, rfl⟩])]
  refine ok_V (As := [.int (nI 0), .int (nI 1), .int x, .int (nI 0)]) (b := 83) (st := []) mkX9_speak qX9_hear_39 rfl (rc_83) rfl rfl rfl rfl (Nat.le_of_ble_eq_true rfl) (cv0_1_0 (α := rf_w (rf_w (rf_w (rf_w α 83 2 (nI 0)) 83 3 (nI g)) 83 4 (μ 95 (194 + 8 * g))) 83 0 (nI 0)) (nu := nI g) (mn := (μ 95 (194 + 8 * g))) (b := 0) (dep := 0) (by simp [rf_w_at]) (by simp [rf_w_at]) (by simp [rf_w_at]) (by simp [rf_w_at]) (by decide) (by decide)) ?_
  refine ok_reti eX9_hear_42 rfl ?_
  exact ⟨rfl, rfl⟩
theorem op_voice_0_1 {g : Nat} {x : Int32} (hJ : J α μ) (hg : g < cn (μ 95) 4) (hK : μ 95 (190 + 8 * g) = nI 0) : Op (rf_T Ln xs) MX11_voice MX12_voice [some (.ref 0), some (.int (nI g)), some (.int (nI 1)), some (.int x)] [some (.ref 94), some (.int (nI g)), some (.int (nI 1)), some (.int x), none] α μ := by
  have hR := hJ.1.1.1
  have hI := hJ.2
  have b0 := hI.le0
  have b1 := hI.le1
  have b2 := hI.le2
  have b3 := hI.le3
  have b4 := hI.le4
  have b5 := hI.le5
  have b6 := hI.le6
  have b8 := hI.le8
  have b9 := hI.le9
  have b11 := hI.le11
  have b12 := hI.le12
  refine ok_step (ps := []) (L' := [some (.ref 0), some (.int (nI g)), some (.int (nI 1)), some (.int x)]) (st' := [.int (nI g), .ref 0]) (σ' := (α, μ)) (pc' := 2) kX11_voice_0 rfl rfl rf_a0 ?_
  refine ok_V (As := [.int (nI g)]) (b := 0) (st := []) mkX11_isGroup qX11_voice_2 rfl (rc_0) rfl rfl rfl rfl (Nat.le_of_ble_eq_true rfl) (c_isGroup hR) ?_
  refine ok_if_eq bX11_voice_5 (fun h5 => absurd h5 ((bI_n0.mpr (wi_in hI.at4 hg (by omega))))) (fun _ => ?_)
  refine ok_step (ps := []) (L' := [some (.ref 0), some (.int (nI g)), some (.int (nI 1)), some (.int x)]) (st' := [.int (nI 3), .int (nI 0), .int (nI 1)]) (σ' := (α, μ)) (pc' := 11) kX11_voice_8 rfl rfl rf_a0 ?_
  refine ok_S (As := [.int (nI 1), .int (nI 0), .int (nI 3)]) (st := []) mkX11_within qX11_voice_11 rfl rfl rfl rfl rfl (Nat.le_of_ble_eq_true rfl) (c_within) ?_
  rw [show bI (wi (nI 1) (nI 0) (nI 3)) = nI 1 from rfl]
  refine ok_if_ne bX11_voice_14 (fun _ => ?_) (fun h14 => absurd h14 ((by decide)))
  refine ok_step (ps := []) (L' := [some (.ref 0), some (.int (nI g)), some (.int (nI 1)), some (.int x)]) (st' := [.int x, .int (nI 1), .int (nI g), .ref 10, .ref 83]) (σ' := (α, μ)) (pc' := 38) kX11_voice_24 rfl rfl rf_a0 ?_
  refine ok_V (As := [.ref 10, .int (nI g), .int (nI 1), .int x]) (b := 83) (st := []) mkX9_hear qX11_voice_38 rfl (rc_83) rfl rfl rfl rfl (Nat.le_of_ble_eq_true rfl) (c_hear_0_1 hR (by omega) hK) ?_
  refine ok_reti eX11_voice_41 rfl ?_
  refine ⟨rfl, _, rfl, ?_⟩
  refine ok_step (ps := []) (L' := [some (.ref 94), some (.int (nI g)), some (.int (nI 1)), some (.int x), none]) (st' := [.int (nI g), .ref 94]) (σ' := (apt 84 83 0 (rf_w (rf_w (rf_w (rf_w α 83 2 (nI 0)) 83 3 (nI g)) 83 4 (μ 95 (194 + 8 * g))) 83 0 (nI 0)) 0 [11, 10], μ)) (pc' := 2) kX12_voice_0 rfl rfl rf_a0 ?_
  refine ok_V (As := [.int (nI g)]) (b := 94) (st := []) mkX12_isGroup qX12_voice_2 rfl (rc_94) rfl rfl rfl rfl (Nat.le_of_ble_eq_true rfl) (m_isGroup) ?_
  refine ok_if_eq bX12_voice_5 (fun g5 => absurd g5 ((bI_n0.mpr (wi_in hI.at4 hg (by omega))))) (fun _ => ?_)
  refine ok_step (ps := []) (L' := [some (.ref 94), some (.int (nI g)), some (.int (nI 1)), some (.int x), none]) (st' := [.long (lN 3), .long (lN 0), .long ((nI 1).toInt64)]) (σ' := (apt 84 83 0 (rf_w (rf_w (rf_w (rf_w α 83 2 (nI 0)) 83 3 (nI g)) 83 4 (μ 95 (194 + 8 * g))) 83 0 (nI 0)) 0 [11, 10], μ)) (pc' := 14) kX12_voice_8 rfl rfl rf_a0 ?_
  refine ok_S (As := [.long ((nI 1).toInt64), .long (lN 0), .long (lN 3)]) (st := []) mkX12_in qX12_voice_14 rfl rfl rfl rfl rfl (Nat.le_of_ble_eq_true rfl) (m_in) ?_
  rw [show wl ((nI 1).toInt64) (lN 0) (lN 3) = wi (nI 1) (nI 0) (nI 3) from wl_of rfl (nI_l (by decide)).symm (nI_l (by decide)).symm, show bI (wi (nI 1) (nI 0) (nI 3)) = nI 1 from rfl]
  refine ok_if_ne bX12_voice_17 (fun _ => ?_) (fun g17 => absurd g17 ((by decide)))
  refine ok_step (ps := []) (L' := [some (.ref 94), some (.int (nI g)), some (.int (nI 1)), some (.int x), none]) (st' := [.ref 94]) (σ' := (apt 84 83 0 (rf_w (rf_w (rf_w (rf_w α 83 2 (nI 0)) 83 3 (nI g)) 83 4 (μ 95 (194 + 8 * g))) 83 0 (nI 0)) 0 [11, 10], rf_w (rf_w μ 94 18 (nI 0)) 94 19 (nI g))) (pc' := 37) kX12_voice_26 rfl rfl rf_a0 ?_
  refine ok_V (As := []) (b := 94) (st := []) mkX12_own qX12_voice_37 rfl (rc_94) rfl rfl rfl rfl (Nat.le_of_ble_eq_true rfl) (m_own (K := 0) (g := g) (by omega) (by rw [rf_w_row (by decide), rf_w_row (by decide)]; exact hK) (by simp [rf_w_at])) ?_
  refine ok_step (ps := []) (L' := [some (.ref 94), some (.int (nI g)), some (.int (nI 1)), some (.int x), some (.int (nI 0))]) (st' := [.int (nI 1)]) (σ' := (apt 84 83 0 (rf_w (rf_w (rf_w (rf_w α 83 2 (nI 0)) 83 3 (nI g)) 83 4 (μ 95 (194 + 8 * g))) 83 0 (nI 0)) 0 [11, 10], rf_w (rf_w μ 94 18 (nI 0)) 94 19 (nI g))) (pc' := 43) kX12_voice_40 rfl rfl rf_a0 ?_
  refine ok_if_ne bX12_voice_43 (fun _ => ?_) (fun g43 => absurd g43 ((by decide)))
  refine ok_step (ps := []) (L' := [some (.ref 94), some (.int (nI g)), some (.int (nI 1)), some (.int x), some (.int (nI 0))]) (st' := [.int (nI 1), .int (nI 1)]) (σ' := (apt 84 83 0 (rf_w (rf_w (rf_w (rf_w α 83 2 (nI 0)) 83 3 (nI g)) 83 4 (μ 95 (194 + 8 * g))) 83 0 (nI 0)) 0 [11, 10], rf_w (rf_w μ 94 18 (nI 0)) 94 19 (nI g))) (pc' := 58) kX12_voice_56 rfl rfl rf_a0 ?_
  refine ok_icmp_ne bX12_voice_58 (fun g58 => absurd ((by decide)) g58) (fun _ => ?_)
  refine ok_step (ps := []) (L' := [some (.ref 94), some (.int (nI g)), some (.int (nI 1)), some (.int x), some (.int (nI 0))]) (st' := [.int x, .int (nI 0), .ref 94]) (σ' := (apt 84 83 0 (rf_w (rf_w (rf_w (rf_w α 83 2 (nI 0)) 83 3 (nI g)) 83 4 (μ 95 (194 + 8 * g))) 83 0 (nI 0)) 0 [11, 10], rf_w (rf_w μ 94 18 (nI 0)) 94 19 (nI g))) (pc' := 65) kX12_voice_61 rfl rfl rf_a0 ?_
  refine ok_V (As := [.int (nI 0), .int x]) (b := 94) (st := []) mkX12_weighsOf qX12_voice_65 rfl (rc_94) rfl rfl rfl rfl (Nat.le_of_ble_eq_true rfl) (mv0_1_0 (ν := rf_w (rf_w μ 94 18 (nI 0)) 94 19 (nI g)) (mn := (μ 95 (194 + 8 * g))) (b := 0) (g := g) (by rw [rf_w_row (by decide), rf_w_row (by decide)]; exact hK) (by rw [rf_w_row (by decide), rf_w_row (by decide)]) (by simp [rf_w_at]) (by omega) (by simp [rf_w_at]) (by decide)) ?_
  refine ok_goto bX12_voice_68 ?_
  refine ok_reti eX12_voice_93 rfl ?_
  exact ⟨rfl, _, rfl, J.apt (α := α) (μ := μ) hJ.vo0 (by simp [rf_w_at]) (by decide)⟩
theorem c_hear_0_2 {g : Nat} {x : Int32} (hR : Rl 1 α (μ 95)) (hg : g < 16) (hK : μ 95 (190 + 8 * g) = nI 0) : rf_At (rf_T Ln xs) MX9_hear 25 0 ([some (.ref 83), some (.ref 10), some (.int (nI g)), some (.int (nI 2)), some (.int x)], [], 108, (α, μ)) (some (.int (x - (μ 95 (194 + 8 * g))))) 108 (apt 84 83 0 (rf_w (rf_w (rf_w (rf_w α 83 2 (nI 0)) 83 3 (nI g)) 83 4 (μ 95 (194 + 8 * g))) 83 0 (nI 0)) 0 [12], μ) := by
  refine rf_pa ?_
  refine ok_step (ps := [rf_in (nI g) 16, rf_in (nI g) 16]) (L' := [some (.ref 83), some (.ref 10), some (.int (nI g)), some (.int (nI 2)), some (.int x)]) (st' := [.int (nI 0), .int x, .int (nI 2), .int ((rf_w (rf_w (rf_w (rf_w α 83 2 (α 11 ((nI g).toNatClampNeg))) 83 3 (nI g)) 83 4 ((rf_w (rf_w α 83 2 (α 11 ((nI g).toNatClampNeg))) 83 3 (nI g)) 15 ((nI g).toNatClampNeg))) 83 0 (nI 0)) 83 2), .ref 83]) (σ' := (rf_w (rf_w (rf_w (rf_w α 83 2 (α 11 ((nI g).toNatClampNeg))) 83 3 (nI g)) 83 4 ((rf_w (rf_w α 83 2 (α 11 ((nI g).toNatClampNeg))) 83 3 (nI g)) 15 ((nI g).toNatClampNeg))) 83 0 (nI 0), μ)) (pc' := 39) kX9_hear_0 rfl rfl (rf_a1 (rf_in_n (a := g) rfl (by omega)) (rf_a1 (rf_in_n (a := g) rfl (by omega)) rf_a0)) ?_
  try rw [(show (nI g).toNatClampNeg = g from rf_cl_n rfl (by omega))]
  try rw [(show α 11 g = μ 95 (190 + 8 * g) from rl_10 hR (i := g) (by omega) (by omega))]
  try rw [hK]
  try rw [(show (nI g).toNatClampNeg = g from rf_cl_n rfl (by omega))]
  try rw [(show (rf_w (rf_w α 83 2 (nI 0)) 83 3 (nI g)) 15 g = (rf_w α 83 2 (nI 0)) 15 g from by rw [rf_w_at, if_neg (fun h => absurd h.1 (by decide))])]
  try rw [(show (rf_w α 83 2 (nI 0)) 15 g = α 15 g from by rw [rf_w_at, if_neg (fun h => absurd h.1 (by decide))])]
  try rw [(show α 15 g = μ 95 (194 + 8 * g) from rl_14 hR (i := g) (by omega) (by omega))]
  try rw [(show (rf_w (rf_w (rf_w (rf_w α 83 2 (nI 0)) 83 3 (nI g)) 83 4 (μ 95 (194 + 8 * g))) 83 0 (nI 0)) 83 2 = (rf_w (rf_w (rf_w α 83 2 (nI 0)) 83 3 (nI g)) 83 4 (μ 95 (194 + 8 * g))) 83 2 from by rw [rf_w_at, if_neg (fun h => absurd h.2 (by omega))])]
  try rw [(show (rf_w (rf_w (rf_w α 83 2 (nI 0)) 83 3 (nI g)) 83 4 (μ 95 (194 + 8 * g))) 83 2 = (rf_w (rf_w α 83 2 (nI 0)) 83 3 (nI g)) 83 2 from by rw [rf_w_at, if_neg (fun h => absurd h.2 (by omega))])]
  try rw [(show (rf_w (rf_w α 83 2 (nI 0)) 83 3 (nI g)) 83 2 = (rf_w α 83 2 (nI 0)) 83 2 from by rw [rf_w_at, if_neg (fun h => absurd h.2 (by omega))])]
  try rw [(show (rf_w α 83 2 (nI 0)) 83 2 = (nI 0) from by rw [rf_w_at, if_pos ⟨rfl, rfl⟩])]
  refine ok_V (As := [.int (nI 0), .int (nI 2), .int x, .int (nI 0)]) (b := 83) (st := []) mkX9_speak qX9_hear_39 rfl (rc_83) rfl rfl rfl rfl (Nat.le_of_ble_eq_true rfl) (cv0_2_0 (α := rf_w (rf_w (rf_w (rf_w α 83 2 (nI 0)) 83 3 (nI g)) 83 4 (μ 95 (194 + 8 * g))) 83 0 (nI 0)) (nu := nI g) (mn := (μ 95 (194 + 8 * g))) (b := 0) (dep := 0) (by simp [rf_w_at]) (by simp [rf_w_at]) (by simp [rf_w_at]) (by simp [rf_w_at]) (by decide) (by decide)) ?_
  refine ok_reti eX9_hear_42 rfl ?_
  exact ⟨rfl, rfl⟩
theorem op_voice_0_2 {g : Nat} {x : Int32} (hJ : J α μ) (hg : g < cn (μ 95) 4) (hK : μ 95 (190 + 8 * g) = nI 0) : Op (rf_T Ln xs) MX11_voice MX12_voice [some (.ref 0), some (.int (nI g)), some (.int (nI 2)), some (.int x)] [some (.ref 94), some (.int (nI g)), some (.int (nI 2)), some (.int x), none] α μ := by
  have hR := hJ.1.1.1
  have hI := hJ.2
  have b0 := hI.le0
  have b1 := hI.le1
  have b2 := hI.le2
  have b3 := hI.le3
  have b4 := hI.le4
  have b5 := hI.le5
  have b6 := hI.le6
  have b8 := hI.le8
  have b9 := hI.le9
  have b11 := hI.le11
  have b12 := hI.le12
  refine ok_step (ps := []) (L' := [some (.ref 0), some (.int (nI g)), some (.int (nI 2)), some (.int x)]) (st' := [.int (nI g), .ref 0]) (σ' := (α, μ)) (pc' := 2) kX11_voice_0 rfl rfl rf_a0 ?_
  refine ok_V (As := [.int (nI g)]) (b := 0) (st := []) mkX11_isGroup qX11_voice_2 rfl (rc_0) rfl rfl rfl rfl (Nat.le_of_ble_eq_true rfl) (c_isGroup hR) ?_
  refine ok_if_eq bX11_voice_5 (fun h5 => absurd h5 ((bI_n0.mpr (wi_in hI.at4 hg (by omega))))) (fun _ => ?_)
  refine ok_step (ps := []) (L' := [some (.ref 0), some (.int (nI g)), some (.int (nI 2)), some (.int x)]) (st' := [.int (nI 3), .int (nI 0), .int (nI 2)]) (σ' := (α, μ)) (pc' := 11) kX11_voice_8 rfl rfl rf_a0 ?_
  refine ok_S (As := [.int (nI 2), .int (nI 0), .int (nI 3)]) (st := []) mkX11_within qX11_voice_11 rfl rfl rfl rfl rfl (Nat.le_of_ble_eq_true rfl) (c_within) ?_
  rw [show bI (wi (nI 2) (nI 0) (nI 3)) = nI 1 from rfl]
  refine ok_if_ne bX11_voice_14 (fun _ => ?_) (fun h14 => absurd h14 ((by decide)))
  refine ok_step (ps := []) (L' := [some (.ref 0), some (.int (nI g)), some (.int (nI 2)), some (.int x)]) (st' := [.int x, .int (nI 2), .int (nI g), .ref 10, .ref 83]) (σ' := (α, μ)) (pc' := 38) kX11_voice_24 rfl rfl rf_a0 ?_
  refine ok_V (As := [.ref 10, .int (nI g), .int (nI 2), .int x]) (b := 83) (st := []) mkX9_hear qX11_voice_38 rfl (rc_83) rfl rfl rfl rfl (Nat.le_of_ble_eq_true rfl) (c_hear_0_2 hR (by omega) hK) ?_
  refine ok_reti eX11_voice_41 rfl ?_
  refine ⟨rfl, _, rfl, ?_⟩
  refine ok_step (ps := []) (L' := [some (.ref 94), some (.int (nI g)), some (.int (nI 2)), some (.int x), none]) (st' := [.int (nI g), .ref 94]) (σ' := (apt 84 83 0 (rf_w (rf_w (rf_w (rf_w α 83 2 (nI 0)) 83 3 (nI g)) 83 4 (μ 95 (194 + 8 * g))) 83 0 (nI 0)) 0 [12], μ)) (pc' := 2) kX12_voice_0 rfl rfl rf_a0 ?_
  refine ok_V (As := [.int (nI g)]) (b := 94) (st := []) mkX12_isGroup qX12_voice_2 rfl (rc_94) rfl rfl rfl rfl (Nat.le_of_ble_eq_true rfl) (m_isGroup) ?_
  refine ok_if_eq bX12_voice_5 (fun g5 => absurd g5 ((bI_n0.mpr (wi_in hI.at4 hg (by omega))))) (fun _ => ?_)
  refine ok_step (ps := []) (L' := [some (.ref 94), some (.int (nI g)), some (.int (nI 2)), some (.int x), none]) (st' := [.long (lN 3), .long (lN 0), .long ((nI 2).toInt64)]) (σ' := (apt 84 83 0 (rf_w (rf_w (rf_w (rf_w α 83 2 (nI 0)) 83 3 (nI g)) 83 4 (μ 95 (194 + 8 * g))) 83 0 (nI 0)) 0 [12], μ)) (pc' := 14) kX12_voice_8 rfl rfl rf_a0 ?_
  refine ok_S (As := [.long ((nI 2).toInt64), .long (lN 0), .long (lN 3)]) (st := []) mkX12_in qX12_voice_14 rfl rfl rfl rfl rfl (Nat.le_of_ble_eq_true rfl) (m_in) ?_
  rw [show wl ((nI 2).toInt64) (lN 0) (lN 3) = wi (nI 2) (nI 0) (nI 3) from wl_of rfl (nI_l (by decide)).symm (nI_l (by decide)).symm, show bI (wi (nI 2) (nI 0) (nI 3)) = nI 1 from rfl]
  refine ok_if_ne bX12_voice_17 (fun _ => ?_) (fun g17 => absurd g17 ((by decide)))
  refine ok_step (ps := []) (L' := [some (.ref 94), some (.int (nI g)), some (.int (nI 2)), some (.int x), none]) (st' := [.ref 94]) (σ' := (apt 84 83 0 (rf_w (rf_w (rf_w (rf_w α 83 2 (nI 0)) 83 3 (nI g)) 83 4 (μ 95 (194 + 8 * g))) 83 0 (nI 0)) 0 [12], rf_w (rf_w μ 94 18 (nI 0)) 94 19 (nI g))) (pc' := 37) kX12_voice_26 rfl rfl rf_a0 ?_
  refine ok_V (As := []) (b := 94) (st := []) mkX12_own qX12_voice_37 rfl (rc_94) rfl rfl rfl rfl (Nat.le_of_ble_eq_true rfl) (m_own (K := 0) (g := g) (by omega) (by rw [rf_w_row (by decide), rf_w_row (by decide)]; exact hK) (by simp [rf_w_at])) ?_
  refine ok_step (ps := []) (L' := [some (.ref 94), some (.int (nI g)), some (.int (nI 2)), some (.int x), some (.int (nI 0))]) (st' := [.int (nI 2)]) (σ' := (apt 84 83 0 (rf_w (rf_w (rf_w (rf_w α 83 2 (nI 0)) 83 3 (nI g)) 83 4 (μ 95 (194 + 8 * g))) 83 0 (nI 0)) 0 [12], rf_w (rf_w μ 94 18 (nI 0)) 94 19 (nI g))) (pc' := 43) kX12_voice_40 rfl rfl rf_a0 ?_
  refine ok_if_ne bX12_voice_43 (fun _ => ?_) (fun g43 => absurd g43 ((by decide)))
  refine ok_step (ps := []) (L' := [some (.ref 94), some (.int (nI g)), some (.int (nI 2)), some (.int x), some (.int (nI 0))]) (st' := [.int (nI 1), .int (nI 2)]) (σ' := (apt 84 83 0 (rf_w (rf_w (rf_w (rf_w α 83 2 (nI 0)) 83 3 (nI g)) 83 4 (μ 95 (194 + 8 * g))) 83 0 (nI 0)) 0 [12], rf_w (rf_w μ 94 18 (nI 0)) 94 19 (nI g))) (pc' := 58) kX12_voice_56 rfl rfl rf_a0 ?_
  refine ok_icmp_ne bX12_voice_58 (fun _ => ?_) (fun g58 => absurd g58 ((by decide)))
  refine ok_step (ps := []) (L' := [some (.ref 94), some (.int (nI g)), some (.int (nI 2)), some (.int x), some (.int (nI 0))]) (st' := [.int (nI 2), .int (nI 2)]) (σ' := (apt 84 83 0 (rf_w (rf_w (rf_w (rf_w α 83 2 (nI 0)) 83 3 (nI g)) 83 4 (μ 95 (194 + 8 * g))) 83 0 (nI 0)) 0 [12], rf_w (rf_w μ 94 18 (nI 0)) 94 19 (nI g))) (pc' := 73) kX12_voice_71 rfl rfl rf_a0 ?_
  refine ok_icmp_ne bX12_voice_73 (fun g73 => absurd ((by decide)) g73) (fun _ => ?_)
  refine ok_step (ps := []) (L' := [some (.ref 94), some (.int (nI g)), some (.int (nI 2)), some (.int x), some (.int (nI 0))]) (st' := [.int x, .int (nI 0), .ref 94]) (σ' := (apt 84 83 0 (rf_w (rf_w (rf_w (rf_w α 83 2 (nI 0)) 83 3 (nI g)) 83 4 (μ 95 (194 + 8 * g))) 83 0 (nI 0)) 0 [12], rf_w (rf_w μ 94 18 (nI 0)) 94 19 (nI g))) (pc' := 80) kX12_voice_76 rfl rfl rf_a0 ?_
  refine ok_V (As := [.int (nI 0), .int x]) (b := 94) (st := []) mkX12_tellsOf qX12_voice_80 rfl (rc_94) rfl rfl rfl rfl (Nat.le_of_ble_eq_true rfl) (mv0_2_0 (ν := rf_w (rf_w μ 94 18 (nI 0)) 94 19 (nI g)) (mn := (μ 95 (194 + 8 * g))) (b := 0) (g := g) (by rw [rf_w_row (by decide), rf_w_row (by decide)]; exact hK) (by rw [rf_w_row (by decide), rf_w_row (by decide)]) (by simp [rf_w_at]) (by omega) (by simp [rf_w_at]) (by decide)) ?_
  refine ok_goto bX12_voice_83 ?_
  refine ok_reti eX12_voice_93 rfl ?_
  exact ⟨rfl, _, rfl, J.apt (α := α) (μ := μ) hJ.vo0 (by simp [rf_w_at]) (by decide)⟩
theorem c_hear_0_3 {g : Nat} {x : Int32} (hR : Rl 1 α (μ 95)) (hg : g < 16) (hK : μ 95 (190 + 8 * g) = nI 0) : rf_At (rf_T Ln xs) MX9_hear 25 0 ([some (.ref 83), some (.ref 10), some (.int (nI g)), some (.int (nI 3)), some (.int x)], [], 108, (α, μ)) (some (.int (((x + (nI g)) * nI 2) ^^^ (x - (μ 95 (194 + 8 * g)))))) 108 (apt 84 83 0 (rf_w (rf_w (rf_w (rf_w α 83 2 (nI 0)) 83 3 (nI g)) 83 4 (μ 95 (194 + 8 * g))) 83 0 (nI 0)) 0 [13, 11, 10, 12], μ) := by
  refine rf_pa ?_
  refine ok_step (ps := [rf_in (nI g) 16, rf_in (nI g) 16]) (L' := [some (.ref 83), some (.ref 10), some (.int (nI g)), some (.int (nI 3)), some (.int x)]) (st' := [.int (nI 0), .int x, .int (nI 3), .int ((rf_w (rf_w (rf_w (rf_w α 83 2 (α 11 ((nI g).toNatClampNeg))) 83 3 (nI g)) 83 4 ((rf_w (rf_w α 83 2 (α 11 ((nI g).toNatClampNeg))) 83 3 (nI g)) 15 ((nI g).toNatClampNeg))) 83 0 (nI 0)) 83 2), .ref 83]) (σ' := (rf_w (rf_w (rf_w (rf_w α 83 2 (α 11 ((nI g).toNatClampNeg))) 83 3 (nI g)) 83 4 ((rf_w (rf_w α 83 2 (α 11 ((nI g).toNatClampNeg))) 83 3 (nI g)) 15 ((nI g).toNatClampNeg))) 83 0 (nI 0), μ)) (pc' := 39) kX9_hear_0 rfl rfl (rf_a1 (rf_in_n (a := g) rfl (by omega)) (rf_a1 (rf_in_n (a := g) rfl (by omega)) rf_a0)) ?_
  try rw [(show (nI g).toNatClampNeg = g from rf_cl_n rfl (by omega))]
  try rw [(show α 11 g = μ 95 (190 + 8 * g) from rl_10 hR (i := g) (by omega) (by omega))]
  try rw [hK]
  try rw [(show (nI g).toNatClampNeg = g from rf_cl_n rfl (by omega))]
  try rw [(show (rf_w (rf_w α 83 2 (nI 0)) 83 3 (nI g)) 15 g = (rf_w α 83 2 (nI 0)) 15 g from by rw [rf_w_at, if_neg (fun h => absurd h.1 (by decide))])]
  try rw [(show (rf_w α 83 2 (nI 0)) 15 g = α 15 g from by rw [rf_w_at, if_neg (fun h => absurd h.1 (by decide))])]
  try rw [(show α 15 g = μ 95 (194 + 8 * g) from rl_14 hR (i := g) (by omega) (by omega))]
  try rw [(show (rf_w (rf_w (rf_w (rf_w α 83 2 (nI 0)) 83 3 (nI g)) 83 4 (μ 95 (194 + 8 * g))) 83 0 (nI 0)) 83 2 = (rf_w (rf_w (rf_w α 83 2 (nI 0)) 83 3 (nI g)) 83 4 (μ 95 (194 + 8 * g))) 83 2 from by rw [rf_w_at, if_neg (fun h => absurd h.2 (by omega))])]
  try rw [(show (rf_w (rf_w (rf_w α 83 2 (nI 0)) 83 3 (nI g)) 83 4 (μ 95 (194 + 8 * g))) 83 2 = (rf_w (rf_w α 83 2 (nI 0)) 83 3 (nI g)) 83 2 from by rw [rf_w_at, if_neg (fun h => absurd h.2 (by omega))])]
  try rw [(show (rf_w (rf_w α 83 2 (nI 0)) 83 3 (nI g)) 83 2 = (rf_w α 83 2 (nI 0)) 83 2 from by rw [rf_w_at, if_neg (fun h => absurd h.2 (by omega))])]
  try rw [(show (rf_w α 83 2 (nI 0)) 83 2 = (nI 0) from by rw [rf_w_at, if_pos ⟨rfl, rfl⟩])]
  refine ok_V (As := [.int (nI 0), .int (nI 3), .int x, .int (nI 0)]) (b := 83) (st := []) mkX9_speak qX9_hear_39 rfl (rc_83) rfl rfl rfl rfl (Nat.le_of_ble_eq_true rfl) (cv0_3_0 (α := rf_w (rf_w (rf_w (rf_w α 83 2 (nI 0)) 83 3 (nI g)) 83 4 (μ 95 (194 + 8 * g))) 83 0 (nI 0)) (nu := nI g) (mn := (μ 95 (194 + 8 * g))) (b := 0) (dep := 0) (by simp [rf_w_at]) (by simp [rf_w_at]) (by simp [rf_w_at]) (by simp [rf_w_at]) (by decide) (by decide)) ?_
  refine ok_reti eX9_hear_42 rfl ?_
  exact ⟨rfl, rfl⟩
theorem op_voice_0_3 {g : Nat} {x : Int32} (hJ : J α μ) (hg : g < cn (μ 95) 4) (hK : μ 95 (190 + 8 * g) = nI 0) : Op (rf_T Ln xs) MX11_voice MX12_voice [some (.ref 0), some (.int (nI g)), some (.int (nI 3)), some (.int x)] [some (.ref 94), some (.int (nI g)), some (.int (nI 3)), some (.int x), none] α μ := by
  have hR := hJ.1.1.1
  have hI := hJ.2
  have b0 := hI.le0
  have b1 := hI.le1
  have b2 := hI.le2
  have b3 := hI.le3
  have b4 := hI.le4
  have b5 := hI.le5
  have b6 := hI.le6
  have b8 := hI.le8
  have b9 := hI.le9
  have b11 := hI.le11
  have b12 := hI.le12
  refine ok_step (ps := []) (L' := [some (.ref 0), some (.int (nI g)), some (.int (nI 3)), some (.int x)]) (st' := [.int (nI g), .ref 0]) (σ' := (α, μ)) (pc' := 2) kX11_voice_0 rfl rfl rf_a0 ?_
  refine ok_V (As := [.int (nI g)]) (b := 0) (st := []) mkX11_isGroup qX11_voice_2 rfl (rc_0) rfl rfl rfl rfl (Nat.le_of_ble_eq_true rfl) (c_isGroup hR) ?_
  refine ok_if_eq bX11_voice_5 (fun h5 => absurd h5 ((bI_n0.mpr (wi_in hI.at4 hg (by omega))))) (fun _ => ?_)
  refine ok_step (ps := []) (L' := [some (.ref 0), some (.int (nI g)), some (.int (nI 3)), some (.int x)]) (st' := [.int (nI 3), .int (nI 0), .int (nI 3)]) (σ' := (α, μ)) (pc' := 11) kX11_voice_8 rfl rfl rf_a0 ?_
  refine ok_S (As := [.int (nI 3), .int (nI 0), .int (nI 3)]) (st := []) mkX11_within qX11_voice_11 rfl rfl rfl rfl rfl (Nat.le_of_ble_eq_true rfl) (c_within) ?_
  rw [show bI (wi (nI 3) (nI 0) (nI 3)) = nI 1 from rfl]
  refine ok_if_ne bX11_voice_14 (fun _ => ?_) (fun h14 => absurd h14 ((by decide)))
  refine ok_step (ps := []) (L' := [some (.ref 0), some (.int (nI g)), some (.int (nI 3)), some (.int x)]) (st' := [.int x, .int (nI 3), .int (nI g), .ref 10, .ref 83]) (σ' := (α, μ)) (pc' := 38) kX11_voice_24 rfl rfl rf_a0 ?_
  refine ok_V (As := [.ref 10, .int (nI g), .int (nI 3), .int x]) (b := 83) (st := []) mkX9_hear qX11_voice_38 rfl (rc_83) rfl rfl rfl rfl (Nat.le_of_ble_eq_true rfl) (c_hear_0_3 hR (by omega) hK) ?_
  refine ok_reti eX11_voice_41 rfl ?_
  refine ⟨rfl, _, rfl, ?_⟩
  refine ok_step (ps := []) (L' := [some (.ref 94), some (.int (nI g)), some (.int (nI 3)), some (.int x), none]) (st' := [.int (nI g), .ref 94]) (σ' := (apt 84 83 0 (rf_w (rf_w (rf_w (rf_w α 83 2 (nI 0)) 83 3 (nI g)) 83 4 (μ 95 (194 + 8 * g))) 83 0 (nI 0)) 0 [13, 11, 10, 12], μ)) (pc' := 2) kX12_voice_0 rfl rfl rf_a0 ?_
  refine ok_V (As := [.int (nI g)]) (b := 94) (st := []) mkX12_isGroup qX12_voice_2 rfl (rc_94) rfl rfl rfl rfl (Nat.le_of_ble_eq_true rfl) (m_isGroup) ?_
  refine ok_if_eq bX12_voice_5 (fun g5 => absurd g5 ((bI_n0.mpr (wi_in hI.at4 hg (by omega))))) (fun _ => ?_)
  refine ok_step (ps := []) (L' := [some (.ref 94), some (.int (nI g)), some (.int (nI 3)), some (.int x), none]) (st' := [.long (lN 3), .long (lN 0), .long ((nI 3).toInt64)]) (σ' := (apt 84 83 0 (rf_w (rf_w (rf_w (rf_w α 83 2 (nI 0)) 83 3 (nI g)) 83 4 (μ 95 (194 + 8 * g))) 83 0 (nI 0)) 0 [13, 11, 10, 12], μ)) (pc' := 14) kX12_voice_8 rfl rfl rf_a0 ?_
  refine ok_S (As := [.long ((nI 3).toInt64), .long (lN 0), .long (lN 3)]) (st := []) mkX12_in qX12_voice_14 rfl rfl rfl rfl rfl (Nat.le_of_ble_eq_true rfl) (m_in) ?_
  rw [show wl ((nI 3).toInt64) (lN 0) (lN 3) = wi (nI 3) (nI 0) (nI 3) from wl_of rfl (nI_l (by decide)).symm (nI_l (by decide)).symm, show bI (wi (nI 3) (nI 0) (nI 3)) = nI 1 from rfl]
  refine ok_if_ne bX12_voice_17 (fun _ => ?_) (fun g17 => absurd g17 ((by decide)))
  refine ok_step (ps := []) (L' := [some (.ref 94), some (.int (nI g)), some (.int (nI 3)), some (.int x), none]) (st' := [.ref 94]) (σ' := (apt 84 83 0 (rf_w (rf_w (rf_w (rf_w α 83 2 (nI 0)) 83 3 (nI g)) 83 4 (μ 95 (194 + 8 * g))) 83 0 (nI 0)) 0 [13, 11, 10, 12], rf_w (rf_w μ 94 18 (nI 0)) 94 19 (nI g))) (pc' := 37) kX12_voice_26 rfl rfl rf_a0 ?_
  refine ok_V (As := []) (b := 94) (st := []) mkX12_own qX12_voice_37 rfl (rc_94) rfl rfl rfl rfl (Nat.le_of_ble_eq_true rfl) (m_own (K := 0) (g := g) (by omega) (by rw [rf_w_row (by decide), rf_w_row (by decide)]; exact hK) (by simp [rf_w_at])) ?_
  refine ok_step (ps := []) (L' := [some (.ref 94), some (.int (nI g)), some (.int (nI 3)), some (.int x), some (.int (nI 0))]) (st' := [.int (nI 3)]) (σ' := (apt 84 83 0 (rf_w (rf_w (rf_w (rf_w α 83 2 (nI 0)) 83 3 (nI g)) 83 4 (μ 95 (194 + 8 * g))) 83 0 (nI 0)) 0 [13, 11, 10, 12], rf_w (rf_w μ 94 18 (nI 0)) 94 19 (nI g))) (pc' := 43) kX12_voice_40 rfl rfl rf_a0 ?_
  refine ok_if_ne bX12_voice_43 (fun _ => ?_) (fun g43 => absurd g43 ((by decide)))
  refine ok_step (ps := []) (L' := [some (.ref 94), some (.int (nI g)), some (.int (nI 3)), some (.int x), some (.int (nI 0))]) (st' := [.int (nI 1), .int (nI 3)]) (σ' := (apt 84 83 0 (rf_w (rf_w (rf_w (rf_w α 83 2 (nI 0)) 83 3 (nI g)) 83 4 (μ 95 (194 + 8 * g))) 83 0 (nI 0)) 0 [13, 11, 10, 12], rf_w (rf_w μ 94 18 (nI 0)) 94 19 (nI g))) (pc' := 58) kX12_voice_56 rfl rfl rf_a0 ?_
  refine ok_icmp_ne bX12_voice_58 (fun _ => ?_) (fun g58 => absurd g58 ((by decide)))
  refine ok_step (ps := []) (L' := [some (.ref 94), some (.int (nI g)), some (.int (nI 3)), some (.int x), some (.int (nI 0))]) (st' := [.int (nI 2), .int (nI 3)]) (σ' := (apt 84 83 0 (rf_w (rf_w (rf_w (rf_w α 83 2 (nI 0)) 83 3 (nI g)) 83 4 (μ 95 (194 + 8 * g))) 83 0 (nI 0)) 0 [13, 11, 10, 12], rf_w (rf_w μ 94 18 (nI 0)) 94 19 (nI g))) (pc' := 73) kX12_voice_71 rfl rfl rf_a0 ?_
  refine ok_icmp_ne bX12_voice_73 (fun _ => ?_) (fun g73 => absurd g73 ((by decide)))
  refine ok_step (ps := []) (L' := [some (.ref 94), some (.int (nI g)), some (.int (nI 3)), some (.int x), some (.int (nI 0))]) (st' := [.int x, .int (nI 0), .ref 94]) (σ' := (apt 84 83 0 (rf_w (rf_w (rf_w (rf_w α 83 2 (nI 0)) 83 3 (nI g)) 83 4 (μ 95 (194 + 8 * g))) 83 0 (nI 0)) 0 [13, 11, 10, 12], rf_w (rf_w μ 94 18 (nI 0)) 94 19 (nI g))) (pc' := 90) kX12_voice_86 rfl rfl rf_a0 ?_
  refine ok_V (As := [.int (nI 0), .int x]) (b := 94) (st := []) mkX12_paysOf qX12_voice_90 rfl (rc_94) rfl rfl rfl rfl (Nat.le_of_ble_eq_true rfl) (mv0_3_0 (ν := rf_w (rf_w μ 94 18 (nI 0)) 94 19 (nI g)) (mn := (μ 95 (194 + 8 * g))) (b := 0) (g := g) (by rw [rf_w_row (by decide), rf_w_row (by decide)]; exact hK) (by rw [rf_w_row (by decide), rf_w_row (by decide)]) (by simp [rf_w_at]) (by omega) (by simp [rf_w_at]) (by decide)) ?_
  refine ok_reti eX12_voice_93 rfl ?_
  exact ⟨rfl, _, rfl, J.apt (α := α) (μ := μ) hJ.vo0 (by simp [rf_w_at]) (by decide)⟩
theorem c_hear_1_0 {g : Nat} {x : Int32} (hR : Rl 1 α (μ 95)) (hg : g < 16) (hK : μ 95 (190 + 8 * g) = nI 1) : rf_At (rf_T Ln xs) MX9_hear 25 0 ([some (.ref 83), some (.ref 10), some (.int (nI g)), some (.int (nI 0)), some (.int x)], [], 108, (α, μ)) (some (.int (x + (nI g)))) 108 (apt 84 83 0 (rf_w (rf_w (rf_w (rf_w α 83 2 (nI 1)) 83 3 (nI g)) 83 4 (μ 95 (194 + 8 * g))) 83 0 (nI 0)) 0 [10], μ) := by
  refine rf_pa ?_
  refine ok_step (ps := [rf_in (nI g) 16, rf_in (nI g) 16]) (L' := [some (.ref 83), some (.ref 10), some (.int (nI g)), some (.int (nI 0)), some (.int x)]) (st' := [.int (nI 0), .int x, .int (nI 0), .int ((rf_w (rf_w (rf_w (rf_w α 83 2 (α 11 ((nI g).toNatClampNeg))) 83 3 (nI g)) 83 4 ((rf_w (rf_w α 83 2 (α 11 ((nI g).toNatClampNeg))) 83 3 (nI g)) 15 ((nI g).toNatClampNeg))) 83 0 (nI 0)) 83 2), .ref 83]) (σ' := (rf_w (rf_w (rf_w (rf_w α 83 2 (α 11 ((nI g).toNatClampNeg))) 83 3 (nI g)) 83 4 ((rf_w (rf_w α 83 2 (α 11 ((nI g).toNatClampNeg))) 83 3 (nI g)) 15 ((nI g).toNatClampNeg))) 83 0 (nI 0), μ)) (pc' := 39) kX9_hear_0 rfl rfl (rf_a1 (rf_in_n (a := g) rfl (by omega)) (rf_a1 (rf_in_n (a := g) rfl (by omega)) rf_a0)) ?_
  try rw [(show (nI g).toNatClampNeg = g from rf_cl_n rfl (by omega))]
  try rw [(show α 11 g = μ 95 (190 + 8 * g) from rl_10 hR (i := g) (by omega) (by omega))]
  try rw [hK]
  try rw [(show (nI g).toNatClampNeg = g from rf_cl_n rfl (by omega))]
  try rw [(show (rf_w (rf_w α 83 2 (nI 1)) 83 3 (nI g)) 15 g = (rf_w α 83 2 (nI 1)) 15 g from by rw [rf_w_at, if_neg (fun h => absurd h.1 (by decide))])]
  try rw [(show (rf_w α 83 2 (nI 1)) 15 g = α 15 g from by rw [rf_w_at, if_neg (fun h => absurd h.1 (by decide))])]
  try rw [(show α 15 g = μ 95 (194 + 8 * g) from rl_14 hR (i := g) (by omega) (by omega))]
  try rw [(show (rf_w (rf_w (rf_w (rf_w α 83 2 (nI 1)) 83 3 (nI g)) 83 4 (μ 95 (194 + 8 * g))) 83 0 (nI 0)) 83 2 = (rf_w (rf_w (rf_w α 83 2 (nI 1)) 83 3 (nI g)) 83 4 (μ 95 (194 + 8 * g))) 83 2 from by rw [rf_w_at, if_neg (fun h => absurd h.2 (by omega))])]
  try rw [(show (rf_w (rf_w (rf_w α 83 2 (nI 1)) 83 3 (nI g)) 83 4 (μ 95 (194 + 8 * g))) 83 2 = (rf_w (rf_w α 83 2 (nI 1)) 83 3 (nI g)) 83 2 from by rw [rf_w_at, if_neg (fun h => absurd h.2 (by omega))])]
  try rw [(show (rf_w (rf_w α 83 2 (nI 1)) 83 3 (nI g)) 83 2 = (rf_w α 83 2 (nI 1)) 83 2 from by rw [rf_w_at, if_neg (fun h => absurd h.2 (by omega))])]
  try rw [(show (rf_w α 83 2 (nI 1)) 83 2 = (nI 1) from by rw [rf_w_at, if_pos ⟨rfl, rfl⟩])]
  refine ok_V (As := [.int (nI 1), .int (nI 0), .int x, .int (nI 0)]) (b := 83) (st := []) mkX9_speak qX9_hear_39 rfl (rc_83) rfl rfl rfl rfl (Nat.le_of_ble_eq_true rfl) (cv1_0_1 (α := rf_w (rf_w (rf_w (rf_w α 83 2 (nI 1)) 83 3 (nI g)) 83 4 (μ 95 (194 + 8 * g))) 83 0 (nI 0)) (nu := nI g) (mn := (μ 95 (194 + 8 * g))) (b := 0) (dep := 0) (by simp [rf_w_at]) (by simp [rf_w_at]) (by simp [rf_w_at]) (by simp [rf_w_at]) (by decide) (by decide)) ?_
  refine ok_reti eX9_hear_42 rfl ?_
  exact ⟨rfl, rfl⟩
theorem op_voice_1_0 {g : Nat} {x : Int32} (hJ : J α μ) (hg : g < cn (μ 95) 4) (hK : μ 95 (190 + 8 * g) = nI 1) : Op (rf_T Ln xs) MX11_voice MX12_voice [some (.ref 0), some (.int (nI g)), some (.int (nI 0)), some (.int x)] [some (.ref 94), some (.int (nI g)), some (.int (nI 0)), some (.int x), none] α μ := by
  have hR := hJ.1.1.1
  have hI := hJ.2
  have b0 := hI.le0
  have b1 := hI.le1
  have b2 := hI.le2
  have b3 := hI.le3
  have b4 := hI.le4
  have b5 := hI.le5
  have b6 := hI.le6
  have b8 := hI.le8
  have b9 := hI.le9
  have b11 := hI.le11
  have b12 := hI.le12
  refine ok_step (ps := []) (L' := [some (.ref 0), some (.int (nI g)), some (.int (nI 0)), some (.int x)]) (st' := [.int (nI g), .ref 0]) (σ' := (α, μ)) (pc' := 2) kX11_voice_0 rfl rfl rf_a0 ?_
  refine ok_V (As := [.int (nI g)]) (b := 0) (st := []) mkX11_isGroup qX11_voice_2 rfl (rc_0) rfl rfl rfl rfl (Nat.le_of_ble_eq_true rfl) (c_isGroup hR) ?_
  refine ok_if_eq bX11_voice_5 (fun h5 => absurd h5 ((bI_n0.mpr (wi_in hI.at4 hg (by omega))))) (fun _ => ?_)
  refine ok_step (ps := []) (L' := [some (.ref 0), some (.int (nI g)), some (.int (nI 0)), some (.int x)]) (st' := [.int (nI 3), .int (nI 0), .int (nI 0)]) (σ' := (α, μ)) (pc' := 11) kX11_voice_8 rfl rfl rf_a0 ?_
  refine ok_S (As := [.int (nI 0), .int (nI 0), .int (nI 3)]) (st := []) mkX11_within qX11_voice_11 rfl rfl rfl rfl rfl (Nat.le_of_ble_eq_true rfl) (c_within) ?_
  rw [show bI (wi (nI 0) (nI 0) (nI 3)) = nI 1 from rfl]
  refine ok_if_ne bX11_voice_14 (fun _ => ?_) (fun h14 => absurd h14 ((by decide)))
  refine ok_step (ps := []) (L' := [some (.ref 0), some (.int (nI g)), some (.int (nI 0)), some (.int x)]) (st' := [.int x, .int (nI 0), .int (nI g), .ref 10, .ref 83]) (σ' := (α, μ)) (pc' := 38) kX11_voice_24 rfl rfl rf_a0 ?_
  refine ok_V (As := [.ref 10, .int (nI g), .int (nI 0), .int x]) (b := 83) (st := []) mkX9_hear qX11_voice_38 rfl (rc_83) rfl rfl rfl rfl (Nat.le_of_ble_eq_true rfl) (c_hear_1_0 hR (by omega) hK) ?_
  refine ok_reti eX11_voice_41 rfl ?_
  refine ⟨rfl, _, rfl, ?_⟩
  refine ok_step (ps := []) (L' := [some (.ref 94), some (.int (nI g)), some (.int (nI 0)), some (.int x), none]) (st' := [.int (nI g), .ref 94]) (σ' := (apt 84 83 0 (rf_w (rf_w (rf_w (rf_w α 83 2 (nI 1)) 83 3 (nI g)) 83 4 (μ 95 (194 + 8 * g))) 83 0 (nI 0)) 0 [10], μ)) (pc' := 2) kX12_voice_0 rfl rfl rf_a0 ?_
  refine ok_V (As := [.int (nI g)]) (b := 94) (st := []) mkX12_isGroup qX12_voice_2 rfl (rc_94) rfl rfl rfl rfl (Nat.le_of_ble_eq_true rfl) (m_isGroup) ?_
  refine ok_if_eq bX12_voice_5 (fun g5 => absurd g5 ((bI_n0.mpr (wi_in hI.at4 hg (by omega))))) (fun _ => ?_)
  refine ok_step (ps := []) (L' := [some (.ref 94), some (.int (nI g)), some (.int (nI 0)), some (.int x), none]) (st' := [.long (lN 3), .long (lN 0), .long ((nI 0).toInt64)]) (σ' := (apt 84 83 0 (rf_w (rf_w (rf_w (rf_w α 83 2 (nI 1)) 83 3 (nI g)) 83 4 (μ 95 (194 + 8 * g))) 83 0 (nI 0)) 0 [10], μ)) (pc' := 14) kX12_voice_8 rfl rfl rf_a0 ?_
  refine ok_S (As := [.long ((nI 0).toInt64), .long (lN 0), .long (lN 3)]) (st := []) mkX12_in qX12_voice_14 rfl rfl rfl rfl rfl (Nat.le_of_ble_eq_true rfl) (m_in) ?_
  rw [show wl ((nI 0).toInt64) (lN 0) (lN 3) = wi (nI 0) (nI 0) (nI 3) from wl_of rfl (nI_l (by decide)).symm (nI_l (by decide)).symm, show bI (wi (nI 0) (nI 0) (nI 3)) = nI 1 from rfl]
  refine ok_if_ne bX12_voice_17 (fun _ => ?_) (fun g17 => absurd g17 ((by decide)))
  refine ok_step (ps := []) (L' := [some (.ref 94), some (.int (nI g)), some (.int (nI 0)), some (.int x), none]) (st' := [.ref 94]) (σ' := (apt 84 83 0 (rf_w (rf_w (rf_w (rf_w α 83 2 (nI 1)) 83 3 (nI g)) 83 4 (μ 95 (194 + 8 * g))) 83 0 (nI 0)) 0 [10], rf_w (rf_w μ 94 18 (nI 0)) 94 19 (nI g))) (pc' := 37) kX12_voice_26 rfl rfl rf_a0 ?_
  refine ok_V (As := []) (b := 94) (st := []) mkX12_own qX12_voice_37 rfl (rc_94) rfl rfl rfl rfl (Nat.le_of_ble_eq_true rfl) (m_own (K := 1) (g := g) (by omega) (by rw [rf_w_row (by decide), rf_w_row (by decide)]; exact hK) (by simp [rf_w_at])) ?_
  refine ok_step (ps := []) (L' := [some (.ref 94), some (.int (nI g)), some (.int (nI 0)), some (.int x), some (.int (nI 1))]) (st' := [.int (nI 0)]) (σ' := (apt 84 83 0 (rf_w (rf_w (rf_w (rf_w α 83 2 (nI 1)) 83 3 (nI g)) 83 4 (μ 95 (194 + 8 * g))) 83 0 (nI 0)) 0 [10], rf_w (rf_w μ 94 18 (nI 0)) 94 19 (nI g))) (pc' := 43) kX12_voice_40 rfl rfl rf_a0 ?_
  refine ok_if_ne bX12_voice_43 (fun g43 => absurd ((by decide)) g43) (fun _ => ?_)
  refine ok_step (ps := []) (L' := [some (.ref 94), some (.int (nI g)), some (.int (nI 0)), some (.int x), some (.int (nI 1))]) (st' := [.int x, .int (nI 1), .ref 94]) (σ' := (apt 84 83 0 (rf_w (rf_w (rf_w (rf_w α 83 2 (nI 1)) 83 3 (nI g)) 83 4 (μ 95 (194 + 8 * g))) 83 0 (nI 0)) 0 [10], rf_w (rf_w μ 94 18 (nI 0)) 94 19 (nI g))) (pc' := 50) kX12_voice_46 rfl rfl rf_a0 ?_
  refine ok_V (As := [.int (nI 1), .int x]) (b := 94) (st := []) mkX12_goes qX12_voice_50 rfl (rc_94) rfl rfl rfl rfl (Nat.le_of_ble_eq_true rfl) (mv1_0_1 (ν := rf_w (rf_w μ 94 18 (nI 0)) 94 19 (nI g)) (mn := (μ 95 (194 + 8 * g))) (b := 0) (g := g) (by rw [rf_w_row (by decide), rf_w_row (by decide)]; exact hK) (by rw [rf_w_row (by decide), rf_w_row (by decide)]) (by simp [rf_w_at]) (by omega) (by simp [rf_w_at]) (by decide)) ?_
  refine ok_goto bX12_voice_53 ?_
  refine ok_reti eX12_voice_93 rfl ?_
  exact ⟨rfl, _, rfl, J.apt (α := α) (μ := μ) hJ.vo0 (by simp [rf_w_at]) (by decide)⟩
theorem c_hear_1_1 {g : Nat} {x : Int32} (hR : Rl 1 α (μ 95)) (hg : g < 16) (hK : μ 95 (190 + 8 * g) = nI 1) : rf_At (rf_T Ln xs) MX9_hear 25 0 ([some (.ref 83), some (.ref 10), some (.int (nI g)), some (.int (nI 1)), some (.int x)], [], 108, (α, μ)) (some (.int ((x + (nI g)) * nI 2))) 108 (apt 84 83 0 (rf_w (rf_w (rf_w (rf_w α 83 2 (nI 1)) 83 3 (nI g)) 83 4 (μ 95 (194 + 8 * g))) 83 0 (nI 0)) 0 [11, 10], μ) := by
  refine rf_pa ?_
  refine ok_step (ps := [rf_in (nI g) 16, rf_in (nI g) 16]) (L' := [some (.ref 83), some (.ref 10), some (.int (nI g)), some (.int (nI 1)), some (.int x)]) (st' := [.int (nI 0), .int x, .int (nI 1), .int ((rf_w (rf_w (rf_w (rf_w α 83 2 (α 11 ((nI g).toNatClampNeg))) 83 3 (nI g)) 83 4 ((rf_w (rf_w α 83 2 (α 11 ((nI g).toNatClampNeg))) 83 3 (nI g)) 15 ((nI g).toNatClampNeg))) 83 0 (nI 0)) 83 2), .ref 83]) (σ' := (rf_w (rf_w (rf_w (rf_w α 83 2 (α 11 ((nI g).toNatClampNeg))) 83 3 (nI g)) 83 4 ((rf_w (rf_w α 83 2 (α 11 ((nI g).toNatClampNeg))) 83 3 (nI g)) 15 ((nI g).toNatClampNeg))) 83 0 (nI 0), μ)) (pc' := 39) kX9_hear_0 rfl rfl (rf_a1 (rf_in_n (a := g) rfl (by omega)) (rf_a1 (rf_in_n (a := g) rfl (by omega)) rf_a0)) ?_
  try rw [(show (nI g).toNatClampNeg = g from rf_cl_n rfl (by omega))]
  try rw [(show α 11 g = μ 95 (190 + 8 * g) from rl_10 hR (i := g) (by omega) (by omega))]
  try rw [hK]
  try rw [(show (nI g).toNatClampNeg = g from rf_cl_n rfl (by omega))]
  try rw [(show (rf_w (rf_w α 83 2 (nI 1)) 83 3 (nI g)) 15 g = (rf_w α 83 2 (nI 1)) 15 g from by rw [rf_w_at, if_neg (fun h => absurd h.1 (by decide))])]
  try rw [(show (rf_w α 83 2 (nI 1)) 15 g = α 15 g from by rw [rf_w_at, if_neg (fun h => absurd h.1 (by decide))])]
  try rw [(show α 15 g = μ 95 (194 + 8 * g) from rl_14 hR (i := g) (by omega) (by omega))]
  try rw [(show (rf_w (rf_w (rf_w (rf_w α 83 2 (nI 1)) 83 3 (nI g)) 83 4 (μ 95 (194 + 8 * g))) 83 0 (nI 0)) 83 2 = (rf_w (rf_w (rf_w α 83 2 (nI 1)) 83 3 (nI g)) 83 4 (μ 95 (194 + 8 * g))) 83 2 from by rw [rf_w_at, if_neg (fun h => absurd h.2 (by omega))])]
  try rw [(show (rf_w (rf_w (rf_w α 83 2 (nI 1)) 83 3 (nI g)) 83 4 (μ 95 (194 + 8 * g))) 83 2 = (rf_w (rf_w α 83 2 (nI 1)) 83 3 (nI g)) 83 2 from by rw [rf_w_at, if_neg (fun h => absurd h.2 (by omega))])]
  try rw [(show (rf_w (rf_w α 83 2 (nI 1)) 83 3 (nI g)) 83 2 = (rf_w α 83 2 (nI 1)) 83 2 from by rw [rf_w_at, if_neg (fun h => absurd h.2 (by omega))])]
  try rw [(show (rf_w α 83 2 (nI 1)) 83 2 = (nI 1) from by rw [rf_w_at, if_pos ⟨rfl, rfl⟩])]
  refine ok_V (As := [.int (nI 1), .int (nI 1), .int x, .int (nI 0)]) (b := 83) (st := []) mkX9_speak qX9_hear_39 rfl (rc_83) rfl rfl rfl rfl (Nat.le_of_ble_eq_true rfl) (cv1_1_1 (α := rf_w (rf_w (rf_w (rf_w α 83 2 (nI 1)) 83 3 (nI g)) 83 4 (μ 95 (194 + 8 * g))) 83 0 (nI 0)) (nu := nI g) (mn := (μ 95 (194 + 8 * g))) (b := 0) (dep := 0) (by simp [rf_w_at]) (by simp [rf_w_at]) (by simp [rf_w_at]) (by simp [rf_w_at]) (by decide) (by decide)) ?_
  refine ok_reti eX9_hear_42 rfl ?_
  exact ⟨rfl, rfl⟩
theorem op_voice_1_1 {g : Nat} {x : Int32} (hJ : J α μ) (hg : g < cn (μ 95) 4) (hK : μ 95 (190 + 8 * g) = nI 1) : Op (rf_T Ln xs) MX11_voice MX12_voice [some (.ref 0), some (.int (nI g)), some (.int (nI 1)), some (.int x)] [some (.ref 94), some (.int (nI g)), some (.int (nI 1)), some (.int x), none] α μ := by
  have hR := hJ.1.1.1
  have hI := hJ.2
  have b0 := hI.le0
  have b1 := hI.le1
  have b2 := hI.le2
  have b3 := hI.le3
  have b4 := hI.le4
  have b5 := hI.le5
  have b6 := hI.le6
  have b8 := hI.le8
  have b9 := hI.le9
  have b11 := hI.le11
  have b12 := hI.le12
  refine ok_step (ps := []) (L' := [some (.ref 0), some (.int (nI g)), some (.int (nI 1)), some (.int x)]) (st' := [.int (nI g), .ref 0]) (σ' := (α, μ)) (pc' := 2) kX11_voice_0 rfl rfl rf_a0 ?_
  refine ok_V (As := [.int (nI g)]) (b := 0) (st := []) mkX11_isGroup qX11_voice_2 rfl (rc_0) rfl rfl rfl rfl (Nat.le_of_ble_eq_true rfl) (c_isGroup hR) ?_
  refine ok_if_eq bX11_voice_5 (fun h5 => absurd h5 ((bI_n0.mpr (wi_in hI.at4 hg (by omega))))) (fun _ => ?_)
  refine ok_step (ps := []) (L' := [some (.ref 0), some (.int (nI g)), some (.int (nI 1)), some (.int x)]) (st' := [.int (nI 3), .int (nI 0), .int (nI 1)]) (σ' := (α, μ)) (pc' := 11) kX11_voice_8 rfl rfl rf_a0 ?_
  refine ok_S (As := [.int (nI 1), .int (nI 0), .int (nI 3)]) (st := []) mkX11_within qX11_voice_11 rfl rfl rfl rfl rfl (Nat.le_of_ble_eq_true rfl) (c_within) ?_
  rw [show bI (wi (nI 1) (nI 0) (nI 3)) = nI 1 from rfl]
  refine ok_if_ne bX11_voice_14 (fun _ => ?_) (fun h14 => absurd h14 ((by decide)))
  refine ok_step (ps := []) (L' := [some (.ref 0), some (.int (nI g)), some (.int (nI 1)), some (.int x)]) (st' := [.int x, .int (nI 1), .int (nI g), .ref 10, .ref 83]) (σ' := (α, μ)) (pc' := 38) kX11_voice_24 rfl rfl rf_a0 ?_
  refine ok_V (As := [.ref 10, .int (nI g), .int (nI 1), .int x]) (b := 83) (st := []) mkX9_hear qX11_voice_38 rfl (rc_83) rfl rfl rfl rfl (Nat.le_of_ble_eq_true rfl) (c_hear_1_1 hR (by omega) hK) ?_
  refine ok_reti eX11_voice_41 rfl ?_
  refine ⟨rfl, _, rfl, ?_⟩
  refine ok_step (ps := []) (L' := [some (.ref 94), some (.int (nI g)), some (.int (nI 1)), some (.int x), none]) (st' := [.int (nI g), .ref 94]) (σ' := (apt 84 83 0 (rf_w (rf_w (rf_w (rf_w α 83 2 (nI 1)) 83 3 (nI g)) 83 4 (μ 95 (194 + 8 * g))) 83 0 (nI 0)) 0 [11, 10], μ)) (pc' := 2) kX12_voice_0 rfl rfl rf_a0 ?_
  refine ok_V (As := [.int (nI g)]) (b := 94) (st := []) mkX12_isGroup qX12_voice_2 rfl (rc_94) rfl rfl rfl rfl (Nat.le_of_ble_eq_true rfl) (m_isGroup) ?_
  refine ok_if_eq bX12_voice_5 (fun g5 => absurd g5 ((bI_n0.mpr (wi_in hI.at4 hg (by omega))))) (fun _ => ?_)
  refine ok_step (ps := []) (L' := [some (.ref 94), some (.int (nI g)), some (.int (nI 1)), some (.int x), none]) (st' := [.long (lN 3), .long (lN 0), .long ((nI 1).toInt64)]) (σ' := (apt 84 83 0 (rf_w (rf_w (rf_w (rf_w α 83 2 (nI 1)) 83 3 (nI g)) 83 4 (μ 95 (194 + 8 * g))) 83 0 (nI 0)) 0 [11, 10], μ)) (pc' := 14) kX12_voice_8 rfl rfl rf_a0 ?_
  refine ok_S (As := [.long ((nI 1).toInt64), .long (lN 0), .long (lN 3)]) (st := []) mkX12_in qX12_voice_14 rfl rfl rfl rfl rfl (Nat.le_of_ble_eq_true rfl) (m_in) ?_
  rw [show wl ((nI 1).toInt64) (lN 0) (lN 3) = wi (nI 1) (nI 0) (nI 3) from wl_of rfl (nI_l (by decide)).symm (nI_l (by decide)).symm, show bI (wi (nI 1) (nI 0) (nI 3)) = nI 1 from rfl]
  refine ok_if_ne bX12_voice_17 (fun _ => ?_) (fun g17 => absurd g17 ((by decide)))
  refine ok_step (ps := []) (L' := [some (.ref 94), some (.int (nI g)), some (.int (nI 1)), some (.int x), none]) (st' := [.ref 94]) (σ' := (apt 84 83 0 (rf_w (rf_w (rf_w (rf_w α 83 2 (nI 1)) 83 3 (nI g)) 83 4 (μ 95 (194 + 8 * g))) 83 0 (nI 0)) 0 [11, 10], rf_w (rf_w μ 94 18 (nI 0)) 94 19 (nI g))) (pc' := 37) kX12_voice_26 rfl rfl rf_a0 ?_
  refine ok_V (As := []) (b := 94) (st := []) mkX12_own qX12_voice_37 rfl (rc_94) rfl rfl rfl rfl (Nat.le_of_ble_eq_true rfl) (m_own (K := 1) (g := g) (by omega) (by rw [rf_w_row (by decide), rf_w_row (by decide)]; exact hK) (by simp [rf_w_at])) ?_
  refine ok_step (ps := []) (L' := [some (.ref 94), some (.int (nI g)), some (.int (nI 1)), some (.int x), some (.int (nI 1))]) (st' := [.int (nI 1)]) (σ' := (apt 84 83 0 (rf_w (rf_w (rf_w (rf_w α 83 2 (nI 1)) 83 3 (nI g)) 83 4 (μ 95 (194 + 8 * g))) 83 0 (nI 0)) 0 [11, 10], rf_w (rf_w μ 94 18 (nI 0)) 94 19 (nI g))) (pc' := 43) kX12_voice_40 rfl rfl rf_a0 ?_
  refine ok_if_ne bX12_voice_43 (fun _ => ?_) (fun g43 => absurd g43 ((by decide)))
  refine ok_step (ps := []) (L' := [some (.ref 94), some (.int (nI g)), some (.int (nI 1)), some (.int x), some (.int (nI 1))]) (st' := [.int (nI 1), .int (nI 1)]) (σ' := (apt 84 83 0 (rf_w (rf_w (rf_w (rf_w α 83 2 (nI 1)) 83 3 (nI g)) 83 4 (μ 95 (194 + 8 * g))) 83 0 (nI 0)) 0 [11, 10], rf_w (rf_w μ 94 18 (nI 0)) 94 19 (nI g))) (pc' := 58) kX12_voice_56 rfl rfl rf_a0 ?_
  refine ok_icmp_ne bX12_voice_58 (fun g58 => absurd ((by decide)) g58) (fun _ => ?_)
  refine ok_step (ps := []) (L' := [some (.ref 94), some (.int (nI g)), some (.int (nI 1)), some (.int x), some (.int (nI 1))]) (st' := [.int x, .int (nI 1), .ref 94]) (σ' := (apt 84 83 0 (rf_w (rf_w (rf_w (rf_w α 83 2 (nI 1)) 83 3 (nI g)) 83 4 (μ 95 (194 + 8 * g))) 83 0 (nI 0)) 0 [11, 10], rf_w (rf_w μ 94 18 (nI 0)) 94 19 (nI g))) (pc' := 65) kX12_voice_61 rfl rfl rf_a0 ?_
  refine ok_V (As := [.int (nI 1), .int x]) (b := 94) (st := []) mkX12_weighsOf qX12_voice_65 rfl (rc_94) rfl rfl rfl rfl (Nat.le_of_ble_eq_true rfl) (mv1_1_1 (ν := rf_w (rf_w μ 94 18 (nI 0)) 94 19 (nI g)) (mn := (μ 95 (194 + 8 * g))) (b := 0) (g := g) (by rw [rf_w_row (by decide), rf_w_row (by decide)]; exact hK) (by rw [rf_w_row (by decide), rf_w_row (by decide)]) (by simp [rf_w_at]) (by omega) (by simp [rf_w_at]) (by decide)) ?_
  refine ok_goto bX12_voice_68 ?_
  refine ok_reti eX12_voice_93 rfl ?_
  exact ⟨rfl, _, rfl, J.apt (α := α) (μ := μ) hJ.vo0 (by simp [rf_w_at]) (by decide)⟩
theorem c_hear_1_2 {g : Nat} {x : Int32} (hR : Rl 1 α (μ 95)) (hg : g < 16) (hK : μ 95 (190 + 8 * g) = nI 1) : rf_At (rf_T Ln xs) MX9_hear 25 0 ([some (.ref 83), some (.ref 10), some (.int (nI g)), some (.int (nI 2)), some (.int x)], [], 108, (α, μ)) (some (.int (x - (μ 95 (194 + 8 * g))))) 108 (apt 84 83 0 (rf_w (rf_w (rf_w (rf_w α 83 2 (nI 1)) 83 3 (nI g)) 83 4 (μ 95 (194 + 8 * g))) 83 0 (nI 0)) 0 [12], μ) := by
  refine rf_pa ?_
  refine ok_step (ps := [rf_in (nI g) 16, rf_in (nI g) 16]) (L' := [some (.ref 83), some (.ref 10), some (.int (nI g)), some (.int (nI 2)), some (.int x)]) (st' := [.int (nI 0), .int x, .int (nI 2), .int ((rf_w (rf_w (rf_w (rf_w α 83 2 (α 11 ((nI g).toNatClampNeg))) 83 3 (nI g)) 83 4 ((rf_w (rf_w α 83 2 (α 11 ((nI g).toNatClampNeg))) 83 3 (nI g)) 15 ((nI g).toNatClampNeg))) 83 0 (nI 0)) 83 2), .ref 83]) (σ' := (rf_w (rf_w (rf_w (rf_w α 83 2 (α 11 ((nI g).toNatClampNeg))) 83 3 (nI g)) 83 4 ((rf_w (rf_w α 83 2 (α 11 ((nI g).toNatClampNeg))) 83 3 (nI g)) 15 ((nI g).toNatClampNeg))) 83 0 (nI 0), μ)) (pc' := 39) kX9_hear_0 rfl rfl (rf_a1 (rf_in_n (a := g) rfl (by omega)) (rf_a1 (rf_in_n (a := g) rfl (by omega)) rf_a0)) ?_
  try rw [(show (nI g).toNatClampNeg = g from rf_cl_n rfl (by omega))]
  try rw [(show α 11 g = μ 95 (190 + 8 * g) from rl_10 hR (i := g) (by omega) (by omega))]
  try rw [hK]
  try rw [(show (nI g).toNatClampNeg = g from rf_cl_n rfl (by omega))]
  try rw [(show (rf_w (rf_w α 83 2 (nI 1)) 83 3 (nI g)) 15 g = (rf_w α 83 2 (nI 1)) 15 g from by rw [rf_w_at, if_neg (fun h => absurd h.1 (by decide))])]
  try rw [(show (rf_w α 83 2 (nI 1)) 15 g = α 15 g from by rw [rf_w_at, if_neg (fun h => absurd h.1 (by decide))])]
  try rw [(show α 15 g = μ 95 (194 + 8 * g) from rl_14 hR (i := g) (by omega) (by omega))]
  try rw [(show (rf_w (rf_w (rf_w (rf_w α 83 2 (nI 1)) 83 3 (nI g)) 83 4 (μ 95 (194 + 8 * g))) 83 0 (nI 0)) 83 2 = (rf_w (rf_w (rf_w α 83 2 (nI 1)) 83 3 (nI g)) 83 4 (μ 95 (194 + 8 * g))) 83 2 from by rw [rf_w_at, if_neg (fun h => absurd h.2 (by omega))])]
  try rw [(show (rf_w (rf_w (rf_w α 83 2 (nI 1)) 83 3 (nI g)) 83 4 (μ 95 (194 + 8 * g))) 83 2 = (rf_w (rf_w α 83 2 (nI 1)) 83 3 (nI g)) 83 2 from by rw [rf_w_at, if_neg (fun h => absurd h.2 (by omega))])]
  try rw [(show (rf_w (rf_w α 83 2 (nI 1)) 83 3 (nI g)) 83 2 = (rf_w α 83 2 (nI 1)) 83 2 from by rw [rf_w_at, if_neg (fun h => absurd h.2 (by omega))])]
  try rw [(show (rf_w α 83 2 (nI 1)) 83 2 = (nI 1) from by rw [rf_w_at, if_pos ⟨rfl, rfl⟩])]
  refine ok_V (As := [.int (nI 1), .int (nI 2), .int x, .int (nI 0)]) (b := 83) (st := []) mkX9_speak qX9_hear_39 rfl (rc_83) rfl rfl rfl rfl (Nat.le_of_ble_eq_true rfl) (cv1_2_1 (α := rf_w (rf_w (rf_w (rf_w α 83 2 (nI 1)) 83 3 (nI g)) 83 4 (μ 95 (194 + 8 * g))) 83 0 (nI 0)) (nu := nI g) (mn := (μ 95 (194 + 8 * g))) (b := 0) (dep := 0) (by simp [rf_w_at]) (by simp [rf_w_at]) (by simp [rf_w_at]) (by simp [rf_w_at]) (by decide) (by decide)) ?_
  refine ok_reti eX9_hear_42 rfl ?_
  exact ⟨rfl, rfl⟩
theorem op_voice_1_2 {g : Nat} {x : Int32} (hJ : J α μ) (hg : g < cn (μ 95) 4) (hK : μ 95 (190 + 8 * g) = nI 1) : Op (rf_T Ln xs) MX11_voice MX12_voice [some (.ref 0), some (.int (nI g)), some (.int (nI 2)), some (.int x)] [some (.ref 94), some (.int (nI g)), some (.int (nI 2)), some (.int x), none] α μ := by
  have hR := hJ.1.1.1
  have hI := hJ.2
  have b0 := hI.le0
  have b1 := hI.le1
  have b2 := hI.le2
  have b3 := hI.le3
  have b4 := hI.le4
  have b5 := hI.le5
  have b6 := hI.le6
  have b8 := hI.le8
  have b9 := hI.le9
  have b11 := hI.le11
  have b12 := hI.le12
  refine ok_step (ps := []) (L' := [some (.ref 0), some (.int (nI g)), some (.int (nI 2)), some (.int x)]) (st' := [.int (nI g), .ref 0]) (σ' := (α, μ)) (pc' := 2) kX11_voice_0 rfl rfl rf_a0 ?_
  refine ok_V (As := [.int (nI g)]) (b := 0) (st := []) mkX11_isGroup qX11_voice_2 rfl (rc_0) rfl rfl rfl rfl (Nat.le_of_ble_eq_true rfl) (c_isGroup hR) ?_
  refine ok_if_eq bX11_voice_5 (fun h5 => absurd h5 ((bI_n0.mpr (wi_in hI.at4 hg (by omega))))) (fun _ => ?_)
  refine ok_step (ps := []) (L' := [some (.ref 0), some (.int (nI g)), some (.int (nI 2)), some (.int x)]) (st' := [.int (nI 3), .int (nI 0), .int (nI 2)]) (σ' := (α, μ)) (pc' := 11) kX11_voice_8 rfl rfl rf_a0 ?_
  refine ok_S (As := [.int (nI 2), .int (nI 0), .int (nI 3)]) (st := []) mkX11_within qX11_voice_11 rfl rfl rfl rfl rfl (Nat.le_of_ble_eq_true rfl) (c_within) ?_
  rw [show bI (wi (nI 2) (nI 0) (nI 3)) = nI 1 from rfl]
  refine ok_if_ne bX11_voice_14 (fun _ => ?_) (fun h14 => absurd h14 ((by decide)))
  refine ok_step (ps := []) (L' := [some (.ref 0), some (.int (nI g)), some (.int (nI 2)), some (.int x)]) (st' := [.int x, .int (nI 2), .int (nI g), .ref 10, .ref 83]) (σ' := (α, μ)) (pc' := 38) kX11_voice_24 rfl rfl rf_a0 ?_
  refine ok_V (As := [.ref 10, .int (nI g), .int (nI 2), .int x]) (b := 83) (st := []) mkX9_hear qX11_voice_38 rfl (rc_83) rfl rfl rfl rfl (Nat.le_of_ble_eq_true rfl) (c_hear_1_2 hR (by omega) hK) ?_
  refine ok_reti eX11_voice_41 rfl ?_
  refine ⟨rfl, _, rfl, ?_⟩
  refine ok_step (ps := []) (L' := [some (.ref 94), some (.int (nI g)), some (.int (nI 2)), some (.int x), none]) (st' := [.int (nI g), .ref 94]) (σ' := (apt 84 83 0 (rf_w (rf_w (rf_w (rf_w α 83 2 (nI 1)) 83 3 (nI g)) 83 4 (μ 95 (194 + 8 * g))) 83 0 (nI 0)) 0 [12], μ)) (pc' := 2) kX12_voice_0 rfl rfl rf_a0 ?_
  refine ok_V (As := [.int (nI g)]) (b := 94) (st := []) mkX12_isGroup qX12_voice_2 rfl (rc_94) rfl rfl rfl rfl (Nat.le_of_ble_eq_true rfl) (m_isGroup) ?_
  refine ok_if_eq bX12_voice_5 (fun g5 => absurd g5 ((bI_n0.mpr (wi_in hI.at4 hg (by omega))))) (fun _ => ?_)
  refine ok_step (ps := []) (L' := [some (.ref 94), some (.int (nI g)), some (.int (nI 2)), some (.int x), none]) (st' := [.long (lN 3), .long (lN 0), .long ((nI 2).toInt64)]) (σ' := (apt 84 83 0 (rf_w (rf_w (rf_w (rf_w α 83 2 (nI 1)) 83 3 (nI g)) 83 4 (μ 95 (194 + 8 * g))) 83 0 (nI 0)) 0 [12], μ)) (pc' := 14) kX12_voice_8 rfl rfl rf_a0 ?_
  refine ok_S (As := [.long ((nI 2).toInt64), .long (lN 0), .long (lN 3)]) (st := []) mkX12_in qX12_voice_14 rfl rfl rfl rfl rfl (Nat.le_of_ble_eq_true rfl) (m_in) ?_
  rw [show wl ((nI 2).toInt64) (lN 0) (lN 3) = wi (nI 2) (nI 0) (nI 3) from wl_of rfl (nI_l (by decide)).symm (nI_l (by decide)).symm, show bI (wi (nI 2) (nI 0) (nI 3)) = nI 1 from rfl]
  refine ok_if_ne bX12_voice_17 (fun _ => ?_) (fun g17 => absurd g17 ((by decide)))
  refine ok_step (ps := []) (L' := [some (.ref 94), some (.int (nI g)), some (.int (nI 2)), some (.int x), none]) (st' := [.ref 94]) (σ' := (apt 84 83 0 (rf_w (rf_w (rf_w (rf_w α 83 2 (nI 1)) 83 3 (nI g)) 83 4 (μ 95 (194 + 8 * g))) 83 0 (nI 0)) 0 [12], rf_w (rf_w μ 94 18 (nI 0)) 94 19 (nI g))) (pc' := 37) kX12_voice_26 rfl rfl rf_a0 ?_
  refine ok_V (As := []) (b := 94) (st := []) mkX12_own qX12_voice_37 rfl (rc_94) rfl rfl rfl rfl (Nat.le_of_ble_eq_true rfl) (m_own (K := 1) (g := g) (by omega) (by rw [rf_w_row (by decide), rf_w_row (by decide)]; exact hK) (by simp [rf_w_at])) ?_
  refine ok_step (ps := []) (L' := [some (.ref 94), some (.int (nI g)), some (.int (nI 2)), some (.int x), some (.int (nI 1))]) (st' := [.int (nI 2)]) (σ' := (apt 84 83 0 (rf_w (rf_w (rf_w (rf_w α 83 2 (nI 1)) 83 3 (nI g)) 83 4 (μ 95 (194 + 8 * g))) 83 0 (nI 0)) 0 [12], rf_w (rf_w μ 94 18 (nI 0)) 94 19 (nI g))) (pc' := 43) kX12_voice_40 rfl rfl rf_a0 ?_
  refine ok_if_ne bX12_voice_43 (fun _ => ?_) (fun g43 => absurd g43 ((by decide)))
  refine ok_step (ps := []) (L' := [some (.ref 94), some (.int (nI g)), some (.int (nI 2)), some (.int x), some (.int (nI 1))]) (st' := [.int (nI 1), .int (nI 2)]) (σ' := (apt 84 83 0 (rf_w (rf_w (rf_w (rf_w α 83 2 (nI 1)) 83 3 (nI g)) 83 4 (μ 95 (194 + 8 * g))) 83 0 (nI 0)) 0 [12], rf_w (rf_w μ 94 18 (nI 0)) 94 19 (nI g))) (pc' := 58) kX12_voice_56 rfl rfl rf_a0 ?_
  refine ok_icmp_ne bX12_voice_58 (fun _ => ?_) (fun g58 => absurd g58 ((by decide)))
  refine ok_step (ps := []) (L' := [some (.ref 94), some (.int (nI g)), some (.int (nI 2)), some (.int x), some (.int (nI 1))]) (st' := [.int (nI 2), .int (nI 2)]) (σ' := (apt 84 83 0 (rf_w (rf_w (rf_w (rf_w α 83 2 (nI 1)) 83 3 (nI g)) 83 4 (μ 95 (194 + 8 * g))) 83 0 (nI 0)) 0 [12], rf_w (rf_w μ 94 18 (nI 0)) 94 19 (nI g))) (pc' := 73) kX12_voice_71 rfl rfl rf_a0 ?_
  refine ok_icmp_ne bX12_voice_73 (fun g73 => absurd ((by decide)) g73) (fun _ => ?_)
  refine ok_step (ps := []) (L' := [some (.ref 94), some (.int (nI g)), some (.int (nI 2)), some (.int x), some (.int (nI 1))]) (st' := [.int x, .int (nI 1), .ref 94]) (σ' := (apt 84 83 0 (rf_w (rf_w (rf_w (rf_w α 83 2 (nI 1)) 83 3 (nI g)) 83 4 (μ 95 (194 + 8 * g))) 83 0 (nI 0)) 0 [12], rf_w (rf_w μ 94 18 (nI 0)) 94 19 (nI g))) (pc' := 80) kX12_voice_76 rfl rfl rf_a0 ?_
  refine ok_V (As := [.int (nI 1), .int x]) (b := 94) (st := []) mkX12_tellsOf qX12_voice_80 rfl (rc_94) rfl rfl rfl rfl (Nat.le_of_ble_eq_true rfl) (mv1_2_1 (ν := rf_w (rf_w μ 94 18 (nI 0)) 94 19 (nI g)) (mn := (μ 95 (194 + 8 * g))) (b := 0) (g := g) (by rw [rf_w_row (by decide), rf_w_row (by decide)]; exact hK) (by rw [rf_w_row (by decide), rf_w_row (by decide)]) (by simp [rf_w_at]) (by omega) (by simp [rf_w_at]) (by decide)) ?_
  refine ok_goto bX12_voice_83 ?_
  refine ok_reti eX12_voice_93 rfl ?_
  exact ⟨rfl, _, rfl, J.apt (α := α) (μ := μ) hJ.vo0 (by simp [rf_w_at]) (by decide)⟩
theorem c_hear_1_3 {g : Nat} {x : Int32} (hR : Rl 1 α (μ 95)) (hg : g < 16) (hK : μ 95 (190 + 8 * g) = nI 1) : rf_At (rf_T Ln xs) MX9_hear 25 0 ([some (.ref 83), some (.ref 10), some (.int (nI g)), some (.int (nI 3)), some (.int x)], [], 108, (α, μ)) (some (.int ((((x + (nI g)) * nI 2) ^^^ (x - (μ 95 (194 + 8 * g)))) + nI 1))) 108 (apt 84 83 0 (rf_w (rf_w (rf_w (rf_w α 83 2 (nI 1)) 83 3 (nI g)) 83 4 (μ 95 (194 + 8 * g))) 83 0 (nI 0)) 0 [20, 13, 11, 10, 12], μ) := by
  refine rf_pa ?_
  refine ok_step (ps := [rf_in (nI g) 16, rf_in (nI g) 16]) (L' := [some (.ref 83), some (.ref 10), some (.int (nI g)), some (.int (nI 3)), some (.int x)]) (st' := [.int (nI 0), .int x, .int (nI 3), .int ((rf_w (rf_w (rf_w (rf_w α 83 2 (α 11 ((nI g).toNatClampNeg))) 83 3 (nI g)) 83 4 ((rf_w (rf_w α 83 2 (α 11 ((nI g).toNatClampNeg))) 83 3 (nI g)) 15 ((nI g).toNatClampNeg))) 83 0 (nI 0)) 83 2), .ref 83]) (σ' := (rf_w (rf_w (rf_w (rf_w α 83 2 (α 11 ((nI g).toNatClampNeg))) 83 3 (nI g)) 83 4 ((rf_w (rf_w α 83 2 (α 11 ((nI g).toNatClampNeg))) 83 3 (nI g)) 15 ((nI g).toNatClampNeg))) 83 0 (nI 0), μ)) (pc' := 39) kX9_hear_0 rfl rfl (rf_a1 (rf_in_n (a := g) rfl (by omega)) (rf_a1 (rf_in_n (a := g) rfl (by omega)) rf_a0)) ?_
  try rw [(show (nI g).toNatClampNeg = g from rf_cl_n rfl (by omega))]
  try rw [(show α 11 g = μ 95 (190 + 8 * g) from rl_10 hR (i := g) (by omega) (by omega))]
  try rw [hK]
  try rw [(show (nI g).toNatClampNeg = g from rf_cl_n rfl (by omega))]
  try rw [(show (rf_w (rf_w α 83 2 (nI 1)) 83 3 (nI g)) 15 g = (rf_w α 83 2 (nI 1)) 15 g from by rw [rf_w_at, if_neg (fun h => absurd h.1 (by decide))])]
  try rw [(show (rf_w α 83 2 (nI 1)) 15 g = α 15 g from by rw [rf_w_at, if_neg (fun h => absurd h.1 (by decide))])]
  try rw [(show α 15 g = μ 95 (194 + 8 * g) from rl_14 hR (i := g) (by omega) (by omega))]
  try rw [(show (rf_w (rf_w (rf_w (rf_w α 83 2 (nI 1)) 83 3 (nI g)) 83 4 (μ 95 (194 + 8 * g))) 83 0 (nI 0)) 83 2 = (rf_w (rf_w (rf_w α 83 2 (nI 1)) 83 3 (nI g)) 83 4 (μ 95 (194 + 8 * g))) 83 2 from by rw [rf_w_at, if_neg (fun h => absurd h.2 (by omega))])]
  try rw [(show (rf_w (rf_w (rf_w α 83 2 (nI 1)) 83 3 (nI g)) 83 4 (μ 95 (194 + 8 * g))) 83 2 = (rf_w (rf_w α 83 2 (nI 1)) 83 3 (nI g)) 83 2 from by rw [rf_w_at, if_neg (fun h => absurd h.2 (by omega))])]
  try rw [(show (rf_w (rf_w α 83 2 (nI 1)) 83 3 (nI g)) 83 2 = (rf_w α 83 2 (nI 1)) 83 2 from by rw [rf_w_at, if_neg (fun h => absurd h.2 (by omega))])]
  try rw [(show (rf_w α 83 2 (nI 1)) 83 2 = (nI 1) from by rw [rf_w_at, if_pos ⟨rfl, rfl⟩])]
  refine ok_V (As := [.int (nI 1), .int (nI 3), .int x, .int (nI 0)]) (b := 83) (st := []) mkX9_speak qX9_hear_39 rfl (rc_83) rfl rfl rfl rfl (Nat.le_of_ble_eq_true rfl) (cv1_3_1 (α := rf_w (rf_w (rf_w (rf_w α 83 2 (nI 1)) 83 3 (nI g)) 83 4 (μ 95 (194 + 8 * g))) 83 0 (nI 0)) (nu := nI g) (mn := (μ 95 (194 + 8 * g))) (b := 0) (dep := 0) (by simp [rf_w_at]) (by simp [rf_w_at]) (by simp [rf_w_at]) (by simp [rf_w_at]) (by decide) (by decide)) ?_
  refine ok_reti eX9_hear_42 rfl ?_
  exact ⟨rfl, rfl⟩
theorem op_voice_1_3 {g : Nat} {x : Int32} (hJ : J α μ) (hg : g < cn (μ 95) 4) (hK : μ 95 (190 + 8 * g) = nI 1) : Op (rf_T Ln xs) MX11_voice MX12_voice [some (.ref 0), some (.int (nI g)), some (.int (nI 3)), some (.int x)] [some (.ref 94), some (.int (nI g)), some (.int (nI 3)), some (.int x), none] α μ := by
  have hR := hJ.1.1.1
  have hI := hJ.2
  have b0 := hI.le0
  have b1 := hI.le1
  have b2 := hI.le2
  have b3 := hI.le3
  have b4 := hI.le4
  have b5 := hI.le5
  have b6 := hI.le6
  have b8 := hI.le8
  have b9 := hI.le9
  have b11 := hI.le11
  have b12 := hI.le12
  refine ok_step (ps := []) (L' := [some (.ref 0), some (.int (nI g)), some (.int (nI 3)), some (.int x)]) (st' := [.int (nI g), .ref 0]) (σ' := (α, μ)) (pc' := 2) kX11_voice_0 rfl rfl rf_a0 ?_
  refine ok_V (As := [.int (nI g)]) (b := 0) (st := []) mkX11_isGroup qX11_voice_2 rfl (rc_0) rfl rfl rfl rfl (Nat.le_of_ble_eq_true rfl) (c_isGroup hR) ?_
  refine ok_if_eq bX11_voice_5 (fun h5 => absurd h5 ((bI_n0.mpr (wi_in hI.at4 hg (by omega))))) (fun _ => ?_)
  refine ok_step (ps := []) (L' := [some (.ref 0), some (.int (nI g)), some (.int (nI 3)), some (.int x)]) (st' := [.int (nI 3), .int (nI 0), .int (nI 3)]) (σ' := (α, μ)) (pc' := 11) kX11_voice_8 rfl rfl rf_a0 ?_
  refine ok_S (As := [.int (nI 3), .int (nI 0), .int (nI 3)]) (st := []) mkX11_within qX11_voice_11 rfl rfl rfl rfl rfl (Nat.le_of_ble_eq_true rfl) (c_within) ?_
  rw [show bI (wi (nI 3) (nI 0) (nI 3)) = nI 1 from rfl]
  refine ok_if_ne bX11_voice_14 (fun _ => ?_) (fun h14 => absurd h14 ((by decide)))
  refine ok_step (ps := []) (L' := [some (.ref 0), some (.int (nI g)), some (.int (nI 3)), some (.int x)]) (st' := [.int x, .int (nI 3), .int (nI g), .ref 10, .ref 83]) (σ' := (α, μ)) (pc' := 38) kX11_voice_24 rfl rfl rf_a0 ?_
  refine ok_V (As := [.ref 10, .int (nI g), .int (nI 3), .int x]) (b := 83) (st := []) mkX9_hear qX11_voice_38 rfl (rc_83) rfl rfl rfl rfl (Nat.le_of_ble_eq_true rfl) (c_hear_1_3 hR (by omega) hK) ?_
  refine ok_reti eX11_voice_41 rfl ?_
  refine ⟨rfl, _, rfl, ?_⟩
  refine ok_step (ps := []) (L' := [some (.ref 94), some (.int (nI g)), some (.int (nI 3)), some (.int x), none]) (st' := [.int (nI g), .ref 94]) (σ' := (apt 84 83 0 (rf_w (rf_w (rf_w (rf_w α 83 2 (nI 1)) 83 3 (nI g)) 83 4 (μ 95 (194 + 8 * g))) 83 0 (nI 0)) 0 [20, 13, 11, 10, 12], μ)) (pc' := 2) kX12_voice_0 rfl rfl rf_a0 ?_
  refine ok_V (As := [.int (nI g)]) (b := 94) (st := []) mkX12_isGroup qX12_voice_2 rfl (rc_94) rfl rfl rfl rfl (Nat.le_of_ble_eq_true rfl) (m_isGroup) ?_
  refine ok_if_eq bX12_voice_5 (fun g5 => absurd g5 ((bI_n0.mpr (wi_in hI.at4 hg (by omega))))) (fun _ => ?_)
  refine ok_step (ps := []) (L' := [some (.ref 94), some (.int (nI g)), some (.int (nI 3)), some (.int x), none]) (st' := [.long (lN 3), .long (lN 0), .long ((nI 3).toInt64)]) (σ' := (apt 84 83 0 (rf_w (rf_w (rf_w (rf_w α 83 2 (nI 1)) 83 3 (nI g)) 83 4 (μ 95 (194 + 8 * g))) 83 0 (nI 0)) 0 [20, 13, 11, 10, 12], μ)) (pc' := 14) kX12_voice_8 rfl rfl rf_a0 ?_
  refine ok_S (As := [.long ((nI 3).toInt64), .long (lN 0), .long (lN 3)]) (st := []) mkX12_in qX12_voice_14 rfl rfl rfl rfl rfl (Nat.le_of_ble_eq_true rfl) (m_in) ?_
  rw [show wl ((nI 3).toInt64) (lN 0) (lN 3) = wi (nI 3) (nI 0) (nI 3) from wl_of rfl (nI_l (by decide)).symm (nI_l (by decide)).symm, show bI (wi (nI 3) (nI 0) (nI 3)) = nI 1 from rfl]
  refine ok_if_ne bX12_voice_17 (fun _ => ?_) (fun g17 => absurd g17 ((by decide)))
  refine ok_step (ps := []) (L' := [some (.ref 94), some (.int (nI g)), some (.int (nI 3)), some (.int x), none]) (st' := [.ref 94]) (σ' := (apt 84 83 0 (rf_w (rf_w (rf_w (rf_w α 83 2 (nI 1)) 83 3 (nI g)) 83 4 (μ 95 (194 + 8 * g))) 83 0 (nI 0)) 0 [20, 13, 11, 10, 12], rf_w (rf_w μ 94 18 (nI 0)) 94 19 (nI g))) (pc' := 37) kX12_voice_26 rfl rfl rf_a0 ?_
  refine ok_V (As := []) (b := 94) (st := []) mkX12_own qX12_voice_37 rfl (rc_94) rfl rfl rfl rfl (Nat.le_of_ble_eq_true rfl) (m_own (K := 1) (g := g) (by omega) (by rw [rf_w_row (by decide), rf_w_row (by decide)]; exact hK) (by simp [rf_w_at])) ?_
  refine ok_step (ps := []) (L' := [some (.ref 94), some (.int (nI g)), some (.int (nI 3)), some (.int x), some (.int (nI 1))]) (st' := [.int (nI 3)]) (σ' := (apt 84 83 0 (rf_w (rf_w (rf_w (rf_w α 83 2 (nI 1)) 83 3 (nI g)) 83 4 (μ 95 (194 + 8 * g))) 83 0 (nI 0)) 0 [20, 13, 11, 10, 12], rf_w (rf_w μ 94 18 (nI 0)) 94 19 (nI g))) (pc' := 43) kX12_voice_40 rfl rfl rf_a0 ?_
  refine ok_if_ne bX12_voice_43 (fun _ => ?_) (fun g43 => absurd g43 ((by decide)))
  refine ok_step (ps := []) (L' := [some (.ref 94), some (.int (nI g)), some (.int (nI 3)), some (.int x), some (.int (nI 1))]) (st' := [.int (nI 1), .int (nI 3)]) (σ' := (apt 84 83 0 (rf_w (rf_w (rf_w (rf_w α 83 2 (nI 1)) 83 3 (nI g)) 83 4 (μ 95 (194 + 8 * g))) 83 0 (nI 0)) 0 [20, 13, 11, 10, 12], rf_w (rf_w μ 94 18 (nI 0)) 94 19 (nI g))) (pc' := 58) kX12_voice_56 rfl rfl rf_a0 ?_
  refine ok_icmp_ne bX12_voice_58 (fun _ => ?_) (fun g58 => absurd g58 ((by decide)))
  refine ok_step (ps := []) (L' := [some (.ref 94), some (.int (nI g)), some (.int (nI 3)), some (.int x), some (.int (nI 1))]) (st' := [.int (nI 2), .int (nI 3)]) (σ' := (apt 84 83 0 (rf_w (rf_w (rf_w (rf_w α 83 2 (nI 1)) 83 3 (nI g)) 83 4 (μ 95 (194 + 8 * g))) 83 0 (nI 0)) 0 [20, 13, 11, 10, 12], rf_w (rf_w μ 94 18 (nI 0)) 94 19 (nI g))) (pc' := 73) kX12_voice_71 rfl rfl rf_a0 ?_
  refine ok_icmp_ne bX12_voice_73 (fun _ => ?_) (fun g73 => absurd g73 ((by decide)))
  refine ok_step (ps := []) (L' := [some (.ref 94), some (.int (nI g)), some (.int (nI 3)), some (.int x), some (.int (nI 1))]) (st' := [.int x, .int (nI 1), .ref 94]) (σ' := (apt 84 83 0 (rf_w (rf_w (rf_w (rf_w α 83 2 (nI 1)) 83 3 (nI g)) 83 4 (μ 95 (194 + 8 * g))) 83 0 (nI 0)) 0 [20, 13, 11, 10, 12], rf_w (rf_w μ 94 18 (nI 0)) 94 19 (nI g))) (pc' := 90) kX12_voice_86 rfl rfl rf_a0 ?_
  refine ok_V (As := [.int (nI 1), .int x]) (b := 94) (st := []) mkX12_paysOf qX12_voice_90 rfl (rc_94) rfl rfl rfl rfl (Nat.le_of_ble_eq_true rfl) (mv1_3_1 (ν := rf_w (rf_w μ 94 18 (nI 0)) 94 19 (nI g)) (mn := (μ 95 (194 + 8 * g))) (b := 0) (g := g) (by rw [rf_w_row (by decide), rf_w_row (by decide)]; exact hK) (by rw [rf_w_row (by decide), rf_w_row (by decide)]) (by simp [rf_w_at]) (by omega) (by simp [rf_w_at]) (by decide)) ?_
  refine ok_reti eX12_voice_93 rfl ?_
  exact ⟨rfl, _, rfl, J.apt (α := α) (μ := μ) hJ.vo0 (by simp [rf_w_at]) (by decide)⟩
theorem c_hear_2_0 {g : Nat} {x : Int32} (hR : Rl 1 α (μ 95)) (hg : g < 16) (hK : μ 95 (190 + 8 * g) = nI 2) : rf_At (rf_T Ln xs) MX9_hear 25 0 ([some (.ref 83), some (.ref 10), some (.int (nI g)), some (.int (nI 0)), some (.int x)], [], 108, (α, μ)) (some (.int (x + (nI g)))) 108 (apt 84 83 0 (rf_w (rf_w (rf_w (rf_w α 83 2 (nI 2)) 83 3 (nI g)) 83 4 (μ 95 (194 + 8 * g))) 83 0 (nI 0)) 0 [10], μ) := by
  refine rf_pa ?_
  refine ok_step (ps := [rf_in (nI g) 16, rf_in (nI g) 16]) (L' := [some (.ref 83), some (.ref 10), some (.int (nI g)), some (.int (nI 0)), some (.int x)]) (st' := [.int (nI 0), .int x, .int (nI 0), .int ((rf_w (rf_w (rf_w (rf_w α 83 2 (α 11 ((nI g).toNatClampNeg))) 83 3 (nI g)) 83 4 ((rf_w (rf_w α 83 2 (α 11 ((nI g).toNatClampNeg))) 83 3 (nI g)) 15 ((nI g).toNatClampNeg))) 83 0 (nI 0)) 83 2), .ref 83]) (σ' := (rf_w (rf_w (rf_w (rf_w α 83 2 (α 11 ((nI g).toNatClampNeg))) 83 3 (nI g)) 83 4 ((rf_w (rf_w α 83 2 (α 11 ((nI g).toNatClampNeg))) 83 3 (nI g)) 15 ((nI g).toNatClampNeg))) 83 0 (nI 0), μ)) (pc' := 39) kX9_hear_0 rfl rfl (rf_a1 (rf_in_n (a := g) rfl (by omega)) (rf_a1 (rf_in_n (a := g) rfl (by omega)) rf_a0)) ?_
  try rw [(show (nI g).toNatClampNeg = g from rf_cl_n rfl (by omega))]
  try rw [(show α 11 g = μ 95 (190 + 8 * g) from rl_10 hR (i := g) (by omega) (by omega))]
  try rw [hK]
  try rw [(show (nI g).toNatClampNeg = g from rf_cl_n rfl (by omega))]
  try rw [(show (rf_w (rf_w α 83 2 (nI 2)) 83 3 (nI g)) 15 g = (rf_w α 83 2 (nI 2)) 15 g from by rw [rf_w_at, if_neg (fun h => absurd h.1 (by decide))])]
  try rw [(show (rf_w α 83 2 (nI 2)) 15 g = α 15 g from by rw [rf_w_at, if_neg (fun h => absurd h.1 (by decide))])]
  try rw [(show α 15 g = μ 95 (194 + 8 * g) from rl_14 hR (i := g) (by omega) (by omega))]
  try rw [(show (rf_w (rf_w (rf_w (rf_w α 83 2 (nI 2)) 83 3 (nI g)) 83 4 (μ 95 (194 + 8 * g))) 83 0 (nI 0)) 83 2 = (rf_w (rf_w (rf_w α 83 2 (nI 2)) 83 3 (nI g)) 83 4 (μ 95 (194 + 8 * g))) 83 2 from by rw [rf_w_at, if_neg (fun h => absurd h.2 (by omega))])]
  try rw [(show (rf_w (rf_w (rf_w α 83 2 (nI 2)) 83 3 (nI g)) 83 4 (μ 95 (194 + 8 * g))) 83 2 = (rf_w (rf_w α 83 2 (nI 2)) 83 3 (nI g)) 83 2 from by rw [rf_w_at, if_neg (fun h => absurd h.2 (by omega))])]
  try rw [(show (rf_w (rf_w α 83 2 (nI 2)) 83 3 (nI g)) 83 2 = (rf_w α 83 2 (nI 2)) 83 2 from by rw [rf_w_at, if_neg (fun h => absurd h.2 (by omega))])]
  try rw [(show (rf_w α 83 2 (nI 2)) 83 2 = (nI 2) from by rw [rf_w_at, if_pos ⟨rfl, rfl⟩])]
  refine ok_V (As := [.int (nI 2), .int (nI 0), .int x, .int (nI 0)]) (b := 83) (st := []) mkX9_speak qX9_hear_39 rfl (rc_83) rfl rfl rfl rfl (Nat.le_of_ble_eq_true rfl) (cv2_0_2 (α := rf_w (rf_w (rf_w (rf_w α 83 2 (nI 2)) 83 3 (nI g)) 83 4 (μ 95 (194 + 8 * g))) 83 0 (nI 0)) (nu := nI g) (mn := (μ 95 (194 + 8 * g))) (b := 0) (dep := 0) (by simp [rf_w_at]) (by simp [rf_w_at]) (by simp [rf_w_at]) (by simp [rf_w_at]) (by decide) (by decide)) ?_
  refine ok_reti eX9_hear_42 rfl ?_
  exact ⟨rfl, rfl⟩
theorem op_voice_2_0 {g : Nat} {x : Int32} (hJ : J α μ) (hg : g < cn (μ 95) 4) (hK : μ 95 (190 + 8 * g) = nI 2) : Op (rf_T Ln xs) MX11_voice MX12_voice [some (.ref 0), some (.int (nI g)), some (.int (nI 0)), some (.int x)] [some (.ref 94), some (.int (nI g)), some (.int (nI 0)), some (.int x), none] α μ := by
  have hR := hJ.1.1.1
  have hI := hJ.2
  have b0 := hI.le0
  have b1 := hI.le1
  have b2 := hI.le2
  have b3 := hI.le3
  have b4 := hI.le4
  have b5 := hI.le5
  have b6 := hI.le6
  have b8 := hI.le8
  have b9 := hI.le9
  have b11 := hI.le11
  have b12 := hI.le12
  refine ok_step (ps := []) (L' := [some (.ref 0), some (.int (nI g)), some (.int (nI 0)), some (.int x)]) (st' := [.int (nI g), .ref 0]) (σ' := (α, μ)) (pc' := 2) kX11_voice_0 rfl rfl rf_a0 ?_
  refine ok_V (As := [.int (nI g)]) (b := 0) (st := []) mkX11_isGroup qX11_voice_2 rfl (rc_0) rfl rfl rfl rfl (Nat.le_of_ble_eq_true rfl) (c_isGroup hR) ?_
  refine ok_if_eq bX11_voice_5 (fun h5 => absurd h5 ((bI_n0.mpr (wi_in hI.at4 hg (by omega))))) (fun _ => ?_)
  refine ok_step (ps := []) (L' := [some (.ref 0), some (.int (nI g)), some (.int (nI 0)), some (.int x)]) (st' := [.int (nI 3), .int (nI 0), .int (nI 0)]) (σ' := (α, μ)) (pc' := 11) kX11_voice_8 rfl rfl rf_a0 ?_
  refine ok_S (As := [.int (nI 0), .int (nI 0), .int (nI 3)]) (st := []) mkX11_within qX11_voice_11 rfl rfl rfl rfl rfl (Nat.le_of_ble_eq_true rfl) (c_within) ?_
  rw [show bI (wi (nI 0) (nI 0) (nI 3)) = nI 1 from rfl]
  refine ok_if_ne bX11_voice_14 (fun _ => ?_) (fun h14 => absurd h14 ((by decide)))
  refine ok_step (ps := []) (L' := [some (.ref 0), some (.int (nI g)), some (.int (nI 0)), some (.int x)]) (st' := [.int x, .int (nI 0), .int (nI g), .ref 10, .ref 83]) (σ' := (α, μ)) (pc' := 38) kX11_voice_24 rfl rfl rf_a0 ?_
  refine ok_V (As := [.ref 10, .int (nI g), .int (nI 0), .int x]) (b := 83) (st := []) mkX9_hear qX11_voice_38 rfl (rc_83) rfl rfl rfl rfl (Nat.le_of_ble_eq_true rfl) (c_hear_2_0 hR (by omega) hK) ?_
  refine ok_reti eX11_voice_41 rfl ?_
  refine ⟨rfl, _, rfl, ?_⟩
  refine ok_step (ps := []) (L' := [some (.ref 94), some (.int (nI g)), some (.int (nI 0)), some (.int x), none]) (st' := [.int (nI g), .ref 94]) (σ' := (apt 84 83 0 (rf_w (rf_w (rf_w (rf_w α 83 2 (nI 2)) 83 3 (nI g)) 83 4 (μ 95 (194 + 8 * g))) 83 0 (nI 0)) 0 [10], μ)) (pc' := 2) kX12_voice_0 rfl rfl rf_a0 ?_
  refine ok_V (As := [.int (nI g)]) (b := 94) (st := []) mkX12_isGroup qX12_voice_2 rfl (rc_94) rfl rfl rfl rfl (Nat.le_of_ble_eq_true rfl) (m_isGroup) ?_
  refine ok_if_eq bX12_voice_5 (fun g5 => absurd g5 ((bI_n0.mpr (wi_in hI.at4 hg (by omega))))) (fun _ => ?_)
  refine ok_step (ps := []) (L' := [some (.ref 94), some (.int (nI g)), some (.int (nI 0)), some (.int x), none]) (st' := [.long (lN 3), .long (lN 0), .long ((nI 0).toInt64)]) (σ' := (apt 84 83 0 (rf_w (rf_w (rf_w (rf_w α 83 2 (nI 2)) 83 3 (nI g)) 83 4 (μ 95 (194 + 8 * g))) 83 0 (nI 0)) 0 [10], μ)) (pc' := 14) kX12_voice_8 rfl rfl rf_a0 ?_
  refine ok_S (As := [.long ((nI 0).toInt64), .long (lN 0), .long (lN 3)]) (st := []) mkX12_in qX12_voice_14 rfl rfl rfl rfl rfl (Nat.le_of_ble_eq_true rfl) (m_in) ?_
  rw [show wl ((nI 0).toInt64) (lN 0) (lN 3) = wi (nI 0) (nI 0) (nI 3) from wl_of rfl (nI_l (by decide)).symm (nI_l (by decide)).symm, show bI (wi (nI 0) (nI 0) (nI 3)) = nI 1 from rfl]
  refine ok_if_ne bX12_voice_17 (fun _ => ?_) (fun g17 => absurd g17 ((by decide)))
  refine ok_step (ps := []) (L' := [some (.ref 94), some (.int (nI g)), some (.int (nI 0)), some (.int x), none]) (st' := [.ref 94]) (σ' := (apt 84 83 0 (rf_w (rf_w (rf_w (rf_w α 83 2 (nI 2)) 83 3 (nI g)) 83 4 (μ 95 (194 + 8 * g))) 83 0 (nI 0)) 0 [10], rf_w (rf_w μ 94 18 (nI 0)) 94 19 (nI g))) (pc' := 37) kX12_voice_26 rfl rfl rf_a0 ?_
  refine ok_V (As := []) (b := 94) (st := []) mkX12_own qX12_voice_37 rfl (rc_94) rfl rfl rfl rfl (Nat.le_of_ble_eq_true rfl) (m_own (K := 2) (g := g) (by omega) (by rw [rf_w_row (by decide), rf_w_row (by decide)]; exact hK) (by simp [rf_w_at])) ?_
  refine ok_step (ps := []) (L' := [some (.ref 94), some (.int (nI g)), some (.int (nI 0)), some (.int x), some (.int (nI 2))]) (st' := [.int (nI 0)]) (σ' := (apt 84 83 0 (rf_w (rf_w (rf_w (rf_w α 83 2 (nI 2)) 83 3 (nI g)) 83 4 (μ 95 (194 + 8 * g))) 83 0 (nI 0)) 0 [10], rf_w (rf_w μ 94 18 (nI 0)) 94 19 (nI g))) (pc' := 43) kX12_voice_40 rfl rfl rf_a0 ?_
  refine ok_if_ne bX12_voice_43 (fun g43 => absurd ((by decide)) g43) (fun _ => ?_)
  refine ok_step (ps := []) (L' := [some (.ref 94), some (.int (nI g)), some (.int (nI 0)), some (.int x), some (.int (nI 2))]) (st' := [.int x, .int (nI 2), .ref 94]) (σ' := (apt 84 83 0 (rf_w (rf_w (rf_w (rf_w α 83 2 (nI 2)) 83 3 (nI g)) 83 4 (μ 95 (194 + 8 * g))) 83 0 (nI 0)) 0 [10], rf_w (rf_w μ 94 18 (nI 0)) 94 19 (nI g))) (pc' := 50) kX12_voice_46 rfl rfl rf_a0 ?_
  refine ok_V (As := [.int (nI 2), .int x]) (b := 94) (st := []) mkX12_goes qX12_voice_50 rfl (rc_94) rfl rfl rfl rfl (Nat.le_of_ble_eq_true rfl) (mv2_0_2 (ν := rf_w (rf_w μ 94 18 (nI 0)) 94 19 (nI g)) (mn := (μ 95 (194 + 8 * g))) (b := 0) (g := g) (by rw [rf_w_row (by decide), rf_w_row (by decide)]; exact hK) (by rw [rf_w_row (by decide), rf_w_row (by decide)]) (by simp [rf_w_at]) (by omega) (by simp [rf_w_at]) (by decide)) ?_
  refine ok_goto bX12_voice_53 ?_
  refine ok_reti eX12_voice_93 rfl ?_
  exact ⟨rfl, _, rfl, J.apt (α := α) (μ := μ) hJ.vo0 (by simp [rf_w_at]) (by decide)⟩
theorem c_hear_2_1 {g : Nat} {x : Int32} (hR : Rl 1 α (μ 95)) (hg : g < 16) (hK : μ 95 (190 + 8 * g) = nI 2) : rf_At (rf_T Ln xs) MX9_hear 25 0 ([some (.ref 83), some (.ref 10), some (.int (nI g)), some (.int (nI 1)), some (.int x)], [], 108, (α, μ)) (some (.int (((x + (nI g)) * nI 2) - ((nI 1) - (μ 95 (194 + 8 * g)))))) 108 (apt 84 83 0 (rf_w (rf_w (rf_w (rf_w α 83 2 (nI 2)) 83 3 (nI g)) 83 4 (μ 95 (194 + 8 * g))) 83 0 (nI 0)) 0 [30, 11, 10, 12], μ) := by
  refine rf_pa ?_
  refine ok_step (ps := [rf_in (nI g) 16, rf_in (nI g) 16]) (L' := [some (.ref 83), some (.ref 10), some (.int (nI g)), some (.int (nI 1)), some (.int x)]) (st' := [.int (nI 0), .int x, .int (nI 1), .int ((rf_w (rf_w (rf_w (rf_w α 83 2 (α 11 ((nI g).toNatClampNeg))) 83 3 (nI g)) 83 4 ((rf_w (rf_w α 83 2 (α 11 ((nI g).toNatClampNeg))) 83 3 (nI g)) 15 ((nI g).toNatClampNeg))) 83 0 (nI 0)) 83 2), .ref 83]) (σ' := (rf_w (rf_w (rf_w (rf_w α 83 2 (α 11 ((nI g).toNatClampNeg))) 83 3 (nI g)) 83 4 ((rf_w (rf_w α 83 2 (α 11 ((nI g).toNatClampNeg))) 83 3 (nI g)) 15 ((nI g).toNatClampNeg))) 83 0 (nI 0), μ)) (pc' := 39) kX9_hear_0 rfl rfl (rf_a1 (rf_in_n (a := g) rfl (by omega)) (rf_a1 (rf_in_n (a := g) rfl (by omega)) rf_a0)) ?_
  try rw [(show (nI g).toNatClampNeg = g from rf_cl_n rfl (by omega))]
  try rw [(show α 11 g = μ 95 (190 + 8 * g) from rl_10 hR (i := g) (by omega) (by omega))]
  try rw [hK]
  try rw [(show (nI g).toNatClampNeg = g from rf_cl_n rfl (by omega))]
  try rw [(show (rf_w (rf_w α 83 2 (nI 2)) 83 3 (nI g)) 15 g = (rf_w α 83 2 (nI 2)) 15 g from by rw [rf_w_at, if_neg (fun h => absurd h.1 (by decide))])]
  try rw [(show (rf_w α 83 2 (nI 2)) 15 g = α 15 g from by rw [rf_w_at, if_neg (fun h => absurd h.1 (by decide))])]
  try rw [(show α 15 g = μ 95 (194 + 8 * g) from rl_14 hR (i := g) (by omega) (by omega))]
  try rw [(show (rf_w (rf_w (rf_w (rf_w α 83 2 (nI 2)) 83 3 (nI g)) 83 4 (μ 95 (194 + 8 * g))) 83 0 (nI 0)) 83 2 = (rf_w (rf_w (rf_w α 83 2 (nI 2)) 83 3 (nI g)) 83 4 (μ 95 (194 + 8 * g))) 83 2 from by rw [rf_w_at, if_neg (fun h => absurd h.2 (by omega))])]
  try rw [(show (rf_w (rf_w (rf_w α 83 2 (nI 2)) 83 3 (nI g)) 83 4 (μ 95 (194 + 8 * g))) 83 2 = (rf_w (rf_w α 83 2 (nI 2)) 83 3 (nI g)) 83 2 from by rw [rf_w_at, if_neg (fun h => absurd h.2 (by omega))])]
  try rw [(show (rf_w (rf_w α 83 2 (nI 2)) 83 3 (nI g)) 83 2 = (rf_w α 83 2 (nI 2)) 83 2 from by rw [rf_w_at, if_neg (fun h => absurd h.2 (by omega))])]
  try rw [(show (rf_w α 83 2 (nI 2)) 83 2 = (nI 2) from by rw [rf_w_at, if_pos ⟨rfl, rfl⟩])]
  refine ok_V (As := [.int (nI 2), .int (nI 1), .int x, .int (nI 0)]) (b := 83) (st := []) mkX9_speak qX9_hear_39 rfl (rc_83) rfl rfl rfl rfl (Nat.le_of_ble_eq_true rfl) (cv2_1_2 (α := rf_w (rf_w (rf_w (rf_w α 83 2 (nI 2)) 83 3 (nI g)) 83 4 (μ 95 (194 + 8 * g))) 83 0 (nI 0)) (nu := nI g) (mn := (μ 95 (194 + 8 * g))) (b := 0) (dep := 0) (by simp [rf_w_at]) (by simp [rf_w_at]) (by simp [rf_w_at]) (by simp [rf_w_at]) (by decide) (by decide)) ?_
  refine ok_reti eX9_hear_42 rfl ?_
  exact ⟨rfl, rfl⟩
theorem op_voice_2_1 {g : Nat} {x : Int32} (hJ : J α μ) (hg : g < cn (μ 95) 4) (hK : μ 95 (190 + 8 * g) = nI 2) : Op (rf_T Ln xs) MX11_voice MX12_voice [some (.ref 0), some (.int (nI g)), some (.int (nI 1)), some (.int x)] [some (.ref 94), some (.int (nI g)), some (.int (nI 1)), some (.int x), none] α μ := by
  have hR := hJ.1.1.1
  have hI := hJ.2
  have b0 := hI.le0
  have b1 := hI.le1
  have b2 := hI.le2
  have b3 := hI.le3
  have b4 := hI.le4
  have b5 := hI.le5
  have b6 := hI.le6
  have b8 := hI.le8
  have b9 := hI.le9
  have b11 := hI.le11
  have b12 := hI.le12
  refine ok_step (ps := []) (L' := [some (.ref 0), some (.int (nI g)), some (.int (nI 1)), some (.int x)]) (st' := [.int (nI g), .ref 0]) (σ' := (α, μ)) (pc' := 2) kX11_voice_0 rfl rfl rf_a0 ?_
  refine ok_V (As := [.int (nI g)]) (b := 0) (st := []) mkX11_isGroup qX11_voice_2 rfl (rc_0) rfl rfl rfl rfl (Nat.le_of_ble_eq_true rfl) (c_isGroup hR) ?_
  refine ok_if_eq bX11_voice_5 (fun h5 => absurd h5 ((bI_n0.mpr (wi_in hI.at4 hg (by omega))))) (fun _ => ?_)
  refine ok_step (ps := []) (L' := [some (.ref 0), some (.int (nI g)), some (.int (nI 1)), some (.int x)]) (st' := [.int (nI 3), .int (nI 0), .int (nI 1)]) (σ' := (α, μ)) (pc' := 11) kX11_voice_8 rfl rfl rf_a0 ?_
  refine ok_S (As := [.int (nI 1), .int (nI 0), .int (nI 3)]) (st := []) mkX11_within qX11_voice_11 rfl rfl rfl rfl rfl (Nat.le_of_ble_eq_true rfl) (c_within) ?_
  rw [show bI (wi (nI 1) (nI 0) (nI 3)) = nI 1 from rfl]
  refine ok_if_ne bX11_voice_14 (fun _ => ?_) (fun h14 => absurd h14 ((by decide)))
  refine ok_step (ps := []) (L' := [some (.ref 0), some (.int (nI g)), some (.int (nI 1)), some (.int x)]) (st' := [.int x, .int (nI 1), .int (nI g), .ref 10, .ref 83]) (σ' := (α, μ)) (pc' := 38) kX11_voice_24 rfl rfl rf_a0 ?_
  refine ok_V (As := [.ref 10, .int (nI g), .int (nI 1), .int x]) (b := 83) (st := []) mkX9_hear qX11_voice_38 rfl (rc_83) rfl rfl rfl rfl (Nat.le_of_ble_eq_true rfl) (c_hear_2_1 hR (by omega) hK) ?_
  refine ok_reti eX11_voice_41 rfl ?_
  refine ⟨rfl, _, rfl, ?_⟩
  refine ok_step (ps := []) (L' := [some (.ref 94), some (.int (nI g)), some (.int (nI 1)), some (.int x), none]) (st' := [.int (nI g), .ref 94]) (σ' := (apt 84 83 0 (rf_w (rf_w (rf_w (rf_w α 83 2 (nI 2)) 83 3 (nI g)) 83 4 (μ 95 (194 + 8 * g))) 83 0 (nI 0)) 0 [30, 11, 10, 12], μ)) (pc' := 2) kX12_voice_0 rfl rfl rf_a0 ?_
  refine ok_V (As := [.int (nI g)]) (b := 94) (st := []) mkX12_isGroup qX12_voice_2 rfl (rc_94) rfl rfl rfl rfl (Nat.le_of_ble_eq_true rfl) (m_isGroup) ?_
  refine ok_if_eq bX12_voice_5 (fun g5 => absurd g5 ((bI_n0.mpr (wi_in hI.at4 hg (by omega))))) (fun _ => ?_)
  refine ok_step (ps := []) (L' := [some (.ref 94), some (.int (nI g)), some (.int (nI 1)), some (.int x), none]) (st' := [.long (lN 3), .long (lN 0), .long ((nI 1).toInt64)]) (σ' := (apt 84 83 0 (rf_w (rf_w (rf_w (rf_w α 83 2 (nI 2)) 83 3 (nI g)) 83 4 (μ 95 (194 + 8 * g))) 83 0 (nI 0)) 0 [30, 11, 10, 12], μ)) (pc' := 14) kX12_voice_8 rfl rfl rf_a0 ?_
  refine ok_S (As := [.long ((nI 1).toInt64), .long (lN 0), .long (lN 3)]) (st := []) mkX12_in qX12_voice_14 rfl rfl rfl rfl rfl (Nat.le_of_ble_eq_true rfl) (m_in) ?_
  rw [show wl ((nI 1).toInt64) (lN 0) (lN 3) = wi (nI 1) (nI 0) (nI 3) from wl_of rfl (nI_l (by decide)).symm (nI_l (by decide)).symm, show bI (wi (nI 1) (nI 0) (nI 3)) = nI 1 from rfl]
  refine ok_if_ne bX12_voice_17 (fun _ => ?_) (fun g17 => absurd g17 ((by decide)))
  refine ok_step (ps := []) (L' := [some (.ref 94), some (.int (nI g)), some (.int (nI 1)), some (.int x), none]) (st' := [.ref 94]) (σ' := (apt 84 83 0 (rf_w (rf_w (rf_w (rf_w α 83 2 (nI 2)) 83 3 (nI g)) 83 4 (μ 95 (194 + 8 * g))) 83 0 (nI 0)) 0 [30, 11, 10, 12], rf_w (rf_w μ 94 18 (nI 0)) 94 19 (nI g))) (pc' := 37) kX12_voice_26 rfl rfl rf_a0 ?_
  refine ok_V (As := []) (b := 94) (st := []) mkX12_own qX12_voice_37 rfl (rc_94) rfl rfl rfl rfl (Nat.le_of_ble_eq_true rfl) (m_own (K := 2) (g := g) (by omega) (by rw [rf_w_row (by decide), rf_w_row (by decide)]; exact hK) (by simp [rf_w_at])) ?_
  refine ok_step (ps := []) (L' := [some (.ref 94), some (.int (nI g)), some (.int (nI 1)), some (.int x), some (.int (nI 2))]) (st' := [.int (nI 1)]) (σ' := (apt 84 83 0 (rf_w (rf_w (rf_w (rf_w α 83 2 (nI 2)) 83 3 (nI g)) 83 4 (μ 95 (194 + 8 * g))) 83 0 (nI 0)) 0 [30, 11, 10, 12], rf_w (rf_w μ 94 18 (nI 0)) 94 19 (nI g))) (pc' := 43) kX12_voice_40 rfl rfl rf_a0 ?_
  refine ok_if_ne bX12_voice_43 (fun _ => ?_) (fun g43 => absurd g43 ((by decide)))
  refine ok_step (ps := []) (L' := [some (.ref 94), some (.int (nI g)), some (.int (nI 1)), some (.int x), some (.int (nI 2))]) (st' := [.int (nI 1), .int (nI 1)]) (σ' := (apt 84 83 0 (rf_w (rf_w (rf_w (rf_w α 83 2 (nI 2)) 83 3 (nI g)) 83 4 (μ 95 (194 + 8 * g))) 83 0 (nI 0)) 0 [30, 11, 10, 12], rf_w (rf_w μ 94 18 (nI 0)) 94 19 (nI g))) (pc' := 58) kX12_voice_56 rfl rfl rf_a0 ?_
  refine ok_icmp_ne bX12_voice_58 (fun g58 => absurd ((by decide)) g58) (fun _ => ?_)
  refine ok_step (ps := []) (L' := [some (.ref 94), some (.int (nI g)), some (.int (nI 1)), some (.int x), some (.int (nI 2))]) (st' := [.int x, .int (nI 2), .ref 94]) (σ' := (apt 84 83 0 (rf_w (rf_w (rf_w (rf_w α 83 2 (nI 2)) 83 3 (nI g)) 83 4 (μ 95 (194 + 8 * g))) 83 0 (nI 0)) 0 [30, 11, 10, 12], rf_w (rf_w μ 94 18 (nI 0)) 94 19 (nI g))) (pc' := 65) kX12_voice_61 rfl rfl rf_a0 ?_
  refine ok_V (As := [.int (nI 2), .int x]) (b := 94) (st := []) mkX12_weighsOf qX12_voice_65 rfl (rc_94) rfl rfl rfl rfl (Nat.le_of_ble_eq_true rfl) (mv2_1_2 (ν := rf_w (rf_w μ 94 18 (nI 0)) 94 19 (nI g)) (mn := (μ 95 (194 + 8 * g))) (b := 0) (g := g) (by rw [rf_w_row (by decide), rf_w_row (by decide)]; exact hK) (by rw [rf_w_row (by decide), rf_w_row (by decide)]) (by simp [rf_w_at]) (by omega) (by simp [rf_w_at]) (by decide)) ?_
  refine ok_goto bX12_voice_68 ?_
  refine ok_reti eX12_voice_93 rfl ?_
  exact ⟨rfl, _, rfl, J.apt (α := α) (μ := μ) hJ.vo0 (by simp [rf_w_at]) (by decide)⟩
theorem c_hear_2_2 {g : Nat} {x : Int32} (hR : Rl 1 α (μ 95)) (hg : g < 16) (hK : μ 95 (190 + 8 * g) = nI 2) : rf_At (rf_T Ln xs) MX9_hear 25 0 ([some (.ref 83), some (.ref 10), some (.int (nI g)), some (.int (nI 2)), some (.int x)], [], 108, (α, μ)) (some (.int (x - (μ 95 (194 + 8 * g))))) 108 (apt 84 83 0 (rf_w (rf_w (rf_w (rf_w α 83 2 (nI 2)) 83 3 (nI g)) 83 4 (μ 95 (194 + 8 * g))) 83 0 (nI 0)) 0 [12], μ) := by
  refine rf_pa ?_
  refine ok_step (ps := [rf_in (nI g) 16, rf_in (nI g) 16]) (L' := [some (.ref 83), some (.ref 10), some (.int (nI g)), some (.int (nI 2)), some (.int x)]) (st' := [.int (nI 0), .int x, .int (nI 2), .int ((rf_w (rf_w (rf_w (rf_w α 83 2 (α 11 ((nI g).toNatClampNeg))) 83 3 (nI g)) 83 4 ((rf_w (rf_w α 83 2 (α 11 ((nI g).toNatClampNeg))) 83 3 (nI g)) 15 ((nI g).toNatClampNeg))) 83 0 (nI 0)) 83 2), .ref 83]) (σ' := (rf_w (rf_w (rf_w (rf_w α 83 2 (α 11 ((nI g).toNatClampNeg))) 83 3 (nI g)) 83 4 ((rf_w (rf_w α 83 2 (α 11 ((nI g).toNatClampNeg))) 83 3 (nI g)) 15 ((nI g).toNatClampNeg))) 83 0 (nI 0), μ)) (pc' := 39) kX9_hear_0 rfl rfl (rf_a1 (rf_in_n (a := g) rfl (by omega)) (rf_a1 (rf_in_n (a := g) rfl (by omega)) rf_a0)) ?_
  try rw [(show (nI g).toNatClampNeg = g from rf_cl_n rfl (by omega))]
  try rw [(show α 11 g = μ 95 (190 + 8 * g) from rl_10 hR (i := g) (by omega) (by omega))]
  try rw [hK]
  try rw [(show (nI g).toNatClampNeg = g from rf_cl_n rfl (by omega))]
  try rw [(show (rf_w (rf_w α 83 2 (nI 2)) 83 3 (nI g)) 15 g = (rf_w α 83 2 (nI 2)) 15 g from by rw [rf_w_at, if_neg (fun h => absurd h.1 (by decide))])]
  try rw [(show (rf_w α 83 2 (nI 2)) 15 g = α 15 g from by rw [rf_w_at, if_neg (fun h => absurd h.1 (by decide))])]
  try rw [(show α 15 g = μ 95 (194 + 8 * g) from rl_14 hR (i := g) (by omega) (by omega))]
  try rw [(show (rf_w (rf_w (rf_w (rf_w α 83 2 (nI 2)) 83 3 (nI g)) 83 4 (μ 95 (194 + 8 * g))) 83 0 (nI 0)) 83 2 = (rf_w (rf_w (rf_w α 83 2 (nI 2)) 83 3 (nI g)) 83 4 (μ 95 (194 + 8 * g))) 83 2 from by rw [rf_w_at, if_neg (fun h => absurd h.2 (by omega))])]
  try rw [(show (rf_w (rf_w (rf_w α 83 2 (nI 2)) 83 3 (nI g)) 83 4 (μ 95 (194 + 8 * g))) 83 2 = (rf_w (rf_w α 83 2 (nI 2)) 83 3 (nI g)) 83 2 from by rw [rf_w_at, if_neg (fun h => absurd h.2 (by omega))])]
  try rw [(show (rf_w (rf_w α 83 2 (nI 2)) 83 3 (nI g)) 83 2 = (rf_w α 83 2 (nI 2)) 83 2 from by rw [rf_w_at, if_neg (fun h => absurd h.2 (by omega))])]
  try rw [(show (rf_w α 83 2 (nI 2)) 83 2 = (nI 2) from by rw [rf_w_at, if_pos ⟨rfl, rfl⟩])]
  refine ok_V (As := [.int (nI 2), .int (nI 2), .int x, .int (nI 0)]) (b := 83) (st := []) mkX9_speak qX9_hear_39 rfl (rc_83) rfl rfl rfl rfl (Nat.le_of_ble_eq_true rfl) (cv2_2_2 (α := rf_w (rf_w (rf_w (rf_w α 83 2 (nI 2)) 83 3 (nI g)) 83 4 (μ 95 (194 + 8 * g))) 83 0 (nI 0)) (nu := nI g) (mn := (μ 95 (194 + 8 * g))) (b := 0) (dep := 0) (by simp [rf_w_at]) (by simp [rf_w_at]) (by simp [rf_w_at]) (by simp [rf_w_at]) (by decide) (by decide)) ?_
  refine ok_reti eX9_hear_42 rfl ?_
  exact ⟨rfl, rfl⟩
theorem op_voice_2_2 {g : Nat} {x : Int32} (hJ : J α μ) (hg : g < cn (μ 95) 4) (hK : μ 95 (190 + 8 * g) = nI 2) : Op (rf_T Ln xs) MX11_voice MX12_voice [some (.ref 0), some (.int (nI g)), some (.int (nI 2)), some (.int x)] [some (.ref 94), some (.int (nI g)), some (.int (nI 2)), some (.int x), none] α μ := by
  have hR := hJ.1.1.1
  have hI := hJ.2
  have b0 := hI.le0
  have b1 := hI.le1
  have b2 := hI.le2
  have b3 := hI.le3
  have b4 := hI.le4
  have b5 := hI.le5
  have b6 := hI.le6
  have b8 := hI.le8
  have b9 := hI.le9
  have b11 := hI.le11
  have b12 := hI.le12
  refine ok_step (ps := []) (L' := [some (.ref 0), some (.int (nI g)), some (.int (nI 2)), some (.int x)]) (st' := [.int (nI g), .ref 0]) (σ' := (α, μ)) (pc' := 2) kX11_voice_0 rfl rfl rf_a0 ?_
  refine ok_V (As := [.int (nI g)]) (b := 0) (st := []) mkX11_isGroup qX11_voice_2 rfl (rc_0) rfl rfl rfl rfl (Nat.le_of_ble_eq_true rfl) (c_isGroup hR) ?_
  refine ok_if_eq bX11_voice_5 (fun h5 => absurd h5 ((bI_n0.mpr (wi_in hI.at4 hg (by omega))))) (fun _ => ?_)
  refine ok_step (ps := []) (L' := [some (.ref 0), some (.int (nI g)), some (.int (nI 2)), some (.int x)]) (st' := [.int (nI 3), .int (nI 0), .int (nI 2)]) (σ' := (α, μ)) (pc' := 11) kX11_voice_8 rfl rfl rf_a0 ?_
  refine ok_S (As := [.int (nI 2), .int (nI 0), .int (nI 3)]) (st := []) mkX11_within qX11_voice_11 rfl rfl rfl rfl rfl (Nat.le_of_ble_eq_true rfl) (c_within) ?_
  rw [show bI (wi (nI 2) (nI 0) (nI 3)) = nI 1 from rfl]
  refine ok_if_ne bX11_voice_14 (fun _ => ?_) (fun h14 => absurd h14 ((by decide)))
  refine ok_step (ps := []) (L' := [some (.ref 0), some (.int (nI g)), some (.int (nI 2)), some (.int x)]) (st' := [.int x, .int (nI 2), .int (nI g), .ref 10, .ref 83]) (σ' := (α, μ)) (pc' := 38) kX11_voice_24 rfl rfl rf_a0 ?_
  refine ok_V (As := [.ref 10, .int (nI g), .int (nI 2), .int x]) (b := 83) (st := []) mkX9_hear qX11_voice_38 rfl (rc_83) rfl rfl rfl rfl (Nat.le_of_ble_eq_true rfl) (c_hear_2_2 hR (by omega) hK) ?_
  refine ok_reti eX11_voice_41 rfl ?_
  refine ⟨rfl, _, rfl, ?_⟩
  refine ok_step (ps := []) (L' := [some (.ref 94), some (.int (nI g)), some (.int (nI 2)), some (.int x), none]) (st' := [.int (nI g), .ref 94]) (σ' := (apt 84 83 0 (rf_w (rf_w (rf_w (rf_w α 83 2 (nI 2)) 83 3 (nI g)) 83 4 (μ 95 (194 + 8 * g))) 83 0 (nI 0)) 0 [12], μ)) (pc' := 2) kX12_voice_0 rfl rfl rf_a0 ?_
  refine ok_V (As := [.int (nI g)]) (b := 94) (st := []) mkX12_isGroup qX12_voice_2 rfl (rc_94) rfl rfl rfl rfl (Nat.le_of_ble_eq_true rfl) (m_isGroup) ?_
  refine ok_if_eq bX12_voice_5 (fun g5 => absurd g5 ((bI_n0.mpr (wi_in hI.at4 hg (by omega))))) (fun _ => ?_)
  refine ok_step (ps := []) (L' := [some (.ref 94), some (.int (nI g)), some (.int (nI 2)), some (.int x), none]) (st' := [.long (lN 3), .long (lN 0), .long ((nI 2).toInt64)]) (σ' := (apt 84 83 0 (rf_w (rf_w (rf_w (rf_w α 83 2 (nI 2)) 83 3 (nI g)) 83 4 (μ 95 (194 + 8 * g))) 83 0 (nI 0)) 0 [12], μ)) (pc' := 14) kX12_voice_8 rfl rfl rf_a0 ?_
  refine ok_S (As := [.long ((nI 2).toInt64), .long (lN 0), .long (lN 3)]) (st := []) mkX12_in qX12_voice_14 rfl rfl rfl rfl rfl (Nat.le_of_ble_eq_true rfl) (m_in) ?_
  rw [show wl ((nI 2).toInt64) (lN 0) (lN 3) = wi (nI 2) (nI 0) (nI 3) from wl_of rfl (nI_l (by decide)).symm (nI_l (by decide)).symm, show bI (wi (nI 2) (nI 0) (nI 3)) = nI 1 from rfl]
  refine ok_if_ne bX12_voice_17 (fun _ => ?_) (fun g17 => absurd g17 ((by decide)))
  refine ok_step (ps := []) (L' := [some (.ref 94), some (.int (nI g)), some (.int (nI 2)), some (.int x), none]) (st' := [.ref 94]) (σ' := (apt 84 83 0 (rf_w (rf_w (rf_w (rf_w α 83 2 (nI 2)) 83 3 (nI g)) 83 4 (μ 95 (194 + 8 * g))) 83 0 (nI 0)) 0 [12], rf_w (rf_w μ 94 18 (nI 0)) 94 19 (nI g))) (pc' := 37) kX12_voice_26 rfl rfl rf_a0 ?_
  refine ok_V (As := []) (b := 94) (st := []) mkX12_own qX12_voice_37 rfl (rc_94) rfl rfl rfl rfl (Nat.le_of_ble_eq_true rfl) (m_own (K := 2) (g := g) (by omega) (by rw [rf_w_row (by decide), rf_w_row (by decide)]; exact hK) (by simp [rf_w_at])) ?_
  refine ok_step (ps := []) (L' := [some (.ref 94), some (.int (nI g)), some (.int (nI 2)), some (.int x), some (.int (nI 2))]) (st' := [.int (nI 2)]) (σ' := (apt 84 83 0 (rf_w (rf_w (rf_w (rf_w α 83 2 (nI 2)) 83 3 (nI g)) 83 4 (μ 95 (194 + 8 * g))) 83 0 (nI 0)) 0 [12], rf_w (rf_w μ 94 18 (nI 0)) 94 19 (nI g))) (pc' := 43) kX12_voice_40 rfl rfl rf_a0 ?_
  refine ok_if_ne bX12_voice_43 (fun _ => ?_) (fun g43 => absurd g43 ((by decide)))
  refine ok_step (ps := []) (L' := [some (.ref 94), some (.int (nI g)), some (.int (nI 2)), some (.int x), some (.int (nI 2))]) (st' := [.int (nI 1), .int (nI 2)]) (σ' := (apt 84 83 0 (rf_w (rf_w (rf_w (rf_w α 83 2 (nI 2)) 83 3 (nI g)) 83 4 (μ 95 (194 + 8 * g))) 83 0 (nI 0)) 0 [12], rf_w (rf_w μ 94 18 (nI 0)) 94 19 (nI g))) (pc' := 58) kX12_voice_56 rfl rfl rf_a0 ?_
  refine ok_icmp_ne bX12_voice_58 (fun _ => ?_) (fun g58 => absurd g58 ((by decide)))
  refine ok_step (ps := []) (L' := [some (.ref 94), some (.int (nI g)), some (.int (nI 2)), some (.int x), some (.int (nI 2))]) (st' := [.int (nI 2), .int (nI 2)]) (σ' := (apt 84 83 0 (rf_w (rf_w (rf_w (rf_w α 83 2 (nI 2)) 83 3 (nI g)) 83 4 (μ 95 (194 + 8 * g))) 83 0 (nI 0)) 0 [12], rf_w (rf_w μ 94 18 (nI 0)) 94 19 (nI g))) (pc' := 73) kX12_voice_71 rfl rfl rf_a0 ?_
  refine ok_icmp_ne bX12_voice_73 (fun g73 => absurd ((by decide)) g73) (fun _ => ?_)
  refine ok_step (ps := []) (L' := [some (.ref 94), some (.int (nI g)), some (.int (nI 2)), some (.int x), some (.int (nI 2))]) (st' := [.int x, .int (nI 2), .ref 94]) (σ' := (apt 84 83 0 (rf_w (rf_w (rf_w (rf_w α 83 2 (nI 2)) 83 3 (nI g)) 83 4 (μ 95 (194 + 8 * g))) 83 0 (nI 0)) 0 [12], rf_w (rf_w μ 94 18 (nI 0)) 94 19 (nI g))) (pc' := 80) kX12_voice_76 rfl rfl rf_a0 ?_
  refine ok_V (As := [.int (nI 2), .int x]) (b := 94) (st := []) mkX12_tellsOf qX12_voice_80 rfl (rc_94) rfl rfl rfl rfl (Nat.le_of_ble_eq_true rfl) (mv2_2_2 (ν := rf_w (rf_w μ 94 18 (nI 0)) 94 19 (nI g)) (mn := (μ 95 (194 + 8 * g))) (b := 0) (g := g) (by rw [rf_w_row (by decide), rf_w_row (by decide)]; exact hK) (by rw [rf_w_row (by decide), rf_w_row (by decide)]) (by simp [rf_w_at]) (by omega) (by simp [rf_w_at]) (by decide)) ?_
  refine ok_goto bX12_voice_83 ?_
  refine ok_reti eX12_voice_93 rfl ?_
  exact ⟨rfl, _, rfl, J.apt (α := α) (μ := μ) hJ.vo0 (by simp [rf_w_at]) (by decide)⟩
theorem c_hear_2_3 {g : Nat} {x : Int32} (hR : Rl 1 α (μ 95)) (hg : g < 16) (hK : μ 95 (190 + 8 * g) = nI 2) : rf_At (rf_T Ln xs) MX9_hear 25 0 ([some (.ref 83), some (.ref 10), some (.int (nI g)), some (.int (nI 3)), some (.int x)], [], 108, (α, μ)) (some (.int ((((x + (nI g)) * nI 2) - ((nI 1) - (μ 95 (194 + 8 * g)))) ^^^ (x - (μ 95 (194 + 8 * g)))))) 108 (apt 84 83 0 (rf_w (rf_w (rf_w (rf_w α 83 2 (nI 2)) 83 3 (nI g)) 83 4 (μ 95 (194 + 8 * g))) 83 0 (nI 0)) 0 [13, 30, 11, 10, 12, 12], μ) := by
  refine rf_pa ?_
  refine ok_step (ps := [rf_in (nI g) 16, rf_in (nI g) 16]) (L' := [some (.ref 83), some (.ref 10), some (.int (nI g)), some (.int (nI 3)), some (.int x)]) (st' := [.int (nI 0), .int x, .int (nI 3), .int ((rf_w (rf_w (rf_w (rf_w α 83 2 (α 11 ((nI g).toNatClampNeg))) 83 3 (nI g)) 83 4 ((rf_w (rf_w α 83 2 (α 11 ((nI g).toNatClampNeg))) 83 3 (nI g)) 15 ((nI g).toNatClampNeg))) 83 0 (nI 0)) 83 2), .ref 83]) (σ' := (rf_w (rf_w (rf_w (rf_w α 83 2 (α 11 ((nI g).toNatClampNeg))) 83 3 (nI g)) 83 4 ((rf_w (rf_w α 83 2 (α 11 ((nI g).toNatClampNeg))) 83 3 (nI g)) 15 ((nI g).toNatClampNeg))) 83 0 (nI 0), μ)) (pc' := 39) kX9_hear_0 rfl rfl (rf_a1 (rf_in_n (a := g) rfl (by omega)) (rf_a1 (rf_in_n (a := g) rfl (by omega)) rf_a0)) ?_
  try rw [(show (nI g).toNatClampNeg = g from rf_cl_n rfl (by omega))]
  try rw [(show α 11 g = μ 95 (190 + 8 * g) from rl_10 hR (i := g) (by omega) (by omega))]
  try rw [hK]
  try rw [(show (nI g).toNatClampNeg = g from rf_cl_n rfl (by omega))]
  try rw [(show (rf_w (rf_w α 83 2 (nI 2)) 83 3 (nI g)) 15 g = (rf_w α 83 2 (nI 2)) 15 g from by rw [rf_w_at, if_neg (fun h => absurd h.1 (by decide))])]
  try rw [(show (rf_w α 83 2 (nI 2)) 15 g = α 15 g from by rw [rf_w_at, if_neg (fun h => absurd h.1 (by decide))])]
  try rw [(show α 15 g = μ 95 (194 + 8 * g) from rl_14 hR (i := g) (by omega) (by omega))]
  try rw [(show (rf_w (rf_w (rf_w (rf_w α 83 2 (nI 2)) 83 3 (nI g)) 83 4 (μ 95 (194 + 8 * g))) 83 0 (nI 0)) 83 2 = (rf_w (rf_w (rf_w α 83 2 (nI 2)) 83 3 (nI g)) 83 4 (μ 95 (194 + 8 * g))) 83 2 from by rw [rf_w_at, if_neg (fun h => absurd h.2 (by omega))])]
  try rw [(show (rf_w (rf_w (rf_w α 83 2 (nI 2)) 83 3 (nI g)) 83 4 (μ 95 (194 + 8 * g))) 83 2 = (rf_w (rf_w α 83 2 (nI 2)) 83 3 (nI g)) 83 2 from by rw [rf_w_at, if_neg (fun h => absurd h.2 (by omega))])]
  try rw [(show (rf_w (rf_w α 83 2 (nI 2)) 83 3 (nI g)) 83 2 = (rf_w α 83 2 (nI 2)) 83 2 from by rw [rf_w_at, if_neg (fun h => absurd h.2 (by omega))])]
  try rw [(show (rf_w α 83 2 (nI 2)) 83 2 = (nI 2) from by rw [rf_w_at, if_pos ⟨rfl, rfl⟩])]
  refine ok_V (As := [.int (nI 2), .int (nI 3), .int x, .int (nI 0)]) (b := 83) (st := []) mkX9_speak qX9_hear_39 rfl (rc_83) rfl rfl rfl rfl (Nat.le_of_ble_eq_true rfl) (cv2_3_2 (α := rf_w (rf_w (rf_w (rf_w α 83 2 (nI 2)) 83 3 (nI g)) 83 4 (μ 95 (194 + 8 * g))) 83 0 (nI 0)) (nu := nI g) (mn := (μ 95 (194 + 8 * g))) (b := 0) (dep := 0) (by simp [rf_w_at]) (by simp [rf_w_at]) (by simp [rf_w_at]) (by simp [rf_w_at]) (by decide) (by decide)) ?_
  refine ok_reti eX9_hear_42 rfl ?_
  exact ⟨rfl, rfl⟩
theorem op_voice_2_3 {g : Nat} {x : Int32} (hJ : J α μ) (hg : g < cn (μ 95) 4) (hK : μ 95 (190 + 8 * g) = nI 2) : Op (rf_T Ln xs) MX11_voice MX12_voice [some (.ref 0), some (.int (nI g)), some (.int (nI 3)), some (.int x)] [some (.ref 94), some (.int (nI g)), some (.int (nI 3)), some (.int x), none] α μ := by
  have hR := hJ.1.1.1
  have hI := hJ.2
  have b0 := hI.le0
  have b1 := hI.le1
  have b2 := hI.le2
  have b3 := hI.le3
  have b4 := hI.le4
  have b5 := hI.le5
  have b6 := hI.le6
  have b8 := hI.le8
  have b9 := hI.le9
  have b11 := hI.le11
  have b12 := hI.le12
  refine ok_step (ps := []) (L' := [some (.ref 0), some (.int (nI g)), some (.int (nI 3)), some (.int x)]) (st' := [.int (nI g), .ref 0]) (σ' := (α, μ)) (pc' := 2) kX11_voice_0 rfl rfl rf_a0 ?_
  refine ok_V (As := [.int (nI g)]) (b := 0) (st := []) mkX11_isGroup qX11_voice_2 rfl (rc_0) rfl rfl rfl rfl (Nat.le_of_ble_eq_true rfl) (c_isGroup hR) ?_
  refine ok_if_eq bX11_voice_5 (fun h5 => absurd h5 ((bI_n0.mpr (wi_in hI.at4 hg (by omega))))) (fun _ => ?_)
  refine ok_step (ps := []) (L' := [some (.ref 0), some (.int (nI g)), some (.int (nI 3)), some (.int x)]) (st' := [.int (nI 3), .int (nI 0), .int (nI 3)]) (σ' := (α, μ)) (pc' := 11) kX11_voice_8 rfl rfl rf_a0 ?_
  refine ok_S (As := [.int (nI 3), .int (nI 0), .int (nI 3)]) (st := []) mkX11_within qX11_voice_11 rfl rfl rfl rfl rfl (Nat.le_of_ble_eq_true rfl) (c_within) ?_
  rw [show bI (wi (nI 3) (nI 0) (nI 3)) = nI 1 from rfl]
  refine ok_if_ne bX11_voice_14 (fun _ => ?_) (fun h14 => absurd h14 ((by decide)))
  refine ok_step (ps := []) (L' := [some (.ref 0), some (.int (nI g)), some (.int (nI 3)), some (.int x)]) (st' := [.int x, .int (nI 3), .int (nI g), .ref 10, .ref 83]) (σ' := (α, μ)) (pc' := 38) kX11_voice_24 rfl rfl rf_a0 ?_
  refine ok_V (As := [.ref 10, .int (nI g), .int (nI 3), .int x]) (b := 83) (st := []) mkX9_hear qX11_voice_38 rfl (rc_83) rfl rfl rfl rfl (Nat.le_of_ble_eq_true rfl) (c_hear_2_3 hR (by omega) hK) ?_
  refine ok_reti eX11_voice_41 rfl ?_
  refine ⟨rfl, _, rfl, ?_⟩
  refine ok_step (ps := []) (L' := [some (.ref 94), some (.int (nI g)), some (.int (nI 3)), some (.int x), none]) (st' := [.int (nI g), .ref 94]) (σ' := (apt 84 83 0 (rf_w (rf_w (rf_w (rf_w α 83 2 (nI 2)) 83 3 (nI g)) 83 4 (μ 95 (194 + 8 * g))) 83 0 (nI 0)) 0 [13, 30, 11, 10, 12, 12], μ)) (pc' := 2) kX12_voice_0 rfl rfl rf_a0 ?_
  refine ok_V (As := [.int (nI g)]) (b := 94) (st := []) mkX12_isGroup qX12_voice_2 rfl (rc_94) rfl rfl rfl rfl (Nat.le_of_ble_eq_true rfl) (m_isGroup) ?_
  refine ok_if_eq bX12_voice_5 (fun g5 => absurd g5 ((bI_n0.mpr (wi_in hI.at4 hg (by omega))))) (fun _ => ?_)
  refine ok_step (ps := []) (L' := [some (.ref 94), some (.int (nI g)), some (.int (nI 3)), some (.int x), none]) (st' := [.long (lN 3), .long (lN 0), .long ((nI 3).toInt64)]) (σ' := (apt 84 83 0 (rf_w (rf_w (rf_w (rf_w α 83 2 (nI 2)) 83 3 (nI g)) 83 4 (μ 95 (194 + 8 * g))) 83 0 (nI 0)) 0 [13, 30, 11, 10, 12, 12], μ)) (pc' := 14) kX12_voice_8 rfl rfl rf_a0 ?_
  refine ok_S (As := [.long ((nI 3).toInt64), .long (lN 0), .long (lN 3)]) (st := []) mkX12_in qX12_voice_14 rfl rfl rfl rfl rfl (Nat.le_of_ble_eq_true rfl) (m_in) ?_
  rw [show wl ((nI 3).toInt64) (lN 0) (lN 3) = wi (nI 3) (nI 0) (nI 3) from wl_of rfl (nI_l (by decide)).symm (nI_l (by decide)).symm, show bI (wi (nI 3) (nI 0) (nI 3)) = nI 1 from rfl]
  refine ok_if_ne bX12_voice_17 (fun _ => ?_) (fun g17 => absurd g17 ((by decide)))
  refine ok_step (ps := []) (L' := [some (.ref 94), some (.int (nI g)), some (.int (nI 3)), some (.int x), none]) (st' := [.ref 94]) (σ' := (apt 84 83 0 (rf_w (rf_w (rf_w (rf_w α 83 2 (nI 2)) 83 3 (nI g)) 83 4 (μ 95 (194 + 8 * g))) 83 0 (nI 0)) 0 [13, 30, 11, 10, 12, 12], rf_w (rf_w μ 94 18 (nI 0)) 94 19 (nI g))) (pc' := 37) kX12_voice_26 rfl rfl rf_a0 ?_
  refine ok_V (As := []) (b := 94) (st := []) mkX12_own qX12_voice_37 rfl (rc_94) rfl rfl rfl rfl (Nat.le_of_ble_eq_true rfl) (m_own (K := 2) (g := g) (by omega) (by rw [rf_w_row (by decide), rf_w_row (by decide)]; exact hK) (by simp [rf_w_at])) ?_
  refine ok_step (ps := []) (L' := [some (.ref 94), some (.int (nI g)), some (.int (nI 3)), some (.int x), some (.int (nI 2))]) (st' := [.int (nI 3)]) (σ' := (apt 84 83 0 (rf_w (rf_w (rf_w (rf_w α 83 2 (nI 2)) 83 3 (nI g)) 83 4 (μ 95 (194 + 8 * g))) 83 0 (nI 0)) 0 [13, 30, 11, 10, 12, 12], rf_w (rf_w μ 94 18 (nI 0)) 94 19 (nI g))) (pc' := 43) kX12_voice_40 rfl rfl rf_a0 ?_
  refine ok_if_ne bX12_voice_43 (fun _ => ?_) (fun g43 => absurd g43 ((by decide)))
  refine ok_step (ps := []) (L' := [some (.ref 94), some (.int (nI g)), some (.int (nI 3)), some (.int x), some (.int (nI 2))]) (st' := [.int (nI 1), .int (nI 3)]) (σ' := (apt 84 83 0 (rf_w (rf_w (rf_w (rf_w α 83 2 (nI 2)) 83 3 (nI g)) 83 4 (μ 95 (194 + 8 * g))) 83 0 (nI 0)) 0 [13, 30, 11, 10, 12, 12], rf_w (rf_w μ 94 18 (nI 0)) 94 19 (nI g))) (pc' := 58) kX12_voice_56 rfl rfl rf_a0 ?_
  refine ok_icmp_ne bX12_voice_58 (fun _ => ?_) (fun g58 => absurd g58 ((by decide)))
  refine ok_step (ps := []) (L' := [some (.ref 94), some (.int (nI g)), some (.int (nI 3)), some (.int x), some (.int (nI 2))]) (st' := [.int (nI 2), .int (nI 3)]) (σ' := (apt 84 83 0 (rf_w (rf_w (rf_w (rf_w α 83 2 (nI 2)) 83 3 (nI g)) 83 4 (μ 95 (194 + 8 * g))) 83 0 (nI 0)) 0 [13, 30, 11, 10, 12, 12], rf_w (rf_w μ 94 18 (nI 0)) 94 19 (nI g))) (pc' := 73) kX12_voice_71 rfl rfl rf_a0 ?_
  refine ok_icmp_ne bX12_voice_73 (fun _ => ?_) (fun g73 => absurd g73 ((by decide)))
  refine ok_step (ps := []) (L' := [some (.ref 94), some (.int (nI g)), some (.int (nI 3)), some (.int x), some (.int (nI 2))]) (st' := [.int x, .int (nI 2), .ref 94]) (σ' := (apt 84 83 0 (rf_w (rf_w (rf_w (rf_w α 83 2 (nI 2)) 83 3 (nI g)) 83 4 (μ 95 (194 + 8 * g))) 83 0 (nI 0)) 0 [13, 30, 11, 10, 12, 12], rf_w (rf_w μ 94 18 (nI 0)) 94 19 (nI g))) (pc' := 90) kX12_voice_86 rfl rfl rf_a0 ?_
  refine ok_V (As := [.int (nI 2), .int x]) (b := 94) (st := []) mkX12_paysOf qX12_voice_90 rfl (rc_94) rfl rfl rfl rfl (Nat.le_of_ble_eq_true rfl) (mv2_3_2 (ν := rf_w (rf_w μ 94 18 (nI 0)) 94 19 (nI g)) (mn := (μ 95 (194 + 8 * g))) (b := 0) (g := g) (by rw [rf_w_row (by decide), rf_w_row (by decide)]; exact hK) (by rw [rf_w_row (by decide), rf_w_row (by decide)]) (by simp [rf_w_at]) (by omega) (by simp [rf_w_at]) (by decide)) ?_
  refine ok_reti eX12_voice_93 rfl ?_
  exact ⟨rfl, _, rfl, J.apt (α := α) (μ := μ) hJ.vo0 (by simp [rf_w_at]) (by decide)⟩
theorem c_hear_3_0 {g : Nat} {x : Int32} (hR : Rl 1 α (μ 95)) (hg : g < 16) (hK : μ 95 (190 + 8 * g) = nI 3) : rf_At (rf_T Ln xs) MX9_hear 25 0 ([some (.ref 83), some (.ref 10), some (.int (nI g)), some (.int (nI 0)), some (.int x)], [], 108, (α, μ)) (some (.int (x + (nI g)))) 108 (apt 84 83 0 (rf_w (rf_w (rf_w (rf_w α 83 2 (nI 3)) 83 3 (nI g)) 83 4 (μ 95 (194 + 8 * g))) 83 0 (nI 0)) 0 [10], μ) := by
  refine rf_pa ?_
  refine ok_step (ps := [rf_in (nI g) 16, rf_in (nI g) 16]) (L' := [some (.ref 83), some (.ref 10), some (.int (nI g)), some (.int (nI 0)), some (.int x)]) (st' := [.int (nI 0), .int x, .int (nI 0), .int ((rf_w (rf_w (rf_w (rf_w α 83 2 (α 11 ((nI g).toNatClampNeg))) 83 3 (nI g)) 83 4 ((rf_w (rf_w α 83 2 (α 11 ((nI g).toNatClampNeg))) 83 3 (nI g)) 15 ((nI g).toNatClampNeg))) 83 0 (nI 0)) 83 2), .ref 83]) (σ' := (rf_w (rf_w (rf_w (rf_w α 83 2 (α 11 ((nI g).toNatClampNeg))) 83 3 (nI g)) 83 4 ((rf_w (rf_w α 83 2 (α 11 ((nI g).toNatClampNeg))) 83 3 (nI g)) 15 ((nI g).toNatClampNeg))) 83 0 (nI 0), μ)) (pc' := 39) kX9_hear_0 rfl rfl (rf_a1 (rf_in_n (a := g) rfl (by omega)) (rf_a1 (rf_in_n (a := g) rfl (by omega)) rf_a0)) ?_
  try rw [(show (nI g).toNatClampNeg = g from rf_cl_n rfl (by omega))]
  try rw [(show α 11 g = μ 95 (190 + 8 * g) from rl_10 hR (i := g) (by omega) (by omega))]
  try rw [hK]
  try rw [(show (nI g).toNatClampNeg = g from rf_cl_n rfl (by omega))]
  try rw [(show (rf_w (rf_w α 83 2 (nI 3)) 83 3 (nI g)) 15 g = (rf_w α 83 2 (nI 3)) 15 g from by rw [rf_w_at, if_neg (fun h => absurd h.1 (by decide))])]
  try rw [(show (rf_w α 83 2 (nI 3)) 15 g = α 15 g from by rw [rf_w_at, if_neg (fun h => absurd h.1 (by decide))])]
  try rw [(show α 15 g = μ 95 (194 + 8 * g) from rl_14 hR (i := g) (by omega) (by omega))]
  try rw [(show (rf_w (rf_w (rf_w (rf_w α 83 2 (nI 3)) 83 3 (nI g)) 83 4 (μ 95 (194 + 8 * g))) 83 0 (nI 0)) 83 2 = (rf_w (rf_w (rf_w α 83 2 (nI 3)) 83 3 (nI g)) 83 4 (μ 95 (194 + 8 * g))) 83 2 from by rw [rf_w_at, if_neg (fun h => absurd h.2 (by omega))])]
  try rw [(show (rf_w (rf_w (rf_w α 83 2 (nI 3)) 83 3 (nI g)) 83 4 (μ 95 (194 + 8 * g))) 83 2 = (rf_w (rf_w α 83 2 (nI 3)) 83 3 (nI g)) 83 2 from by rw [rf_w_at, if_neg (fun h => absurd h.2 (by omega))])]
  try rw [(show (rf_w (rf_w α 83 2 (nI 3)) 83 3 (nI g)) 83 2 = (rf_w α 83 2 (nI 3)) 83 2 from by rw [rf_w_at, if_neg (fun h => absurd h.2 (by omega))])]
  try rw [(show (rf_w α 83 2 (nI 3)) 83 2 = (nI 3) from by rw [rf_w_at, if_pos ⟨rfl, rfl⟩])]
  refine ok_V (As := [.int (nI 3), .int (nI 0), .int x, .int (nI 0)]) (b := 83) (st := []) mkX9_speak qX9_hear_39 rfl (rc_83) rfl rfl rfl rfl (Nat.le_of_ble_eq_true rfl) (cv3_0_3 (α := rf_w (rf_w (rf_w (rf_w α 83 2 (nI 3)) 83 3 (nI g)) 83 4 (μ 95 (194 + 8 * g))) 83 0 (nI 0)) (nu := nI g) (mn := (μ 95 (194 + 8 * g))) (b := 0) (dep := 0) (by simp [rf_w_at]) (by simp [rf_w_at]) (by simp [rf_w_at]) (by simp [rf_w_at]) (by decide) (by decide)) ?_
  refine ok_reti eX9_hear_42 rfl ?_
  exact ⟨rfl, rfl⟩
theorem op_voice_3_0 {g : Nat} {x : Int32} (hJ : J α μ) (hg : g < cn (μ 95) 4) (hK : μ 95 (190 + 8 * g) = nI 3) : Op (rf_T Ln xs) MX11_voice MX12_voice [some (.ref 0), some (.int (nI g)), some (.int (nI 0)), some (.int x)] [some (.ref 94), some (.int (nI g)), some (.int (nI 0)), some (.int x), none] α μ := by
  have hR := hJ.1.1.1
  have hI := hJ.2
  have b0 := hI.le0
  have b1 := hI.le1
  have b2 := hI.le2
  have b3 := hI.le3
  have b4 := hI.le4
  have b5 := hI.le5
  have b6 := hI.le6
  have b8 := hI.le8
  have b9 := hI.le9
  have b11 := hI.le11
  have b12 := hI.le12
  refine ok_step (ps := []) (L' := [some (.ref 0), some (.int (nI g)), some (.int (nI 0)), some (.int x)]) (st' := [.int (nI g), .ref 0]) (σ' := (α, μ)) (pc' := 2) kX11_voice_0 rfl rfl rf_a0 ?_
  refine ok_V (As := [.int (nI g)]) (b := 0) (st := []) mkX11_isGroup qX11_voice_2 rfl (rc_0) rfl rfl rfl rfl (Nat.le_of_ble_eq_true rfl) (c_isGroup hR) ?_
  refine ok_if_eq bX11_voice_5 (fun h5 => absurd h5 ((bI_n0.mpr (wi_in hI.at4 hg (by omega))))) (fun _ => ?_)
  refine ok_step (ps := []) (L' := [some (.ref 0), some (.int (nI g)), some (.int (nI 0)), some (.int x)]) (st' := [.int (nI 3), .int (nI 0), .int (nI 0)]) (σ' := (α, μ)) (pc' := 11) kX11_voice_8 rfl rfl rf_a0 ?_
  refine ok_S (As := [.int (nI 0), .int (nI 0), .int (nI 3)]) (st := []) mkX11_within qX11_voice_11 rfl rfl rfl rfl rfl (Nat.le_of_ble_eq_true rfl) (c_within) ?_
  rw [show bI (wi (nI 0) (nI 0) (nI 3)) = nI 1 from rfl]
  refine ok_if_ne bX11_voice_14 (fun _ => ?_) (fun h14 => absurd h14 ((by decide)))
  refine ok_step (ps := []) (L' := [some (.ref 0), some (.int (nI g)), some (.int (nI 0)), some (.int x)]) (st' := [.int x, .int (nI 0), .int (nI g), .ref 10, .ref 83]) (σ' := (α, μ)) (pc' := 38) kX11_voice_24 rfl rfl rf_a0 ?_
  refine ok_V (As := [.ref 10, .int (nI g), .int (nI 0), .int x]) (b := 83) (st := []) mkX9_hear qX11_voice_38 rfl (rc_83) rfl rfl rfl rfl (Nat.le_of_ble_eq_true rfl) (c_hear_3_0 hR (by omega) hK) ?_
  refine ok_reti eX11_voice_41 rfl ?_
  refine ⟨rfl, _, rfl, ?_⟩
  refine ok_step (ps := []) (L' := [some (.ref 94), some (.int (nI g)), some (.int (nI 0)), some (.int x), none]) (st' := [.int (nI g), .ref 94]) (σ' := (apt 84 83 0 (rf_w (rf_w (rf_w (rf_w α 83 2 (nI 3)) 83 3 (nI g)) 83 4 (μ 95 (194 + 8 * g))) 83 0 (nI 0)) 0 [10], μ)) (pc' := 2) kX12_voice_0 rfl rfl rf_a0 ?_
  refine ok_V (As := [.int (nI g)]) (b := 94) (st := []) mkX12_isGroup qX12_voice_2 rfl (rc_94) rfl rfl rfl rfl (Nat.le_of_ble_eq_true rfl) (m_isGroup) ?_
  refine ok_if_eq bX12_voice_5 (fun g5 => absurd g5 ((bI_n0.mpr (wi_in hI.at4 hg (by omega))))) (fun _ => ?_)
  refine ok_step (ps := []) (L' := [some (.ref 94), some (.int (nI g)), some (.int (nI 0)), some (.int x), none]) (st' := [.long (lN 3), .long (lN 0), .long ((nI 0).toInt64)]) (σ' := (apt 84 83 0 (rf_w (rf_w (rf_w (rf_w α 83 2 (nI 3)) 83 3 (nI g)) 83 4 (μ 95 (194 + 8 * g))) 83 0 (nI 0)) 0 [10], μ)) (pc' := 14) kX12_voice_8 rfl rfl rf_a0 ?_
  refine ok_S (As := [.long ((nI 0).toInt64), .long (lN 0), .long (lN 3)]) (st := []) mkX12_in qX12_voice_14 rfl rfl rfl rfl rfl (Nat.le_of_ble_eq_true rfl) (m_in) ?_
  rw [show wl ((nI 0).toInt64) (lN 0) (lN 3) = wi (nI 0) (nI 0) (nI 3) from wl_of rfl (nI_l (by decide)).symm (nI_l (by decide)).symm, show bI (wi (nI 0) (nI 0) (nI 3)) = nI 1 from rfl]
  refine ok_if_ne bX12_voice_17 (fun _ => ?_) (fun g17 => absurd g17 ((by decide)))
  refine ok_step (ps := []) (L' := [some (.ref 94), some (.int (nI g)), some (.int (nI 0)), some (.int x), none]) (st' := [.ref 94]) (σ' := (apt 84 83 0 (rf_w (rf_w (rf_w (rf_w α 83 2 (nI 3)) 83 3 (nI g)) 83 4 (μ 95 (194 + 8 * g))) 83 0 (nI 0)) 0 [10], rf_w (rf_w μ 94 18 (nI 0)) 94 19 (nI g))) (pc' := 37) kX12_voice_26 rfl rfl rf_a0 ?_
  refine ok_V (As := []) (b := 94) (st := []) mkX12_own qX12_voice_37 rfl (rc_94) rfl rfl rfl rfl (Nat.le_of_ble_eq_true rfl) (m_own (K := 3) (g := g) (by omega) (by rw [rf_w_row (by decide), rf_w_row (by decide)]; exact hK) (by simp [rf_w_at])) ?_
  refine ok_step (ps := []) (L' := [some (.ref 94), some (.int (nI g)), some (.int (nI 0)), some (.int x), some (.int (nI 3))]) (st' := [.int (nI 0)]) (σ' := (apt 84 83 0 (rf_w (rf_w (rf_w (rf_w α 83 2 (nI 3)) 83 3 (nI g)) 83 4 (μ 95 (194 + 8 * g))) 83 0 (nI 0)) 0 [10], rf_w (rf_w μ 94 18 (nI 0)) 94 19 (nI g))) (pc' := 43) kX12_voice_40 rfl rfl rf_a0 ?_
  refine ok_if_ne bX12_voice_43 (fun g43 => absurd ((by decide)) g43) (fun _ => ?_)
  refine ok_step (ps := []) (L' := [some (.ref 94), some (.int (nI g)), some (.int (nI 0)), some (.int x), some (.int (nI 3))]) (st' := [.int x, .int (nI 3), .ref 94]) (σ' := (apt 84 83 0 (rf_w (rf_w (rf_w (rf_w α 83 2 (nI 3)) 83 3 (nI g)) 83 4 (μ 95 (194 + 8 * g))) 83 0 (nI 0)) 0 [10], rf_w (rf_w μ 94 18 (nI 0)) 94 19 (nI g))) (pc' := 50) kX12_voice_46 rfl rfl rf_a0 ?_
  refine ok_V (As := [.int (nI 3), .int x]) (b := 94) (st := []) mkX12_goes qX12_voice_50 rfl (rc_94) rfl rfl rfl rfl (Nat.le_of_ble_eq_true rfl) (mv3_0_3 (ν := rf_w (rf_w μ 94 18 (nI 0)) 94 19 (nI g)) (mn := (μ 95 (194 + 8 * g))) (b := 0) (g := g) (by rw [rf_w_row (by decide), rf_w_row (by decide)]; exact hK) (by rw [rf_w_row (by decide), rf_w_row (by decide)]) (by simp [rf_w_at]) (by omega) (by simp [rf_w_at]) (by decide)) ?_
  refine ok_goto bX12_voice_53 ?_
  refine ok_reti eX12_voice_93 rfl ?_
  exact ⟨rfl, _, rfl, J.apt (α := α) (μ := μ) hJ.vo0 (by simp [rf_w_at]) (by decide)⟩
theorem c_hear_3_1 {g : Nat} {x : Int32} (hR : Rl 1 α (μ 95)) (hg : g < 16) (hK : μ 95 (190 + 8 * g) = nI 3) : rf_At (rf_T Ln xs) MX9_hear 25 0 ([some (.ref 83), some (.ref 10), some (.int (nI g)), some (.int (nI 1)), some (.int x)], [], 108, (α, μ)) (some (.int (((x + (nI g)) * nI 2) - (-((nI 1) - (μ 95 (194 + 8 * g))))))) 108 (apt 84 83 0 (rf_w (rf_w (rf_w (rf_w α 83 2 (nI 3)) 83 3 (nI g)) 83 4 (μ 95 (194 + 8 * g))) 83 0 (nI 0)) 0 [30, 11, 10, 40, 12], μ) := by
  refine rf_pa ?_
  refine ok_step (ps := [rf_in (nI g) 16, rf_in (nI g) 16]) (L' := [some (.ref 83), some (.ref 10), some (.int (nI g)), some (.int (nI 1)), some (.int x)]) (st' := [.int (nI 0), .int x, .int (nI 1), .int ((rf_w (rf_w (rf_w (rf_w α 83 2 (α 11 ((nI g).toNatClampNeg))) 83 3 (nI g)) 83 4 ((rf_w (rf_w α 83 2 (α 11 ((nI g).toNatClampNeg))) 83 3 (nI g)) 15 ((nI g).toNatClampNeg))) 83 0 (nI 0)) 83 2), .ref 83]) (σ' := (rf_w (rf_w (rf_w (rf_w α 83 2 (α 11 ((nI g).toNatClampNeg))) 83 3 (nI g)) 83 4 ((rf_w (rf_w α 83 2 (α 11 ((nI g).toNatClampNeg))) 83 3 (nI g)) 15 ((nI g).toNatClampNeg))) 83 0 (nI 0), μ)) (pc' := 39) kX9_hear_0 rfl rfl (rf_a1 (rf_in_n (a := g) rfl (by omega)) (rf_a1 (rf_in_n (a := g) rfl (by omega)) rf_a0)) ?_
  try rw [(show (nI g).toNatClampNeg = g from rf_cl_n rfl (by omega))]
  try rw [(show α 11 g = μ 95 (190 + 8 * g) from rl_10 hR (i := g) (by omega) (by omega))]
  try rw [hK]
  try rw [(show (nI g).toNatClampNeg = g from rf_cl_n rfl (by omega))]
  try rw [(show (rf_w (rf_w α 83 2 (nI 3)) 83 3 (nI g)) 15 g = (rf_w α 83 2 (nI 3)) 15 g from by rw [rf_w_at, if_neg (fun h => absurd h.1 (by decide))])]
  try rw [(show (rf_w α 83 2 (nI 3)) 15 g = α 15 g from by rw [rf_w_at, if_neg (fun h => absurd h.1 (by decide))])]
  try rw [(show α 15 g = μ 95 (194 + 8 * g) from rl_14 hR (i := g) (by omega) (by omega))]
  try rw [(show (rf_w (rf_w (rf_w (rf_w α 83 2 (nI 3)) 83 3 (nI g)) 83 4 (μ 95 (194 + 8 * g))) 83 0 (nI 0)) 83 2 = (rf_w (rf_w (rf_w α 83 2 (nI 3)) 83 3 (nI g)) 83 4 (μ 95 (194 + 8 * g))) 83 2 from by rw [rf_w_at, if_neg (fun h => absurd h.2 (by omega))])]
  try rw [(show (rf_w (rf_w (rf_w α 83 2 (nI 3)) 83 3 (nI g)) 83 4 (μ 95 (194 + 8 * g))) 83 2 = (rf_w (rf_w α 83 2 (nI 3)) 83 3 (nI g)) 83 2 from by rw [rf_w_at, if_neg (fun h => absurd h.2 (by omega))])]
  try rw [(show (rf_w (rf_w α 83 2 (nI 3)) 83 3 (nI g)) 83 2 = (rf_w α 83 2 (nI 3)) 83 2 from by rw [rf_w_at, if_neg (fun h => absurd h.2 (by omega))])]
  try rw [(show (rf_w α 83 2 (nI 3)) 83 2 = (nI 3) from by rw [rf_w_at, if_pos ⟨rfl, rfl⟩])]
  refine ok_V (As := [.int (nI 3), .int (nI 1), .int x, .int (nI 0)]) (b := 83) (st := []) mkX9_speak qX9_hear_39 rfl (rc_83) rfl rfl rfl rfl (Nat.le_of_ble_eq_true rfl) (cv3_1_3 (α := rf_w (rf_w (rf_w (rf_w α 83 2 (nI 3)) 83 3 (nI g)) 83 4 (μ 95 (194 + 8 * g))) 83 0 (nI 0)) (nu := nI g) (mn := (μ 95 (194 + 8 * g))) (b := 0) (dep := 0) (by simp [rf_w_at]) (by simp [rf_w_at]) (by simp [rf_w_at]) (by simp [rf_w_at]) (by decide) (by decide)) ?_
  refine ok_reti eX9_hear_42 rfl ?_
  exact ⟨rfl, rfl⟩
theorem op_voice_3_1 {g : Nat} {x : Int32} (hJ : J α μ) (hg : g < cn (μ 95) 4) (hK : μ 95 (190 + 8 * g) = nI 3) : Op (rf_T Ln xs) MX11_voice MX12_voice [some (.ref 0), some (.int (nI g)), some (.int (nI 1)), some (.int x)] [some (.ref 94), some (.int (nI g)), some (.int (nI 1)), some (.int x), none] α μ := by
  have hR := hJ.1.1.1
  have hI := hJ.2
  have b0 := hI.le0
  have b1 := hI.le1
  have b2 := hI.le2
  have b3 := hI.le3
  have b4 := hI.le4
  have b5 := hI.le5
  have b6 := hI.le6
  have b8 := hI.le8
  have b9 := hI.le9
  have b11 := hI.le11
  have b12 := hI.le12
  refine ok_step (ps := []) (L' := [some (.ref 0), some (.int (nI g)), some (.int (nI 1)), some (.int x)]) (st' := [.int (nI g), .ref 0]) (σ' := (α, μ)) (pc' := 2) kX11_voice_0 rfl rfl rf_a0 ?_
  refine ok_V (As := [.int (nI g)]) (b := 0) (st := []) mkX11_isGroup qX11_voice_2 rfl (rc_0) rfl rfl rfl rfl (Nat.le_of_ble_eq_true rfl) (c_isGroup hR) ?_
  refine ok_if_eq bX11_voice_5 (fun h5 => absurd h5 ((bI_n0.mpr (wi_in hI.at4 hg (by omega))))) (fun _ => ?_)
  refine ok_step (ps := []) (L' := [some (.ref 0), some (.int (nI g)), some (.int (nI 1)), some (.int x)]) (st' := [.int (nI 3), .int (nI 0), .int (nI 1)]) (σ' := (α, μ)) (pc' := 11) kX11_voice_8 rfl rfl rf_a0 ?_
  refine ok_S (As := [.int (nI 1), .int (nI 0), .int (nI 3)]) (st := []) mkX11_within qX11_voice_11 rfl rfl rfl rfl rfl (Nat.le_of_ble_eq_true rfl) (c_within) ?_
  rw [show bI (wi (nI 1) (nI 0) (nI 3)) = nI 1 from rfl]
  refine ok_if_ne bX11_voice_14 (fun _ => ?_) (fun h14 => absurd h14 ((by decide)))
  refine ok_step (ps := []) (L' := [some (.ref 0), some (.int (nI g)), some (.int (nI 1)), some (.int x)]) (st' := [.int x, .int (nI 1), .int (nI g), .ref 10, .ref 83]) (σ' := (α, μ)) (pc' := 38) kX11_voice_24 rfl rfl rf_a0 ?_
  refine ok_V (As := [.ref 10, .int (nI g), .int (nI 1), .int x]) (b := 83) (st := []) mkX9_hear qX11_voice_38 rfl (rc_83) rfl rfl rfl rfl (Nat.le_of_ble_eq_true rfl) (c_hear_3_1 hR (by omega) hK) ?_
  refine ok_reti eX11_voice_41 rfl ?_
  refine ⟨rfl, _, rfl, ?_⟩
  refine ok_step (ps := []) (L' := [some (.ref 94), some (.int (nI g)), some (.int (nI 1)), some (.int x), none]) (st' := [.int (nI g), .ref 94]) (σ' := (apt 84 83 0 (rf_w (rf_w (rf_w (rf_w α 83 2 (nI 3)) 83 3 (nI g)) 83 4 (μ 95 (194 + 8 * g))) 83 0 (nI 0)) 0 [30, 11, 10, 40, 12], μ)) (pc' := 2) kX12_voice_0 rfl rfl rf_a0 ?_
  refine ok_V (As := [.int (nI g)]) (b := 94) (st := []) mkX12_isGroup qX12_voice_2 rfl (rc_94) rfl rfl rfl rfl (Nat.le_of_ble_eq_true rfl) (m_isGroup) ?_
  refine ok_if_eq bX12_voice_5 (fun g5 => absurd g5 ((bI_n0.mpr (wi_in hI.at4 hg (by omega))))) (fun _ => ?_)
  refine ok_step (ps := []) (L' := [some (.ref 94), some (.int (nI g)), some (.int (nI 1)), some (.int x), none]) (st' := [.long (lN 3), .long (lN 0), .long ((nI 1).toInt64)]) (σ' := (apt 84 83 0 (rf_w (rf_w (rf_w (rf_w α 83 2 (nI 3)) 83 3 (nI g)) 83 4 (μ 95 (194 + 8 * g))) 83 0 (nI 0)) 0 [30, 11, 10, 40, 12], μ)) (pc' := 14) kX12_voice_8 rfl rfl rf_a0 ?_
  refine ok_S (As := [.long ((nI 1).toInt64), .long (lN 0), .long (lN 3)]) (st := []) mkX12_in qX12_voice_14 rfl rfl rfl rfl rfl (Nat.le_of_ble_eq_true rfl) (m_in) ?_
  rw [show wl ((nI 1).toInt64) (lN 0) (lN 3) = wi (nI 1) (nI 0) (nI 3) from wl_of rfl (nI_l (by decide)).symm (nI_l (by decide)).symm, show bI (wi (nI 1) (nI 0) (nI 3)) = nI 1 from rfl]
  refine ok_if_ne bX12_voice_17 (fun _ => ?_) (fun g17 => absurd g17 ((by decide)))
  refine ok_step (ps := []) (L' := [some (.ref 94), some (.int (nI g)), some (.int (nI 1)), some (.int x), none]) (st' := [.ref 94]) (σ' := (apt 84 83 0 (rf_w (rf_w (rf_w (rf_w α 83 2 (nI 3)) 83 3 (nI g)) 83 4 (μ 95 (194 + 8 * g))) 83 0 (nI 0)) 0 [30, 11, 10, 40, 12], rf_w (rf_w μ 94 18 (nI 0)) 94 19 (nI g))) (pc' := 37) kX12_voice_26 rfl rfl rf_a0 ?_
  refine ok_V (As := []) (b := 94) (st := []) mkX12_own qX12_voice_37 rfl (rc_94) rfl rfl rfl rfl (Nat.le_of_ble_eq_true rfl) (m_own (K := 3) (g := g) (by omega) (by rw [rf_w_row (by decide), rf_w_row (by decide)]; exact hK) (by simp [rf_w_at])) ?_
  refine ok_step (ps := []) (L' := [some (.ref 94), some (.int (nI g)), some (.int (nI 1)), some (.int x), some (.int (nI 3))]) (st' := [.int (nI 1)]) (σ' := (apt 84 83 0 (rf_w (rf_w (rf_w (rf_w α 83 2 (nI 3)) 83 3 (nI g)) 83 4 (μ 95 (194 + 8 * g))) 83 0 (nI 0)) 0 [30, 11, 10, 40, 12], rf_w (rf_w μ 94 18 (nI 0)) 94 19 (nI g))) (pc' := 43) kX12_voice_40 rfl rfl rf_a0 ?_
  refine ok_if_ne bX12_voice_43 (fun _ => ?_) (fun g43 => absurd g43 ((by decide)))
  refine ok_step (ps := []) (L' := [some (.ref 94), some (.int (nI g)), some (.int (nI 1)), some (.int x), some (.int (nI 3))]) (st' := [.int (nI 1), .int (nI 1)]) (σ' := (apt 84 83 0 (rf_w (rf_w (rf_w (rf_w α 83 2 (nI 3)) 83 3 (nI g)) 83 4 (μ 95 (194 + 8 * g))) 83 0 (nI 0)) 0 [30, 11, 10, 40, 12], rf_w (rf_w μ 94 18 (nI 0)) 94 19 (nI g))) (pc' := 58) kX12_voice_56 rfl rfl rf_a0 ?_
  refine ok_icmp_ne bX12_voice_58 (fun g58 => absurd ((by decide)) g58) (fun _ => ?_)
  refine ok_step (ps := []) (L' := [some (.ref 94), some (.int (nI g)), some (.int (nI 1)), some (.int x), some (.int (nI 3))]) (st' := [.int x, .int (nI 3), .ref 94]) (σ' := (apt 84 83 0 (rf_w (rf_w (rf_w (rf_w α 83 2 (nI 3)) 83 3 (nI g)) 83 4 (μ 95 (194 + 8 * g))) 83 0 (nI 0)) 0 [30, 11, 10, 40, 12], rf_w (rf_w μ 94 18 (nI 0)) 94 19 (nI g))) (pc' := 65) kX12_voice_61 rfl rfl rf_a0 ?_
  refine ok_V (As := [.int (nI 3), .int x]) (b := 94) (st := []) mkX12_weighsOf qX12_voice_65 rfl (rc_94) rfl rfl rfl rfl (Nat.le_of_ble_eq_true rfl) (mv3_1_3 (ν := rf_w (rf_w μ 94 18 (nI 0)) 94 19 (nI g)) (mn := (μ 95 (194 + 8 * g))) (b := 0) (g := g) (by rw [rf_w_row (by decide), rf_w_row (by decide)]; exact hK) (by rw [rf_w_row (by decide), rf_w_row (by decide)]) (by simp [rf_w_at]) (by omega) (by simp [rf_w_at]) (by decide)) ?_
  refine ok_goto bX12_voice_68 ?_
  refine ok_reti eX12_voice_93 rfl ?_
  exact ⟨rfl, _, rfl, J.apt (α := α) (μ := μ) hJ.vo0 (by simp [rf_w_at]) (by decide)⟩
theorem c_hear_3_2 {g : Nat} {x : Int32} (hR : Rl 1 α (μ 95)) (hg : g < 16) (hK : μ 95 (190 + 8 * g) = nI 3) : rf_At (rf_T Ln xs) MX9_hear 25 0 ([some (.ref 83), some (.ref 10), some (.int (nI g)), some (.int (nI 2)), some (.int x)], [], 108, (α, μ)) (some (.int (-(x - (μ 95 (194 + 8 * g)))))) 108 (apt 84 83 0 (rf_w (rf_w (rf_w (rf_w α 83 2 (nI 3)) 83 3 (nI g)) 83 4 (μ 95 (194 + 8 * g))) 83 0 (nI 0)) 0 [40, 12], μ) := by
  refine rf_pa ?_
  refine ok_step (ps := [rf_in (nI g) 16, rf_in (nI g) 16]) (L' := [some (.ref 83), some (.ref 10), some (.int (nI g)), some (.int (nI 2)), some (.int x)]) (st' := [.int (nI 0), .int x, .int (nI 2), .int ((rf_w (rf_w (rf_w (rf_w α 83 2 (α 11 ((nI g).toNatClampNeg))) 83 3 (nI g)) 83 4 ((rf_w (rf_w α 83 2 (α 11 ((nI g).toNatClampNeg))) 83 3 (nI g)) 15 ((nI g).toNatClampNeg))) 83 0 (nI 0)) 83 2), .ref 83]) (σ' := (rf_w (rf_w (rf_w (rf_w α 83 2 (α 11 ((nI g).toNatClampNeg))) 83 3 (nI g)) 83 4 ((rf_w (rf_w α 83 2 (α 11 ((nI g).toNatClampNeg))) 83 3 (nI g)) 15 ((nI g).toNatClampNeg))) 83 0 (nI 0), μ)) (pc' := 39) kX9_hear_0 rfl rfl (rf_a1 (rf_in_n (a := g) rfl (by omega)) (rf_a1 (rf_in_n (a := g) rfl (by omega)) rf_a0)) ?_
  try rw [(show (nI g).toNatClampNeg = g from rf_cl_n rfl (by omega))]
  try rw [(show α 11 g = μ 95 (190 + 8 * g) from rl_10 hR (i := g) (by omega) (by omega))]
  try rw [hK]
  try rw [(show (nI g).toNatClampNeg = g from rf_cl_n rfl (by omega))]
  try rw [(show (rf_w (rf_w α 83 2 (nI 3)) 83 3 (nI g)) 15 g = (rf_w α 83 2 (nI 3)) 15 g from by rw [rf_w_at, if_neg (fun h => absurd h.1 (by decide))])]
  try rw [(show (rf_w α 83 2 (nI 3)) 15 g = α 15 g from by rw [rf_w_at, if_neg (fun h => absurd h.1 (by decide))])]
  try rw [(show α 15 g = μ 95 (194 + 8 * g) from rl_14 hR (i := g) (by omega) (by omega))]
  try rw [(show (rf_w (rf_w (rf_w (rf_w α 83 2 (nI 3)) 83 3 (nI g)) 83 4 (μ 95 (194 + 8 * g))) 83 0 (nI 0)) 83 2 = (rf_w (rf_w (rf_w α 83 2 (nI 3)) 83 3 (nI g)) 83 4 (μ 95 (194 + 8 * g))) 83 2 from by rw [rf_w_at, if_neg (fun h => absurd h.2 (by omega))])]
  try rw [(show (rf_w (rf_w (rf_w α 83 2 (nI 3)) 83 3 (nI g)) 83 4 (μ 95 (194 + 8 * g))) 83 2 = (rf_w (rf_w α 83 2 (nI 3)) 83 3 (nI g)) 83 2 from by rw [rf_w_at, if_neg (fun h => absurd h.2 (by omega))])]
  try rw [(show (rf_w (rf_w α 83 2 (nI 3)) 83 3 (nI g)) 83 2 = (rf_w α 83 2 (nI 3)) 83 2 from by rw [rf_w_at, if_neg (fun h => absurd h.2 (by omega))])]
  try rw [(show (rf_w α 83 2 (nI 3)) 83 2 = (nI 3) from by rw [rf_w_at, if_pos ⟨rfl, rfl⟩])]
  refine ok_V (As := [.int (nI 3), .int (nI 2), .int x, .int (nI 0)]) (b := 83) (st := []) mkX9_speak qX9_hear_39 rfl (rc_83) rfl rfl rfl rfl (Nat.le_of_ble_eq_true rfl) (cv3_2_3 (α := rf_w (rf_w (rf_w (rf_w α 83 2 (nI 3)) 83 3 (nI g)) 83 4 (μ 95 (194 + 8 * g))) 83 0 (nI 0)) (nu := nI g) (mn := (μ 95 (194 + 8 * g))) (b := 0) (dep := 0) (by simp [rf_w_at]) (by simp [rf_w_at]) (by simp [rf_w_at]) (by simp [rf_w_at]) (by decide) (by decide)) ?_
  refine ok_reti eX9_hear_42 rfl ?_
  exact ⟨rfl, rfl⟩
theorem op_voice_3_2 {g : Nat} {x : Int32} (hJ : J α μ) (hg : g < cn (μ 95) 4) (hK : μ 95 (190 + 8 * g) = nI 3) : Op (rf_T Ln xs) MX11_voice MX12_voice [some (.ref 0), some (.int (nI g)), some (.int (nI 2)), some (.int x)] [some (.ref 94), some (.int (nI g)), some (.int (nI 2)), some (.int x), none] α μ := by
  have hR := hJ.1.1.1
  have hI := hJ.2
  have b0 := hI.le0
  have b1 := hI.le1
  have b2 := hI.le2
  have b3 := hI.le3
  have b4 := hI.le4
  have b5 := hI.le5
  have b6 := hI.le6
  have b8 := hI.le8
  have b9 := hI.le9
  have b11 := hI.le11
  have b12 := hI.le12
  refine ok_step (ps := []) (L' := [some (.ref 0), some (.int (nI g)), some (.int (nI 2)), some (.int x)]) (st' := [.int (nI g), .ref 0]) (σ' := (α, μ)) (pc' := 2) kX11_voice_0 rfl rfl rf_a0 ?_
  refine ok_V (As := [.int (nI g)]) (b := 0) (st := []) mkX11_isGroup qX11_voice_2 rfl (rc_0) rfl rfl rfl rfl (Nat.le_of_ble_eq_true rfl) (c_isGroup hR) ?_
  refine ok_if_eq bX11_voice_5 (fun h5 => absurd h5 ((bI_n0.mpr (wi_in hI.at4 hg (by omega))))) (fun _ => ?_)
  refine ok_step (ps := []) (L' := [some (.ref 0), some (.int (nI g)), some (.int (nI 2)), some (.int x)]) (st' := [.int (nI 3), .int (nI 0), .int (nI 2)]) (σ' := (α, μ)) (pc' := 11) kX11_voice_8 rfl rfl rf_a0 ?_
  refine ok_S (As := [.int (nI 2), .int (nI 0), .int (nI 3)]) (st := []) mkX11_within qX11_voice_11 rfl rfl rfl rfl rfl (Nat.le_of_ble_eq_true rfl) (c_within) ?_
  rw [show bI (wi (nI 2) (nI 0) (nI 3)) = nI 1 from rfl]
  refine ok_if_ne bX11_voice_14 (fun _ => ?_) (fun h14 => absurd h14 ((by decide)))
  refine ok_step (ps := []) (L' := [some (.ref 0), some (.int (nI g)), some (.int (nI 2)), some (.int x)]) (st' := [.int x, .int (nI 2), .int (nI g), .ref 10, .ref 83]) (σ' := (α, μ)) (pc' := 38) kX11_voice_24 rfl rfl rf_a0 ?_
  refine ok_V (As := [.ref 10, .int (nI g), .int (nI 2), .int x]) (b := 83) (st := []) mkX9_hear qX11_voice_38 rfl (rc_83) rfl rfl rfl rfl (Nat.le_of_ble_eq_true rfl) (c_hear_3_2 hR (by omega) hK) ?_
  refine ok_reti eX11_voice_41 rfl ?_
  refine ⟨rfl, _, rfl, ?_⟩
  refine ok_step (ps := []) (L' := [some (.ref 94), some (.int (nI g)), some (.int (nI 2)), some (.int x), none]) (st' := [.int (nI g), .ref 94]) (σ' := (apt 84 83 0 (rf_w (rf_w (rf_w (rf_w α 83 2 (nI 3)) 83 3 (nI g)) 83 4 (μ 95 (194 + 8 * g))) 83 0 (nI 0)) 0 [40, 12], μ)) (pc' := 2) kX12_voice_0 rfl rfl rf_a0 ?_
  refine ok_V (As := [.int (nI g)]) (b := 94) (st := []) mkX12_isGroup qX12_voice_2 rfl (rc_94) rfl rfl rfl rfl (Nat.le_of_ble_eq_true rfl) (m_isGroup) ?_
  refine ok_if_eq bX12_voice_5 (fun g5 => absurd g5 ((bI_n0.mpr (wi_in hI.at4 hg (by omega))))) (fun _ => ?_)
  refine ok_step (ps := []) (L' := [some (.ref 94), some (.int (nI g)), some (.int (nI 2)), some (.int x), none]) (st' := [.long (lN 3), .long (lN 0), .long ((nI 2).toInt64)]) (σ' := (apt 84 83 0 (rf_w (rf_w (rf_w (rf_w α 83 2 (nI 3)) 83 3 (nI g)) 83 4 (μ 95 (194 + 8 * g))) 83 0 (nI 0)) 0 [40, 12], μ)) (pc' := 14) kX12_voice_8 rfl rfl rf_a0 ?_
  refine ok_S (As := [.long ((nI 2).toInt64), .long (lN 0), .long (lN 3)]) (st := []) mkX12_in qX12_voice_14 rfl rfl rfl rfl rfl (Nat.le_of_ble_eq_true rfl) (m_in) ?_
  rw [show wl ((nI 2).toInt64) (lN 0) (lN 3) = wi (nI 2) (nI 0) (nI 3) from wl_of rfl (nI_l (by decide)).symm (nI_l (by decide)).symm, show bI (wi (nI 2) (nI 0) (nI 3)) = nI 1 from rfl]
  refine ok_if_ne bX12_voice_17 (fun _ => ?_) (fun g17 => absurd g17 ((by decide)))
  refine ok_step (ps := []) (L' := [some (.ref 94), some (.int (nI g)), some (.int (nI 2)), some (.int x), none]) (st' := [.ref 94]) (σ' := (apt 84 83 0 (rf_w (rf_w (rf_w (rf_w α 83 2 (nI 3)) 83 3 (nI g)) 83 4 (μ 95 (194 + 8 * g))) 83 0 (nI 0)) 0 [40, 12], rf_w (rf_w μ 94 18 (nI 0)) 94 19 (nI g))) (pc' := 37) kX12_voice_26 rfl rfl rf_a0 ?_
  refine ok_V (As := []) (b := 94) (st := []) mkX12_own qX12_voice_37 rfl (rc_94) rfl rfl rfl rfl (Nat.le_of_ble_eq_true rfl) (m_own (K := 3) (g := g) (by omega) (by rw [rf_w_row (by decide), rf_w_row (by decide)]; exact hK) (by simp [rf_w_at])) ?_
  refine ok_step (ps := []) (L' := [some (.ref 94), some (.int (nI g)), some (.int (nI 2)), some (.int x), some (.int (nI 3))]) (st' := [.int (nI 2)]) (σ' := (apt 84 83 0 (rf_w (rf_w (rf_w (rf_w α 83 2 (nI 3)) 83 3 (nI g)) 83 4 (μ 95 (194 + 8 * g))) 83 0 (nI 0)) 0 [40, 12], rf_w (rf_w μ 94 18 (nI 0)) 94 19 (nI g))) (pc' := 43) kX12_voice_40 rfl rfl rf_a0 ?_
  refine ok_if_ne bX12_voice_43 (fun _ => ?_) (fun g43 => absurd g43 ((by decide)))
  refine ok_step (ps := []) (L' := [some (.ref 94), some (.int (nI g)), some (.int (nI 2)), some (.int x), some (.int (nI 3))]) (st' := [.int (nI 1), .int (nI 2)]) (σ' := (apt 84 83 0 (rf_w (rf_w (rf_w (rf_w α 83 2 (nI 3)) 83 3 (nI g)) 83 4 (μ 95 (194 + 8 * g))) 83 0 (nI 0)) 0 [40, 12], rf_w (rf_w μ 94 18 (nI 0)) 94 19 (nI g))) (pc' := 58) kX12_voice_56 rfl rfl rf_a0 ?_
  refine ok_icmp_ne bX12_voice_58 (fun _ => ?_) (fun g58 => absurd g58 ((by decide)))
  refine ok_step (ps := []) (L' := [some (.ref 94), some (.int (nI g)), some (.int (nI 2)), some (.int x), some (.int (nI 3))]) (st' := [.int (nI 2), .int (nI 2)]) (σ' := (apt 84 83 0 (rf_w (rf_w (rf_w (rf_w α 83 2 (nI 3)) 83 3 (nI g)) 83 4 (μ 95 (194 + 8 * g))) 83 0 (nI 0)) 0 [40, 12], rf_w (rf_w μ 94 18 (nI 0)) 94 19 (nI g))) (pc' := 73) kX12_voice_71 rfl rfl rf_a0 ?_
  refine ok_icmp_ne bX12_voice_73 (fun g73 => absurd ((by decide)) g73) (fun _ => ?_)
  refine ok_step (ps := []) (L' := [some (.ref 94), some (.int (nI g)), some (.int (nI 2)), some (.int x), some (.int (nI 3))]) (st' := [.int x, .int (nI 3), .ref 94]) (σ' := (apt 84 83 0 (rf_w (rf_w (rf_w (rf_w α 83 2 (nI 3)) 83 3 (nI g)) 83 4 (μ 95 (194 + 8 * g))) 83 0 (nI 0)) 0 [40, 12], rf_w (rf_w μ 94 18 (nI 0)) 94 19 (nI g))) (pc' := 80) kX12_voice_76 rfl rfl rf_a0 ?_
  refine ok_V (As := [.int (nI 3), .int x]) (b := 94) (st := []) mkX12_tellsOf qX12_voice_80 rfl (rc_94) rfl rfl rfl rfl (Nat.le_of_ble_eq_true rfl) (mv3_2_3 (ν := rf_w (rf_w μ 94 18 (nI 0)) 94 19 (nI g)) (mn := (μ 95 (194 + 8 * g))) (b := 0) (g := g) (by rw [rf_w_row (by decide), rf_w_row (by decide)]; exact hK) (by rw [rf_w_row (by decide), rf_w_row (by decide)]) (by simp [rf_w_at]) (by omega) (by simp [rf_w_at]) (by decide)) ?_
  refine ok_goto bX12_voice_83 ?_
  refine ok_reti eX12_voice_93 rfl ?_
  exact ⟨rfl, _, rfl, J.apt (α := α) (μ := μ) hJ.vo0 (by simp [rf_w_at]) (by decide)⟩
theorem c_hear_3_3 {g : Nat} {x : Int32} (hR : Rl 1 α (μ 95)) (hg : g < 16) (hK : μ 95 (190 + 8 * g) = nI 3) : rf_At (rf_T Ln xs) MX9_hear 25 0 ([some (.ref 83), some (.ref 10), some (.int (nI g)), some (.int (nI 3)), some (.int x)], [], 108, (α, μ)) (some (.int ((((x + (nI g)) * nI 2) - (-((nI 1) - (μ 95 (194 + 8 * g))))) ^^^ (-(x - (μ 95 (194 + 8 * g))))))) 108 (apt 84 83 0 (rf_w (rf_w (rf_w (rf_w α 83 2 (nI 3)) 83 3 (nI g)) 83 4 (μ 95 (194 + 8 * g))) 83 0 (nI 0)) 0 [13, 30, 11, 10, 40, 12, 40, 12], μ) := by
  refine rf_pa ?_
  refine ok_step (ps := [rf_in (nI g) 16, rf_in (nI g) 16]) (L' := [some (.ref 83), some (.ref 10), some (.int (nI g)), some (.int (nI 3)), some (.int x)]) (st' := [.int (nI 0), .int x, .int (nI 3), .int ((rf_w (rf_w (rf_w (rf_w α 83 2 (α 11 ((nI g).toNatClampNeg))) 83 3 (nI g)) 83 4 ((rf_w (rf_w α 83 2 (α 11 ((nI g).toNatClampNeg))) 83 3 (nI g)) 15 ((nI g).toNatClampNeg))) 83 0 (nI 0)) 83 2), .ref 83]) (σ' := (rf_w (rf_w (rf_w (rf_w α 83 2 (α 11 ((nI g).toNatClampNeg))) 83 3 (nI g)) 83 4 ((rf_w (rf_w α 83 2 (α 11 ((nI g).toNatClampNeg))) 83 3 (nI g)) 15 ((nI g).toNatClampNeg))) 83 0 (nI 0), μ)) (pc' := 39) kX9_hear_0 rfl rfl (rf_a1 (rf_in_n (a := g) rfl (by omega)) (rf_a1 (rf_in_n (a := g) rfl (by omega)) rf_a0)) ?_
  try rw [(show (nI g).toNatClampNeg = g from rf_cl_n rfl (by omega))]
  try rw [(show α 11 g = μ 95 (190 + 8 * g) from rl_10 hR (i := g) (by omega) (by omega))]
  try rw [hK]
  try rw [(show (nI g).toNatClampNeg = g from rf_cl_n rfl (by omega))]
  try rw [(show (rf_w (rf_w α 83 2 (nI 3)) 83 3 (nI g)) 15 g = (rf_w α 83 2 (nI 3)) 15 g from by rw [rf_w_at, if_neg (fun h => absurd h.1 (by decide))])]
  try rw [(show (rf_w α 83 2 (nI 3)) 15 g = α 15 g from by rw [rf_w_at, if_neg (fun h => absurd h.1 (by decide))])]
  try rw [(show α 15 g = μ 95 (194 + 8 * g) from rl_14 hR (i := g) (by omega) (by omega))]
  try rw [(show (rf_w (rf_w (rf_w (rf_w α 83 2 (nI 3)) 83 3 (nI g)) 83 4 (μ 95 (194 + 8 * g))) 83 0 (nI 0)) 83 2 = (rf_w (rf_w (rf_w α 83 2 (nI 3)) 83 3 (nI g)) 83 4 (μ 95 (194 + 8 * g))) 83 2 from by rw [rf_w_at, if_neg (fun h => absurd h.2 (by omega))])]
  try rw [(show (rf_w (rf_w (rf_w α 83 2 (nI 3)) 83 3 (nI g)) 83 4 (μ 95 (194 + 8 * g))) 83 2 = (rf_w (rf_w α 83 2 (nI 3)) 83 3 (nI g)) 83 2 from by rw [rf_w_at, if_neg (fun h => absurd h.2 (by omega))])]
  try rw [(show (rf_w (rf_w α 83 2 (nI 3)) 83 3 (nI g)) 83 2 = (rf_w α 83 2 (nI 3)) 83 2 from by rw [rf_w_at, if_neg (fun h => absurd h.2 (by omega))])]
  try rw [(show (rf_w α 83 2 (nI 3)) 83 2 = (nI 3) from by rw [rf_w_at, if_pos ⟨rfl, rfl⟩])]
  refine ok_V (As := [.int (nI 3), .int (nI 3), .int x, .int (nI 0)]) (b := 83) (st := []) mkX9_speak qX9_hear_39 rfl (rc_83) rfl rfl rfl rfl (Nat.le_of_ble_eq_true rfl) (cv3_3_3 (α := rf_w (rf_w (rf_w (rf_w α 83 2 (nI 3)) 83 3 (nI g)) 83 4 (μ 95 (194 + 8 * g))) 83 0 (nI 0)) (nu := nI g) (mn := (μ 95 (194 + 8 * g))) (b := 0) (dep := 0) (by simp [rf_w_at]) (by simp [rf_w_at]) (by simp [rf_w_at]) (by simp [rf_w_at]) (by decide) (by decide)) ?_
  refine ok_reti eX9_hear_42 rfl ?_
  exact ⟨rfl, rfl⟩
theorem op_voice_3_3 {g : Nat} {x : Int32} (hJ : J α μ) (hg : g < cn (μ 95) 4) (hK : μ 95 (190 + 8 * g) = nI 3) : Op (rf_T Ln xs) MX11_voice MX12_voice [some (.ref 0), some (.int (nI g)), some (.int (nI 3)), some (.int x)] [some (.ref 94), some (.int (nI g)), some (.int (nI 3)), some (.int x), none] α μ := by
  have hR := hJ.1.1.1
  have hI := hJ.2
  have b0 := hI.le0
  have b1 := hI.le1
  have b2 := hI.le2
  have b3 := hI.le3
  have b4 := hI.le4
  have b5 := hI.le5
  have b6 := hI.le6
  have b8 := hI.le8
  have b9 := hI.le9
  have b11 := hI.le11
  have b12 := hI.le12
  refine ok_step (ps := []) (L' := [some (.ref 0), some (.int (nI g)), some (.int (nI 3)), some (.int x)]) (st' := [.int (nI g), .ref 0]) (σ' := (α, μ)) (pc' := 2) kX11_voice_0 rfl rfl rf_a0 ?_
  refine ok_V (As := [.int (nI g)]) (b := 0) (st := []) mkX11_isGroup qX11_voice_2 rfl (rc_0) rfl rfl rfl rfl (Nat.le_of_ble_eq_true rfl) (c_isGroup hR) ?_
  refine ok_if_eq bX11_voice_5 (fun h5 => absurd h5 ((bI_n0.mpr (wi_in hI.at4 hg (by omega))))) (fun _ => ?_)
  refine ok_step (ps := []) (L' := [some (.ref 0), some (.int (nI g)), some (.int (nI 3)), some (.int x)]) (st' := [.int (nI 3), .int (nI 0), .int (nI 3)]) (σ' := (α, μ)) (pc' := 11) kX11_voice_8 rfl rfl rf_a0 ?_
  refine ok_S (As := [.int (nI 3), .int (nI 0), .int (nI 3)]) (st := []) mkX11_within qX11_voice_11 rfl rfl rfl rfl rfl (Nat.le_of_ble_eq_true rfl) (c_within) ?_
  rw [show bI (wi (nI 3) (nI 0) (nI 3)) = nI 1 from rfl]
  refine ok_if_ne bX11_voice_14 (fun _ => ?_) (fun h14 => absurd h14 ((by decide)))
  refine ok_step (ps := []) (L' := [some (.ref 0), some (.int (nI g)), some (.int (nI 3)), some (.int x)]) (st' := [.int x, .int (nI 3), .int (nI g), .ref 10, .ref 83]) (σ' := (α, μ)) (pc' := 38) kX11_voice_24 rfl rfl rf_a0 ?_
  refine ok_V (As := [.ref 10, .int (nI g), .int (nI 3), .int x]) (b := 83) (st := []) mkX9_hear qX11_voice_38 rfl (rc_83) rfl rfl rfl rfl (Nat.le_of_ble_eq_true rfl) (c_hear_3_3 hR (by omega) hK) ?_
  refine ok_reti eX11_voice_41 rfl ?_
  refine ⟨rfl, _, rfl, ?_⟩
  refine ok_step (ps := []) (L' := [some (.ref 94), some (.int (nI g)), some (.int (nI 3)), some (.int x), none]) (st' := [.int (nI g), .ref 94]) (σ' := (apt 84 83 0 (rf_w (rf_w (rf_w (rf_w α 83 2 (nI 3)) 83 3 (nI g)) 83 4 (μ 95 (194 + 8 * g))) 83 0 (nI 0)) 0 [13, 30, 11, 10, 40, 12, 40, 12], μ)) (pc' := 2) kX12_voice_0 rfl rfl rf_a0 ?_
  refine ok_V (As := [.int (nI g)]) (b := 94) (st := []) mkX12_isGroup qX12_voice_2 rfl (rc_94) rfl rfl rfl rfl (Nat.le_of_ble_eq_true rfl) (m_isGroup) ?_
  refine ok_if_eq bX12_voice_5 (fun g5 => absurd g5 ((bI_n0.mpr (wi_in hI.at4 hg (by omega))))) (fun _ => ?_)
  refine ok_step (ps := []) (L' := [some (.ref 94), some (.int (nI g)), some (.int (nI 3)), some (.int x), none]) (st' := [.long (lN 3), .long (lN 0), .long ((nI 3).toInt64)]) (σ' := (apt 84 83 0 (rf_w (rf_w (rf_w (rf_w α 83 2 (nI 3)) 83 3 (nI g)) 83 4 (μ 95 (194 + 8 * g))) 83 0 (nI 0)) 0 [13, 30, 11, 10, 40, 12, 40, 12], μ)) (pc' := 14) kX12_voice_8 rfl rfl rf_a0 ?_
  refine ok_S (As := [.long ((nI 3).toInt64), .long (lN 0), .long (lN 3)]) (st := []) mkX12_in qX12_voice_14 rfl rfl rfl rfl rfl (Nat.le_of_ble_eq_true rfl) (m_in) ?_
  rw [show wl ((nI 3).toInt64) (lN 0) (lN 3) = wi (nI 3) (nI 0) (nI 3) from wl_of rfl (nI_l (by decide)).symm (nI_l (by decide)).symm, show bI (wi (nI 3) (nI 0) (nI 3)) = nI 1 from rfl]
  refine ok_if_ne bX12_voice_17 (fun _ => ?_) (fun g17 => absurd g17 ((by decide)))
  refine ok_step (ps := []) (L' := [some (.ref 94), some (.int (nI g)), some (.int (nI 3)), some (.int x), none]) (st' := [.ref 94]) (σ' := (apt 84 83 0 (rf_w (rf_w (rf_w (rf_w α 83 2 (nI 3)) 83 3 (nI g)) 83 4 (μ 95 (194 + 8 * g))) 83 0 (nI 0)) 0 [13, 30, 11, 10, 40, 12, 40, 12], rf_w (rf_w μ 94 18 (nI 0)) 94 19 (nI g))) (pc' := 37) kX12_voice_26 rfl rfl rf_a0 ?_
  refine ok_V (As := []) (b := 94) (st := []) mkX12_own qX12_voice_37 rfl (rc_94) rfl rfl rfl rfl (Nat.le_of_ble_eq_true rfl) (m_own (K := 3) (g := g) (by omega) (by rw [rf_w_row (by decide), rf_w_row (by decide)]; exact hK) (by simp [rf_w_at])) ?_
  refine ok_step (ps := []) (L' := [some (.ref 94), some (.int (nI g)), some (.int (nI 3)), some (.int x), some (.int (nI 3))]) (st' := [.int (nI 3)]) (σ' := (apt 84 83 0 (rf_w (rf_w (rf_w (rf_w α 83 2 (nI 3)) 83 3 (nI g)) 83 4 (μ 95 (194 + 8 * g))) 83 0 (nI 0)) 0 [13, 30, 11, 10, 40, 12, 40, 12], rf_w (rf_w μ 94 18 (nI 0)) 94 19 (nI g))) (pc' := 43) kX12_voice_40 rfl rfl rf_a0 ?_
  refine ok_if_ne bX12_voice_43 (fun _ => ?_) (fun g43 => absurd g43 ((by decide)))
  refine ok_step (ps := []) (L' := [some (.ref 94), some (.int (nI g)), some (.int (nI 3)), some (.int x), some (.int (nI 3))]) (st' := [.int (nI 1), .int (nI 3)]) (σ' := (apt 84 83 0 (rf_w (rf_w (rf_w (rf_w α 83 2 (nI 3)) 83 3 (nI g)) 83 4 (μ 95 (194 + 8 * g))) 83 0 (nI 0)) 0 [13, 30, 11, 10, 40, 12, 40, 12], rf_w (rf_w μ 94 18 (nI 0)) 94 19 (nI g))) (pc' := 58) kX12_voice_56 rfl rfl rf_a0 ?_
  refine ok_icmp_ne bX12_voice_58 (fun _ => ?_) (fun g58 => absurd g58 ((by decide)))
  refine ok_step (ps := []) (L' := [some (.ref 94), some (.int (nI g)), some (.int (nI 3)), some (.int x), some (.int (nI 3))]) (st' := [.int (nI 2), .int (nI 3)]) (σ' := (apt 84 83 0 (rf_w (rf_w (rf_w (rf_w α 83 2 (nI 3)) 83 3 (nI g)) 83 4 (μ 95 (194 + 8 * g))) 83 0 (nI 0)) 0 [13, 30, 11, 10, 40, 12, 40, 12], rf_w (rf_w μ 94 18 (nI 0)) 94 19 (nI g))) (pc' := 73) kX12_voice_71 rfl rfl rf_a0 ?_
  refine ok_icmp_ne bX12_voice_73 (fun _ => ?_) (fun g73 => absurd g73 ((by decide)))
  refine ok_step (ps := []) (L' := [some (.ref 94), some (.int (nI g)), some (.int (nI 3)), some (.int x), some (.int (nI 3))]) (st' := [.int x, .int (nI 3), .ref 94]) (σ' := (apt 84 83 0 (rf_w (rf_w (rf_w (rf_w α 83 2 (nI 3)) 83 3 (nI g)) 83 4 (μ 95 (194 + 8 * g))) 83 0 (nI 0)) 0 [13, 30, 11, 10, 40, 12, 40, 12], rf_w (rf_w μ 94 18 (nI 0)) 94 19 (nI g))) (pc' := 90) kX12_voice_86 rfl rfl rf_a0 ?_
  refine ok_V (As := [.int (nI 3), .int x]) (b := 94) (st := []) mkX12_paysOf qX12_voice_90 rfl (rc_94) rfl rfl rfl rfl (Nat.le_of_ble_eq_true rfl) (mv3_3_3 (ν := rf_w (rf_w μ 94 18 (nI 0)) 94 19 (nI g)) (mn := (μ 95 (194 + 8 * g))) (b := 0) (g := g) (by rw [rf_w_row (by decide), rf_w_row (by decide)]; exact hK) (by rw [rf_w_row (by decide), rf_w_row (by decide)]) (by simp [rf_w_at]) (by omega) (by simp [rf_w_at]) (by decide)) ?_
  refine ok_reti eX12_voice_93 rfl ?_
  exact ⟨rfl, _, rfl, J.apt (α := α) (μ := μ) hJ.vo0 (by simp [rf_w_at]) (by decide)⟩
theorem c_hear_4_0 {g : Nat} {x : Int32} (hR : Rl 1 α (μ 95)) (hg : g < 16) (hK : μ 95 (190 + 8 * g) = nI 4) : rf_At (rf_T Ln xs) MX9_hear 25 0 ([some (.ref 83), some (.ref 10), some (.int (nI g)), some (.int (nI 0)), some (.int x)], [], 108, (α, μ)) (some (.int ((x + (nI g)) * nI 3))) 108 (apt 84 83 0 (rf_w (rf_w (rf_w (rf_w α 83 2 (nI 4)) 83 3 (nI g)) 83 4 (μ 95 (194 + 8 * g))) 83 0 (nI 0)) 0 [50, 10], μ) := by
  refine rf_pa ?_
  refine ok_step (ps := [rf_in (nI g) 16, rf_in (nI g) 16]) (L' := [some (.ref 83), some (.ref 10), some (.int (nI g)), some (.int (nI 0)), some (.int x)]) (st' := [.int (nI 0), .int x, .int (nI 0), .int ((rf_w (rf_w (rf_w (rf_w α 83 2 (α 11 ((nI g).toNatClampNeg))) 83 3 (nI g)) 83 4 ((rf_w (rf_w α 83 2 (α 11 ((nI g).toNatClampNeg))) 83 3 (nI g)) 15 ((nI g).toNatClampNeg))) 83 0 (nI 0)) 83 2), .ref 83]) (σ' := (rf_w (rf_w (rf_w (rf_w α 83 2 (α 11 ((nI g).toNatClampNeg))) 83 3 (nI g)) 83 4 ((rf_w (rf_w α 83 2 (α 11 ((nI g).toNatClampNeg))) 83 3 (nI g)) 15 ((nI g).toNatClampNeg))) 83 0 (nI 0), μ)) (pc' := 39) kX9_hear_0 rfl rfl (rf_a1 (rf_in_n (a := g) rfl (by omega)) (rf_a1 (rf_in_n (a := g) rfl (by omega)) rf_a0)) ?_
  try rw [(show (nI g).toNatClampNeg = g from rf_cl_n rfl (by omega))]
  try rw [(show α 11 g = μ 95 (190 + 8 * g) from rl_10 hR (i := g) (by omega) (by omega))]
  try rw [hK]
  try rw [(show (nI g).toNatClampNeg = g from rf_cl_n rfl (by omega))]
  try rw [(show (rf_w (rf_w α 83 2 (nI 4)) 83 3 (nI g)) 15 g = (rf_w α 83 2 (nI 4)) 15 g from by rw [rf_w_at, if_neg (fun h => absurd h.1 (by decide))])]
  try rw [(show (rf_w α 83 2 (nI 4)) 15 g = α 15 g from by rw [rf_w_at, if_neg (fun h => absurd h.1 (by decide))])]
  try rw [(show α 15 g = μ 95 (194 + 8 * g) from rl_14 hR (i := g) (by omega) (by omega))]
  try rw [(show (rf_w (rf_w (rf_w (rf_w α 83 2 (nI 4)) 83 3 (nI g)) 83 4 (μ 95 (194 + 8 * g))) 83 0 (nI 0)) 83 2 = (rf_w (rf_w (rf_w α 83 2 (nI 4)) 83 3 (nI g)) 83 4 (μ 95 (194 + 8 * g))) 83 2 from by rw [rf_w_at, if_neg (fun h => absurd h.2 (by omega))])]
  try rw [(show (rf_w (rf_w (rf_w α 83 2 (nI 4)) 83 3 (nI g)) 83 4 (μ 95 (194 + 8 * g))) 83 2 = (rf_w (rf_w α 83 2 (nI 4)) 83 3 (nI g)) 83 2 from by rw [rf_w_at, if_neg (fun h => absurd h.2 (by omega))])]
  try rw [(show (rf_w (rf_w α 83 2 (nI 4)) 83 3 (nI g)) 83 2 = (rf_w α 83 2 (nI 4)) 83 2 from by rw [rf_w_at, if_neg (fun h => absurd h.2 (by omega))])]
  try rw [(show (rf_w α 83 2 (nI 4)) 83 2 = (nI 4) from by rw [rf_w_at, if_pos ⟨rfl, rfl⟩])]
  refine ok_V (As := [.int (nI 4), .int (nI 0), .int x, .int (nI 0)]) (b := 83) (st := []) mkX9_speak qX9_hear_39 rfl (rc_83) rfl rfl rfl rfl (Nat.le_of_ble_eq_true rfl) (cv4_0_4 (α := rf_w (rf_w (rf_w (rf_w α 83 2 (nI 4)) 83 3 (nI g)) 83 4 (μ 95 (194 + 8 * g))) 83 0 (nI 0)) (nu := nI g) (mn := (μ 95 (194 + 8 * g))) (b := 0) (dep := 0) (by simp [rf_w_at]) (by simp [rf_w_at]) (by simp [rf_w_at]) (by simp [rf_w_at]) (by decide) (by decide)) ?_
  refine ok_reti eX9_hear_42 rfl ?_
  exact ⟨rfl, rfl⟩
theorem op_voice_4_0 {g : Nat} {x : Int32} (hJ : J α μ) (hg : g < cn (μ 95) 4) (hK : μ 95 (190 + 8 * g) = nI 4) : Op (rf_T Ln xs) MX11_voice MX12_voice [some (.ref 0), some (.int (nI g)), some (.int (nI 0)), some (.int x)] [some (.ref 94), some (.int (nI g)), some (.int (nI 0)), some (.int x), none] α μ := by
  have hR := hJ.1.1.1
  have hI := hJ.2
  have b0 := hI.le0
  have b1 := hI.le1
  have b2 := hI.le2
  have b3 := hI.le3
  have b4 := hI.le4
  have b5 := hI.le5
  have b6 := hI.le6
  have b8 := hI.le8
  have b9 := hI.le9
  have b11 := hI.le11
  have b12 := hI.le12
  refine ok_step (ps := []) (L' := [some (.ref 0), some (.int (nI g)), some (.int (nI 0)), some (.int x)]) (st' := [.int (nI g), .ref 0]) (σ' := (α, μ)) (pc' := 2) kX11_voice_0 rfl rfl rf_a0 ?_
  refine ok_V (As := [.int (nI g)]) (b := 0) (st := []) mkX11_isGroup qX11_voice_2 rfl (rc_0) rfl rfl rfl rfl (Nat.le_of_ble_eq_true rfl) (c_isGroup hR) ?_
  refine ok_if_eq bX11_voice_5 (fun h5 => absurd h5 ((bI_n0.mpr (wi_in hI.at4 hg (by omega))))) (fun _ => ?_)
  refine ok_step (ps := []) (L' := [some (.ref 0), some (.int (nI g)), some (.int (nI 0)), some (.int x)]) (st' := [.int (nI 3), .int (nI 0), .int (nI 0)]) (σ' := (α, μ)) (pc' := 11) kX11_voice_8 rfl rfl rf_a0 ?_
  refine ok_S (As := [.int (nI 0), .int (nI 0), .int (nI 3)]) (st := []) mkX11_within qX11_voice_11 rfl rfl rfl rfl rfl (Nat.le_of_ble_eq_true rfl) (c_within) ?_
  rw [show bI (wi (nI 0) (nI 0) (nI 3)) = nI 1 from rfl]
  refine ok_if_ne bX11_voice_14 (fun _ => ?_) (fun h14 => absurd h14 ((by decide)))
  refine ok_step (ps := []) (L' := [some (.ref 0), some (.int (nI g)), some (.int (nI 0)), some (.int x)]) (st' := [.int x, .int (nI 0), .int (nI g), .ref 10, .ref 83]) (σ' := (α, μ)) (pc' := 38) kX11_voice_24 rfl rfl rf_a0 ?_
  refine ok_V (As := [.ref 10, .int (nI g), .int (nI 0), .int x]) (b := 83) (st := []) mkX9_hear qX11_voice_38 rfl (rc_83) rfl rfl rfl rfl (Nat.le_of_ble_eq_true rfl) (c_hear_4_0 hR (by omega) hK) ?_
  refine ok_reti eX11_voice_41 rfl ?_
  refine ⟨rfl, _, rfl, ?_⟩
  refine ok_step (ps := []) (L' := [some (.ref 94), some (.int (nI g)), some (.int (nI 0)), some (.int x), none]) (st' := [.int (nI g), .ref 94]) (σ' := (apt 84 83 0 (rf_w (rf_w (rf_w (rf_w α 83 2 (nI 4)) 83 3 (nI g)) 83 4 (μ 95 (194 + 8 * g))) 83 0 (nI 0)) 0 [50, 10], μ)) (pc' := 2) kX12_voice_0 rfl rfl rf_a0 ?_
  refine ok_V (As := [.int (nI g)]) (b := 94) (st := []) mkX12_isGroup qX12_voice_2 rfl (rc_94) rfl rfl rfl rfl (Nat.le_of_ble_eq_true rfl) (m_isGroup) ?_
  refine ok_if_eq bX12_voice_5 (fun g5 => absurd g5 ((bI_n0.mpr (wi_in hI.at4 hg (by omega))))) (fun _ => ?_)
  refine ok_step (ps := []) (L' := [some (.ref 94), some (.int (nI g)), some (.int (nI 0)), some (.int x), none]) (st' := [.long (lN 3), .long (lN 0), .long ((nI 0).toInt64)]) (σ' := (apt 84 83 0 (rf_w (rf_w (rf_w (rf_w α 83 2 (nI 4)) 83 3 (nI g)) 83 4 (μ 95 (194 + 8 * g))) 83 0 (nI 0)) 0 [50, 10], μ)) (pc' := 14) kX12_voice_8 rfl rfl rf_a0 ?_
  refine ok_S (As := [.long ((nI 0).toInt64), .long (lN 0), .long (lN 3)]) (st := []) mkX12_in qX12_voice_14 rfl rfl rfl rfl rfl (Nat.le_of_ble_eq_true rfl) (m_in) ?_
  rw [show wl ((nI 0).toInt64) (lN 0) (lN 3) = wi (nI 0) (nI 0) (nI 3) from wl_of rfl (nI_l (by decide)).symm (nI_l (by decide)).symm, show bI (wi (nI 0) (nI 0) (nI 3)) = nI 1 from rfl]
  refine ok_if_ne bX12_voice_17 (fun _ => ?_) (fun g17 => absurd g17 ((by decide)))
  refine ok_step (ps := []) (L' := [some (.ref 94), some (.int (nI g)), some (.int (nI 0)), some (.int x), none]) (st' := [.ref 94]) (σ' := (apt 84 83 0 (rf_w (rf_w (rf_w (rf_w α 83 2 (nI 4)) 83 3 (nI g)) 83 4 (μ 95 (194 + 8 * g))) 83 0 (nI 0)) 0 [50, 10], rf_w (rf_w μ 94 18 (nI 0)) 94 19 (nI g))) (pc' := 37) kX12_voice_26 rfl rfl rf_a0 ?_
  refine ok_V (As := []) (b := 94) (st := []) mkX12_own qX12_voice_37 rfl (rc_94) rfl rfl rfl rfl (Nat.le_of_ble_eq_true rfl) (m_own (K := 4) (g := g) (by omega) (by rw [rf_w_row (by decide), rf_w_row (by decide)]; exact hK) (by simp [rf_w_at])) ?_
  refine ok_step (ps := []) (L' := [some (.ref 94), some (.int (nI g)), some (.int (nI 0)), some (.int x), some (.int (nI 4))]) (st' := [.int (nI 0)]) (σ' := (apt 84 83 0 (rf_w (rf_w (rf_w (rf_w α 83 2 (nI 4)) 83 3 (nI g)) 83 4 (μ 95 (194 + 8 * g))) 83 0 (nI 0)) 0 [50, 10], rf_w (rf_w μ 94 18 (nI 0)) 94 19 (nI g))) (pc' := 43) kX12_voice_40 rfl rfl rf_a0 ?_
  refine ok_if_ne bX12_voice_43 (fun g43 => absurd ((by decide)) g43) (fun _ => ?_)
  refine ok_step (ps := []) (L' := [some (.ref 94), some (.int (nI g)), some (.int (nI 0)), some (.int x), some (.int (nI 4))]) (st' := [.int x, .int (nI 4), .ref 94]) (σ' := (apt 84 83 0 (rf_w (rf_w (rf_w (rf_w α 83 2 (nI 4)) 83 3 (nI g)) 83 4 (μ 95 (194 + 8 * g))) 83 0 (nI 0)) 0 [50, 10], rf_w (rf_w μ 94 18 (nI 0)) 94 19 (nI g))) (pc' := 50) kX12_voice_46 rfl rfl rf_a0 ?_
  refine ok_V (As := [.int (nI 4), .int x]) (b := 94) (st := []) mkX12_goes qX12_voice_50 rfl (rc_94) rfl rfl rfl rfl (Nat.le_of_ble_eq_true rfl) (mv4_0_4 (ν := rf_w (rf_w μ 94 18 (nI 0)) 94 19 (nI g)) (mn := (μ 95 (194 + 8 * g))) (b := 0) (g := g) (by rw [rf_w_row (by decide), rf_w_row (by decide)]; exact hK) (by rw [rf_w_row (by decide), rf_w_row (by decide)]) (by simp [rf_w_at]) (by omega) (by simp [rf_w_at]) (by decide)) ?_
  refine ok_goto bX12_voice_53 ?_
  refine ok_reti eX12_voice_93 rfl ?_
  exact ⟨rfl, _, rfl, J.apt (α := α) (μ := μ) hJ.vo0 (by simp [rf_w_at]) (by decide)⟩
theorem c_hear_4_1 {g : Nat} {x : Int32} (hR : Rl 1 α (μ 95)) (hg : g < 16) (hK : μ 95 (190 + 8 * g) = nI 4) : rf_At (rf_T Ln xs) MX9_hear 25 0 ([some (.ref 83), some (.ref 10), some (.int (nI g)), some (.int (nI 1)), some (.int x)], [], 108, (α, μ)) (some (.int (((((x + nI 1) + (nI g)) * nI 3) * nI 2) - ((nI 1) - (μ 95 (194 + 8 * g)))))) 108 (apt 84 83 0 (rf_w (rf_w (rf_w (rf_w α 83 2 (nI 4)) 83 3 (nI g)) 83 4 (μ 95 (194 + 8 * g))) 83 0 (nI 0)) 0 [51, 30, 11, 50, 10, 12], μ) := by
  refine rf_pa ?_
  refine ok_step (ps := [rf_in (nI g) 16, rf_in (nI g) 16]) (L' := [some (.ref 83), some (.ref 10), some (.int (nI g)), some (.int (nI 1)), some (.int x)]) (st' := [.int (nI 0), .int x, .int (nI 1), .int ((rf_w (rf_w (rf_w (rf_w α 83 2 (α 11 ((nI g).toNatClampNeg))) 83 3 (nI g)) 83 4 ((rf_w (rf_w α 83 2 (α 11 ((nI g).toNatClampNeg))) 83 3 (nI g)) 15 ((nI g).toNatClampNeg))) 83 0 (nI 0)) 83 2), .ref 83]) (σ' := (rf_w (rf_w (rf_w (rf_w α 83 2 (α 11 ((nI g).toNatClampNeg))) 83 3 (nI g)) 83 4 ((rf_w (rf_w α 83 2 (α 11 ((nI g).toNatClampNeg))) 83 3 (nI g)) 15 ((nI g).toNatClampNeg))) 83 0 (nI 0), μ)) (pc' := 39) kX9_hear_0 rfl rfl (rf_a1 (rf_in_n (a := g) rfl (by omega)) (rf_a1 (rf_in_n (a := g) rfl (by omega)) rf_a0)) ?_
  try rw [(show (nI g).toNatClampNeg = g from rf_cl_n rfl (by omega))]
  try rw [(show α 11 g = μ 95 (190 + 8 * g) from rl_10 hR (i := g) (by omega) (by omega))]
  try rw [hK]
  try rw [(show (nI g).toNatClampNeg = g from rf_cl_n rfl (by omega))]
  try rw [(show (rf_w (rf_w α 83 2 (nI 4)) 83 3 (nI g)) 15 g = (rf_w α 83 2 (nI 4)) 15 g from by rw [rf_w_at, if_neg (fun h => absurd h.1 (by decide))])]
  try rw [(show (rf_w α 83 2 (nI 4)) 15 g = α 15 g from by rw [rf_w_at, if_neg (fun h => absurd h.1 (by decide))])]
  try rw [(show α 15 g = μ 95 (194 + 8 * g) from rl_14 hR (i := g) (by omega) (by omega))]
  try rw [(show (rf_w (rf_w (rf_w (rf_w α 83 2 (nI 4)) 83 3 (nI g)) 83 4 (μ 95 (194 + 8 * g))) 83 0 (nI 0)) 83 2 = (rf_w (rf_w (rf_w α 83 2 (nI 4)) 83 3 (nI g)) 83 4 (μ 95 (194 + 8 * g))) 83 2 from by rw [rf_w_at, if_neg (fun h => absurd h.2 (by omega))])]
  try rw [(show (rf_w (rf_w (rf_w α 83 2 (nI 4)) 83 3 (nI g)) 83 4 (μ 95 (194 + 8 * g))) 83 2 = (rf_w (rf_w α 83 2 (nI 4)) 83 3 (nI g)) 83 2 from by rw [rf_w_at, if_neg (fun h => absurd h.2 (by omega))])]
  try rw [(show (rf_w (rf_w α 83 2 (nI 4)) 83 3 (nI g)) 83 2 = (rf_w α 83 2 (nI 4)) 83 2 from by rw [rf_w_at, if_neg (fun h => absurd h.2 (by omega))])]
  try rw [(show (rf_w α 83 2 (nI 4)) 83 2 = (nI 4) from by rw [rf_w_at, if_pos ⟨rfl, rfl⟩])]
  refine ok_V (As := [.int (nI 4), .int (nI 1), .int x, .int (nI 0)]) (b := 83) (st := []) mkX9_speak qX9_hear_39 rfl (rc_83) rfl rfl rfl rfl (Nat.le_of_ble_eq_true rfl) (cv4_1_4 (α := rf_w (rf_w (rf_w (rf_w α 83 2 (nI 4)) 83 3 (nI g)) 83 4 (μ 95 (194 + 8 * g))) 83 0 (nI 0)) (nu := nI g) (mn := (μ 95 (194 + 8 * g))) (b := 0) (dep := 0) (by simp [rf_w_at]) (by simp [rf_w_at]) (by simp [rf_w_at]) (by simp [rf_w_at]) (by decide) (by decide)) ?_
  refine ok_reti eX9_hear_42 rfl ?_
  exact ⟨rfl, rfl⟩
theorem op_voice_4_1 {g : Nat} {x : Int32} (hJ : J α μ) (hg : g < cn (μ 95) 4) (hK : μ 95 (190 + 8 * g) = nI 4) : Op (rf_T Ln xs) MX11_voice MX12_voice [some (.ref 0), some (.int (nI g)), some (.int (nI 1)), some (.int x)] [some (.ref 94), some (.int (nI g)), some (.int (nI 1)), some (.int x), none] α μ := by
  have hR := hJ.1.1.1
  have hI := hJ.2
  have b0 := hI.le0
  have b1 := hI.le1
  have b2 := hI.le2
  have b3 := hI.le3
  have b4 := hI.le4
  have b5 := hI.le5
  have b6 := hI.le6
  have b8 := hI.le8
  have b9 := hI.le9
  have b11 := hI.le11
  have b12 := hI.le12
  refine ok_step (ps := []) (L' := [some (.ref 0), some (.int (nI g)), some (.int (nI 1)), some (.int x)]) (st' := [.int (nI g), .ref 0]) (σ' := (α, μ)) (pc' := 2) kX11_voice_0 rfl rfl rf_a0 ?_
  refine ok_V (As := [.int (nI g)]) (b := 0) (st := []) mkX11_isGroup qX11_voice_2 rfl (rc_0) rfl rfl rfl rfl (Nat.le_of_ble_eq_true rfl) (c_isGroup hR) ?_
  refine ok_if_eq bX11_voice_5 (fun h5 => absurd h5 ((bI_n0.mpr (wi_in hI.at4 hg (by omega))))) (fun _ => ?_)
  refine ok_step (ps := []) (L' := [some (.ref 0), some (.int (nI g)), some (.int (nI 1)), some (.int x)]) (st' := [.int (nI 3), .int (nI 0), .int (nI 1)]) (σ' := (α, μ)) (pc' := 11) kX11_voice_8 rfl rfl rf_a0 ?_
  refine ok_S (As := [.int (nI 1), .int (nI 0), .int (nI 3)]) (st := []) mkX11_within qX11_voice_11 rfl rfl rfl rfl rfl (Nat.le_of_ble_eq_true rfl) (c_within) ?_
  rw [show bI (wi (nI 1) (nI 0) (nI 3)) = nI 1 from rfl]
  refine ok_if_ne bX11_voice_14 (fun _ => ?_) (fun h14 => absurd h14 ((by decide)))
  refine ok_step (ps := []) (L' := [some (.ref 0), some (.int (nI g)), some (.int (nI 1)), some (.int x)]) (st' := [.int x, .int (nI 1), .int (nI g), .ref 10, .ref 83]) (σ' := (α, μ)) (pc' := 38) kX11_voice_24 rfl rfl rf_a0 ?_
  refine ok_V (As := [.ref 10, .int (nI g), .int (nI 1), .int x]) (b := 83) (st := []) mkX9_hear qX11_voice_38 rfl (rc_83) rfl rfl rfl rfl (Nat.le_of_ble_eq_true rfl) (c_hear_4_1 hR (by omega) hK) ?_
  refine ok_reti eX11_voice_41 rfl ?_
  refine ⟨rfl, _, rfl, ?_⟩
  refine ok_step (ps := []) (L' := [some (.ref 94), some (.int (nI g)), some (.int (nI 1)), some (.int x), none]) (st' := [.int (nI g), .ref 94]) (σ' := (apt 84 83 0 (rf_w (rf_w (rf_w (rf_w α 83 2 (nI 4)) 83 3 (nI g)) 83 4 (μ 95 (194 + 8 * g))) 83 0 (nI 0)) 0 [51, 30, 11, 50, 10, 12], μ)) (pc' := 2) kX12_voice_0 rfl rfl rf_a0 ?_
  refine ok_V (As := [.int (nI g)]) (b := 94) (st := []) mkX12_isGroup qX12_voice_2 rfl (rc_94) rfl rfl rfl rfl (Nat.le_of_ble_eq_true rfl) (m_isGroup) ?_
  refine ok_if_eq bX12_voice_5 (fun g5 => absurd g5 ((bI_n0.mpr (wi_in hI.at4 hg (by omega))))) (fun _ => ?_)
  refine ok_step (ps := []) (L' := [some (.ref 94), some (.int (nI g)), some (.int (nI 1)), some (.int x), none]) (st' := [.long (lN 3), .long (lN 0), .long ((nI 1).toInt64)]) (σ' := (apt 84 83 0 (rf_w (rf_w (rf_w (rf_w α 83 2 (nI 4)) 83 3 (nI g)) 83 4 (μ 95 (194 + 8 * g))) 83 0 (nI 0)) 0 [51, 30, 11, 50, 10, 12], μ)) (pc' := 14) kX12_voice_8 rfl rfl rf_a0 ?_
  refine ok_S (As := [.long ((nI 1).toInt64), .long (lN 0), .long (lN 3)]) (st := []) mkX12_in qX12_voice_14 rfl rfl rfl rfl rfl (Nat.le_of_ble_eq_true rfl) (m_in) ?_
  rw [show wl ((nI 1).toInt64) (lN 0) (lN 3) = wi (nI 1) (nI 0) (nI 3) from wl_of rfl (nI_l (by decide)).symm (nI_l (by decide)).symm, show bI (wi (nI 1) (nI 0) (nI 3)) = nI 1 from rfl]
  refine ok_if_ne bX12_voice_17 (fun _ => ?_) (fun g17 => absurd g17 ((by decide)))
  refine ok_step (ps := []) (L' := [some (.ref 94), some (.int (nI g)), some (.int (nI 1)), some (.int x), none]) (st' := [.ref 94]) (σ' := (apt 84 83 0 (rf_w (rf_w (rf_w (rf_w α 83 2 (nI 4)) 83 3 (nI g)) 83 4 (μ 95 (194 + 8 * g))) 83 0 (nI 0)) 0 [51, 30, 11, 50, 10, 12], rf_w (rf_w μ 94 18 (nI 0)) 94 19 (nI g))) (pc' := 37) kX12_voice_26 rfl rfl rf_a0 ?_
  refine ok_V (As := []) (b := 94) (st := []) mkX12_own qX12_voice_37 rfl (rc_94) rfl rfl rfl rfl (Nat.le_of_ble_eq_true rfl) (m_own (K := 4) (g := g) (by omega) (by rw [rf_w_row (by decide), rf_w_row (by decide)]; exact hK) (by simp [rf_w_at])) ?_
  refine ok_step (ps := []) (L' := [some (.ref 94), some (.int (nI g)), some (.int (nI 1)), some (.int x), some (.int (nI 4))]) (st' := [.int (nI 1)]) (σ' := (apt 84 83 0 (rf_w (rf_w (rf_w (rf_w α 83 2 (nI 4)) 83 3 (nI g)) 83 4 (μ 95 (194 + 8 * g))) 83 0 (nI 0)) 0 [51, 30, 11, 50, 10, 12], rf_w (rf_w μ 94 18 (nI 0)) 94 19 (nI g))) (pc' := 43) kX12_voice_40 rfl rfl rf_a0 ?_
  refine ok_if_ne bX12_voice_43 (fun _ => ?_) (fun g43 => absurd g43 ((by decide)))
  refine ok_step (ps := []) (L' := [some (.ref 94), some (.int (nI g)), some (.int (nI 1)), some (.int x), some (.int (nI 4))]) (st' := [.int (nI 1), .int (nI 1)]) (σ' := (apt 84 83 0 (rf_w (rf_w (rf_w (rf_w α 83 2 (nI 4)) 83 3 (nI g)) 83 4 (μ 95 (194 + 8 * g))) 83 0 (nI 0)) 0 [51, 30, 11, 50, 10, 12], rf_w (rf_w μ 94 18 (nI 0)) 94 19 (nI g))) (pc' := 58) kX12_voice_56 rfl rfl rf_a0 ?_
  refine ok_icmp_ne bX12_voice_58 (fun g58 => absurd ((by decide)) g58) (fun _ => ?_)
  refine ok_step (ps := []) (L' := [some (.ref 94), some (.int (nI g)), some (.int (nI 1)), some (.int x), some (.int (nI 4))]) (st' := [.int x, .int (nI 4), .ref 94]) (σ' := (apt 84 83 0 (rf_w (rf_w (rf_w (rf_w α 83 2 (nI 4)) 83 3 (nI g)) 83 4 (μ 95 (194 + 8 * g))) 83 0 (nI 0)) 0 [51, 30, 11, 50, 10, 12], rf_w (rf_w μ 94 18 (nI 0)) 94 19 (nI g))) (pc' := 65) kX12_voice_61 rfl rfl rf_a0 ?_
  refine ok_V (As := [.int (nI 4), .int x]) (b := 94) (st := []) mkX12_weighsOf qX12_voice_65 rfl (rc_94) rfl rfl rfl rfl (Nat.le_of_ble_eq_true rfl) (mv4_1_4 (ν := rf_w (rf_w μ 94 18 (nI 0)) 94 19 (nI g)) (mn := (μ 95 (194 + 8 * g))) (b := 0) (g := g) (by rw [rf_w_row (by decide), rf_w_row (by decide)]; exact hK) (by rw [rf_w_row (by decide), rf_w_row (by decide)]) (by simp [rf_w_at]) (by omega) (by simp [rf_w_at]) (by decide)) ?_
  refine ok_goto bX12_voice_68 ?_
  refine ok_reti eX12_voice_93 rfl ?_
  exact ⟨rfl, _, rfl, J.apt (α := α) (μ := μ) hJ.vo0 (by simp [rf_w_at]) (by decide)⟩
theorem c_hear_4_2 {g : Nat} {x : Int32} (hR : Rl 1 α (μ 95)) (hg : g < 16) (hK : μ 95 (190 + 8 * g) = nI 4) : rf_At (rf_T Ln xs) MX9_hear 25 0 ([some (.ref 83), some (.ref 10), some (.int (nI g)), some (.int (nI 2)), some (.int x)], [], 108, (α, μ)) (some (.int (x - (μ 95 (194 + 8 * g))))) 108 (apt 84 83 0 (rf_w (rf_w (rf_w (rf_w α 83 2 (nI 4)) 83 3 (nI g)) 83 4 (μ 95 (194 + 8 * g))) 83 0 (nI 0)) 0 [12], μ) := by
  refine rf_pa ?_
  refine ok_step (ps := [rf_in (nI g) 16, rf_in (nI g) 16]) (L' := [some (.ref 83), some (.ref 10), some (.int (nI g)), some (.int (nI 2)), some (.int x)]) (st' := [.int (nI 0), .int x, .int (nI 2), .int ((rf_w (rf_w (rf_w (rf_w α 83 2 (α 11 ((nI g).toNatClampNeg))) 83 3 (nI g)) 83 4 ((rf_w (rf_w α 83 2 (α 11 ((nI g).toNatClampNeg))) 83 3 (nI g)) 15 ((nI g).toNatClampNeg))) 83 0 (nI 0)) 83 2), .ref 83]) (σ' := (rf_w (rf_w (rf_w (rf_w α 83 2 (α 11 ((nI g).toNatClampNeg))) 83 3 (nI g)) 83 4 ((rf_w (rf_w α 83 2 (α 11 ((nI g).toNatClampNeg))) 83 3 (nI g)) 15 ((nI g).toNatClampNeg))) 83 0 (nI 0), μ)) (pc' := 39) kX9_hear_0 rfl rfl (rf_a1 (rf_in_n (a := g) rfl (by omega)) (rf_a1 (rf_in_n (a := g) rfl (by omega)) rf_a0)) ?_
  try rw [(show (nI g).toNatClampNeg = g from rf_cl_n rfl (by omega))]
  try rw [(show α 11 g = μ 95 (190 + 8 * g) from rl_10 hR (i := g) (by omega) (by omega))]
  try rw [hK]
  try rw [(show (nI g).toNatClampNeg = g from rf_cl_n rfl (by omega))]
  try rw [(show (rf_w (rf_w α 83 2 (nI 4)) 83 3 (nI g)) 15 g = (rf_w α 83 2 (nI 4)) 15 g from by rw [rf_w_at, if_neg (fun h => absurd h.1 (by decide))])]
  try rw [(show (rf_w α 83 2 (nI 4)) 15 g = α 15 g from by rw [rf_w_at, if_neg (fun h => absurd h.1 (by decide))])]
  try rw [(show α 15 g = μ 95 (194 + 8 * g) from rl_14 hR (i := g) (by omega) (by omega))]
  try rw [(show (rf_w (rf_w (rf_w (rf_w α 83 2 (nI 4)) 83 3 (nI g)) 83 4 (μ 95 (194 + 8 * g))) 83 0 (nI 0)) 83 2 = (rf_w (rf_w (rf_w α 83 2 (nI 4)) 83 3 (nI g)) 83 4 (μ 95 (194 + 8 * g))) 83 2 from by rw [rf_w_at, if_neg (fun h => absurd h.2 (by omega))])]
  try rw [(show (rf_w (rf_w (rf_w α 83 2 (nI 4)) 83 3 (nI g)) 83 4 (μ 95 (194 + 8 * g))) 83 2 = (rf_w (rf_w α 83 2 (nI 4)) 83 3 (nI g)) 83 2 from by rw [rf_w_at, if_neg (fun h => absurd h.2 (by omega))])]
  try rw [(show (rf_w (rf_w α 83 2 (nI 4)) 83 3 (nI g)) 83 2 = (rf_w α 83 2 (nI 4)) 83 2 from by rw [rf_w_at, if_neg (fun h => absurd h.2 (by omega))])]
  try rw [(show (rf_w α 83 2 (nI 4)) 83 2 = (nI 4) from by rw [rf_w_at, if_pos ⟨rfl, rfl⟩])]
  refine ok_V (As := [.int (nI 4), .int (nI 2), .int x, .int (nI 0)]) (b := 83) (st := []) mkX9_speak qX9_hear_39 rfl (rc_83) rfl rfl rfl rfl (Nat.le_of_ble_eq_true rfl) (cv4_2_4 (α := rf_w (rf_w (rf_w (rf_w α 83 2 (nI 4)) 83 3 (nI g)) 83 4 (μ 95 (194 + 8 * g))) 83 0 (nI 0)) (nu := nI g) (mn := (μ 95 (194 + 8 * g))) (b := 0) (dep := 0) (by simp [rf_w_at]) (by simp [rf_w_at]) (by simp [rf_w_at]) (by simp [rf_w_at]) (by decide) (by decide)) ?_
  refine ok_reti eX9_hear_42 rfl ?_
  exact ⟨rfl, rfl⟩
theorem op_voice_4_2 {g : Nat} {x : Int32} (hJ : J α μ) (hg : g < cn (μ 95) 4) (hK : μ 95 (190 + 8 * g) = nI 4) : Op (rf_T Ln xs) MX11_voice MX12_voice [some (.ref 0), some (.int (nI g)), some (.int (nI 2)), some (.int x)] [some (.ref 94), some (.int (nI g)), some (.int (nI 2)), some (.int x), none] α μ := by
  have hR := hJ.1.1.1
  have hI := hJ.2
  have b0 := hI.le0
  have b1 := hI.le1
  have b2 := hI.le2
  have b3 := hI.le3
  have b4 := hI.le4
  have b5 := hI.le5
  have b6 := hI.le6
  have b8 := hI.le8
  have b9 := hI.le9
  have b11 := hI.le11
  have b12 := hI.le12
  refine ok_step (ps := []) (L' := [some (.ref 0), some (.int (nI g)), some (.int (nI 2)), some (.int x)]) (st' := [.int (nI g), .ref 0]) (σ' := (α, μ)) (pc' := 2) kX11_voice_0 rfl rfl rf_a0 ?_
  refine ok_V (As := [.int (nI g)]) (b := 0) (st := []) mkX11_isGroup qX11_voice_2 rfl (rc_0) rfl rfl rfl rfl (Nat.le_of_ble_eq_true rfl) (c_isGroup hR) ?_
  refine ok_if_eq bX11_voice_5 (fun h5 => absurd h5 ((bI_n0.mpr (wi_in hI.at4 hg (by omega))))) (fun _ => ?_)
  refine ok_step (ps := []) (L' := [some (.ref 0), some (.int (nI g)), some (.int (nI 2)), some (.int x)]) (st' := [.int (nI 3), .int (nI 0), .int (nI 2)]) (σ' := (α, μ)) (pc' := 11) kX11_voice_8 rfl rfl rf_a0 ?_
  refine ok_S (As := [.int (nI 2), .int (nI 0), .int (nI 3)]) (st := []) mkX11_within qX11_voice_11 rfl rfl rfl rfl rfl (Nat.le_of_ble_eq_true rfl) (c_within) ?_
  rw [show bI (wi (nI 2) (nI 0) (nI 3)) = nI 1 from rfl]
  refine ok_if_ne bX11_voice_14 (fun _ => ?_) (fun h14 => absurd h14 ((by decide)))
  refine ok_step (ps := []) (L' := [some (.ref 0), some (.int (nI g)), some (.int (nI 2)), some (.int x)]) (st' := [.int x, .int (nI 2), .int (nI g), .ref 10, .ref 83]) (σ' := (α, μ)) (pc' := 38) kX11_voice_24 rfl rfl rf_a0 ?_
  refine ok_V (As := [.ref 10, .int (nI g), .int (nI 2), .int x]) (b := 83) (st := []) mkX9_hear qX11_voice_38 rfl (rc_83) rfl rfl rfl rfl (Nat.le_of_ble_eq_true rfl) (c_hear_4_2 hR (by omega) hK) ?_
  refine ok_reti eX11_voice_41 rfl ?_
  refine ⟨rfl, _, rfl, ?_⟩
  refine ok_step (ps := []) (L' := [some (.ref 94), some (.int (nI g)), some (.int (nI 2)), some (.int x), none]) (st' := [.int (nI g), .ref 94]) (σ' := (apt 84 83 0 (rf_w (rf_w (rf_w (rf_w α 83 2 (nI 4)) 83 3 (nI g)) 83 4 (μ 95 (194 + 8 * g))) 83 0 (nI 0)) 0 [12], μ)) (pc' := 2) kX12_voice_0 rfl rfl rf_a0 ?_
  refine ok_V (As := [.int (nI g)]) (b := 94) (st := []) mkX12_isGroup qX12_voice_2 rfl (rc_94) rfl rfl rfl rfl (Nat.le_of_ble_eq_true rfl) (m_isGroup) ?_
  refine ok_if_eq bX12_voice_5 (fun g5 => absurd g5 ((bI_n0.mpr (wi_in hI.at4 hg (by omega))))) (fun _ => ?_)
  refine ok_step (ps := []) (L' := [some (.ref 94), some (.int (nI g)), some (.int (nI 2)), some (.int x), none]) (st' := [.long (lN 3), .long (lN 0), .long ((nI 2).toInt64)]) (σ' := (apt 84 83 0 (rf_w (rf_w (rf_w (rf_w α 83 2 (nI 4)) 83 3 (nI g)) 83 4 (μ 95 (194 + 8 * g))) 83 0 (nI 0)) 0 [12], μ)) (pc' := 14) kX12_voice_8 rfl rfl rf_a0 ?_
  refine ok_S (As := [.long ((nI 2).toInt64), .long (lN 0), .long (lN 3)]) (st := []) mkX12_in qX12_voice_14 rfl rfl rfl rfl rfl (Nat.le_of_ble_eq_true rfl) (m_in) ?_
  rw [show wl ((nI 2).toInt64) (lN 0) (lN 3) = wi (nI 2) (nI 0) (nI 3) from wl_of rfl (nI_l (by decide)).symm (nI_l (by decide)).symm, show bI (wi (nI 2) (nI 0) (nI 3)) = nI 1 from rfl]
  refine ok_if_ne bX12_voice_17 (fun _ => ?_) (fun g17 => absurd g17 ((by decide)))
  refine ok_step (ps := []) (L' := [some (.ref 94), some (.int (nI g)), some (.int (nI 2)), some (.int x), none]) (st' := [.ref 94]) (σ' := (apt 84 83 0 (rf_w (rf_w (rf_w (rf_w α 83 2 (nI 4)) 83 3 (nI g)) 83 4 (μ 95 (194 + 8 * g))) 83 0 (nI 0)) 0 [12], rf_w (rf_w μ 94 18 (nI 0)) 94 19 (nI g))) (pc' := 37) kX12_voice_26 rfl rfl rf_a0 ?_
  refine ok_V (As := []) (b := 94) (st := []) mkX12_own qX12_voice_37 rfl (rc_94) rfl rfl rfl rfl (Nat.le_of_ble_eq_true rfl) (m_own (K := 4) (g := g) (by omega) (by rw [rf_w_row (by decide), rf_w_row (by decide)]; exact hK) (by simp [rf_w_at])) ?_
  refine ok_step (ps := []) (L' := [some (.ref 94), some (.int (nI g)), some (.int (nI 2)), some (.int x), some (.int (nI 4))]) (st' := [.int (nI 2)]) (σ' := (apt 84 83 0 (rf_w (rf_w (rf_w (rf_w α 83 2 (nI 4)) 83 3 (nI g)) 83 4 (μ 95 (194 + 8 * g))) 83 0 (nI 0)) 0 [12], rf_w (rf_w μ 94 18 (nI 0)) 94 19 (nI g))) (pc' := 43) kX12_voice_40 rfl rfl rf_a0 ?_
  refine ok_if_ne bX12_voice_43 (fun _ => ?_) (fun g43 => absurd g43 ((by decide)))
  refine ok_step (ps := []) (L' := [some (.ref 94), some (.int (nI g)), some (.int (nI 2)), some (.int x), some (.int (nI 4))]) (st' := [.int (nI 1), .int (nI 2)]) (σ' := (apt 84 83 0 (rf_w (rf_w (rf_w (rf_w α 83 2 (nI 4)) 83 3 (nI g)) 83 4 (μ 95 (194 + 8 * g))) 83 0 (nI 0)) 0 [12], rf_w (rf_w μ 94 18 (nI 0)) 94 19 (nI g))) (pc' := 58) kX12_voice_56 rfl rfl rf_a0 ?_
  refine ok_icmp_ne bX12_voice_58 (fun _ => ?_) (fun g58 => absurd g58 ((by decide)))
  refine ok_step (ps := []) (L' := [some (.ref 94), some (.int (nI g)), some (.int (nI 2)), some (.int x), some (.int (nI 4))]) (st' := [.int (nI 2), .int (nI 2)]) (σ' := (apt 84 83 0 (rf_w (rf_w (rf_w (rf_w α 83 2 (nI 4)) 83 3 (nI g)) 83 4 (μ 95 (194 + 8 * g))) 83 0 (nI 0)) 0 [12], rf_w (rf_w μ 94 18 (nI 0)) 94 19 (nI g))) (pc' := 73) kX12_voice_71 rfl rfl rf_a0 ?_
  refine ok_icmp_ne bX12_voice_73 (fun g73 => absurd ((by decide)) g73) (fun _ => ?_)
  refine ok_step (ps := []) (L' := [some (.ref 94), some (.int (nI g)), some (.int (nI 2)), some (.int x), some (.int (nI 4))]) (st' := [.int x, .int (nI 4), .ref 94]) (σ' := (apt 84 83 0 (rf_w (rf_w (rf_w (rf_w α 83 2 (nI 4)) 83 3 (nI g)) 83 4 (μ 95 (194 + 8 * g))) 83 0 (nI 0)) 0 [12], rf_w (rf_w μ 94 18 (nI 0)) 94 19 (nI g))) (pc' := 80) kX12_voice_76 rfl rfl rf_a0 ?_
  refine ok_V (As := [.int (nI 4), .int x]) (b := 94) (st := []) mkX12_tellsOf qX12_voice_80 rfl (rc_94) rfl rfl rfl rfl (Nat.le_of_ble_eq_true rfl) (mv4_2_4 (ν := rf_w (rf_w μ 94 18 (nI 0)) 94 19 (nI g)) (mn := (μ 95 (194 + 8 * g))) (b := 0) (g := g) (by rw [rf_w_row (by decide), rf_w_row (by decide)]; exact hK) (by rw [rf_w_row (by decide), rf_w_row (by decide)]) (by simp [rf_w_at]) (by omega) (by simp [rf_w_at]) (by decide)) ?_
  refine ok_goto bX12_voice_83 ?_
  refine ok_reti eX12_voice_93 rfl ?_
  exact ⟨rfl, _, rfl, J.apt (α := α) (μ := μ) hJ.vo0 (by simp [rf_w_at]) (by decide)⟩
theorem c_hear_4_3 {g : Nat} {x : Int32} (hR : Rl 1 α (μ 95)) (hg : g < 16) (hK : μ 95 (190 + 8 * g) = nI 4) : rf_At (rf_T Ln xs) MX9_hear 25 0 ([some (.ref 83), some (.ref 10), some (.int (nI g)), some (.int (nI 3)), some (.int x)], [], 108, (α, μ)) (some (.int ((((((x + nI 1) + (nI g)) * nI 3) * nI 2) - ((nI 1) - (μ 95 (194 + 8 * g)))) ^^^ (x - (μ 95 (194 + 8 * g)))))) 108 (apt 84 83 0 (rf_w (rf_w (rf_w (rf_w α 83 2 (nI 4)) 83 3 (nI g)) 83 4 (μ 95 (194 + 8 * g))) 83 0 (nI 0)) 0 [13, 51, 30, 11, 50, 10, 12, 12], μ) := by
  refine rf_pa ?_
  refine ok_step (ps := [rf_in (nI g) 16, rf_in (nI g) 16]) (L' := [some (.ref 83), some (.ref 10), some (.int (nI g)), some (.int (nI 3)), some (.int x)]) (st' := [.int (nI 0), .int x, .int (nI 3), .int ((rf_w (rf_w (rf_w (rf_w α 83 2 (α 11 ((nI g).toNatClampNeg))) 83 3 (nI g)) 83 4 ((rf_w (rf_w α 83 2 (α 11 ((nI g).toNatClampNeg))) 83 3 (nI g)) 15 ((nI g).toNatClampNeg))) 83 0 (nI 0)) 83 2), .ref 83]) (σ' := (rf_w (rf_w (rf_w (rf_w α 83 2 (α 11 ((nI g).toNatClampNeg))) 83 3 (nI g)) 83 4 ((rf_w (rf_w α 83 2 (α 11 ((nI g).toNatClampNeg))) 83 3 (nI g)) 15 ((nI g).toNatClampNeg))) 83 0 (nI 0), μ)) (pc' := 39) kX9_hear_0 rfl rfl (rf_a1 (rf_in_n (a := g) rfl (by omega)) (rf_a1 (rf_in_n (a := g) rfl (by omega)) rf_a0)) ?_
  try rw [(show (nI g).toNatClampNeg = g from rf_cl_n rfl (by omega))]
  try rw [(show α 11 g = μ 95 (190 + 8 * g) from rl_10 hR (i := g) (by omega) (by omega))]
  try rw [hK]
  try rw [(show (nI g).toNatClampNeg = g from rf_cl_n rfl (by omega))]
  try rw [(show (rf_w (rf_w α 83 2 (nI 4)) 83 3 (nI g)) 15 g = (rf_w α 83 2 (nI 4)) 15 g from by rw [rf_w_at, if_neg (fun h => absurd h.1 (by decide))])]
  try rw [(show (rf_w α 83 2 (nI 4)) 15 g = α 15 g from by rw [rf_w_at, if_neg (fun h => absurd h.1 (by decide))])]
  try rw [(show α 15 g = μ 95 (194 + 8 * g) from rl_14 hR (i := g) (by omega) (by omega))]
  try rw [(show (rf_w (rf_w (rf_w (rf_w α 83 2 (nI 4)) 83 3 (nI g)) 83 4 (μ 95 (194 + 8 * g))) 83 0 (nI 0)) 83 2 = (rf_w (rf_w (rf_w α 83 2 (nI 4)) 83 3 (nI g)) 83 4 (μ 95 (194 + 8 * g))) 83 2 from by rw [rf_w_at, if_neg (fun h => absurd h.2 (by omega))])]
  try rw [(show (rf_w (rf_w (rf_w α 83 2 (nI 4)) 83 3 (nI g)) 83 4 (μ 95 (194 + 8 * g))) 83 2 = (rf_w (rf_w α 83 2 (nI 4)) 83 3 (nI g)) 83 2 from by rw [rf_w_at, if_neg (fun h => absurd h.2 (by omega))])]
  try rw [(show (rf_w (rf_w α 83 2 (nI 4)) 83 3 (nI g)) 83 2 = (rf_w α 83 2 (nI 4)) 83 2 from by rw [rf_w_at, if_neg (fun h => absurd h.2 (by omega))])]
  try rw [(show (rf_w α 83 2 (nI 4)) 83 2 = (nI 4) from by rw [rf_w_at, if_pos ⟨rfl, rfl⟩])]
  refine ok_V (As := [.int (nI 4), .int (nI 3), .int x, .int (nI 0)]) (b := 83) (st := []) mkX9_speak qX9_hear_39 rfl (rc_83) rfl rfl rfl rfl (Nat.le_of_ble_eq_true rfl) (cv4_3_4 (α := rf_w (rf_w (rf_w (rf_w α 83 2 (nI 4)) 83 3 (nI g)) 83 4 (μ 95 (194 + 8 * g))) 83 0 (nI 0)) (nu := nI g) (mn := (μ 95 (194 + 8 * g))) (b := 0) (dep := 0) (by simp [rf_w_at]) (by simp [rf_w_at]) (by simp [rf_w_at]) (by simp [rf_w_at]) (by decide) (by decide)) ?_
  refine ok_reti eX9_hear_42 rfl ?_
  exact ⟨rfl, rfl⟩
theorem op_voice_4_3 {g : Nat} {x : Int32} (hJ : J α μ) (hg : g < cn (μ 95) 4) (hK : μ 95 (190 + 8 * g) = nI 4) : Op (rf_T Ln xs) MX11_voice MX12_voice [some (.ref 0), some (.int (nI g)), some (.int (nI 3)), some (.int x)] [some (.ref 94), some (.int (nI g)), some (.int (nI 3)), some (.int x), none] α μ := by
  have hR := hJ.1.1.1
  have hI := hJ.2
  have b0 := hI.le0
  have b1 := hI.le1
  have b2 := hI.le2
  have b3 := hI.le3
  have b4 := hI.le4
  have b5 := hI.le5
  have b6 := hI.le6
  have b8 := hI.le8
  have b9 := hI.le9
  have b11 := hI.le11
  have b12 := hI.le12
  refine ok_step (ps := []) (L' := [some (.ref 0), some (.int (nI g)), some (.int (nI 3)), some (.int x)]) (st' := [.int (nI g), .ref 0]) (σ' := (α, μ)) (pc' := 2) kX11_voice_0 rfl rfl rf_a0 ?_
  refine ok_V (As := [.int (nI g)]) (b := 0) (st := []) mkX11_isGroup qX11_voice_2 rfl (rc_0) rfl rfl rfl rfl (Nat.le_of_ble_eq_true rfl) (c_isGroup hR) ?_
  refine ok_if_eq bX11_voice_5 (fun h5 => absurd h5 ((bI_n0.mpr (wi_in hI.at4 hg (by omega))))) (fun _ => ?_)
  refine ok_step (ps := []) (L' := [some (.ref 0), some (.int (nI g)), some (.int (nI 3)), some (.int x)]) (st' := [.int (nI 3), .int (nI 0), .int (nI 3)]) (σ' := (α, μ)) (pc' := 11) kX11_voice_8 rfl rfl rf_a0 ?_
  refine ok_S (As := [.int (nI 3), .int (nI 0), .int (nI 3)]) (st := []) mkX11_within qX11_voice_11 rfl rfl rfl rfl rfl (Nat.le_of_ble_eq_true rfl) (c_within) ?_
  rw [show bI (wi (nI 3) (nI 0) (nI 3)) = nI 1 from rfl]
  refine ok_if_ne bX11_voice_14 (fun _ => ?_) (fun h14 => absurd h14 ((by decide)))
  refine ok_step (ps := []) (L' := [some (.ref 0), some (.int (nI g)), some (.int (nI 3)), some (.int x)]) (st' := [.int x, .int (nI 3), .int (nI g), .ref 10, .ref 83]) (σ' := (α, μ)) (pc' := 38) kX11_voice_24 rfl rfl rf_a0 ?_
  refine ok_V (As := [.ref 10, .int (nI g), .int (nI 3), .int x]) (b := 83) (st := []) mkX9_hear qX11_voice_38 rfl (rc_83) rfl rfl rfl rfl (Nat.le_of_ble_eq_true rfl) (c_hear_4_3 hR (by omega) hK) ?_
  refine ok_reti eX11_voice_41 rfl ?_
  refine ⟨rfl, _, rfl, ?_⟩
  refine ok_step (ps := []) (L' := [some (.ref 94), some (.int (nI g)), some (.int (nI 3)), some (.int x), none]) (st' := [.int (nI g), .ref 94]) (σ' := (apt 84 83 0 (rf_w (rf_w (rf_w (rf_w α 83 2 (nI 4)) 83 3 (nI g)) 83 4 (μ 95 (194 + 8 * g))) 83 0 (nI 0)) 0 [13, 51, 30, 11, 50, 10, 12, 12], μ)) (pc' := 2) kX12_voice_0 rfl rfl rf_a0 ?_
  refine ok_V (As := [.int (nI g)]) (b := 94) (st := []) mkX12_isGroup qX12_voice_2 rfl (rc_94) rfl rfl rfl rfl (Nat.le_of_ble_eq_true rfl) (m_isGroup) ?_
  refine ok_if_eq bX12_voice_5 (fun g5 => absurd g5 ((bI_n0.mpr (wi_in hI.at4 hg (by omega))))) (fun _ => ?_)
  refine ok_step (ps := []) (L' := [some (.ref 94), some (.int (nI g)), some (.int (nI 3)), some (.int x), none]) (st' := [.long (lN 3), .long (lN 0), .long ((nI 3).toInt64)]) (σ' := (apt 84 83 0 (rf_w (rf_w (rf_w (rf_w α 83 2 (nI 4)) 83 3 (nI g)) 83 4 (μ 95 (194 + 8 * g))) 83 0 (nI 0)) 0 [13, 51, 30, 11, 50, 10, 12, 12], μ)) (pc' := 14) kX12_voice_8 rfl rfl rf_a0 ?_
  refine ok_S (As := [.long ((nI 3).toInt64), .long (lN 0), .long (lN 3)]) (st := []) mkX12_in qX12_voice_14 rfl rfl rfl rfl rfl (Nat.le_of_ble_eq_true rfl) (m_in) ?_
  rw [show wl ((nI 3).toInt64) (lN 0) (lN 3) = wi (nI 3) (nI 0) (nI 3) from wl_of rfl (nI_l (by decide)).symm (nI_l (by decide)).symm, show bI (wi (nI 3) (nI 0) (nI 3)) = nI 1 from rfl]
  refine ok_if_ne bX12_voice_17 (fun _ => ?_) (fun g17 => absurd g17 ((by decide)))
  refine ok_step (ps := []) (L' := [some (.ref 94), some (.int (nI g)), some (.int (nI 3)), some (.int x), none]) (st' := [.ref 94]) (σ' := (apt 84 83 0 (rf_w (rf_w (rf_w (rf_w α 83 2 (nI 4)) 83 3 (nI g)) 83 4 (μ 95 (194 + 8 * g))) 83 0 (nI 0)) 0 [13, 51, 30, 11, 50, 10, 12, 12], rf_w (rf_w μ 94 18 (nI 0)) 94 19 (nI g))) (pc' := 37) kX12_voice_26 rfl rfl rf_a0 ?_
  refine ok_V (As := []) (b := 94) (st := []) mkX12_own qX12_voice_37 rfl (rc_94) rfl rfl rfl rfl (Nat.le_of_ble_eq_true rfl) (m_own (K := 4) (g := g) (by omega) (by rw [rf_w_row (by decide), rf_w_row (by decide)]; exact hK) (by simp [rf_w_at])) ?_
  refine ok_step (ps := []) (L' := [some (.ref 94), some (.int (nI g)), some (.int (nI 3)), some (.int x), some (.int (nI 4))]) (st' := [.int (nI 3)]) (σ' := (apt 84 83 0 (rf_w (rf_w (rf_w (rf_w α 83 2 (nI 4)) 83 3 (nI g)) 83 4 (μ 95 (194 + 8 * g))) 83 0 (nI 0)) 0 [13, 51, 30, 11, 50, 10, 12, 12], rf_w (rf_w μ 94 18 (nI 0)) 94 19 (nI g))) (pc' := 43) kX12_voice_40 rfl rfl rf_a0 ?_
  refine ok_if_ne bX12_voice_43 (fun _ => ?_) (fun g43 => absurd g43 ((by decide)))
  refine ok_step (ps := []) (L' := [some (.ref 94), some (.int (nI g)), some (.int (nI 3)), some (.int x), some (.int (nI 4))]) (st' := [.int (nI 1), .int (nI 3)]) (σ' := (apt 84 83 0 (rf_w (rf_w (rf_w (rf_w α 83 2 (nI 4)) 83 3 (nI g)) 83 4 (μ 95 (194 + 8 * g))) 83 0 (nI 0)) 0 [13, 51, 30, 11, 50, 10, 12, 12], rf_w (rf_w μ 94 18 (nI 0)) 94 19 (nI g))) (pc' := 58) kX12_voice_56 rfl rfl rf_a0 ?_
  refine ok_icmp_ne bX12_voice_58 (fun _ => ?_) (fun g58 => absurd g58 ((by decide)))
  refine ok_step (ps := []) (L' := [some (.ref 94), some (.int (nI g)), some (.int (nI 3)), some (.int x), some (.int (nI 4))]) (st' := [.int (nI 2), .int (nI 3)]) (σ' := (apt 84 83 0 (rf_w (rf_w (rf_w (rf_w α 83 2 (nI 4)) 83 3 (nI g)) 83 4 (μ 95 (194 + 8 * g))) 83 0 (nI 0)) 0 [13, 51, 30, 11, 50, 10, 12, 12], rf_w (rf_w μ 94 18 (nI 0)) 94 19 (nI g))) (pc' := 73) kX12_voice_71 rfl rfl rf_a0 ?_
  refine ok_icmp_ne bX12_voice_73 (fun _ => ?_) (fun g73 => absurd g73 ((by decide)))
  refine ok_step (ps := []) (L' := [some (.ref 94), some (.int (nI g)), some (.int (nI 3)), some (.int x), some (.int (nI 4))]) (st' := [.int x, .int (nI 4), .ref 94]) (σ' := (apt 84 83 0 (rf_w (rf_w (rf_w (rf_w α 83 2 (nI 4)) 83 3 (nI g)) 83 4 (μ 95 (194 + 8 * g))) 83 0 (nI 0)) 0 [13, 51, 30, 11, 50, 10, 12, 12], rf_w (rf_w μ 94 18 (nI 0)) 94 19 (nI g))) (pc' := 90) kX12_voice_86 rfl rfl rf_a0 ?_
  refine ok_V (As := [.int (nI 4), .int x]) (b := 94) (st := []) mkX12_paysOf qX12_voice_90 rfl (rc_94) rfl rfl rfl rfl (Nat.le_of_ble_eq_true rfl) (mv4_3_4 (ν := rf_w (rf_w μ 94 18 (nI 0)) 94 19 (nI g)) (mn := (μ 95 (194 + 8 * g))) (b := 0) (g := g) (by rw [rf_w_row (by decide), rf_w_row (by decide)]; exact hK) (by rw [rf_w_row (by decide), rf_w_row (by decide)]) (by simp [rf_w_at]) (by omega) (by simp [rf_w_at]) (by decide)) ?_
  refine ok_reti eX12_voice_93 rfl ?_
  exact ⟨rfl, _, rfl, J.apt (α := α) (μ := μ) hJ.vo0 (by simp [rf_w_at]) (by decide)⟩
theorem c_hear_5_0 {g : Nat} {x : Int32} (hR : Rl 1 α (μ 95)) (hg : g < 16) (hK : μ 95 (190 + 8 * g) = nI 5) : rf_At (rf_T Ln xs) MX9_hear 25 0 ([some (.ref 83), some (.ref 10), some (.int (nI g)), some (.int (nI 0)), some (.int x)], [], 108, (α, μ)) (some (.int ((x + (nI g)) ^^^ (μ 95 (194 + 8 * g))))) 108 (apt 84 83 0 (rf_w (rf_w (rf_w (rf_w α 83 2 (nI 5)) 83 3 (nI g)) 83 4 (μ 95 (194 + 8 * g))) 83 0 (nI 0)) 0 [60, 10], μ) := by
  refine rf_pa ?_
  refine ok_step (ps := [rf_in (nI g) 16, rf_in (nI g) 16]) (L' := [some (.ref 83), some (.ref 10), some (.int (nI g)), some (.int (nI 0)), some (.int x)]) (st' := [.int (nI 0), .int x, .int (nI 0), .int ((rf_w (rf_w (rf_w (rf_w α 83 2 (α 11 ((nI g).toNatClampNeg))) 83 3 (nI g)) 83 4 ((rf_w (rf_w α 83 2 (α 11 ((nI g).toNatClampNeg))) 83 3 (nI g)) 15 ((nI g).toNatClampNeg))) 83 0 (nI 0)) 83 2), .ref 83]) (σ' := (rf_w (rf_w (rf_w (rf_w α 83 2 (α 11 ((nI g).toNatClampNeg))) 83 3 (nI g)) 83 4 ((rf_w (rf_w α 83 2 (α 11 ((nI g).toNatClampNeg))) 83 3 (nI g)) 15 ((nI g).toNatClampNeg))) 83 0 (nI 0), μ)) (pc' := 39) kX9_hear_0 rfl rfl (rf_a1 (rf_in_n (a := g) rfl (by omega)) (rf_a1 (rf_in_n (a := g) rfl (by omega)) rf_a0)) ?_
  try rw [(show (nI g).toNatClampNeg = g from rf_cl_n rfl (by omega))]
  try rw [(show α 11 g = μ 95 (190 + 8 * g) from rl_10 hR (i := g) (by omega) (by omega))]
  try rw [hK]
  try rw [(show (nI g).toNatClampNeg = g from rf_cl_n rfl (by omega))]
  try rw [(show (rf_w (rf_w α 83 2 (nI 5)) 83 3 (nI g)) 15 g = (rf_w α 83 2 (nI 5)) 15 g from by rw [rf_w_at, if_neg (fun h => absurd h.1 (by decide))])]
  try rw [(show (rf_w α 83 2 (nI 5)) 15 g = α 15 g from by rw [rf_w_at, if_neg (fun h => absurd h.1 (by decide))])]
  try rw [(show α 15 g = μ 95 (194 + 8 * g) from rl_14 hR (i := g) (by omega) (by omega))]
  try rw [(show (rf_w (rf_w (rf_w (rf_w α 83 2 (nI 5)) 83 3 (nI g)) 83 4 (μ 95 (194 + 8 * g))) 83 0 (nI 0)) 83 2 = (rf_w (rf_w (rf_w α 83 2 (nI 5)) 83 3 (nI g)) 83 4 (μ 95 (194 + 8 * g))) 83 2 from by rw [rf_w_at, if_neg (fun h => absurd h.2 (by omega))])]
  try rw [(show (rf_w (rf_w (rf_w α 83 2 (nI 5)) 83 3 (nI g)) 83 4 (μ 95 (194 + 8 * g))) 83 2 = (rf_w (rf_w α 83 2 (nI 5)) 83 3 (nI g)) 83 2 from by rw [rf_w_at, if_neg (fun h => absurd h.2 (by omega))])]
  try rw [(show (rf_w (rf_w α 83 2 (nI 5)) 83 3 (nI g)) 83 2 = (rf_w α 83 2 (nI 5)) 83 2 from by rw [rf_w_at, if_neg (fun h => absurd h.2 (by omega))])]
  try rw [(show (rf_w α 83 2 (nI 5)) 83 2 = (nI 5) from by rw [rf_w_at, if_pos ⟨rfl, rfl⟩])]
  refine ok_V (As := [.int (nI 5), .int (nI 0), .int x, .int (nI 0)]) (b := 83) (st := []) mkX9_speak qX9_hear_39 rfl (rc_83) rfl rfl rfl rfl (Nat.le_of_ble_eq_true rfl) (cv5_0_5 (α := rf_w (rf_w (rf_w (rf_w α 83 2 (nI 5)) 83 3 (nI g)) 83 4 (μ 95 (194 + 8 * g))) 83 0 (nI 0)) (nu := nI g) (mn := (μ 95 (194 + 8 * g))) (b := 0) (dep := 0) (by simp [rf_w_at]) (by simp [rf_w_at]) (by simp [rf_w_at]) (by simp [rf_w_at]) (by decide) (by decide)) ?_
  refine ok_reti eX9_hear_42 rfl ?_
  exact ⟨rfl, rfl⟩
theorem op_voice_5_0 {g : Nat} {x : Int32} (hJ : J α μ) (hg : g < cn (μ 95) 4) (hK : μ 95 (190 + 8 * g) = nI 5) : Op (rf_T Ln xs) MX11_voice MX12_voice [some (.ref 0), some (.int (nI g)), some (.int (nI 0)), some (.int x)] [some (.ref 94), some (.int (nI g)), some (.int (nI 0)), some (.int x), none] α μ := by
  have hR := hJ.1.1.1
  have hI := hJ.2
  have b0 := hI.le0
  have b1 := hI.le1
  have b2 := hI.le2
  have b3 := hI.le3
  have b4 := hI.le4
  have b5 := hI.le5
  have b6 := hI.le6
  have b8 := hI.le8
  have b9 := hI.le9
  have b11 := hI.le11
  have b12 := hI.le12
  refine ok_step (ps := []) (L' := [some (.ref 0), some (.int (nI g)), some (.int (nI 0)), some (.int x)]) (st' := [.int (nI g), .ref 0]) (σ' := (α, μ)) (pc' := 2) kX11_voice_0 rfl rfl rf_a0 ?_
  refine ok_V (As := [.int (nI g)]) (b := 0) (st := []) mkX11_isGroup qX11_voice_2 rfl (rc_0) rfl rfl rfl rfl (Nat.le_of_ble_eq_true rfl) (c_isGroup hR) ?_
  refine ok_if_eq bX11_voice_5 (fun h5 => absurd h5 ((bI_n0.mpr (wi_in hI.at4 hg (by omega))))) (fun _ => ?_)
  refine ok_step (ps := []) (L' := [some (.ref 0), some (.int (nI g)), some (.int (nI 0)), some (.int x)]) (st' := [.int (nI 3), .int (nI 0), .int (nI 0)]) (σ' := (α, μ)) (pc' := 11) kX11_voice_8 rfl rfl rf_a0 ?_
  refine ok_S (As := [.int (nI 0), .int (nI 0), .int (nI 3)]) (st := []) mkX11_within qX11_voice_11 rfl rfl rfl rfl rfl (Nat.le_of_ble_eq_true rfl) (c_within) ?_
  rw [show bI (wi (nI 0) (nI 0) (nI 3)) = nI 1 from rfl]
  refine ok_if_ne bX11_voice_14 (fun _ => ?_) (fun h14 => absurd h14 ((by decide)))
  refine ok_step (ps := []) (L' := [some (.ref 0), some (.int (nI g)), some (.int (nI 0)), some (.int x)]) (st' := [.int x, .int (nI 0), .int (nI g), .ref 10, .ref 83]) (σ' := (α, μ)) (pc' := 38) kX11_voice_24 rfl rfl rf_a0 ?_
  refine ok_V (As := [.ref 10, .int (nI g), .int (nI 0), .int x]) (b := 83) (st := []) mkX9_hear qX11_voice_38 rfl (rc_83) rfl rfl rfl rfl (Nat.le_of_ble_eq_true rfl) (c_hear_5_0 hR (by omega) hK) ?_
  refine ok_reti eX11_voice_41 rfl ?_
  refine ⟨rfl, _, rfl, ?_⟩
  refine ok_step (ps := []) (L' := [some (.ref 94), some (.int (nI g)), some (.int (nI 0)), some (.int x), none]) (st' := [.int (nI g), .ref 94]) (σ' := (apt 84 83 0 (rf_w (rf_w (rf_w (rf_w α 83 2 (nI 5)) 83 3 (nI g)) 83 4 (μ 95 (194 + 8 * g))) 83 0 (nI 0)) 0 [60, 10], μ)) (pc' := 2) kX12_voice_0 rfl rfl rf_a0 ?_
  refine ok_V (As := [.int (nI g)]) (b := 94) (st := []) mkX12_isGroup qX12_voice_2 rfl (rc_94) rfl rfl rfl rfl (Nat.le_of_ble_eq_true rfl) (m_isGroup) ?_
  refine ok_if_eq bX12_voice_5 (fun g5 => absurd g5 ((bI_n0.mpr (wi_in hI.at4 hg (by omega))))) (fun _ => ?_)
  refine ok_step (ps := []) (L' := [some (.ref 94), some (.int (nI g)), some (.int (nI 0)), some (.int x), none]) (st' := [.long (lN 3), .long (lN 0), .long ((nI 0).toInt64)]) (σ' := (apt 84 83 0 (rf_w (rf_w (rf_w (rf_w α 83 2 (nI 5)) 83 3 (nI g)) 83 4 (μ 95 (194 + 8 * g))) 83 0 (nI 0)) 0 [60, 10], μ)) (pc' := 14) kX12_voice_8 rfl rfl rf_a0 ?_
  refine ok_S (As := [.long ((nI 0).toInt64), .long (lN 0), .long (lN 3)]) (st := []) mkX12_in qX12_voice_14 rfl rfl rfl rfl rfl (Nat.le_of_ble_eq_true rfl) (m_in) ?_
  rw [show wl ((nI 0).toInt64) (lN 0) (lN 3) = wi (nI 0) (nI 0) (nI 3) from wl_of rfl (nI_l (by decide)).symm (nI_l (by decide)).symm, show bI (wi (nI 0) (nI 0) (nI 3)) = nI 1 from rfl]
  refine ok_if_ne bX12_voice_17 (fun _ => ?_) (fun g17 => absurd g17 ((by decide)))
  refine ok_step (ps := []) (L' := [some (.ref 94), some (.int (nI g)), some (.int (nI 0)), some (.int x), none]) (st' := [.ref 94]) (σ' := (apt 84 83 0 (rf_w (rf_w (rf_w (rf_w α 83 2 (nI 5)) 83 3 (nI g)) 83 4 (μ 95 (194 + 8 * g))) 83 0 (nI 0)) 0 [60, 10], rf_w (rf_w μ 94 18 (nI 0)) 94 19 (nI g))) (pc' := 37) kX12_voice_26 rfl rfl rf_a0 ?_
  refine ok_V (As := []) (b := 94) (st := []) mkX12_own qX12_voice_37 rfl (rc_94) rfl rfl rfl rfl (Nat.le_of_ble_eq_true rfl) (m_own (K := 5) (g := g) (by omega) (by rw [rf_w_row (by decide), rf_w_row (by decide)]; exact hK) (by simp [rf_w_at])) ?_
  refine ok_step (ps := []) (L' := [some (.ref 94), some (.int (nI g)), some (.int (nI 0)), some (.int x), some (.int (nI 5))]) (st' := [.int (nI 0)]) (σ' := (apt 84 83 0 (rf_w (rf_w (rf_w (rf_w α 83 2 (nI 5)) 83 3 (nI g)) 83 4 (μ 95 (194 + 8 * g))) 83 0 (nI 0)) 0 [60, 10], rf_w (rf_w μ 94 18 (nI 0)) 94 19 (nI g))) (pc' := 43) kX12_voice_40 rfl rfl rf_a0 ?_
  refine ok_if_ne bX12_voice_43 (fun g43 => absurd ((by decide)) g43) (fun _ => ?_)
  refine ok_step (ps := []) (L' := [some (.ref 94), some (.int (nI g)), some (.int (nI 0)), some (.int x), some (.int (nI 5))]) (st' := [.int x, .int (nI 5), .ref 94]) (σ' := (apt 84 83 0 (rf_w (rf_w (rf_w (rf_w α 83 2 (nI 5)) 83 3 (nI g)) 83 4 (μ 95 (194 + 8 * g))) 83 0 (nI 0)) 0 [60, 10], rf_w (rf_w μ 94 18 (nI 0)) 94 19 (nI g))) (pc' := 50) kX12_voice_46 rfl rfl rf_a0 ?_
  refine ok_V (As := [.int (nI 5), .int x]) (b := 94) (st := []) mkX12_goes qX12_voice_50 rfl (rc_94) rfl rfl rfl rfl (Nat.le_of_ble_eq_true rfl) (mv5_0_5 (ν := rf_w (rf_w μ 94 18 (nI 0)) 94 19 (nI g)) (mn := (μ 95 (194 + 8 * g))) (b := 0) (g := g) (by rw [rf_w_row (by decide), rf_w_row (by decide)]; exact hK) (by rw [rf_w_row (by decide), rf_w_row (by decide)]) (by simp [rf_w_at]) (by omega) (by simp [rf_w_at]) (by decide)) ?_
  refine ok_goto bX12_voice_53 ?_
  refine ok_reti eX12_voice_93 rfl ?_
  exact ⟨rfl, _, rfl, J.apt (α := α) (μ := μ) hJ.vo0 (by simp [rf_w_at]) (by decide)⟩
theorem c_hear_5_1 {g : Nat} {x : Int32} (hR : Rl 1 α (μ 95)) (hg : g < 16) (hK : μ 95 (190 + 8 * g) = nI 5) : rf_At (rf_T Ln xs) MX9_hear 25 0 ([some (.ref 83), some (.ref 10), some (.int (nI g)), some (.int (nI 1)), some (.int x)], [], 108, (α, μ)) (some (.int (((x + (nI g)) ^^^ (μ 95 (194 + 8 * g))) * nI 2))) 108 (apt 84 83 0 (rf_w (rf_w (rf_w (rf_w α 83 2 (nI 5)) 83 3 (nI g)) 83 4 (μ 95 (194 + 8 * g))) 83 0 (nI 0)) 0 [11, 60, 10], μ) := by
  refine rf_pa ?_
  refine ok_step (ps := [rf_in (nI g) 16, rf_in (nI g) 16]) (L' := [some (.ref 83), some (.ref 10), some (.int (nI g)), some (.int (nI 1)), some (.int x)]) (st' := [.int (nI 0), .int x, .int (nI 1), .int ((rf_w (rf_w (rf_w (rf_w α 83 2 (α 11 ((nI g).toNatClampNeg))) 83 3 (nI g)) 83 4 ((rf_w (rf_w α 83 2 (α 11 ((nI g).toNatClampNeg))) 83 3 (nI g)) 15 ((nI g).toNatClampNeg))) 83 0 (nI 0)) 83 2), .ref 83]) (σ' := (rf_w (rf_w (rf_w (rf_w α 83 2 (α 11 ((nI g).toNatClampNeg))) 83 3 (nI g)) 83 4 ((rf_w (rf_w α 83 2 (α 11 ((nI g).toNatClampNeg))) 83 3 (nI g)) 15 ((nI g).toNatClampNeg))) 83 0 (nI 0), μ)) (pc' := 39) kX9_hear_0 rfl rfl (rf_a1 (rf_in_n (a := g) rfl (by omega)) (rf_a1 (rf_in_n (a := g) rfl (by omega)) rf_a0)) ?_
  try rw [(show (nI g).toNatClampNeg = g from rf_cl_n rfl (by omega))]
  try rw [(show α 11 g = μ 95 (190 + 8 * g) from rl_10 hR (i := g) (by omega) (by omega))]
  try rw [hK]
  try rw [(show (nI g).toNatClampNeg = g from rf_cl_n rfl (by omega))]
  try rw [(show (rf_w (rf_w α 83 2 (nI 5)) 83 3 (nI g)) 15 g = (rf_w α 83 2 (nI 5)) 15 g from by rw [rf_w_at, if_neg (fun h => absurd h.1 (by decide))])]
  try rw [(show (rf_w α 83 2 (nI 5)) 15 g = α 15 g from by rw [rf_w_at, if_neg (fun h => absurd h.1 (by decide))])]
  try rw [(show α 15 g = μ 95 (194 + 8 * g) from rl_14 hR (i := g) (by omega) (by omega))]
  try rw [(show (rf_w (rf_w (rf_w (rf_w α 83 2 (nI 5)) 83 3 (nI g)) 83 4 (μ 95 (194 + 8 * g))) 83 0 (nI 0)) 83 2 = (rf_w (rf_w (rf_w α 83 2 (nI 5)) 83 3 (nI g)) 83 4 (μ 95 (194 + 8 * g))) 83 2 from by rw [rf_w_at, if_neg (fun h => absurd h.2 (by omega))])]
  try rw [(show (rf_w (rf_w (rf_w α 83 2 (nI 5)) 83 3 (nI g)) 83 4 (μ 95 (194 + 8 * g))) 83 2 = (rf_w (rf_w α 83 2 (nI 5)) 83 3 (nI g)) 83 2 from by rw [rf_w_at, if_neg (fun h => absurd h.2 (by omega))])]
  try rw [(show (rf_w (rf_w α 83 2 (nI 5)) 83 3 (nI g)) 83 2 = (rf_w α 83 2 (nI 5)) 83 2 from by rw [rf_w_at, if_neg (fun h => absurd h.2 (by omega))])]
  try rw [(show (rf_w α 83 2 (nI 5)) 83 2 = (nI 5) from by rw [rf_w_at, if_pos ⟨rfl, rfl⟩])]
  refine ok_V (As := [.int (nI 5), .int (nI 1), .int x, .int (nI 0)]) (b := 83) (st := []) mkX9_speak qX9_hear_39 rfl (rc_83) rfl rfl rfl rfl (Nat.le_of_ble_eq_true rfl) (cv5_1_5 (α := rf_w (rf_w (rf_w (rf_w α 83 2 (nI 5)) 83 3 (nI g)) 83 4 (μ 95 (194 + 8 * g))) 83 0 (nI 0)) (nu := nI g) (mn := (μ 95 (194 + 8 * g))) (b := 0) (dep := 0) (by simp [rf_w_at]) (by simp [rf_w_at]) (by simp [rf_w_at]) (by simp [rf_w_at]) (by decide) (by decide)) ?_
  refine ok_reti eX9_hear_42 rfl ?_
  exact ⟨rfl, rfl⟩
theorem op_voice_5_1 {g : Nat} {x : Int32} (hJ : J α μ) (hg : g < cn (μ 95) 4) (hK : μ 95 (190 + 8 * g) = nI 5) : Op (rf_T Ln xs) MX11_voice MX12_voice [some (.ref 0), some (.int (nI g)), some (.int (nI 1)), some (.int x)] [some (.ref 94), some (.int (nI g)), some (.int (nI 1)), some (.int x), none] α μ := by
  have hR := hJ.1.1.1
  have hI := hJ.2
  have b0 := hI.le0
  have b1 := hI.le1
  have b2 := hI.le2
  have b3 := hI.le3
  have b4 := hI.le4
  have b5 := hI.le5
  have b6 := hI.le6
  have b8 := hI.le8
  have b9 := hI.le9
  have b11 := hI.le11
  have b12 := hI.le12
  refine ok_step (ps := []) (L' := [some (.ref 0), some (.int (nI g)), some (.int (nI 1)), some (.int x)]) (st' := [.int (nI g), .ref 0]) (σ' := (α, μ)) (pc' := 2) kX11_voice_0 rfl rfl rf_a0 ?_
  refine ok_V (As := [.int (nI g)]) (b := 0) (st := []) mkX11_isGroup qX11_voice_2 rfl (rc_0) rfl rfl rfl rfl (Nat.le_of_ble_eq_true rfl) (c_isGroup hR) ?_
  refine ok_if_eq bX11_voice_5 (fun h5 => absurd h5 ((bI_n0.mpr (wi_in hI.at4 hg (by omega))))) (fun _ => ?_)
  refine ok_step (ps := []) (L' := [some (.ref 0), some (.int (nI g)), some (.int (nI 1)), some (.int x)]) (st' := [.int (nI 3), .int (nI 0), .int (nI 1)]) (σ' := (α, μ)) (pc' := 11) kX11_voice_8 rfl rfl rf_a0 ?_
  refine ok_S (As := [.int (nI 1), .int (nI 0), .int (nI 3)]) (st := []) mkX11_within qX11_voice_11 rfl rfl rfl rfl rfl (Nat.le_of_ble_eq_true rfl) (c_within) ?_
  rw [show bI (wi (nI 1) (nI 0) (nI 3)) = nI 1 from rfl]
  refine ok_if_ne bX11_voice_14 (fun _ => ?_) (fun h14 => absurd h14 ((by decide)))
  refine ok_step (ps := []) (L' := [some (.ref 0), some (.int (nI g)), some (.int (nI 1)), some (.int x)]) (st' := [.int x, .int (nI 1), .int (nI g), .ref 10, .ref 83]) (σ' := (α, μ)) (pc' := 38) kX11_voice_24 rfl rfl rf_a0 ?_
  refine ok_V (As := [.ref 10, .int (nI g), .int (nI 1), .int x]) (b := 83) (st := []) mkX9_hear qX11_voice_38 rfl (rc_83) rfl rfl rfl rfl (Nat.le_of_ble_eq_true rfl) (c_hear_5_1 hR (by omega) hK) ?_
  refine ok_reti eX11_voice_41 rfl ?_
  refine ⟨rfl, _, rfl, ?_⟩
  refine ok_step (ps := []) (L' := [some (.ref 94), some (.int (nI g)), some (.int (nI 1)), some (.int x), none]) (st' := [.int (nI g), .ref 94]) (σ' := (apt 84 83 0 (rf_w (rf_w (rf_w (rf_w α 83 2 (nI 5)) 83 3 (nI g)) 83 4 (μ 95 (194 + 8 * g))) 83 0 (nI 0)) 0 [11, 60, 10], μ)) (pc' := 2) kX12_voice_0 rfl rfl rf_a0 ?_
  refine ok_V (As := [.int (nI g)]) (b := 94) (st := []) mkX12_isGroup qX12_voice_2 rfl (rc_94) rfl rfl rfl rfl (Nat.le_of_ble_eq_true rfl) (m_isGroup) ?_
  refine ok_if_eq bX12_voice_5 (fun g5 => absurd g5 ((bI_n0.mpr (wi_in hI.at4 hg (by omega))))) (fun _ => ?_)
  refine ok_step (ps := []) (L' := [some (.ref 94), some (.int (nI g)), some (.int (nI 1)), some (.int x), none]) (st' := [.long (lN 3), .long (lN 0), .long ((nI 1).toInt64)]) (σ' := (apt 84 83 0 (rf_w (rf_w (rf_w (rf_w α 83 2 (nI 5)) 83 3 (nI g)) 83 4 (μ 95 (194 + 8 * g))) 83 0 (nI 0)) 0 [11, 60, 10], μ)) (pc' := 14) kX12_voice_8 rfl rfl rf_a0 ?_
  refine ok_S (As := [.long ((nI 1).toInt64), .long (lN 0), .long (lN 3)]) (st := []) mkX12_in qX12_voice_14 rfl rfl rfl rfl rfl (Nat.le_of_ble_eq_true rfl) (m_in) ?_
  rw [show wl ((nI 1).toInt64) (lN 0) (lN 3) = wi (nI 1) (nI 0) (nI 3) from wl_of rfl (nI_l (by decide)).symm (nI_l (by decide)).symm, show bI (wi (nI 1) (nI 0) (nI 3)) = nI 1 from rfl]
  refine ok_if_ne bX12_voice_17 (fun _ => ?_) (fun g17 => absurd g17 ((by decide)))
  refine ok_step (ps := []) (L' := [some (.ref 94), some (.int (nI g)), some (.int (nI 1)), some (.int x), none]) (st' := [.ref 94]) (σ' := (apt 84 83 0 (rf_w (rf_w (rf_w (rf_w α 83 2 (nI 5)) 83 3 (nI g)) 83 4 (μ 95 (194 + 8 * g))) 83 0 (nI 0)) 0 [11, 60, 10], rf_w (rf_w μ 94 18 (nI 0)) 94 19 (nI g))) (pc' := 37) kX12_voice_26 rfl rfl rf_a0 ?_
  refine ok_V (As := []) (b := 94) (st := []) mkX12_own qX12_voice_37 rfl (rc_94) rfl rfl rfl rfl (Nat.le_of_ble_eq_true rfl) (m_own (K := 5) (g := g) (by omega) (by rw [rf_w_row (by decide), rf_w_row (by decide)]; exact hK) (by simp [rf_w_at])) ?_
  refine ok_step (ps := []) (L' := [some (.ref 94), some (.int (nI g)), some (.int (nI 1)), some (.int x), some (.int (nI 5))]) (st' := [.int (nI 1)]) (σ' := (apt 84 83 0 (rf_w (rf_w (rf_w (rf_w α 83 2 (nI 5)) 83 3 (nI g)) 83 4 (μ 95 (194 + 8 * g))) 83 0 (nI 0)) 0 [11, 60, 10], rf_w (rf_w μ 94 18 (nI 0)) 94 19 (nI g))) (pc' := 43) kX12_voice_40 rfl rfl rf_a0 ?_
  refine ok_if_ne bX12_voice_43 (fun _ => ?_) (fun g43 => absurd g43 ((by decide)))
  refine ok_step (ps := []) (L' := [some (.ref 94), some (.int (nI g)), some (.int (nI 1)), some (.int x), some (.int (nI 5))]) (st' := [.int (nI 1), .int (nI 1)]) (σ' := (apt 84 83 0 (rf_w (rf_w (rf_w (rf_w α 83 2 (nI 5)) 83 3 (nI g)) 83 4 (μ 95 (194 + 8 * g))) 83 0 (nI 0)) 0 [11, 60, 10], rf_w (rf_w μ 94 18 (nI 0)) 94 19 (nI g))) (pc' := 58) kX12_voice_56 rfl rfl rf_a0 ?_
  refine ok_icmp_ne bX12_voice_58 (fun g58 => absurd ((by decide)) g58) (fun _ => ?_)
  refine ok_step (ps := []) (L' := [some (.ref 94), some (.int (nI g)), some (.int (nI 1)), some (.int x), some (.int (nI 5))]) (st' := [.int x, .int (nI 5), .ref 94]) (σ' := (apt 84 83 0 (rf_w (rf_w (rf_w (rf_w α 83 2 (nI 5)) 83 3 (nI g)) 83 4 (μ 95 (194 + 8 * g))) 83 0 (nI 0)) 0 [11, 60, 10], rf_w (rf_w μ 94 18 (nI 0)) 94 19 (nI g))) (pc' := 65) kX12_voice_61 rfl rfl rf_a0 ?_
  refine ok_V (As := [.int (nI 5), .int x]) (b := 94) (st := []) mkX12_weighsOf qX12_voice_65 rfl (rc_94) rfl rfl rfl rfl (Nat.le_of_ble_eq_true rfl) (mv5_1_5 (ν := rf_w (rf_w μ 94 18 (nI 0)) 94 19 (nI g)) (mn := (μ 95 (194 + 8 * g))) (b := 0) (g := g) (by rw [rf_w_row (by decide), rf_w_row (by decide)]; exact hK) (by rw [rf_w_row (by decide), rf_w_row (by decide)]) (by simp [rf_w_at]) (by omega) (by simp [rf_w_at]) (by decide)) ?_
  refine ok_goto bX12_voice_68 ?_
  refine ok_reti eX12_voice_93 rfl ?_
  exact ⟨rfl, _, rfl, J.apt (α := α) (μ := μ) hJ.vo0 (by simp [rf_w_at]) (by decide)⟩
theorem c_hear_5_2 {g : Nat} {x : Int32} (hR : Rl 1 α (μ 95)) (hg : g < 16) (hK : μ 95 (190 + 8 * g) = nI 5) : rf_At (rf_T Ln xs) MX9_hear 25 0 ([some (.ref 83), some (.ref 10), some (.int (nI g)), some (.int (nI 2)), some (.int x)], [], 108, (α, μ)) (some (.int (x - (μ 95 (194 + 8 * g))))) 108 (apt 84 83 0 (rf_w (rf_w (rf_w (rf_w α 83 2 (nI 5)) 83 3 (nI g)) 83 4 (μ 95 (194 + 8 * g))) 83 0 (nI 0)) 0 [12], μ) := by
  refine rf_pa ?_
  refine ok_step (ps := [rf_in (nI g) 16, rf_in (nI g) 16]) (L' := [some (.ref 83), some (.ref 10), some (.int (nI g)), some (.int (nI 2)), some (.int x)]) (st' := [.int (nI 0), .int x, .int (nI 2), .int ((rf_w (rf_w (rf_w (rf_w α 83 2 (α 11 ((nI g).toNatClampNeg))) 83 3 (nI g)) 83 4 ((rf_w (rf_w α 83 2 (α 11 ((nI g).toNatClampNeg))) 83 3 (nI g)) 15 ((nI g).toNatClampNeg))) 83 0 (nI 0)) 83 2), .ref 83]) (σ' := (rf_w (rf_w (rf_w (rf_w α 83 2 (α 11 ((nI g).toNatClampNeg))) 83 3 (nI g)) 83 4 ((rf_w (rf_w α 83 2 (α 11 ((nI g).toNatClampNeg))) 83 3 (nI g)) 15 ((nI g).toNatClampNeg))) 83 0 (nI 0), μ)) (pc' := 39) kX9_hear_0 rfl rfl (rf_a1 (rf_in_n (a := g) rfl (by omega)) (rf_a1 (rf_in_n (a := g) rfl (by omega)) rf_a0)) ?_
  try rw [(show (nI g).toNatClampNeg = g from rf_cl_n rfl (by omega))]
  try rw [(show α 11 g = μ 95 (190 + 8 * g) from rl_10 hR (i := g) (by omega) (by omega))]
  try rw [hK]
  try rw [(show (nI g).toNatClampNeg = g from rf_cl_n rfl (by omega))]
  try rw [(show (rf_w (rf_w α 83 2 (nI 5)) 83 3 (nI g)) 15 g = (rf_w α 83 2 (nI 5)) 15 g from by rw [rf_w_at, if_neg (fun h => absurd h.1 (by decide))])]
  try rw [(show (rf_w α 83 2 (nI 5)) 15 g = α 15 g from by rw [rf_w_at, if_neg (fun h => absurd h.1 (by decide))])]
  try rw [(show α 15 g = μ 95 (194 + 8 * g) from rl_14 hR (i := g) (by omega) (by omega))]
  try rw [(show (rf_w (rf_w (rf_w (rf_w α 83 2 (nI 5)) 83 3 (nI g)) 83 4 (μ 95 (194 + 8 * g))) 83 0 (nI 0)) 83 2 = (rf_w (rf_w (rf_w α 83 2 (nI 5)) 83 3 (nI g)) 83 4 (μ 95 (194 + 8 * g))) 83 2 from by rw [rf_w_at, if_neg (fun h => absurd h.2 (by omega))])]
  try rw [(show (rf_w (rf_w (rf_w α 83 2 (nI 5)) 83 3 (nI g)) 83 4 (μ 95 (194 + 8 * g))) 83 2 = (rf_w (rf_w α 83 2 (nI 5)) 83 3 (nI g)) 83 2 from by rw [rf_w_at, if_neg (fun h => absurd h.2 (by omega))])]
  try rw [(show (rf_w (rf_w α 83 2 (nI 5)) 83 3 (nI g)) 83 2 = (rf_w α 83 2 (nI 5)) 83 2 from by rw [rf_w_at, if_neg (fun h => absurd h.2 (by omega))])]
  try rw [(show (rf_w α 83 2 (nI 5)) 83 2 = (nI 5) from by rw [rf_w_at, if_pos ⟨rfl, rfl⟩])]
  refine ok_V (As := [.int (nI 5), .int (nI 2), .int x, .int (nI 0)]) (b := 83) (st := []) mkX9_speak qX9_hear_39 rfl (rc_83) rfl rfl rfl rfl (Nat.le_of_ble_eq_true rfl) (cv5_2_5 (α := rf_w (rf_w (rf_w (rf_w α 83 2 (nI 5)) 83 3 (nI g)) 83 4 (μ 95 (194 + 8 * g))) 83 0 (nI 0)) (nu := nI g) (mn := (μ 95 (194 + 8 * g))) (b := 0) (dep := 0) (by simp [rf_w_at]) (by simp [rf_w_at]) (by simp [rf_w_at]) (by simp [rf_w_at]) (by decide) (by decide)) ?_
  refine ok_reti eX9_hear_42 rfl ?_
  exact ⟨rfl, rfl⟩
theorem op_voice_5_2 {g : Nat} {x : Int32} (hJ : J α μ) (hg : g < cn (μ 95) 4) (hK : μ 95 (190 + 8 * g) = nI 5) : Op (rf_T Ln xs) MX11_voice MX12_voice [some (.ref 0), some (.int (nI g)), some (.int (nI 2)), some (.int x)] [some (.ref 94), some (.int (nI g)), some (.int (nI 2)), some (.int x), none] α μ := by
  have hR := hJ.1.1.1
  have hI := hJ.2
  have b0 := hI.le0
  have b1 := hI.le1
  have b2 := hI.le2
  have b3 := hI.le3
  have b4 := hI.le4
  have b5 := hI.le5
  have b6 := hI.le6
  have b8 := hI.le8
  have b9 := hI.le9
  have b11 := hI.le11
  have b12 := hI.le12
  refine ok_step (ps := []) (L' := [some (.ref 0), some (.int (nI g)), some (.int (nI 2)), some (.int x)]) (st' := [.int (nI g), .ref 0]) (σ' := (α, μ)) (pc' := 2) kX11_voice_0 rfl rfl rf_a0 ?_
  refine ok_V (As := [.int (nI g)]) (b := 0) (st := []) mkX11_isGroup qX11_voice_2 rfl (rc_0) rfl rfl rfl rfl (Nat.le_of_ble_eq_true rfl) (c_isGroup hR) ?_
  refine ok_if_eq bX11_voice_5 (fun h5 => absurd h5 ((bI_n0.mpr (wi_in hI.at4 hg (by omega))))) (fun _ => ?_)
  refine ok_step (ps := []) (L' := [some (.ref 0), some (.int (nI g)), some (.int (nI 2)), some (.int x)]) (st' := [.int (nI 3), .int (nI 0), .int (nI 2)]) (σ' := (α, μ)) (pc' := 11) kX11_voice_8 rfl rfl rf_a0 ?_
  refine ok_S (As := [.int (nI 2), .int (nI 0), .int (nI 3)]) (st := []) mkX11_within qX11_voice_11 rfl rfl rfl rfl rfl (Nat.le_of_ble_eq_true rfl) (c_within) ?_
  rw [show bI (wi (nI 2) (nI 0) (nI 3)) = nI 1 from rfl]
  refine ok_if_ne bX11_voice_14 (fun _ => ?_) (fun h14 => absurd h14 ((by decide)))
  refine ok_step (ps := []) (L' := [some (.ref 0), some (.int (nI g)), some (.int (nI 2)), some (.int x)]) (st' := [.int x, .int (nI 2), .int (nI g), .ref 10, .ref 83]) (σ' := (α, μ)) (pc' := 38) kX11_voice_24 rfl rfl rf_a0 ?_
  refine ok_V (As := [.ref 10, .int (nI g), .int (nI 2), .int x]) (b := 83) (st := []) mkX9_hear qX11_voice_38 rfl (rc_83) rfl rfl rfl rfl (Nat.le_of_ble_eq_true rfl) (c_hear_5_2 hR (by omega) hK) ?_
  refine ok_reti eX11_voice_41 rfl ?_
  refine ⟨rfl, _, rfl, ?_⟩
  refine ok_step (ps := []) (L' := [some (.ref 94), some (.int (nI g)), some (.int (nI 2)), some (.int x), none]) (st' := [.int (nI g), .ref 94]) (σ' := (apt 84 83 0 (rf_w (rf_w (rf_w (rf_w α 83 2 (nI 5)) 83 3 (nI g)) 83 4 (μ 95 (194 + 8 * g))) 83 0 (nI 0)) 0 [12], μ)) (pc' := 2) kX12_voice_0 rfl rfl rf_a0 ?_
  refine ok_V (As := [.int (nI g)]) (b := 94) (st := []) mkX12_isGroup qX12_voice_2 rfl (rc_94) rfl rfl rfl rfl (Nat.le_of_ble_eq_true rfl) (m_isGroup) ?_
  refine ok_if_eq bX12_voice_5 (fun g5 => absurd g5 ((bI_n0.mpr (wi_in hI.at4 hg (by omega))))) (fun _ => ?_)
  refine ok_step (ps := []) (L' := [some (.ref 94), some (.int (nI g)), some (.int (nI 2)), some (.int x), none]) (st' := [.long (lN 3), .long (lN 0), .long ((nI 2).toInt64)]) (σ' := (apt 84 83 0 (rf_w (rf_w (rf_w (rf_w α 83 2 (nI 5)) 83 3 (nI g)) 83 4 (μ 95 (194 + 8 * g))) 83 0 (nI 0)) 0 [12], μ)) (pc' := 14) kX12_voice_8 rfl rfl rf_a0 ?_
  refine ok_S (As := [.long ((nI 2).toInt64), .long (lN 0), .long (lN 3)]) (st := []) mkX12_in qX12_voice_14 rfl rfl rfl rfl rfl (Nat.le_of_ble_eq_true rfl) (m_in) ?_
  rw [show wl ((nI 2).toInt64) (lN 0) (lN 3) = wi (nI 2) (nI 0) (nI 3) from wl_of rfl (nI_l (by decide)).symm (nI_l (by decide)).symm, show bI (wi (nI 2) (nI 0) (nI 3)) = nI 1 from rfl]
  refine ok_if_ne bX12_voice_17 (fun _ => ?_) (fun g17 => absurd g17 ((by decide)))
  refine ok_step (ps := []) (L' := [some (.ref 94), some (.int (nI g)), some (.int (nI 2)), some (.int x), none]) (st' := [.ref 94]) (σ' := (apt 84 83 0 (rf_w (rf_w (rf_w (rf_w α 83 2 (nI 5)) 83 3 (nI g)) 83 4 (μ 95 (194 + 8 * g))) 83 0 (nI 0)) 0 [12], rf_w (rf_w μ 94 18 (nI 0)) 94 19 (nI g))) (pc' := 37) kX12_voice_26 rfl rfl rf_a0 ?_
  refine ok_V (As := []) (b := 94) (st := []) mkX12_own qX12_voice_37 rfl (rc_94) rfl rfl rfl rfl (Nat.le_of_ble_eq_true rfl) (m_own (K := 5) (g := g) (by omega) (by rw [rf_w_row (by decide), rf_w_row (by decide)]; exact hK) (by simp [rf_w_at])) ?_
  refine ok_step (ps := []) (L' := [some (.ref 94), some (.int (nI g)), some (.int (nI 2)), some (.int x), some (.int (nI 5))]) (st' := [.int (nI 2)]) (σ' := (apt 84 83 0 (rf_w (rf_w (rf_w (rf_w α 83 2 (nI 5)) 83 3 (nI g)) 83 4 (μ 95 (194 + 8 * g))) 83 0 (nI 0)) 0 [12], rf_w (rf_w μ 94 18 (nI 0)) 94 19 (nI g))) (pc' := 43) kX12_voice_40 rfl rfl rf_a0 ?_
  refine ok_if_ne bX12_voice_43 (fun _ => ?_) (fun g43 => absurd g43 ((by decide)))
  refine ok_step (ps := []) (L' := [some (.ref 94), some (.int (nI g)), some (.int (nI 2)), some (.int x), some (.int (nI 5))]) (st' := [.int (nI 1), .int (nI 2)]) (σ' := (apt 84 83 0 (rf_w (rf_w (rf_w (rf_w α 83 2 (nI 5)) 83 3 (nI g)) 83 4 (μ 95 (194 + 8 * g))) 83 0 (nI 0)) 0 [12], rf_w (rf_w μ 94 18 (nI 0)) 94 19 (nI g))) (pc' := 58) kX12_voice_56 rfl rfl rf_a0 ?_
  refine ok_icmp_ne bX12_voice_58 (fun _ => ?_) (fun g58 => absurd g58 ((by decide)))
  refine ok_step (ps := []) (L' := [some (.ref 94), some (.int (nI g)), some (.int (nI 2)), some (.int x), some (.int (nI 5))]) (st' := [.int (nI 2), .int (nI 2)]) (σ' := (apt 84 83 0 (rf_w (rf_w (rf_w (rf_w α 83 2 (nI 5)) 83 3 (nI g)) 83 4 (μ 95 (194 + 8 * g))) 83 0 (nI 0)) 0 [12], rf_w (rf_w μ 94 18 (nI 0)) 94 19 (nI g))) (pc' := 73) kX12_voice_71 rfl rfl rf_a0 ?_
  refine ok_icmp_ne bX12_voice_73 (fun g73 => absurd ((by decide)) g73) (fun _ => ?_)
  refine ok_step (ps := []) (L' := [some (.ref 94), some (.int (nI g)), some (.int (nI 2)), some (.int x), some (.int (nI 5))]) (st' := [.int x, .int (nI 5), .ref 94]) (σ' := (apt 84 83 0 (rf_w (rf_w (rf_w (rf_w α 83 2 (nI 5)) 83 3 (nI g)) 83 4 (μ 95 (194 + 8 * g))) 83 0 (nI 0)) 0 [12], rf_w (rf_w μ 94 18 (nI 0)) 94 19 (nI g))) (pc' := 80) kX12_voice_76 rfl rfl rf_a0 ?_
  refine ok_V (As := [.int (nI 5), .int x]) (b := 94) (st := []) mkX12_tellsOf qX12_voice_80 rfl (rc_94) rfl rfl rfl rfl (Nat.le_of_ble_eq_true rfl) (mv5_2_5 (ν := rf_w (rf_w μ 94 18 (nI 0)) 94 19 (nI g)) (mn := (μ 95 (194 + 8 * g))) (b := 0) (g := g) (by rw [rf_w_row (by decide), rf_w_row (by decide)]; exact hK) (by rw [rf_w_row (by decide), rf_w_row (by decide)]) (by simp [rf_w_at]) (by omega) (by simp [rf_w_at]) (by decide)) ?_
  refine ok_goto bX12_voice_83 ?_
  refine ok_reti eX12_voice_93 rfl ?_
  exact ⟨rfl, _, rfl, J.apt (α := α) (μ := μ) hJ.vo0 (by simp [rf_w_at]) (by decide)⟩
theorem c_hear_5_3 {g : Nat} {x : Int32} (hR : Rl 1 α (μ 95)) (hg : g < 16) (hK : μ 95 (190 + 8 * g) = nI 5) : rf_At (rf_T Ln xs) MX9_hear 25 0 ([some (.ref 83), some (.ref 10), some (.int (nI g)), some (.int (nI 3)), some (.int x)], [], 108, (α, μ)) (some (.int ((((x + (nI g)) ^^^ (μ 95 (194 + 8 * g))) * nI 2) ^^^ (x - (μ 95 (194 + 8 * g)))))) 108 (apt 84 83 0 (rf_w (rf_w (rf_w (rf_w α 83 2 (nI 5)) 83 3 (nI g)) 83 4 (μ 95 (194 + 8 * g))) 83 0 (nI 0)) 0 [13, 11, 60, 10, 12], μ) := by
  refine rf_pa ?_
  refine ok_step (ps := [rf_in (nI g) 16, rf_in (nI g) 16]) (L' := [some (.ref 83), some (.ref 10), some (.int (nI g)), some (.int (nI 3)), some (.int x)]) (st' := [.int (nI 0), .int x, .int (nI 3), .int ((rf_w (rf_w (rf_w (rf_w α 83 2 (α 11 ((nI g).toNatClampNeg))) 83 3 (nI g)) 83 4 ((rf_w (rf_w α 83 2 (α 11 ((nI g).toNatClampNeg))) 83 3 (nI g)) 15 ((nI g).toNatClampNeg))) 83 0 (nI 0)) 83 2), .ref 83]) (σ' := (rf_w (rf_w (rf_w (rf_w α 83 2 (α 11 ((nI g).toNatClampNeg))) 83 3 (nI g)) 83 4 ((rf_w (rf_w α 83 2 (α 11 ((nI g).toNatClampNeg))) 83 3 (nI g)) 15 ((nI g).toNatClampNeg))) 83 0 (nI 0), μ)) (pc' := 39) kX9_hear_0 rfl rfl (rf_a1 (rf_in_n (a := g) rfl (by omega)) (rf_a1 (rf_in_n (a := g) rfl (by omega)) rf_a0)) ?_
  try rw [(show (nI g).toNatClampNeg = g from rf_cl_n rfl (by omega))]
  try rw [(show α 11 g = μ 95 (190 + 8 * g) from rl_10 hR (i := g) (by omega) (by omega))]
  try rw [hK]
  try rw [(show (nI g).toNatClampNeg = g from rf_cl_n rfl (by omega))]
  try rw [(show (rf_w (rf_w α 83 2 (nI 5)) 83 3 (nI g)) 15 g = (rf_w α 83 2 (nI 5)) 15 g from by rw [rf_w_at, if_neg (fun h => absurd h.1 (by decide))])]
  try rw [(show (rf_w α 83 2 (nI 5)) 15 g = α 15 g from by rw [rf_w_at, if_neg (fun h => absurd h.1 (by decide))])]
  try rw [(show α 15 g = μ 95 (194 + 8 * g) from rl_14 hR (i := g) (by omega) (by omega))]
  try rw [(show (rf_w (rf_w (rf_w (rf_w α 83 2 (nI 5)) 83 3 (nI g)) 83 4 (μ 95 (194 + 8 * g))) 83 0 (nI 0)) 83 2 = (rf_w (rf_w (rf_w α 83 2 (nI 5)) 83 3 (nI g)) 83 4 (μ 95 (194 + 8 * g))) 83 2 from by rw [rf_w_at, if_neg (fun h => absurd h.2 (by omega))])]
  try rw [(show (rf_w (rf_w (rf_w α 83 2 (nI 5)) 83 3 (nI g)) 83 4 (μ 95 (194 + 8 * g))) 83 2 = (rf_w (rf_w α 83 2 (nI 5)) 83 3 (nI g)) 83 2 from by rw [rf_w_at, if_neg (fun h => absurd h.2 (by omega))])]
  try rw [(show (rf_w (rf_w α 83 2 (nI 5)) 83 3 (nI g)) 83 2 = (rf_w α 83 2 (nI 5)) 83 2 from by rw [rf_w_at, if_neg (fun h => absurd h.2 (by omega))])]
  try rw [(show (rf_w α 83 2 (nI 5)) 83 2 = (nI 5) from by rw [rf_w_at, if_pos ⟨rfl, rfl⟩])]
  refine ok_V (As := [.int (nI 5), .int (nI 3), .int x, .int (nI 0)]) (b := 83) (st := []) mkX9_speak qX9_hear_39 rfl (rc_83) rfl rfl rfl rfl (Nat.le_of_ble_eq_true rfl) (cv5_3_5 (α := rf_w (rf_w (rf_w (rf_w α 83 2 (nI 5)) 83 3 (nI g)) 83 4 (μ 95 (194 + 8 * g))) 83 0 (nI 0)) (nu := nI g) (mn := (μ 95 (194 + 8 * g))) (b := 0) (dep := 0) (by simp [rf_w_at]) (by simp [rf_w_at]) (by simp [rf_w_at]) (by simp [rf_w_at]) (by decide) (by decide)) ?_
  refine ok_reti eX9_hear_42 rfl ?_
  exact ⟨rfl, rfl⟩
theorem op_voice_5_3 {g : Nat} {x : Int32} (hJ : J α μ) (hg : g < cn (μ 95) 4) (hK : μ 95 (190 + 8 * g) = nI 5) : Op (rf_T Ln xs) MX11_voice MX12_voice [some (.ref 0), some (.int (nI g)), some (.int (nI 3)), some (.int x)] [some (.ref 94), some (.int (nI g)), some (.int (nI 3)), some (.int x), none] α μ := by
  have hR := hJ.1.1.1
  have hI := hJ.2
  have b0 := hI.le0
  have b1 := hI.le1
  have b2 := hI.le2
  have b3 := hI.le3
  have b4 := hI.le4
  have b5 := hI.le5
  have b6 := hI.le6
  have b8 := hI.le8
  have b9 := hI.le9
  have b11 := hI.le11
  have b12 := hI.le12
  refine ok_step (ps := []) (L' := [some (.ref 0), some (.int (nI g)), some (.int (nI 3)), some (.int x)]) (st' := [.int (nI g), .ref 0]) (σ' := (α, μ)) (pc' := 2) kX11_voice_0 rfl rfl rf_a0 ?_
  refine ok_V (As := [.int (nI g)]) (b := 0) (st := []) mkX11_isGroup qX11_voice_2 rfl (rc_0) rfl rfl rfl rfl (Nat.le_of_ble_eq_true rfl) (c_isGroup hR) ?_
  refine ok_if_eq bX11_voice_5 (fun h5 => absurd h5 ((bI_n0.mpr (wi_in hI.at4 hg (by omega))))) (fun _ => ?_)
  refine ok_step (ps := []) (L' := [some (.ref 0), some (.int (nI g)), some (.int (nI 3)), some (.int x)]) (st' := [.int (nI 3), .int (nI 0), .int (nI 3)]) (σ' := (α, μ)) (pc' := 11) kX11_voice_8 rfl rfl rf_a0 ?_
  refine ok_S (As := [.int (nI 3), .int (nI 0), .int (nI 3)]) (st := []) mkX11_within qX11_voice_11 rfl rfl rfl rfl rfl (Nat.le_of_ble_eq_true rfl) (c_within) ?_
  rw [show bI (wi (nI 3) (nI 0) (nI 3)) = nI 1 from rfl]
  refine ok_if_ne bX11_voice_14 (fun _ => ?_) (fun h14 => absurd h14 ((by decide)))
  refine ok_step (ps := []) (L' := [some (.ref 0), some (.int (nI g)), some (.int (nI 3)), some (.int x)]) (st' := [.int x, .int (nI 3), .int (nI g), .ref 10, .ref 83]) (σ' := (α, μ)) (pc' := 38) kX11_voice_24 rfl rfl rf_a0 ?_
  refine ok_V (As := [.ref 10, .int (nI g), .int (nI 3), .int x]) (b := 83) (st := []) mkX9_hear qX11_voice_38 rfl (rc_83) rfl rfl rfl rfl (Nat.le_of_ble_eq_true rfl) (c_hear_5_3 hR (by omega) hK) ?_
  refine ok_reti eX11_voice_41 rfl ?_
  refine ⟨rfl, _, rfl, ?_⟩
  refine ok_step (ps := []) (L' := [some (.ref 94), some (.int (nI g)), some (.int (nI 3)), some (.int x), none]) (st' := [.int (nI g), .ref 94]) (σ' := (apt 84 83 0 (rf_w (rf_w (rf_w (rf_w α 83 2 (nI 5)) 83 3 (nI g)) 83 4 (μ 95 (194 + 8 * g))) 83 0 (nI 0)) 0 [13, 11, 60, 10, 12], μ)) (pc' := 2) kX12_voice_0 rfl rfl rf_a0 ?_
  refine ok_V (As := [.int (nI g)]) (b := 94) (st := []) mkX12_isGroup qX12_voice_2 rfl (rc_94) rfl rfl rfl rfl (Nat.le_of_ble_eq_true rfl) (m_isGroup) ?_
  refine ok_if_eq bX12_voice_5 (fun g5 => absurd g5 ((bI_n0.mpr (wi_in hI.at4 hg (by omega))))) (fun _ => ?_)
  refine ok_step (ps := []) (L' := [some (.ref 94), some (.int (nI g)), some (.int (nI 3)), some (.int x), none]) (st' := [.long (lN 3), .long (lN 0), .long ((nI 3).toInt64)]) (σ' := (apt 84 83 0 (rf_w (rf_w (rf_w (rf_w α 83 2 (nI 5)) 83 3 (nI g)) 83 4 (μ 95 (194 + 8 * g))) 83 0 (nI 0)) 0 [13, 11, 60, 10, 12], μ)) (pc' := 14) kX12_voice_8 rfl rfl rf_a0 ?_
  refine ok_S (As := [.long ((nI 3).toInt64), .long (lN 0), .long (lN 3)]) (st := []) mkX12_in qX12_voice_14 rfl rfl rfl rfl rfl (Nat.le_of_ble_eq_true rfl) (m_in) ?_
  rw [show wl ((nI 3).toInt64) (lN 0) (lN 3) = wi (nI 3) (nI 0) (nI 3) from wl_of rfl (nI_l (by decide)).symm (nI_l (by decide)).symm, show bI (wi (nI 3) (nI 0) (nI 3)) = nI 1 from rfl]
  refine ok_if_ne bX12_voice_17 (fun _ => ?_) (fun g17 => absurd g17 ((by decide)))
  refine ok_step (ps := []) (L' := [some (.ref 94), some (.int (nI g)), some (.int (nI 3)), some (.int x), none]) (st' := [.ref 94]) (σ' := (apt 84 83 0 (rf_w (rf_w (rf_w (rf_w α 83 2 (nI 5)) 83 3 (nI g)) 83 4 (μ 95 (194 + 8 * g))) 83 0 (nI 0)) 0 [13, 11, 60, 10, 12], rf_w (rf_w μ 94 18 (nI 0)) 94 19 (nI g))) (pc' := 37) kX12_voice_26 rfl rfl rf_a0 ?_
  refine ok_V (As := []) (b := 94) (st := []) mkX12_own qX12_voice_37 rfl (rc_94) rfl rfl rfl rfl (Nat.le_of_ble_eq_true rfl) (m_own (K := 5) (g := g) (by omega) (by rw [rf_w_row (by decide), rf_w_row (by decide)]; exact hK) (by simp [rf_w_at])) ?_
  refine ok_step (ps := []) (L' := [some (.ref 94), some (.int (nI g)), some (.int (nI 3)), some (.int x), some (.int (nI 5))]) (st' := [.int (nI 3)]) (σ' := (apt 84 83 0 (rf_w (rf_w (rf_w (rf_w α 83 2 (nI 5)) 83 3 (nI g)) 83 4 (μ 95 (194 + 8 * g))) 83 0 (nI 0)) 0 [13, 11, 60, 10, 12], rf_w (rf_w μ 94 18 (nI 0)) 94 19 (nI g))) (pc' := 43) kX12_voice_40 rfl rfl rf_a0 ?_
  refine ok_if_ne bX12_voice_43 (fun _ => ?_) (fun g43 => absurd g43 ((by decide)))
  refine ok_step (ps := []) (L' := [some (.ref 94), some (.int (nI g)), some (.int (nI 3)), some (.int x), some (.int (nI 5))]) (st' := [.int (nI 1), .int (nI 3)]) (σ' := (apt 84 83 0 (rf_w (rf_w (rf_w (rf_w α 83 2 (nI 5)) 83 3 (nI g)) 83 4 (μ 95 (194 + 8 * g))) 83 0 (nI 0)) 0 [13, 11, 60, 10, 12], rf_w (rf_w μ 94 18 (nI 0)) 94 19 (nI g))) (pc' := 58) kX12_voice_56 rfl rfl rf_a0 ?_
  refine ok_icmp_ne bX12_voice_58 (fun _ => ?_) (fun g58 => absurd g58 ((by decide)))
  refine ok_step (ps := []) (L' := [some (.ref 94), some (.int (nI g)), some (.int (nI 3)), some (.int x), some (.int (nI 5))]) (st' := [.int (nI 2), .int (nI 3)]) (σ' := (apt 84 83 0 (rf_w (rf_w (rf_w (rf_w α 83 2 (nI 5)) 83 3 (nI g)) 83 4 (μ 95 (194 + 8 * g))) 83 0 (nI 0)) 0 [13, 11, 60, 10, 12], rf_w (rf_w μ 94 18 (nI 0)) 94 19 (nI g))) (pc' := 73) kX12_voice_71 rfl rfl rf_a0 ?_
  refine ok_icmp_ne bX12_voice_73 (fun _ => ?_) (fun g73 => absurd g73 ((by decide)))
  refine ok_step (ps := []) (L' := [some (.ref 94), some (.int (nI g)), some (.int (nI 3)), some (.int x), some (.int (nI 5))]) (st' := [.int x, .int (nI 5), .ref 94]) (σ' := (apt 84 83 0 (rf_w (rf_w (rf_w (rf_w α 83 2 (nI 5)) 83 3 (nI g)) 83 4 (μ 95 (194 + 8 * g))) 83 0 (nI 0)) 0 [13, 11, 60, 10, 12], rf_w (rf_w μ 94 18 (nI 0)) 94 19 (nI g))) (pc' := 90) kX12_voice_86 rfl rfl rf_a0 ?_
  refine ok_V (As := [.int (nI 5), .int x]) (b := 94) (st := []) mkX12_paysOf qX12_voice_90 rfl (rc_94) rfl rfl rfl rfl (Nat.le_of_ble_eq_true rfl) (mv5_3_5 (ν := rf_w (rf_w μ 94 18 (nI 0)) 94 19 (nI g)) (mn := (μ 95 (194 + 8 * g))) (b := 0) (g := g) (by rw [rf_w_row (by decide), rf_w_row (by decide)]; exact hK) (by rw [rf_w_row (by decide), rf_w_row (by decide)]) (by simp [rf_w_at]) (by omega) (by simp [rf_w_at]) (by decide)) ?_
  refine ok_reti eX12_voice_93 rfl ?_
  exact ⟨rfl, _, rfl, J.apt (α := α) (μ := μ) hJ.vo0 (by simp [rf_w_at]) (by decide)⟩
theorem c_hear_6_0 {g : Nat} {x : Int32} (hR : Rl 1 α (μ 95)) (hg : g < 16) (hK : μ 95 (190 + 8 * g) = nI 6) : rf_At (rf_T Ln xs) MX9_hear 25 0 ([some (.ref 83), some (.ref 10), some (.int (nI g)), some (.int (nI 0)), some (.int x)], [], 108, (α, μ)) (some (.int (x + (nI g)))) 108 (apt 84 83 0 (rf_w (rf_w (rf_w (rf_w α 83 2 (nI 6)) 83 3 (nI g)) 83 4 (μ 95 (194 + 8 * g))) 83 0 (nI 0)) 0 [10], μ) := by
  refine rf_pa ?_
  refine ok_step (ps := [rf_in (nI g) 16, rf_in (nI g) 16]) (L' := [some (.ref 83), some (.ref 10), some (.int (nI g)), some (.int (nI 0)), some (.int x)]) (st' := [.int (nI 0), .int x, .int (nI 0), .int ((rf_w (rf_w (rf_w (rf_w α 83 2 (α 11 ((nI g).toNatClampNeg))) 83 3 (nI g)) 83 4 ((rf_w (rf_w α 83 2 (α 11 ((nI g).toNatClampNeg))) 83 3 (nI g)) 15 ((nI g).toNatClampNeg))) 83 0 (nI 0)) 83 2), .ref 83]) (σ' := (rf_w (rf_w (rf_w (rf_w α 83 2 (α 11 ((nI g).toNatClampNeg))) 83 3 (nI g)) 83 4 ((rf_w (rf_w α 83 2 (α 11 ((nI g).toNatClampNeg))) 83 3 (nI g)) 15 ((nI g).toNatClampNeg))) 83 0 (nI 0), μ)) (pc' := 39) kX9_hear_0 rfl rfl (rf_a1 (rf_in_n (a := g) rfl (by omega)) (rf_a1 (rf_in_n (a := g) rfl (by omega)) rf_a0)) ?_
  try rw [(show (nI g).toNatClampNeg = g from rf_cl_n rfl (by omega))]
  try rw [(show α 11 g = μ 95 (190 + 8 * g) from rl_10 hR (i := g) (by omega) (by omega))]
  try rw [hK]
  try rw [(show (nI g).toNatClampNeg = g from rf_cl_n rfl (by omega))]
  try rw [(show (rf_w (rf_w α 83 2 (nI 6)) 83 3 (nI g)) 15 g = (rf_w α 83 2 (nI 6)) 15 g from by rw [rf_w_at, if_neg (fun h => absurd h.1 (by decide))])]
  try rw [(show (rf_w α 83 2 (nI 6)) 15 g = α 15 g from by rw [rf_w_at, if_neg (fun h => absurd h.1 (by decide))])]
  try rw [(show α 15 g = μ 95 (194 + 8 * g) from rl_14 hR (i := g) (by omega) (by omega))]
  try rw [(show (rf_w (rf_w (rf_w (rf_w α 83 2 (nI 6)) 83 3 (nI g)) 83 4 (μ 95 (194 + 8 * g))) 83 0 (nI 0)) 83 2 = (rf_w (rf_w (rf_w α 83 2 (nI 6)) 83 3 (nI g)) 83 4 (μ 95 (194 + 8 * g))) 83 2 from by rw [rf_w_at, if_neg (fun h => absurd h.2 (by omega))])]
  try rw [(show (rf_w (rf_w (rf_w α 83 2 (nI 6)) 83 3 (nI g)) 83 4 (μ 95 (194 + 8 * g))) 83 2 = (rf_w (rf_w α 83 2 (nI 6)) 83 3 (nI g)) 83 2 from by rw [rf_w_at, if_neg (fun h => absurd h.2 (by omega))])]
  try rw [(show (rf_w (rf_w α 83 2 (nI 6)) 83 3 (nI g)) 83 2 = (rf_w α 83 2 (nI 6)) 83 2 from by rw [rf_w_at, if_neg (fun h => absurd h.2 (by omega))])]
  try rw [(show (rf_w α 83 2 (nI 6)) 83 2 = (nI 6) from by rw [rf_w_at, if_pos ⟨rfl, rfl⟩])]
  refine ok_V (As := [.int (nI 6), .int (nI 0), .int x, .int (nI 0)]) (b := 83) (st := []) mkX9_speak qX9_hear_39 rfl (rc_83) rfl rfl rfl rfl (Nat.le_of_ble_eq_true rfl) (cv6_0_6 (α := rf_w (rf_w (rf_w (rf_w α 83 2 (nI 6)) 83 3 (nI g)) 83 4 (μ 95 (194 + 8 * g))) 83 0 (nI 0)) (nu := nI g) (mn := (μ 95 (194 + 8 * g))) (b := 0) (dep := 0) (by simp [rf_w_at]) (by simp [rf_w_at]) (by simp [rf_w_at]) (by simp [rf_w_at]) (by decide) (by decide)) ?_
  refine ok_reti eX9_hear_42 rfl ?_
  exact ⟨rfl, rfl⟩
theorem op_voice_6_0 {g : Nat} {x : Int32} (hJ : J α μ) (hg : g < cn (μ 95) 4) (hK : μ 95 (190 + 8 * g) = nI 6) : Op (rf_T Ln xs) MX11_voice MX12_voice [some (.ref 0), some (.int (nI g)), some (.int (nI 0)), some (.int x)] [some (.ref 94), some (.int (nI g)), some (.int (nI 0)), some (.int x), none] α μ := by
  have hR := hJ.1.1.1
  have hI := hJ.2
  have b0 := hI.le0
  have b1 := hI.le1
  have b2 := hI.le2
  have b3 := hI.le3
  have b4 := hI.le4
  have b5 := hI.le5
  have b6 := hI.le6
  have b8 := hI.le8
  have b9 := hI.le9
  have b11 := hI.le11
  have b12 := hI.le12
  refine ok_step (ps := []) (L' := [some (.ref 0), some (.int (nI g)), some (.int (nI 0)), some (.int x)]) (st' := [.int (nI g), .ref 0]) (σ' := (α, μ)) (pc' := 2) kX11_voice_0 rfl rfl rf_a0 ?_
  refine ok_V (As := [.int (nI g)]) (b := 0) (st := []) mkX11_isGroup qX11_voice_2 rfl (rc_0) rfl rfl rfl rfl (Nat.le_of_ble_eq_true rfl) (c_isGroup hR) ?_
  refine ok_if_eq bX11_voice_5 (fun h5 => absurd h5 ((bI_n0.mpr (wi_in hI.at4 hg (by omega))))) (fun _ => ?_)
  refine ok_step (ps := []) (L' := [some (.ref 0), some (.int (nI g)), some (.int (nI 0)), some (.int x)]) (st' := [.int (nI 3), .int (nI 0), .int (nI 0)]) (σ' := (α, μ)) (pc' := 11) kX11_voice_8 rfl rfl rf_a0 ?_
  refine ok_S (As := [.int (nI 0), .int (nI 0), .int (nI 3)]) (st := []) mkX11_within qX11_voice_11 rfl rfl rfl rfl rfl (Nat.le_of_ble_eq_true rfl) (c_within) ?_
  rw [show bI (wi (nI 0) (nI 0) (nI 3)) = nI 1 from rfl]
  refine ok_if_ne bX11_voice_14 (fun _ => ?_) (fun h14 => absurd h14 ((by decide)))
  refine ok_step (ps := []) (L' := [some (.ref 0), some (.int (nI g)), some (.int (nI 0)), some (.int x)]) (st' := [.int x, .int (nI 0), .int (nI g), .ref 10, .ref 83]) (σ' := (α, μ)) (pc' := 38) kX11_voice_24 rfl rfl rf_a0 ?_
  refine ok_V (As := [.ref 10, .int (nI g), .int (nI 0), .int x]) (b := 83) (st := []) mkX9_hear qX11_voice_38 rfl (rc_83) rfl rfl rfl rfl (Nat.le_of_ble_eq_true rfl) (c_hear_6_0 hR (by omega) hK) ?_
  refine ok_reti eX11_voice_41 rfl ?_
  refine ⟨rfl, _, rfl, ?_⟩
  refine ok_step (ps := []) (L' := [some (.ref 94), some (.int (nI g)), some (.int (nI 0)), some (.int x), none]) (st' := [.int (nI g), .ref 94]) (σ' := (apt 84 83 0 (rf_w (rf_w (rf_w (rf_w α 83 2 (nI 6)) 83 3 (nI g)) 83 4 (μ 95 (194 + 8 * g))) 83 0 (nI 0)) 0 [10], μ)) (pc' := 2) kX12_voice_0 rfl rfl rf_a0 ?_
  refine ok_V (As := [.int (nI g)]) (b := 94) (st := []) mkX12_isGroup qX12_voice_2 rfl (rc_94) rfl rfl rfl rfl (Nat.le_of_ble_eq_true rfl) (m_isGroup) ?_
  refine ok_if_eq bX12_voice_5 (fun g5 => absurd g5 ((bI_n0.mpr (wi_in hI.at4 hg (by omega))))) (fun _ => ?_)
  refine ok_step (ps := []) (L' := [some (.ref 94), some (.int (nI g)), some (.int (nI 0)), some (.int x), none]) (st' := [.long (lN 3), .long (lN 0), .long ((nI 0).toInt64)]) (σ' := (apt 84 83 0 (rf_w (rf_w (rf_w (rf_w α 83 2 (nI 6)) 83 3 (nI g)) 83 4 (μ 95 (194 + 8 * g))) 83 0 (nI 0)) 0 [10], μ)) (pc' := 14) kX12_voice_8 rfl rfl rf_a0 ?_
  refine ok_S (As := [.long ((nI 0).toInt64), .long (lN 0), .long (lN 3)]) (st := []) mkX12_in qX12_voice_14 rfl rfl rfl rfl rfl (Nat.le_of_ble_eq_true rfl) (m_in) ?_
  rw [show wl ((nI 0).toInt64) (lN 0) (lN 3) = wi (nI 0) (nI 0) (nI 3) from wl_of rfl (nI_l (by decide)).symm (nI_l (by decide)).symm, show bI (wi (nI 0) (nI 0) (nI 3)) = nI 1 from rfl]
  refine ok_if_ne bX12_voice_17 (fun _ => ?_) (fun g17 => absurd g17 ((by decide)))
  refine ok_step (ps := []) (L' := [some (.ref 94), some (.int (nI g)), some (.int (nI 0)), some (.int x), none]) (st' := [.ref 94]) (σ' := (apt 84 83 0 (rf_w (rf_w (rf_w (rf_w α 83 2 (nI 6)) 83 3 (nI g)) 83 4 (μ 95 (194 + 8 * g))) 83 0 (nI 0)) 0 [10], rf_w (rf_w μ 94 18 (nI 0)) 94 19 (nI g))) (pc' := 37) kX12_voice_26 rfl rfl rf_a0 ?_
  refine ok_V (As := []) (b := 94) (st := []) mkX12_own qX12_voice_37 rfl (rc_94) rfl rfl rfl rfl (Nat.le_of_ble_eq_true rfl) (m_own (K := 6) (g := g) (by omega) (by rw [rf_w_row (by decide), rf_w_row (by decide)]; exact hK) (by simp [rf_w_at])) ?_
  refine ok_step (ps := []) (L' := [some (.ref 94), some (.int (nI g)), some (.int (nI 0)), some (.int x), some (.int (nI 6))]) (st' := [.int (nI 0)]) (σ' := (apt 84 83 0 (rf_w (rf_w (rf_w (rf_w α 83 2 (nI 6)) 83 3 (nI g)) 83 4 (μ 95 (194 + 8 * g))) 83 0 (nI 0)) 0 [10], rf_w (rf_w μ 94 18 (nI 0)) 94 19 (nI g))) (pc' := 43) kX12_voice_40 rfl rfl rf_a0 ?_
  refine ok_if_ne bX12_voice_43 (fun g43 => absurd ((by decide)) g43) (fun _ => ?_)
  refine ok_step (ps := []) (L' := [some (.ref 94), some (.int (nI g)), some (.int (nI 0)), some (.int x), some (.int (nI 6))]) (st' := [.int x, .int (nI 6), .ref 94]) (σ' := (apt 84 83 0 (rf_w (rf_w (rf_w (rf_w α 83 2 (nI 6)) 83 3 (nI g)) 83 4 (μ 95 (194 + 8 * g))) 83 0 (nI 0)) 0 [10], rf_w (rf_w μ 94 18 (nI 0)) 94 19 (nI g))) (pc' := 50) kX12_voice_46 rfl rfl rf_a0 ?_
  refine ok_V (As := [.int (nI 6), .int x]) (b := 94) (st := []) mkX12_goes qX12_voice_50 rfl (rc_94) rfl rfl rfl rfl (Nat.le_of_ble_eq_true rfl) (mv6_0_6 (ν := rf_w (rf_w μ 94 18 (nI 0)) 94 19 (nI g)) (mn := (μ 95 (194 + 8 * g))) (b := 0) (g := g) (by rw [rf_w_row (by decide), rf_w_row (by decide)]; exact hK) (by rw [rf_w_row (by decide), rf_w_row (by decide)]) (by simp [rf_w_at]) (by omega) (by simp [rf_w_at]) (by decide)) ?_
  refine ok_goto bX12_voice_53 ?_
  refine ok_reti eX12_voice_93 rfl ?_
  exact ⟨rfl, _, rfl, J.apt (α := α) (μ := μ) hJ.vo0 (by simp [rf_w_at]) (by decide)⟩
theorem c_hear_6_1 {g : Nat} {x : Int32} (hR : Rl 1 α (μ 95)) (hg : g < 16) (hK : μ 95 (190 + 8 * g) = nI 6) : rf_At (rf_T Ln xs) MX9_hear 25 0 ([some (.ref 83), some (.ref 10), some (.int (nI g)), some (.int (nI 1)), some (.int x)], [], 108, (α, μ)) (some (.int ((x + (nI g)) * nI 2))) 108 (apt 84 83 0 (rf_w (rf_w (rf_w (rf_w α 83 2 (nI 6)) 83 3 (nI g)) 83 4 (μ 95 (194 + 8 * g))) 83 0 (nI 0)) 0 [11, 10], μ) := by
  refine rf_pa ?_
  refine ok_step (ps := [rf_in (nI g) 16, rf_in (nI g) 16]) (L' := [some (.ref 83), some (.ref 10), some (.int (nI g)), some (.int (nI 1)), some (.int x)]) (st' := [.int (nI 0), .int x, .int (nI 1), .int ((rf_w (rf_w (rf_w (rf_w α 83 2 (α 11 ((nI g).toNatClampNeg))) 83 3 (nI g)) 83 4 ((rf_w (rf_w α 83 2 (α 11 ((nI g).toNatClampNeg))) 83 3 (nI g)) 15 ((nI g).toNatClampNeg))) 83 0 (nI 0)) 83 2), .ref 83]) (σ' := (rf_w (rf_w (rf_w (rf_w α 83 2 (α 11 ((nI g).toNatClampNeg))) 83 3 (nI g)) 83 4 ((rf_w (rf_w α 83 2 (α 11 ((nI g).toNatClampNeg))) 83 3 (nI g)) 15 ((nI g).toNatClampNeg))) 83 0 (nI 0), μ)) (pc' := 39) kX9_hear_0 rfl rfl (rf_a1 (rf_in_n (a := g) rfl (by omega)) (rf_a1 (rf_in_n (a := g) rfl (by omega)) rf_a0)) ?_
  try rw [(show (nI g).toNatClampNeg = g from rf_cl_n rfl (by omega))]
  try rw [(show α 11 g = μ 95 (190 + 8 * g) from rl_10 hR (i := g) (by omega) (by omega))]
  try rw [hK]
  try rw [(show (nI g).toNatClampNeg = g from rf_cl_n rfl (by omega))]
  try rw [(show (rf_w (rf_w α 83 2 (nI 6)) 83 3 (nI g)) 15 g = (rf_w α 83 2 (nI 6)) 15 g from by rw [rf_w_at, if_neg (fun h => absurd h.1 (by decide))])]
  try rw [(show (rf_w α 83 2 (nI 6)) 15 g = α 15 g from by rw [rf_w_at, if_neg (fun h => absurd h.1 (by decide))])]
  try rw [(show α 15 g = μ 95 (194 + 8 * g) from rl_14 hR (i := g) (by omega) (by omega))]
  try rw [(show (rf_w (rf_w (rf_w (rf_w α 83 2 (nI 6)) 83 3 (nI g)) 83 4 (μ 95 (194 + 8 * g))) 83 0 (nI 0)) 83 2 = (rf_w (rf_w (rf_w α 83 2 (nI 6)) 83 3 (nI g)) 83 4 (μ 95 (194 + 8 * g))) 83 2 from by rw [rf_w_at, if_neg (fun h => absurd h.2 (by omega))])]
  try rw [(show (rf_w (rf_w (rf_w α 83 2 (nI 6)) 83 3 (nI g)) 83 4 (μ 95 (194 + 8 * g))) 83 2 = (rf_w (rf_w α 83 2 (nI 6)) 83 3 (nI g)) 83 2 from by rw [rf_w_at, if_neg (fun h => absurd h.2 (by omega))])]
  try rw [(show (rf_w (rf_w α 83 2 (nI 6)) 83 3 (nI g)) 83 2 = (rf_w α 83 2 (nI 6)) 83 2 from by rw [rf_w_at, if_neg (fun h => absurd h.2 (by omega))])]
  try rw [(show (rf_w α 83 2 (nI 6)) 83 2 = (nI 6) from by rw [rf_w_at, if_pos ⟨rfl, rfl⟩])]
  refine ok_V (As := [.int (nI 6), .int (nI 1), .int x, .int (nI 0)]) (b := 83) (st := []) mkX9_speak qX9_hear_39 rfl (rc_83) rfl rfl rfl rfl (Nat.le_of_ble_eq_true rfl) (cv6_1_6 (α := rf_w (rf_w (rf_w (rf_w α 83 2 (nI 6)) 83 3 (nI g)) 83 4 (μ 95 (194 + 8 * g))) 83 0 (nI 0)) (nu := nI g) (mn := (μ 95 (194 + 8 * g))) (b := 0) (dep := 0) (by simp [rf_w_at]) (by simp [rf_w_at]) (by simp [rf_w_at]) (by simp [rf_w_at]) (by decide) (by decide)) ?_
  refine ok_reti eX9_hear_42 rfl ?_
  exact ⟨rfl, rfl⟩
theorem op_voice_6_1 {g : Nat} {x : Int32} (hJ : J α μ) (hg : g < cn (μ 95) 4) (hK : μ 95 (190 + 8 * g) = nI 6) : Op (rf_T Ln xs) MX11_voice MX12_voice [some (.ref 0), some (.int (nI g)), some (.int (nI 1)), some (.int x)] [some (.ref 94), some (.int (nI g)), some (.int (nI 1)), some (.int x), none] α μ := by
  have hR := hJ.1.1.1
  have hI := hJ.2
  have b0 := hI.le0
  have b1 := hI.le1
  have b2 := hI.le2
  have b3 := hI.le3
  have b4 := hI.le4
  have b5 := hI.le5
  have b6 := hI.le6
  have b8 := hI.le8
  have b9 := hI.le9
  have b11 := hI.le11
  have b12 := hI.le12
  refine ok_step (ps := []) (L' := [some (.ref 0), some (.int (nI g)), some (.int (nI 1)), some (.int x)]) (st' := [.int (nI g), .ref 0]) (σ' := (α, μ)) (pc' := 2) kX11_voice_0 rfl rfl rf_a0 ?_
  refine ok_V (As := [.int (nI g)]) (b := 0) (st := []) mkX11_isGroup qX11_voice_2 rfl (rc_0) rfl rfl rfl rfl (Nat.le_of_ble_eq_true rfl) (c_isGroup hR) ?_
  refine ok_if_eq bX11_voice_5 (fun h5 => absurd h5 ((bI_n0.mpr (wi_in hI.at4 hg (by omega))))) (fun _ => ?_)
  refine ok_step (ps := []) (L' := [some (.ref 0), some (.int (nI g)), some (.int (nI 1)), some (.int x)]) (st' := [.int (nI 3), .int (nI 0), .int (nI 1)]) (σ' := (α, μ)) (pc' := 11) kX11_voice_8 rfl rfl rf_a0 ?_
  refine ok_S (As := [.int (nI 1), .int (nI 0), .int (nI 3)]) (st := []) mkX11_within qX11_voice_11 rfl rfl rfl rfl rfl (Nat.le_of_ble_eq_true rfl) (c_within) ?_
  rw [show bI (wi (nI 1) (nI 0) (nI 3)) = nI 1 from rfl]
  refine ok_if_ne bX11_voice_14 (fun _ => ?_) (fun h14 => absurd h14 ((by decide)))
  refine ok_step (ps := []) (L' := [some (.ref 0), some (.int (nI g)), some (.int (nI 1)), some (.int x)]) (st' := [.int x, .int (nI 1), .int (nI g), .ref 10, .ref 83]) (σ' := (α, μ)) (pc' := 38) kX11_voice_24 rfl rfl rf_a0 ?_
  refine ok_V (As := [.ref 10, .int (nI g), .int (nI 1), .int x]) (b := 83) (st := []) mkX9_hear qX11_voice_38 rfl (rc_83) rfl rfl rfl rfl (Nat.le_of_ble_eq_true rfl) (c_hear_6_1 hR (by omega) hK) ?_
  refine ok_reti eX11_voice_41 rfl ?_
  refine ⟨rfl, _, rfl, ?_⟩
  refine ok_step (ps := []) (L' := [some (.ref 94), some (.int (nI g)), some (.int (nI 1)), some (.int x), none]) (st' := [.int (nI g), .ref 94]) (σ' := (apt 84 83 0 (rf_w (rf_w (rf_w (rf_w α 83 2 (nI 6)) 83 3 (nI g)) 83 4 (μ 95 (194 + 8 * g))) 83 0 (nI 0)) 0 [11, 10], μ)) (pc' := 2) kX12_voice_0 rfl rfl rf_a0 ?_
  refine ok_V (As := [.int (nI g)]) (b := 94) (st := []) mkX12_isGroup qX12_voice_2 rfl (rc_94) rfl rfl rfl rfl (Nat.le_of_ble_eq_true rfl) (m_isGroup) ?_
  refine ok_if_eq bX12_voice_5 (fun g5 => absurd g5 ((bI_n0.mpr (wi_in hI.at4 hg (by omega))))) (fun _ => ?_)
  refine ok_step (ps := []) (L' := [some (.ref 94), some (.int (nI g)), some (.int (nI 1)), some (.int x), none]) (st' := [.long (lN 3), .long (lN 0), .long ((nI 1).toInt64)]) (σ' := (apt 84 83 0 (rf_w (rf_w (rf_w (rf_w α 83 2 (nI 6)) 83 3 (nI g)) 83 4 (μ 95 (194 + 8 * g))) 83 0 (nI 0)) 0 [11, 10], μ)) (pc' := 14) kX12_voice_8 rfl rfl rf_a0 ?_
  refine ok_S (As := [.long ((nI 1).toInt64), .long (lN 0), .long (lN 3)]) (st := []) mkX12_in qX12_voice_14 rfl rfl rfl rfl rfl (Nat.le_of_ble_eq_true rfl) (m_in) ?_
  rw [show wl ((nI 1).toInt64) (lN 0) (lN 3) = wi (nI 1) (nI 0) (nI 3) from wl_of rfl (nI_l (by decide)).symm (nI_l (by decide)).symm, show bI (wi (nI 1) (nI 0) (nI 3)) = nI 1 from rfl]
  refine ok_if_ne bX12_voice_17 (fun _ => ?_) (fun g17 => absurd g17 ((by decide)))
  refine ok_step (ps := []) (L' := [some (.ref 94), some (.int (nI g)), some (.int (nI 1)), some (.int x), none]) (st' := [.ref 94]) (σ' := (apt 84 83 0 (rf_w (rf_w (rf_w (rf_w α 83 2 (nI 6)) 83 3 (nI g)) 83 4 (μ 95 (194 + 8 * g))) 83 0 (nI 0)) 0 [11, 10], rf_w (rf_w μ 94 18 (nI 0)) 94 19 (nI g))) (pc' := 37) kX12_voice_26 rfl rfl rf_a0 ?_
  refine ok_V (As := []) (b := 94) (st := []) mkX12_own qX12_voice_37 rfl (rc_94) rfl rfl rfl rfl (Nat.le_of_ble_eq_true rfl) (m_own (K := 6) (g := g) (by omega) (by rw [rf_w_row (by decide), rf_w_row (by decide)]; exact hK) (by simp [rf_w_at])) ?_
  refine ok_step (ps := []) (L' := [some (.ref 94), some (.int (nI g)), some (.int (nI 1)), some (.int x), some (.int (nI 6))]) (st' := [.int (nI 1)]) (σ' := (apt 84 83 0 (rf_w (rf_w (rf_w (rf_w α 83 2 (nI 6)) 83 3 (nI g)) 83 4 (μ 95 (194 + 8 * g))) 83 0 (nI 0)) 0 [11, 10], rf_w (rf_w μ 94 18 (nI 0)) 94 19 (nI g))) (pc' := 43) kX12_voice_40 rfl rfl rf_a0 ?_
  refine ok_if_ne bX12_voice_43 (fun _ => ?_) (fun g43 => absurd g43 ((by decide)))
  refine ok_step (ps := []) (L' := [some (.ref 94), some (.int (nI g)), some (.int (nI 1)), some (.int x), some (.int (nI 6))]) (st' := [.int (nI 1), .int (nI 1)]) (σ' := (apt 84 83 0 (rf_w (rf_w (rf_w (rf_w α 83 2 (nI 6)) 83 3 (nI g)) 83 4 (μ 95 (194 + 8 * g))) 83 0 (nI 0)) 0 [11, 10], rf_w (rf_w μ 94 18 (nI 0)) 94 19 (nI g))) (pc' := 58) kX12_voice_56 rfl rfl rf_a0 ?_
  refine ok_icmp_ne bX12_voice_58 (fun g58 => absurd ((by decide)) g58) (fun _ => ?_)
  refine ok_step (ps := []) (L' := [some (.ref 94), some (.int (nI g)), some (.int (nI 1)), some (.int x), some (.int (nI 6))]) (st' := [.int x, .int (nI 6), .ref 94]) (σ' := (apt 84 83 0 (rf_w (rf_w (rf_w (rf_w α 83 2 (nI 6)) 83 3 (nI g)) 83 4 (μ 95 (194 + 8 * g))) 83 0 (nI 0)) 0 [11, 10], rf_w (rf_w μ 94 18 (nI 0)) 94 19 (nI g))) (pc' := 65) kX12_voice_61 rfl rfl rf_a0 ?_
  refine ok_V (As := [.int (nI 6), .int x]) (b := 94) (st := []) mkX12_weighsOf qX12_voice_65 rfl (rc_94) rfl rfl rfl rfl (Nat.le_of_ble_eq_true rfl) (mv6_1_6 (ν := rf_w (rf_w μ 94 18 (nI 0)) 94 19 (nI g)) (mn := (μ 95 (194 + 8 * g))) (b := 0) (g := g) (by rw [rf_w_row (by decide), rf_w_row (by decide)]; exact hK) (by rw [rf_w_row (by decide), rf_w_row (by decide)]) (by simp [rf_w_at]) (by omega) (by simp [rf_w_at]) (by decide)) ?_
  refine ok_goto bX12_voice_68 ?_
  refine ok_reti eX12_voice_93 rfl ?_
  exact ⟨rfl, _, rfl, J.apt (α := α) (μ := μ) hJ.vo0 (by simp [rf_w_at]) (by decide)⟩
theorem c_hear_6_2 {g : Nat} {x : Int32} (hR : Rl 1 α (μ 95)) (hg : g < 16) (hK : μ 95 (190 + 8 * g) = nI 6) : rf_At (rf_T Ln xs) MX9_hear 25 0 ([some (.ref 83), some (.ref 10), some (.int (nI g)), some (.int (nI 2)), some (.int x)], [], 108, (α, μ)) (some (.int (x - (μ 95 (194 + 8 * g))))) 108 (apt 84 83 0 (rf_w (rf_w (rf_w (rf_w α 83 2 (nI 6)) 83 3 (nI g)) 83 4 (μ 95 (194 + 8 * g))) 83 0 (nI 0)) 0 [12], μ) := by
  refine rf_pa ?_
  refine ok_step (ps := [rf_in (nI g) 16, rf_in (nI g) 16]) (L' := [some (.ref 83), some (.ref 10), some (.int (nI g)), some (.int (nI 2)), some (.int x)]) (st' := [.int (nI 0), .int x, .int (nI 2), .int ((rf_w (rf_w (rf_w (rf_w α 83 2 (α 11 ((nI g).toNatClampNeg))) 83 3 (nI g)) 83 4 ((rf_w (rf_w α 83 2 (α 11 ((nI g).toNatClampNeg))) 83 3 (nI g)) 15 ((nI g).toNatClampNeg))) 83 0 (nI 0)) 83 2), .ref 83]) (σ' := (rf_w (rf_w (rf_w (rf_w α 83 2 (α 11 ((nI g).toNatClampNeg))) 83 3 (nI g)) 83 4 ((rf_w (rf_w α 83 2 (α 11 ((nI g).toNatClampNeg))) 83 3 (nI g)) 15 ((nI g).toNatClampNeg))) 83 0 (nI 0), μ)) (pc' := 39) kX9_hear_0 rfl rfl (rf_a1 (rf_in_n (a := g) rfl (by omega)) (rf_a1 (rf_in_n (a := g) rfl (by omega)) rf_a0)) ?_
  try rw [(show (nI g).toNatClampNeg = g from rf_cl_n rfl (by omega))]
  try rw [(show α 11 g = μ 95 (190 + 8 * g) from rl_10 hR (i := g) (by omega) (by omega))]
  try rw [hK]
  try rw [(show (nI g).toNatClampNeg = g from rf_cl_n rfl (by omega))]
  try rw [(show (rf_w (rf_w α 83 2 (nI 6)) 83 3 (nI g)) 15 g = (rf_w α 83 2 (nI 6)) 15 g from by rw [rf_w_at, if_neg (fun h => absurd h.1 (by decide))])]
  try rw [(show (rf_w α 83 2 (nI 6)) 15 g = α 15 g from by rw [rf_w_at, if_neg (fun h => absurd h.1 (by decide))])]
  try rw [(show α 15 g = μ 95 (194 + 8 * g) from rl_14 hR (i := g) (by omega) (by omega))]
  try rw [(show (rf_w (rf_w (rf_w (rf_w α 83 2 (nI 6)) 83 3 (nI g)) 83 4 (μ 95 (194 + 8 * g))) 83 0 (nI 0)) 83 2 = (rf_w (rf_w (rf_w α 83 2 (nI 6)) 83 3 (nI g)) 83 4 (μ 95 (194 + 8 * g))) 83 2 from by rw [rf_w_at, if_neg (fun h => absurd h.2 (by omega))])]
  try rw [(show (rf_w (rf_w (rf_w α 83 2 (nI 6)) 83 3 (nI g)) 83 4 (μ 95 (194 + 8 * g))) 83 2 = (rf_w (rf_w α 83 2 (nI 6)) 83 3 (nI g)) 83 2 from by rw [rf_w_at, if_neg (fun h => absurd h.2 (by omega))])]
  try rw [(show (rf_w (rf_w α 83 2 (nI 6)) 83 3 (nI g)) 83 2 = (rf_w α 83 2 (nI 6)) 83 2 from by rw [rf_w_at, if_neg (fun h => absurd h.2 (by omega))])]
  try rw [(show (rf_w α 83 2 (nI 6)) 83 2 = (nI 6) from by rw [rf_w_at, if_pos ⟨rfl, rfl⟩])]
  refine ok_V (As := [.int (nI 6), .int (nI 2), .int x, .int (nI 0)]) (b := 83) (st := []) mkX9_speak qX9_hear_39 rfl (rc_83) rfl rfl rfl rfl (Nat.le_of_ble_eq_true rfl) (cv6_2_6 (α := rf_w (rf_w (rf_w (rf_w α 83 2 (nI 6)) 83 3 (nI g)) 83 4 (μ 95 (194 + 8 * g))) 83 0 (nI 0)) (nu := nI g) (mn := (μ 95 (194 + 8 * g))) (b := 0) (dep := 0) (by simp [rf_w_at]) (by simp [rf_w_at]) (by simp [rf_w_at]) (by simp [rf_w_at]) (by decide) (by decide)) ?_
  refine ok_reti eX9_hear_42 rfl ?_
  exact ⟨rfl, rfl⟩
theorem op_voice_6_2 {g : Nat} {x : Int32} (hJ : J α μ) (hg : g < cn (μ 95) 4) (hK : μ 95 (190 + 8 * g) = nI 6) : Op (rf_T Ln xs) MX11_voice MX12_voice [some (.ref 0), some (.int (nI g)), some (.int (nI 2)), some (.int x)] [some (.ref 94), some (.int (nI g)), some (.int (nI 2)), some (.int x), none] α μ := by
  have hR := hJ.1.1.1
  have hI := hJ.2
  have b0 := hI.le0
  have b1 := hI.le1
  have b2 := hI.le2
  have b3 := hI.le3
  have b4 := hI.le4
  have b5 := hI.le5
  have b6 := hI.le6
  have b8 := hI.le8
  have b9 := hI.le9
  have b11 := hI.le11
  have b12 := hI.le12
  refine ok_step (ps := []) (L' := [some (.ref 0), some (.int (nI g)), some (.int (nI 2)), some (.int x)]) (st' := [.int (nI g), .ref 0]) (σ' := (α, μ)) (pc' := 2) kX11_voice_0 rfl rfl rf_a0 ?_
  refine ok_V (As := [.int (nI g)]) (b := 0) (st := []) mkX11_isGroup qX11_voice_2 rfl (rc_0) rfl rfl rfl rfl (Nat.le_of_ble_eq_true rfl) (c_isGroup hR) ?_
  refine ok_if_eq bX11_voice_5 (fun h5 => absurd h5 ((bI_n0.mpr (wi_in hI.at4 hg (by omega))))) (fun _ => ?_)
  refine ok_step (ps := []) (L' := [some (.ref 0), some (.int (nI g)), some (.int (nI 2)), some (.int x)]) (st' := [.int (nI 3), .int (nI 0), .int (nI 2)]) (σ' := (α, μ)) (pc' := 11) kX11_voice_8 rfl rfl rf_a0 ?_
  refine ok_S (As := [.int (nI 2), .int (nI 0), .int (nI 3)]) (st := []) mkX11_within qX11_voice_11 rfl rfl rfl rfl rfl (Nat.le_of_ble_eq_true rfl) (c_within) ?_
  rw [show bI (wi (nI 2) (nI 0) (nI 3)) = nI 1 from rfl]
  refine ok_if_ne bX11_voice_14 (fun _ => ?_) (fun h14 => absurd h14 ((by decide)))
  refine ok_step (ps := []) (L' := [some (.ref 0), some (.int (nI g)), some (.int (nI 2)), some (.int x)]) (st' := [.int x, .int (nI 2), .int (nI g), .ref 10, .ref 83]) (σ' := (α, μ)) (pc' := 38) kX11_voice_24 rfl rfl rf_a0 ?_
  refine ok_V (As := [.ref 10, .int (nI g), .int (nI 2), .int x]) (b := 83) (st := []) mkX9_hear qX11_voice_38 rfl (rc_83) rfl rfl rfl rfl (Nat.le_of_ble_eq_true rfl) (c_hear_6_2 hR (by omega) hK) ?_
  refine ok_reti eX11_voice_41 rfl ?_
  refine ⟨rfl, _, rfl, ?_⟩
  refine ok_step (ps := []) (L' := [some (.ref 94), some (.int (nI g)), some (.int (nI 2)), some (.int x), none]) (st' := [.int (nI g), .ref 94]) (σ' := (apt 84 83 0 (rf_w (rf_w (rf_w (rf_w α 83 2 (nI 6)) 83 3 (nI g)) 83 4 (μ 95 (194 + 8 * g))) 83 0 (nI 0)) 0 [12], μ)) (pc' := 2) kX12_voice_0 rfl rfl rf_a0 ?_
  refine ok_V (As := [.int (nI g)]) (b := 94) (st := []) mkX12_isGroup qX12_voice_2 rfl (rc_94) rfl rfl rfl rfl (Nat.le_of_ble_eq_true rfl) (m_isGroup) ?_
  refine ok_if_eq bX12_voice_5 (fun g5 => absurd g5 ((bI_n0.mpr (wi_in hI.at4 hg (by omega))))) (fun _ => ?_)
  refine ok_step (ps := []) (L' := [some (.ref 94), some (.int (nI g)), some (.int (nI 2)), some (.int x), none]) (st' := [.long (lN 3), .long (lN 0), .long ((nI 2).toInt64)]) (σ' := (apt 84 83 0 (rf_w (rf_w (rf_w (rf_w α 83 2 (nI 6)) 83 3 (nI g)) 83 4 (μ 95 (194 + 8 * g))) 83 0 (nI 0)) 0 [12], μ)) (pc' := 14) kX12_voice_8 rfl rfl rf_a0 ?_
  refine ok_S (As := [.long ((nI 2).toInt64), .long (lN 0), .long (lN 3)]) (st := []) mkX12_in qX12_voice_14 rfl rfl rfl rfl rfl (Nat.le_of_ble_eq_true rfl) (m_in) ?_
  rw [show wl ((nI 2).toInt64) (lN 0) (lN 3) = wi (nI 2) (nI 0) (nI 3) from wl_of rfl (nI_l (by decide)).symm (nI_l (by decide)).symm, show bI (wi (nI 2) (nI 0) (nI 3)) = nI 1 from rfl]
  refine ok_if_ne bX12_voice_17 (fun _ => ?_) (fun g17 => absurd g17 ((by decide)))
  refine ok_step (ps := []) (L' := [some (.ref 94), some (.int (nI g)), some (.int (nI 2)), some (.int x), none]) (st' := [.ref 94]) (σ' := (apt 84 83 0 (rf_w (rf_w (rf_w (rf_w α 83 2 (nI 6)) 83 3 (nI g)) 83 4 (μ 95 (194 + 8 * g))) 83 0 (nI 0)) 0 [12], rf_w (rf_w μ 94 18 (nI 0)) 94 19 (nI g))) (pc' := 37) kX12_voice_26 rfl rfl rf_a0 ?_
  refine ok_V (As := []) (b := 94) (st := []) mkX12_own qX12_voice_37 rfl (rc_94) rfl rfl rfl rfl (Nat.le_of_ble_eq_true rfl) (m_own (K := 6) (g := g) (by omega) (by rw [rf_w_row (by decide), rf_w_row (by decide)]; exact hK) (by simp [rf_w_at])) ?_
  refine ok_step (ps := []) (L' := [some (.ref 94), some (.int (nI g)), some (.int (nI 2)), some (.int x), some (.int (nI 6))]) (st' := [.int (nI 2)]) (σ' := (apt 84 83 0 (rf_w (rf_w (rf_w (rf_w α 83 2 (nI 6)) 83 3 (nI g)) 83 4 (μ 95 (194 + 8 * g))) 83 0 (nI 0)) 0 [12], rf_w (rf_w μ 94 18 (nI 0)) 94 19 (nI g))) (pc' := 43) kX12_voice_40 rfl rfl rf_a0 ?_
  refine ok_if_ne bX12_voice_43 (fun _ => ?_) (fun g43 => absurd g43 ((by decide)))
  refine ok_step (ps := []) (L' := [some (.ref 94), some (.int (nI g)), some (.int (nI 2)), some (.int x), some (.int (nI 6))]) (st' := [.int (nI 1), .int (nI 2)]) (σ' := (apt 84 83 0 (rf_w (rf_w (rf_w (rf_w α 83 2 (nI 6)) 83 3 (nI g)) 83 4 (μ 95 (194 + 8 * g))) 83 0 (nI 0)) 0 [12], rf_w (rf_w μ 94 18 (nI 0)) 94 19 (nI g))) (pc' := 58) kX12_voice_56 rfl rfl rf_a0 ?_
  refine ok_icmp_ne bX12_voice_58 (fun _ => ?_) (fun g58 => absurd g58 ((by decide)))
  refine ok_step (ps := []) (L' := [some (.ref 94), some (.int (nI g)), some (.int (nI 2)), some (.int x), some (.int (nI 6))]) (st' := [.int (nI 2), .int (nI 2)]) (σ' := (apt 84 83 0 (rf_w (rf_w (rf_w (rf_w α 83 2 (nI 6)) 83 3 (nI g)) 83 4 (μ 95 (194 + 8 * g))) 83 0 (nI 0)) 0 [12], rf_w (rf_w μ 94 18 (nI 0)) 94 19 (nI g))) (pc' := 73) kX12_voice_71 rfl rfl rf_a0 ?_
  refine ok_icmp_ne bX12_voice_73 (fun g73 => absurd ((by decide)) g73) (fun _ => ?_)
  refine ok_step (ps := []) (L' := [some (.ref 94), some (.int (nI g)), some (.int (nI 2)), some (.int x), some (.int (nI 6))]) (st' := [.int x, .int (nI 6), .ref 94]) (σ' := (apt 84 83 0 (rf_w (rf_w (rf_w (rf_w α 83 2 (nI 6)) 83 3 (nI g)) 83 4 (μ 95 (194 + 8 * g))) 83 0 (nI 0)) 0 [12], rf_w (rf_w μ 94 18 (nI 0)) 94 19 (nI g))) (pc' := 80) kX12_voice_76 rfl rfl rf_a0 ?_
  refine ok_V (As := [.int (nI 6), .int x]) (b := 94) (st := []) mkX12_tellsOf qX12_voice_80 rfl (rc_94) rfl rfl rfl rfl (Nat.le_of_ble_eq_true rfl) (mv6_2_6 (ν := rf_w (rf_w μ 94 18 (nI 0)) 94 19 (nI g)) (mn := (μ 95 (194 + 8 * g))) (b := 0) (g := g) (by rw [rf_w_row (by decide), rf_w_row (by decide)]; exact hK) (by rw [rf_w_row (by decide), rf_w_row (by decide)]) (by simp [rf_w_at]) (by omega) (by simp [rf_w_at]) (by decide)) ?_
  refine ok_goto bX12_voice_83 ?_
  refine ok_reti eX12_voice_93 rfl ?_
  exact ⟨rfl, _, rfl, J.apt (α := α) (μ := μ) hJ.vo0 (by simp [rf_w_at]) (by decide)⟩
theorem c_hear_6_3 {g : Nat} {x : Int32} (hR : Rl 1 α (μ 95)) (hg : g < 16) (hK : μ 95 (190 + 8 * g) = nI 6) : rf_At (rf_T Ln xs) MX9_hear 25 0 ([some (.ref 83), some (.ref 10), some (.int (nI g)), some (.int (nI 3)), some (.int x)], [], 108, (α, μ)) (some (.int (((nI 2) + (nI g)) - ((((x + (nI g)) * nI 2) ^^^ (x - (μ 95 (194 + 8 * g)))) + nI 1)))) 108 (apt 84 83 0 (rf_w (rf_w (rf_w (rf_w α 83 2 (nI 6)) 83 3 (nI g)) 83 4 (μ 95 (194 + 8 * g))) 83 0 (nI 0)) 0 [70, 10, 20, 13, 11, 10, 12], μ) := by
  refine rf_pa ?_
  refine ok_step (ps := [rf_in (nI g) 16, rf_in (nI g) 16]) (L' := [some (.ref 83), some (.ref 10), some (.int (nI g)), some (.int (nI 3)), some (.int x)]) (st' := [.int (nI 0), .int x, .int (nI 3), .int ((rf_w (rf_w (rf_w (rf_w α 83 2 (α 11 ((nI g).toNatClampNeg))) 83 3 (nI g)) 83 4 ((rf_w (rf_w α 83 2 (α 11 ((nI g).toNatClampNeg))) 83 3 (nI g)) 15 ((nI g).toNatClampNeg))) 83 0 (nI 0)) 83 2), .ref 83]) (σ' := (rf_w (rf_w (rf_w (rf_w α 83 2 (α 11 ((nI g).toNatClampNeg))) 83 3 (nI g)) 83 4 ((rf_w (rf_w α 83 2 (α 11 ((nI g).toNatClampNeg))) 83 3 (nI g)) 15 ((nI g).toNatClampNeg))) 83 0 (nI 0), μ)) (pc' := 39) kX9_hear_0 rfl rfl (rf_a1 (rf_in_n (a := g) rfl (by omega)) (rf_a1 (rf_in_n (a := g) rfl (by omega)) rf_a0)) ?_
  try rw [(show (nI g).toNatClampNeg = g from rf_cl_n rfl (by omega))]
  try rw [(show α 11 g = μ 95 (190 + 8 * g) from rl_10 hR (i := g) (by omega) (by omega))]
  try rw [hK]
  try rw [(show (nI g).toNatClampNeg = g from rf_cl_n rfl (by omega))]
  try rw [(show (rf_w (rf_w α 83 2 (nI 6)) 83 3 (nI g)) 15 g = (rf_w α 83 2 (nI 6)) 15 g from by rw [rf_w_at, if_neg (fun h => absurd h.1 (by decide))])]
  try rw [(show (rf_w α 83 2 (nI 6)) 15 g = α 15 g from by rw [rf_w_at, if_neg (fun h => absurd h.1 (by decide))])]
  try rw [(show α 15 g = μ 95 (194 + 8 * g) from rl_14 hR (i := g) (by omega) (by omega))]
  try rw [(show (rf_w (rf_w (rf_w (rf_w α 83 2 (nI 6)) 83 3 (nI g)) 83 4 (μ 95 (194 + 8 * g))) 83 0 (nI 0)) 83 2 = (rf_w (rf_w (rf_w α 83 2 (nI 6)) 83 3 (nI g)) 83 4 (μ 95 (194 + 8 * g))) 83 2 from by rw [rf_w_at, if_neg (fun h => absurd h.2 (by omega))])]
  try rw [(show (rf_w (rf_w (rf_w α 83 2 (nI 6)) 83 3 (nI g)) 83 4 (μ 95 (194 + 8 * g))) 83 2 = (rf_w (rf_w α 83 2 (nI 6)) 83 3 (nI g)) 83 2 from by rw [rf_w_at, if_neg (fun h => absurd h.2 (by omega))])]
  try rw [(show (rf_w (rf_w α 83 2 (nI 6)) 83 3 (nI g)) 83 2 = (rf_w α 83 2 (nI 6)) 83 2 from by rw [rf_w_at, if_neg (fun h => absurd h.2 (by omega))])]
  try rw [(show (rf_w α 83 2 (nI 6)) 83 2 = (nI 6) from by rw [rf_w_at, if_pos ⟨rfl, rfl⟩])]
  refine ok_V (As := [.int (nI 6), .int (nI 3), .int x, .int (nI 0)]) (b := 83) (st := []) mkX9_speak qX9_hear_39 rfl (rc_83) rfl rfl rfl rfl (Nat.le_of_ble_eq_true rfl) (cv6_3_6 (α := rf_w (rf_w (rf_w (rf_w α 83 2 (nI 6)) 83 3 (nI g)) 83 4 (μ 95 (194 + 8 * g))) 83 0 (nI 0)) (nu := nI g) (mn := (μ 95 (194 + 8 * g))) (b := 0) (dep := 0) (by simp [rf_w_at]) (by simp [rf_w_at]) (by simp [rf_w_at]) (by simp [rf_w_at]) (by decide) (by decide)) ?_
  refine ok_reti eX9_hear_42 rfl ?_
  exact ⟨rfl, rfl⟩
theorem op_voice_6_3 {g : Nat} {x : Int32} (hJ : J α μ) (hg : g < cn (μ 95) 4) (hK : μ 95 (190 + 8 * g) = nI 6) : Op (rf_T Ln xs) MX11_voice MX12_voice [some (.ref 0), some (.int (nI g)), some (.int (nI 3)), some (.int x)] [some (.ref 94), some (.int (nI g)), some (.int (nI 3)), some (.int x), none] α μ := by
  have hR := hJ.1.1.1
  have hI := hJ.2
  have b0 := hI.le0
  have b1 := hI.le1
  have b2 := hI.le2
  have b3 := hI.le3
  have b4 := hI.le4
  have b5 := hI.le5
  have b6 := hI.le6
  have b8 := hI.le8
  have b9 := hI.le9
  have b11 := hI.le11
  have b12 := hI.le12
  refine ok_step (ps := []) (L' := [some (.ref 0), some (.int (nI g)), some (.int (nI 3)), some (.int x)]) (st' := [.int (nI g), .ref 0]) (σ' := (α, μ)) (pc' := 2) kX11_voice_0 rfl rfl rf_a0 ?_
  refine ok_V (As := [.int (nI g)]) (b := 0) (st := []) mkX11_isGroup qX11_voice_2 rfl (rc_0) rfl rfl rfl rfl (Nat.le_of_ble_eq_true rfl) (c_isGroup hR) ?_
  refine ok_if_eq bX11_voice_5 (fun h5 => absurd h5 ((bI_n0.mpr (wi_in hI.at4 hg (by omega))))) (fun _ => ?_)
  refine ok_step (ps := []) (L' := [some (.ref 0), some (.int (nI g)), some (.int (nI 3)), some (.int x)]) (st' := [.int (nI 3), .int (nI 0), .int (nI 3)]) (σ' := (α, μ)) (pc' := 11) kX11_voice_8 rfl rfl rf_a0 ?_
  refine ok_S (As := [.int (nI 3), .int (nI 0), .int (nI 3)]) (st := []) mkX11_within qX11_voice_11 rfl rfl rfl rfl rfl (Nat.le_of_ble_eq_true rfl) (c_within) ?_
  rw [show bI (wi (nI 3) (nI 0) (nI 3)) = nI 1 from rfl]
  refine ok_if_ne bX11_voice_14 (fun _ => ?_) (fun h14 => absurd h14 ((by decide)))
  refine ok_step (ps := []) (L' := [some (.ref 0), some (.int (nI g)), some (.int (nI 3)), some (.int x)]) (st' := [.int x, .int (nI 3), .int (nI g), .ref 10, .ref 83]) (σ' := (α, μ)) (pc' := 38) kX11_voice_24 rfl rfl rf_a0 ?_
  refine ok_V (As := [.ref 10, .int (nI g), .int (nI 3), .int x]) (b := 83) (st := []) mkX9_hear qX11_voice_38 rfl (rc_83) rfl rfl rfl rfl (Nat.le_of_ble_eq_true rfl) (c_hear_6_3 hR (by omega) hK) ?_
  refine ok_reti eX11_voice_41 rfl ?_
  refine ⟨rfl, _, rfl, ?_⟩
  refine ok_step (ps := []) (L' := [some (.ref 94), some (.int (nI g)), some (.int (nI 3)), some (.int x), none]) (st' := [.int (nI g), .ref 94]) (σ' := (apt 84 83 0 (rf_w (rf_w (rf_w (rf_w α 83 2 (nI 6)) 83 3 (nI g)) 83 4 (μ 95 (194 + 8 * g))) 83 0 (nI 0)) 0 [70, 10, 20, 13, 11, 10, 12], μ)) (pc' := 2) kX12_voice_0 rfl rfl rf_a0 ?_
  refine ok_V (As := [.int (nI g)]) (b := 94) (st := []) mkX12_isGroup qX12_voice_2 rfl (rc_94) rfl rfl rfl rfl (Nat.le_of_ble_eq_true rfl) (m_isGroup) ?_
  refine ok_if_eq bX12_voice_5 (fun g5 => absurd g5 ((bI_n0.mpr (wi_in hI.at4 hg (by omega))))) (fun _ => ?_)
  refine ok_step (ps := []) (L' := [some (.ref 94), some (.int (nI g)), some (.int (nI 3)), some (.int x), none]) (st' := [.long (lN 3), .long (lN 0), .long ((nI 3).toInt64)]) (σ' := (apt 84 83 0 (rf_w (rf_w (rf_w (rf_w α 83 2 (nI 6)) 83 3 (nI g)) 83 4 (μ 95 (194 + 8 * g))) 83 0 (nI 0)) 0 [70, 10, 20, 13, 11, 10, 12], μ)) (pc' := 14) kX12_voice_8 rfl rfl rf_a0 ?_
  refine ok_S (As := [.long ((nI 3).toInt64), .long (lN 0), .long (lN 3)]) (st := []) mkX12_in qX12_voice_14 rfl rfl rfl rfl rfl (Nat.le_of_ble_eq_true rfl) (m_in) ?_
  rw [show wl ((nI 3).toInt64) (lN 0) (lN 3) = wi (nI 3) (nI 0) (nI 3) from wl_of rfl (nI_l (by decide)).symm (nI_l (by decide)).symm, show bI (wi (nI 3) (nI 0) (nI 3)) = nI 1 from rfl]
  refine ok_if_ne bX12_voice_17 (fun _ => ?_) (fun g17 => absurd g17 ((by decide)))
  refine ok_step (ps := []) (L' := [some (.ref 94), some (.int (nI g)), some (.int (nI 3)), some (.int x), none]) (st' := [.ref 94]) (σ' := (apt 84 83 0 (rf_w (rf_w (rf_w (rf_w α 83 2 (nI 6)) 83 3 (nI g)) 83 4 (μ 95 (194 + 8 * g))) 83 0 (nI 0)) 0 [70, 10, 20, 13, 11, 10, 12], rf_w (rf_w μ 94 18 (nI 0)) 94 19 (nI g))) (pc' := 37) kX12_voice_26 rfl rfl rf_a0 ?_
  refine ok_V (As := []) (b := 94) (st := []) mkX12_own qX12_voice_37 rfl (rc_94) rfl rfl rfl rfl (Nat.le_of_ble_eq_true rfl) (m_own (K := 6) (g := g) (by omega) (by rw [rf_w_row (by decide), rf_w_row (by decide)]; exact hK) (by simp [rf_w_at])) ?_
  refine ok_step (ps := []) (L' := [some (.ref 94), some (.int (nI g)), some (.int (nI 3)), some (.int x), some (.int (nI 6))]) (st' := [.int (nI 3)]) (σ' := (apt 84 83 0 (rf_w (rf_w (rf_w (rf_w α 83 2 (nI 6)) 83 3 (nI g)) 83 4 (μ 95 (194 + 8 * g))) 83 0 (nI 0)) 0 [70, 10, 20, 13, 11, 10, 12], rf_w (rf_w μ 94 18 (nI 0)) 94 19 (nI g))) (pc' := 43) kX12_voice_40 rfl rfl rf_a0 ?_
  refine ok_if_ne bX12_voice_43 (fun _ => ?_) (fun g43 => absurd g43 ((by decide)))
  refine ok_step (ps := []) (L' := [some (.ref 94), some (.int (nI g)), some (.int (nI 3)), some (.int x), some (.int (nI 6))]) (st' := [.int (nI 1), .int (nI 3)]) (σ' := (apt 84 83 0 (rf_w (rf_w (rf_w (rf_w α 83 2 (nI 6)) 83 3 (nI g)) 83 4 (μ 95 (194 + 8 * g))) 83 0 (nI 0)) 0 [70, 10, 20, 13, 11, 10, 12], rf_w (rf_w μ 94 18 (nI 0)) 94 19 (nI g))) (pc' := 58) kX12_voice_56 rfl rfl rf_a0 ?_
  refine ok_icmp_ne bX12_voice_58 (fun _ => ?_) (fun g58 => absurd g58 ((by decide)))
  refine ok_step (ps := []) (L' := [some (.ref 94), some (.int (nI g)), some (.int (nI 3)), some (.int x), some (.int (nI 6))]) (st' := [.int (nI 2), .int (nI 3)]) (σ' := (apt 84 83 0 (rf_w (rf_w (rf_w (rf_w α 83 2 (nI 6)) 83 3 (nI g)) 83 4 (μ 95 (194 + 8 * g))) 83 0 (nI 0)) 0 [70, 10, 20, 13, 11, 10, 12], rf_w (rf_w μ 94 18 (nI 0)) 94 19 (nI g))) (pc' := 73) kX12_voice_71 rfl rfl rf_a0 ?_
  refine ok_icmp_ne bX12_voice_73 (fun _ => ?_) (fun g73 => absurd g73 ((by decide)))
  refine ok_step (ps := []) (L' := [some (.ref 94), some (.int (nI g)), some (.int (nI 3)), some (.int x), some (.int (nI 6))]) (st' := [.int x, .int (nI 6), .ref 94]) (σ' := (apt 84 83 0 (rf_w (rf_w (rf_w (rf_w α 83 2 (nI 6)) 83 3 (nI g)) 83 4 (μ 95 (194 + 8 * g))) 83 0 (nI 0)) 0 [70, 10, 20, 13, 11, 10, 12], rf_w (rf_w μ 94 18 (nI 0)) 94 19 (nI g))) (pc' := 90) kX12_voice_86 rfl rfl rf_a0 ?_
  refine ok_V (As := [.int (nI 6), .int x]) (b := 94) (st := []) mkX12_paysOf qX12_voice_90 rfl (rc_94) rfl rfl rfl rfl (Nat.le_of_ble_eq_true rfl) (mv6_3_6 (ν := rf_w (rf_w μ 94 18 (nI 0)) 94 19 (nI g)) (mn := (μ 95 (194 + 8 * g))) (b := 0) (g := g) (by rw [rf_w_row (by decide), rf_w_row (by decide)]; exact hK) (by rw [rf_w_row (by decide), rf_w_row (by decide)]) (by simp [rf_w_at]) (by omega) (by simp [rf_w_at]) (by decide)) ?_
  refine ok_reti eX12_voice_93 rfl ?_
  exact ⟨rfl, _, rfl, J.apt (α := α) (μ := μ) hJ.vo0 (by simp [rf_w_at]) (by decide)⟩
theorem c_hear_7_0 {g : Nat} {x : Int32} (hR : Rl 1 α (μ 95)) (hg : g < 16) (hK : μ 95 (190 + 8 * g) = nI 7) : rf_At (rf_T Ln xs) MX9_hear 25 0 ([some (.ref 83), some (.ref 10), some (.int (nI g)), some (.int (nI 0)), some (.int x)], [], 108, (α, μ)) (some (.int (((x + (nI g)) ^^^ (μ 95 (194 + 8 * g))) + (nI g)))) 108 (apt 84 83 0 (rf_w (rf_w (rf_w (rf_w α 83 2 (nI 7)) 83 3 (nI g)) 83 4 (μ 95 (194 + 8 * g))) 83 0 (nI 0)) 0 [80, 60, 10], μ) := by
  refine rf_pa ?_
  refine ok_step (ps := [rf_in (nI g) 16, rf_in (nI g) 16]) (L' := [some (.ref 83), some (.ref 10), some (.int (nI g)), some (.int (nI 0)), some (.int x)]) (st' := [.int (nI 0), .int x, .int (nI 0), .int ((rf_w (rf_w (rf_w (rf_w α 83 2 (α 11 ((nI g).toNatClampNeg))) 83 3 (nI g)) 83 4 ((rf_w (rf_w α 83 2 (α 11 ((nI g).toNatClampNeg))) 83 3 (nI g)) 15 ((nI g).toNatClampNeg))) 83 0 (nI 0)) 83 2), .ref 83]) (σ' := (rf_w (rf_w (rf_w (rf_w α 83 2 (α 11 ((nI g).toNatClampNeg))) 83 3 (nI g)) 83 4 ((rf_w (rf_w α 83 2 (α 11 ((nI g).toNatClampNeg))) 83 3 (nI g)) 15 ((nI g).toNatClampNeg))) 83 0 (nI 0), μ)) (pc' := 39) kX9_hear_0 rfl rfl (rf_a1 (rf_in_n (a := g) rfl (by omega)) (rf_a1 (rf_in_n (a := g) rfl (by omega)) rf_a0)) ?_
  try rw [(show (nI g).toNatClampNeg = g from rf_cl_n rfl (by omega))]
  try rw [(show α 11 g = μ 95 (190 + 8 * g) from rl_10 hR (i := g) (by omega) (by omega))]
  try rw [hK]
  try rw [(show (nI g).toNatClampNeg = g from rf_cl_n rfl (by omega))]
  try rw [(show (rf_w (rf_w α 83 2 (nI 7)) 83 3 (nI g)) 15 g = (rf_w α 83 2 (nI 7)) 15 g from by rw [rf_w_at, if_neg (fun h => absurd h.1 (by decide))])]
  try rw [(show (rf_w α 83 2 (nI 7)) 15 g = α 15 g from by rw [rf_w_at, if_neg (fun h => absurd h.1 (by decide))])]
  try rw [(show α 15 g = μ 95 (194 + 8 * g) from rl_14 hR (i := g) (by omega) (by omega))]
  try rw [(show (rf_w (rf_w (rf_w (rf_w α 83 2 (nI 7)) 83 3 (nI g)) 83 4 (μ 95 (194 + 8 * g))) 83 0 (nI 0)) 83 2 = (rf_w (rf_w (rf_w α 83 2 (nI 7)) 83 3 (nI g)) 83 4 (μ 95 (194 + 8 * g))) 83 2 from by rw [rf_w_at, if_neg (fun h => absurd h.2 (by omega))])]
  try rw [(show (rf_w (rf_w (rf_w α 83 2 (nI 7)) 83 3 (nI g)) 83 4 (μ 95 (194 + 8 * g))) 83 2 = (rf_w (rf_w α 83 2 (nI 7)) 83 3 (nI g)) 83 2 from by rw [rf_w_at, if_neg (fun h => absurd h.2 (by omega))])]
  try rw [(show (rf_w (rf_w α 83 2 (nI 7)) 83 3 (nI g)) 83 2 = (rf_w α 83 2 (nI 7)) 83 2 from by rw [rf_w_at, if_neg (fun h => absurd h.2 (by omega))])]
  try rw [(show (rf_w α 83 2 (nI 7)) 83 2 = (nI 7) from by rw [rf_w_at, if_pos ⟨rfl, rfl⟩])]
  refine ok_V (As := [.int (nI 7), .int (nI 0), .int x, .int (nI 0)]) (b := 83) (st := []) mkX9_speak qX9_hear_39 rfl (rc_83) rfl rfl rfl rfl (Nat.le_of_ble_eq_true rfl) (cv7_0_7 (α := rf_w (rf_w (rf_w (rf_w α 83 2 (nI 7)) 83 3 (nI g)) 83 4 (μ 95 (194 + 8 * g))) 83 0 (nI 0)) (nu := nI g) (mn := (μ 95 (194 + 8 * g))) (b := 0) (dep := 0) (by simp [rf_w_at]) (by simp [rf_w_at]) (by simp [rf_w_at]) (by simp [rf_w_at]) (by decide) (by decide)) ?_
  refine ok_reti eX9_hear_42 rfl ?_
  exact ⟨rfl, rfl⟩
theorem op_voice_7_0 {g : Nat} {x : Int32} (hJ : J α μ) (hg : g < cn (μ 95) 4) (hK : μ 95 (190 + 8 * g) = nI 7) : Op (rf_T Ln xs) MX11_voice MX12_voice [some (.ref 0), some (.int (nI g)), some (.int (nI 0)), some (.int x)] [some (.ref 94), some (.int (nI g)), some (.int (nI 0)), some (.int x), none] α μ := by
  have hR := hJ.1.1.1
  have hI := hJ.2
  have b0 := hI.le0
  have b1 := hI.le1
  have b2 := hI.le2
  have b3 := hI.le3
  have b4 := hI.le4
  have b5 := hI.le5
  have b6 := hI.le6
  have b8 := hI.le8
  have b9 := hI.le9
  have b11 := hI.le11
  have b12 := hI.le12
  refine ok_step (ps := []) (L' := [some (.ref 0), some (.int (nI g)), some (.int (nI 0)), some (.int x)]) (st' := [.int (nI g), .ref 0]) (σ' := (α, μ)) (pc' := 2) kX11_voice_0 rfl rfl rf_a0 ?_
  refine ok_V (As := [.int (nI g)]) (b := 0) (st := []) mkX11_isGroup qX11_voice_2 rfl (rc_0) rfl rfl rfl rfl (Nat.le_of_ble_eq_true rfl) (c_isGroup hR) ?_
  refine ok_if_eq bX11_voice_5 (fun h5 => absurd h5 ((bI_n0.mpr (wi_in hI.at4 hg (by omega))))) (fun _ => ?_)
  refine ok_step (ps := []) (L' := [some (.ref 0), some (.int (nI g)), some (.int (nI 0)), some (.int x)]) (st' := [.int (nI 3), .int (nI 0), .int (nI 0)]) (σ' := (α, μ)) (pc' := 11) kX11_voice_8 rfl rfl rf_a0 ?_
  refine ok_S (As := [.int (nI 0), .int (nI 0), .int (nI 3)]) (st := []) mkX11_within qX11_voice_11 rfl rfl rfl rfl rfl (Nat.le_of_ble_eq_true rfl) (c_within) ?_
  rw [show bI (wi (nI 0) (nI 0) (nI 3)) = nI 1 from rfl]
  refine ok_if_ne bX11_voice_14 (fun _ => ?_) (fun h14 => absurd h14 ((by decide)))
  refine ok_step (ps := []) (L' := [some (.ref 0), some (.int (nI g)), some (.int (nI 0)), some (.int x)]) (st' := [.int x, .int (nI 0), .int (nI g), .ref 10, .ref 83]) (σ' := (α, μ)) (pc' := 38) kX11_voice_24 rfl rfl rf_a0 ?_
  refine ok_V (As := [.ref 10, .int (nI g), .int (nI 0), .int x]) (b := 83) (st := []) mkX9_hear qX11_voice_38 rfl (rc_83) rfl rfl rfl rfl (Nat.le_of_ble_eq_true rfl) (c_hear_7_0 hR (by omega) hK) ?_
  refine ok_reti eX11_voice_41 rfl ?_
  refine ⟨rfl, _, rfl, ?_⟩
  refine ok_step (ps := []) (L' := [some (.ref 94), some (.int (nI g)), some (.int (nI 0)), some (.int x), none]) (st' := [.int (nI g), .ref 94]) (σ' := (apt 84 83 0 (rf_w (rf_w (rf_w (rf_w α 83 2 (nI 7)) 83 3 (nI g)) 83 4 (μ 95 (194 + 8 * g))) 83 0 (nI 0)) 0 [80, 60, 10], μ)) (pc' := 2) kX12_voice_0 rfl rfl rf_a0 ?_
  refine ok_V (As := [.int (nI g)]) (b := 94) (st := []) mkX12_isGroup qX12_voice_2 rfl (rc_94) rfl rfl rfl rfl (Nat.le_of_ble_eq_true rfl) (m_isGroup) ?_
  refine ok_if_eq bX12_voice_5 (fun g5 => absurd g5 ((bI_n0.mpr (wi_in hI.at4 hg (by omega))))) (fun _ => ?_)
  refine ok_step (ps := []) (L' := [some (.ref 94), some (.int (nI g)), some (.int (nI 0)), some (.int x), none]) (st' := [.long (lN 3), .long (lN 0), .long ((nI 0).toInt64)]) (σ' := (apt 84 83 0 (rf_w (rf_w (rf_w (rf_w α 83 2 (nI 7)) 83 3 (nI g)) 83 4 (μ 95 (194 + 8 * g))) 83 0 (nI 0)) 0 [80, 60, 10], μ)) (pc' := 14) kX12_voice_8 rfl rfl rf_a0 ?_
  refine ok_S (As := [.long ((nI 0).toInt64), .long (lN 0), .long (lN 3)]) (st := []) mkX12_in qX12_voice_14 rfl rfl rfl rfl rfl (Nat.le_of_ble_eq_true rfl) (m_in) ?_
  rw [show wl ((nI 0).toInt64) (lN 0) (lN 3) = wi (nI 0) (nI 0) (nI 3) from wl_of rfl (nI_l (by decide)).symm (nI_l (by decide)).symm, show bI (wi (nI 0) (nI 0) (nI 3)) = nI 1 from rfl]
  refine ok_if_ne bX12_voice_17 (fun _ => ?_) (fun g17 => absurd g17 ((by decide)))
  refine ok_step (ps := []) (L' := [some (.ref 94), some (.int (nI g)), some (.int (nI 0)), some (.int x), none]) (st' := [.ref 94]) (σ' := (apt 84 83 0 (rf_w (rf_w (rf_w (rf_w α 83 2 (nI 7)) 83 3 (nI g)) 83 4 (μ 95 (194 + 8 * g))) 83 0 (nI 0)) 0 [80, 60, 10], rf_w (rf_w μ 94 18 (nI 0)) 94 19 (nI g))) (pc' := 37) kX12_voice_26 rfl rfl rf_a0 ?_
  refine ok_V (As := []) (b := 94) (st := []) mkX12_own qX12_voice_37 rfl (rc_94) rfl rfl rfl rfl (Nat.le_of_ble_eq_true rfl) (m_own (K := 7) (g := g) (by omega) (by rw [rf_w_row (by decide), rf_w_row (by decide)]; exact hK) (by simp [rf_w_at])) ?_
  refine ok_step (ps := []) (L' := [some (.ref 94), some (.int (nI g)), some (.int (nI 0)), some (.int x), some (.int (nI 7))]) (st' := [.int (nI 0)]) (σ' := (apt 84 83 0 (rf_w (rf_w (rf_w (rf_w α 83 2 (nI 7)) 83 3 (nI g)) 83 4 (μ 95 (194 + 8 * g))) 83 0 (nI 0)) 0 [80, 60, 10], rf_w (rf_w μ 94 18 (nI 0)) 94 19 (nI g))) (pc' := 43) kX12_voice_40 rfl rfl rf_a0 ?_
  refine ok_if_ne bX12_voice_43 (fun g43 => absurd ((by decide)) g43) (fun _ => ?_)
  refine ok_step (ps := []) (L' := [some (.ref 94), some (.int (nI g)), some (.int (nI 0)), some (.int x), some (.int (nI 7))]) (st' := [.int x, .int (nI 7), .ref 94]) (σ' := (apt 84 83 0 (rf_w (rf_w (rf_w (rf_w α 83 2 (nI 7)) 83 3 (nI g)) 83 4 (μ 95 (194 + 8 * g))) 83 0 (nI 0)) 0 [80, 60, 10], rf_w (rf_w μ 94 18 (nI 0)) 94 19 (nI g))) (pc' := 50) kX12_voice_46 rfl rfl rf_a0 ?_
  refine ok_V (As := [.int (nI 7), .int x]) (b := 94) (st := []) mkX12_goes qX12_voice_50 rfl (rc_94) rfl rfl rfl rfl (Nat.le_of_ble_eq_true rfl) (mv7_0_7 (ν := rf_w (rf_w μ 94 18 (nI 0)) 94 19 (nI g)) (mn := (μ 95 (194 + 8 * g))) (b := 0) (g := g) (by rw [rf_w_row (by decide), rf_w_row (by decide)]; exact hK) (by rw [rf_w_row (by decide), rf_w_row (by decide)]) (by simp [rf_w_at]) (by omega) (by simp [rf_w_at]) (by decide)) ?_
  refine ok_goto bX12_voice_53 ?_
  refine ok_reti eX12_voice_93 rfl ?_
  exact ⟨rfl, _, rfl, J.apt (α := α) (μ := μ) hJ.vo0 (by simp [rf_w_at]) (by decide)⟩
theorem c_hear_7_1 {g : Nat} {x : Int32} (hR : Rl 1 α (μ 95)) (hg : g < 16) (hK : μ 95 (190 + 8 * g) = nI 7) : rf_At (rf_T Ln xs) MX9_hear 25 0 ([some (.ref 83), some (.ref 10), some (.int (nI g)), some (.int (nI 1)), some (.int x)], [], 108, (α, μ)) (some (.int ((((x + (nI g)) ^^^ (μ 95 (194 + 8 * g))) + (nI g)) * nI 2))) 108 (apt 84 83 0 (rf_w (rf_w (rf_w (rf_w α 83 2 (nI 7)) 83 3 (nI g)) 83 4 (μ 95 (194 + 8 * g))) 83 0 (nI 0)) 0 [11, 80, 60, 10], μ) := by
  refine rf_pa ?_
  refine ok_step (ps := [rf_in (nI g) 16, rf_in (nI g) 16]) (L' := [some (.ref 83), some (.ref 10), some (.int (nI g)), some (.int (nI 1)), some (.int x)]) (st' := [.int (nI 0), .int x, .int (nI 1), .int ((rf_w (rf_w (rf_w (rf_w α 83 2 (α 11 ((nI g).toNatClampNeg))) 83 3 (nI g)) 83 4 ((rf_w (rf_w α 83 2 (α 11 ((nI g).toNatClampNeg))) 83 3 (nI g)) 15 ((nI g).toNatClampNeg))) 83 0 (nI 0)) 83 2), .ref 83]) (σ' := (rf_w (rf_w (rf_w (rf_w α 83 2 (α 11 ((nI g).toNatClampNeg))) 83 3 (nI g)) 83 4 ((rf_w (rf_w α 83 2 (α 11 ((nI g).toNatClampNeg))) 83 3 (nI g)) 15 ((nI g).toNatClampNeg))) 83 0 (nI 0), μ)) (pc' := 39) kX9_hear_0 rfl rfl (rf_a1 (rf_in_n (a := g) rfl (by omega)) (rf_a1 (rf_in_n (a := g) rfl (by omega)) rf_a0)) ?_
  try rw [(show (nI g).toNatClampNeg = g from rf_cl_n rfl (by omega))]
  try rw [(show α 11 g = μ 95 (190 + 8 * g) from rl_10 hR (i := g) (by omega) (by omega))]
  try rw [hK]
  try rw [(show (nI g).toNatClampNeg = g from rf_cl_n rfl (by omega))]
  try rw [(show (rf_w (rf_w α 83 2 (nI 7)) 83 3 (nI g)) 15 g = (rf_w α 83 2 (nI 7)) 15 g from by rw [rf_w_at, if_neg (fun h => absurd h.1 (by decide))])]
  try rw [(show (rf_w α 83 2 (nI 7)) 15 g = α 15 g from by rw [rf_w_at, if_neg (fun h => absurd h.1 (by decide))])]
  try rw [(show α 15 g = μ 95 (194 + 8 * g) from rl_14 hR (i := g) (by omega) (by omega))]
  try rw [(show (rf_w (rf_w (rf_w (rf_w α 83 2 (nI 7)) 83 3 (nI g)) 83 4 (μ 95 (194 + 8 * g))) 83 0 (nI 0)) 83 2 = (rf_w (rf_w (rf_w α 83 2 (nI 7)) 83 3 (nI g)) 83 4 (μ 95 (194 + 8 * g))) 83 2 from by rw [rf_w_at, if_neg (fun h => absurd h.2 (by omega))])]
  try rw [(show (rf_w (rf_w (rf_w α 83 2 (nI 7)) 83 3 (nI g)) 83 4 (μ 95 (194 + 8 * g))) 83 2 = (rf_w (rf_w α 83 2 (nI 7)) 83 3 (nI g)) 83 2 from by rw [rf_w_at, if_neg (fun h => absurd h.2 (by omega))])]
  try rw [(show (rf_w (rf_w α 83 2 (nI 7)) 83 3 (nI g)) 83 2 = (rf_w α 83 2 (nI 7)) 83 2 from by rw [rf_w_at, if_neg (fun h => absurd h.2 (by omega))])]
  try rw [(show (rf_w α 83 2 (nI 7)) 83 2 = (nI 7) from by rw [rf_w_at, if_pos ⟨rfl, rfl⟩])]
  refine ok_V (As := [.int (nI 7), .int (nI 1), .int x, .int (nI 0)]) (b := 83) (st := []) mkX9_speak qX9_hear_39 rfl (rc_83) rfl rfl rfl rfl (Nat.le_of_ble_eq_true rfl) (cv7_1_7 (α := rf_w (rf_w (rf_w (rf_w α 83 2 (nI 7)) 83 3 (nI g)) 83 4 (μ 95 (194 + 8 * g))) 83 0 (nI 0)) (nu := nI g) (mn := (μ 95 (194 + 8 * g))) (b := 0) (dep := 0) (by simp [rf_w_at]) (by simp [rf_w_at]) (by simp [rf_w_at]) (by simp [rf_w_at]) (by decide) (by decide)) ?_
  refine ok_reti eX9_hear_42 rfl ?_
  exact ⟨rfl, rfl⟩
theorem op_voice_7_1 {g : Nat} {x : Int32} (hJ : J α μ) (hg : g < cn (μ 95) 4) (hK : μ 95 (190 + 8 * g) = nI 7) : Op (rf_T Ln xs) MX11_voice MX12_voice [some (.ref 0), some (.int (nI g)), some (.int (nI 1)), some (.int x)] [some (.ref 94), some (.int (nI g)), some (.int (nI 1)), some (.int x), none] α μ := by
  have hR := hJ.1.1.1
  have hI := hJ.2
  have b0 := hI.le0
  have b1 := hI.le1
  have b2 := hI.le2
  have b3 := hI.le3
  have b4 := hI.le4
  have b5 := hI.le5
  have b6 := hI.le6
  have b8 := hI.le8
  have b9 := hI.le9
  have b11 := hI.le11
  have b12 := hI.le12
  refine ok_step (ps := []) (L' := [some (.ref 0), some (.int (nI g)), some (.int (nI 1)), some (.int x)]) (st' := [.int (nI g), .ref 0]) (σ' := (α, μ)) (pc' := 2) kX11_voice_0 rfl rfl rf_a0 ?_
  refine ok_V (As := [.int (nI g)]) (b := 0) (st := []) mkX11_isGroup qX11_voice_2 rfl (rc_0) rfl rfl rfl rfl (Nat.le_of_ble_eq_true rfl) (c_isGroup hR) ?_
  refine ok_if_eq bX11_voice_5 (fun h5 => absurd h5 ((bI_n0.mpr (wi_in hI.at4 hg (by omega))))) (fun _ => ?_)
  refine ok_step (ps := []) (L' := [some (.ref 0), some (.int (nI g)), some (.int (nI 1)), some (.int x)]) (st' := [.int (nI 3), .int (nI 0), .int (nI 1)]) (σ' := (α, μ)) (pc' := 11) kX11_voice_8 rfl rfl rf_a0 ?_
  refine ok_S (As := [.int (nI 1), .int (nI 0), .int (nI 3)]) (st := []) mkX11_within qX11_voice_11 rfl rfl rfl rfl rfl (Nat.le_of_ble_eq_true rfl) (c_within) ?_
  rw [show bI (wi (nI 1) (nI 0) (nI 3)) = nI 1 from rfl]
  refine ok_if_ne bX11_voice_14 (fun _ => ?_) (fun h14 => absurd h14 ((by decide)))
  refine ok_step (ps := []) (L' := [some (.ref 0), some (.int (nI g)), some (.int (nI 1)), some (.int x)]) (st' := [.int x, .int (nI 1), .int (nI g), .ref 10, .ref 83]) (σ' := (α, μ)) (pc' := 38) kX11_voice_24 rfl rfl rf_a0 ?_
  refine ok_V (As := [.ref 10, .int (nI g), .int (nI 1), .int x]) (b := 83) (st := []) mkX9_hear qX11_voice_38 rfl (rc_83) rfl rfl rfl rfl (Nat.le_of_ble_eq_true rfl) (c_hear_7_1 hR (by omega) hK) ?_
  refine ok_reti eX11_voice_41 rfl ?_
  refine ⟨rfl, _, rfl, ?_⟩
  refine ok_step (ps := []) (L' := [some (.ref 94), some (.int (nI g)), some (.int (nI 1)), some (.int x), none]) (st' := [.int (nI g), .ref 94]) (σ' := (apt 84 83 0 (rf_w (rf_w (rf_w (rf_w α 83 2 (nI 7)) 83 3 (nI g)) 83 4 (μ 95 (194 + 8 * g))) 83 0 (nI 0)) 0 [11, 80, 60, 10], μ)) (pc' := 2) kX12_voice_0 rfl rfl rf_a0 ?_
  refine ok_V (As := [.int (nI g)]) (b := 94) (st := []) mkX12_isGroup qX12_voice_2 rfl (rc_94) rfl rfl rfl rfl (Nat.le_of_ble_eq_true rfl) (m_isGroup) ?_
  refine ok_if_eq bX12_voice_5 (fun g5 => absurd g5 ((bI_n0.mpr (wi_in hI.at4 hg (by omega))))) (fun _ => ?_)
  refine ok_step (ps := []) (L' := [some (.ref 94), some (.int (nI g)), some (.int (nI 1)), some (.int x), none]) (st' := [.long (lN 3), .long (lN 0), .long ((nI 1).toInt64)]) (σ' := (apt 84 83 0 (rf_w (rf_w (rf_w (rf_w α 83 2 (nI 7)) 83 3 (nI g)) 83 4 (μ 95 (194 + 8 * g))) 83 0 (nI 0)) 0 [11, 80, 60, 10], μ)) (pc' := 14) kX12_voice_8 rfl rfl rf_a0 ?_
  refine ok_S (As := [.long ((nI 1).toInt64), .long (lN 0), .long (lN 3)]) (st := []) mkX12_in qX12_voice_14 rfl rfl rfl rfl rfl (Nat.le_of_ble_eq_true rfl) (m_in) ?_
  rw [show wl ((nI 1).toInt64) (lN 0) (lN 3) = wi (nI 1) (nI 0) (nI 3) from wl_of rfl (nI_l (by decide)).symm (nI_l (by decide)).symm, show bI (wi (nI 1) (nI 0) (nI 3)) = nI 1 from rfl]
  refine ok_if_ne bX12_voice_17 (fun _ => ?_) (fun g17 => absurd g17 ((by decide)))
  refine ok_step (ps := []) (L' := [some (.ref 94), some (.int (nI g)), some (.int (nI 1)), some (.int x), none]) (st' := [.ref 94]) (σ' := (apt 84 83 0 (rf_w (rf_w (rf_w (rf_w α 83 2 (nI 7)) 83 3 (nI g)) 83 4 (μ 95 (194 + 8 * g))) 83 0 (nI 0)) 0 [11, 80, 60, 10], rf_w (rf_w μ 94 18 (nI 0)) 94 19 (nI g))) (pc' := 37) kX12_voice_26 rfl rfl rf_a0 ?_
  refine ok_V (As := []) (b := 94) (st := []) mkX12_own qX12_voice_37 rfl (rc_94) rfl rfl rfl rfl (Nat.le_of_ble_eq_true rfl) (m_own (K := 7) (g := g) (by omega) (by rw [rf_w_row (by decide), rf_w_row (by decide)]; exact hK) (by simp [rf_w_at])) ?_
  refine ok_step (ps := []) (L' := [some (.ref 94), some (.int (nI g)), some (.int (nI 1)), some (.int x), some (.int (nI 7))]) (st' := [.int (nI 1)]) (σ' := (apt 84 83 0 (rf_w (rf_w (rf_w (rf_w α 83 2 (nI 7)) 83 3 (nI g)) 83 4 (μ 95 (194 + 8 * g))) 83 0 (nI 0)) 0 [11, 80, 60, 10], rf_w (rf_w μ 94 18 (nI 0)) 94 19 (nI g))) (pc' := 43) kX12_voice_40 rfl rfl rf_a0 ?_
  refine ok_if_ne bX12_voice_43 (fun _ => ?_) (fun g43 => absurd g43 ((by decide)))
  refine ok_step (ps := []) (L' := [some (.ref 94), some (.int (nI g)), some (.int (nI 1)), some (.int x), some (.int (nI 7))]) (st' := [.int (nI 1), .int (nI 1)]) (σ' := (apt 84 83 0 (rf_w (rf_w (rf_w (rf_w α 83 2 (nI 7)) 83 3 (nI g)) 83 4 (μ 95 (194 + 8 * g))) 83 0 (nI 0)) 0 [11, 80, 60, 10], rf_w (rf_w μ 94 18 (nI 0)) 94 19 (nI g))) (pc' := 58) kX12_voice_56 rfl rfl rf_a0 ?_
  refine ok_icmp_ne bX12_voice_58 (fun g58 => absurd ((by decide)) g58) (fun _ => ?_)
  refine ok_step (ps := []) (L' := [some (.ref 94), some (.int (nI g)), some (.int (nI 1)), some (.int x), some (.int (nI 7))]) (st' := [.int x, .int (nI 7), .ref 94]) (σ' := (apt 84 83 0 (rf_w (rf_w (rf_w (rf_w α 83 2 (nI 7)) 83 3 (nI g)) 83 4 (μ 95 (194 + 8 * g))) 83 0 (nI 0)) 0 [11, 80, 60, 10], rf_w (rf_w μ 94 18 (nI 0)) 94 19 (nI g))) (pc' := 65) kX12_voice_61 rfl rfl rf_a0 ?_
  refine ok_V (As := [.int (nI 7), .int x]) (b := 94) (st := []) mkX12_weighsOf qX12_voice_65 rfl (rc_94) rfl rfl rfl rfl (Nat.le_of_ble_eq_true rfl) (mv7_1_7 (ν := rf_w (rf_w μ 94 18 (nI 0)) 94 19 (nI g)) (mn := (μ 95 (194 + 8 * g))) (b := 0) (g := g) (by rw [rf_w_row (by decide), rf_w_row (by decide)]; exact hK) (by rw [rf_w_row (by decide), rf_w_row (by decide)]) (by simp [rf_w_at]) (by omega) (by simp [rf_w_at]) (by decide)) ?_
  refine ok_goto bX12_voice_68 ?_
  refine ok_reti eX12_voice_93 rfl ?_
  exact ⟨rfl, _, rfl, J.apt (α := α) (μ := μ) hJ.vo0 (by simp [rf_w_at]) (by decide)⟩
theorem c_hear_7_2 {g : Nat} {x : Int32} (hR : Rl 1 α (μ 95)) (hg : g < 16) (hK : μ 95 (190 + 8 * g) = nI 7) : rf_At (rf_T Ln xs) MX9_hear 25 0 ([some (.ref 83), some (.ref 10), some (.int (nI g)), some (.int (nI 2)), some (.int x)], [], 108, (α, μ)) (some (.int ((x - (μ 95 (194 + 8 * g))) * nI 5))) 108 (apt 84 83 0 (rf_w (rf_w (rf_w (rf_w α 83 2 (nI 7)) 83 3 (nI g)) 83 4 (μ 95 (194 + 8 * g))) 83 0 (nI 0)) 0 [81, 12], μ) := by
  refine rf_pa ?_
  refine ok_step (ps := [rf_in (nI g) 16, rf_in (nI g) 16]) (L' := [some (.ref 83), some (.ref 10), some (.int (nI g)), some (.int (nI 2)), some (.int x)]) (st' := [.int (nI 0), .int x, .int (nI 2), .int ((rf_w (rf_w (rf_w (rf_w α 83 2 (α 11 ((nI g).toNatClampNeg))) 83 3 (nI g)) 83 4 ((rf_w (rf_w α 83 2 (α 11 ((nI g).toNatClampNeg))) 83 3 (nI g)) 15 ((nI g).toNatClampNeg))) 83 0 (nI 0)) 83 2), .ref 83]) (σ' := (rf_w (rf_w (rf_w (rf_w α 83 2 (α 11 ((nI g).toNatClampNeg))) 83 3 (nI g)) 83 4 ((rf_w (rf_w α 83 2 (α 11 ((nI g).toNatClampNeg))) 83 3 (nI g)) 15 ((nI g).toNatClampNeg))) 83 0 (nI 0), μ)) (pc' := 39) kX9_hear_0 rfl rfl (rf_a1 (rf_in_n (a := g) rfl (by omega)) (rf_a1 (rf_in_n (a := g) rfl (by omega)) rf_a0)) ?_
  try rw [(show (nI g).toNatClampNeg = g from rf_cl_n rfl (by omega))]
  try rw [(show α 11 g = μ 95 (190 + 8 * g) from rl_10 hR (i := g) (by omega) (by omega))]
  try rw [hK]
  try rw [(show (nI g).toNatClampNeg = g from rf_cl_n rfl (by omega))]
  try rw [(show (rf_w (rf_w α 83 2 (nI 7)) 83 3 (nI g)) 15 g = (rf_w α 83 2 (nI 7)) 15 g from by rw [rf_w_at, if_neg (fun h => absurd h.1 (by decide))])]
  try rw [(show (rf_w α 83 2 (nI 7)) 15 g = α 15 g from by rw [rf_w_at, if_neg (fun h => absurd h.1 (by decide))])]
  try rw [(show α 15 g = μ 95 (194 + 8 * g) from rl_14 hR (i := g) (by omega) (by omega))]
  try rw [(show (rf_w (rf_w (rf_w (rf_w α 83 2 (nI 7)) 83 3 (nI g)) 83 4 (μ 95 (194 + 8 * g))) 83 0 (nI 0)) 83 2 = (rf_w (rf_w (rf_w α 83 2 (nI 7)) 83 3 (nI g)) 83 4 (μ 95 (194 + 8 * g))) 83 2 from by rw [rf_w_at, if_neg (fun h => absurd h.2 (by omega))])]
  try rw [(show (rf_w (rf_w (rf_w α 83 2 (nI 7)) 83 3 (nI g)) 83 4 (μ 95 (194 + 8 * g))) 83 2 = (rf_w (rf_w α 83 2 (nI 7)) 83 3 (nI g)) 83 2 from by rw [rf_w_at, if_neg (fun h => absurd h.2 (by omega))])]
  try rw [(show (rf_w (rf_w α 83 2 (nI 7)) 83 3 (nI g)) 83 2 = (rf_w α 83 2 (nI 7)) 83 2 from by rw [rf_w_at, if_neg (fun h => absurd h.2 (by omega))])]
  try rw [(show (rf_w α 83 2 (nI 7)) 83 2 = (nI 7) from by rw [rf_w_at, if_pos ⟨rfl, rfl⟩])]
  refine ok_V (As := [.int (nI 7), .int (nI 2), .int x, .int (nI 0)]) (b := 83) (st := []) mkX9_speak qX9_hear_39 rfl (rc_83) rfl rfl rfl rfl (Nat.le_of_ble_eq_true rfl) (cv7_2_7 (α := rf_w (rf_w (rf_w (rf_w α 83 2 (nI 7)) 83 3 (nI g)) 83 4 (μ 95 (194 + 8 * g))) 83 0 (nI 0)) (nu := nI g) (mn := (μ 95 (194 + 8 * g))) (b := 0) (dep := 0) (by simp [rf_w_at]) (by simp [rf_w_at]) (by simp [rf_w_at]) (by simp [rf_w_at]) (by decide) (by decide)) ?_
  refine ok_reti eX9_hear_42 rfl ?_
  exact ⟨rfl, rfl⟩
theorem op_voice_7_2 {g : Nat} {x : Int32} (hJ : J α μ) (hg : g < cn (μ 95) 4) (hK : μ 95 (190 + 8 * g) = nI 7) : Op (rf_T Ln xs) MX11_voice MX12_voice [some (.ref 0), some (.int (nI g)), some (.int (nI 2)), some (.int x)] [some (.ref 94), some (.int (nI g)), some (.int (nI 2)), some (.int x), none] α μ := by
  have hR := hJ.1.1.1
  have hI := hJ.2
  have b0 := hI.le0
  have b1 := hI.le1
  have b2 := hI.le2
  have b3 := hI.le3
  have b4 := hI.le4
  have b5 := hI.le5
  have b6 := hI.le6
  have b8 := hI.le8
  have b9 := hI.le9
  have b11 := hI.le11
  have b12 := hI.le12
  refine ok_step (ps := []) (L' := [some (.ref 0), some (.int (nI g)), some (.int (nI 2)), some (.int x)]) (st' := [.int (nI g), .ref 0]) (σ' := (α, μ)) (pc' := 2) kX11_voice_0 rfl rfl rf_a0 ?_
  refine ok_V (As := [.int (nI g)]) (b := 0) (st := []) mkX11_isGroup qX11_voice_2 rfl (rc_0) rfl rfl rfl rfl (Nat.le_of_ble_eq_true rfl) (c_isGroup hR) ?_
  refine ok_if_eq bX11_voice_5 (fun h5 => absurd h5 ((bI_n0.mpr (wi_in hI.at4 hg (by omega))))) (fun _ => ?_)
  refine ok_step (ps := []) (L' := [some (.ref 0), some (.int (nI g)), some (.int (nI 2)), some (.int x)]) (st' := [.int (nI 3), .int (nI 0), .int (nI 2)]) (σ' := (α, μ)) (pc' := 11) kX11_voice_8 rfl rfl rf_a0 ?_
  refine ok_S (As := [.int (nI 2), .int (nI 0), .int (nI 3)]) (st := []) mkX11_within qX11_voice_11 rfl rfl rfl rfl rfl (Nat.le_of_ble_eq_true rfl) (c_within) ?_
  rw [show bI (wi (nI 2) (nI 0) (nI 3)) = nI 1 from rfl]
  refine ok_if_ne bX11_voice_14 (fun _ => ?_) (fun h14 => absurd h14 ((by decide)))
  refine ok_step (ps := []) (L' := [some (.ref 0), some (.int (nI g)), some (.int (nI 2)), some (.int x)]) (st' := [.int x, .int (nI 2), .int (nI g), .ref 10, .ref 83]) (σ' := (α, μ)) (pc' := 38) kX11_voice_24 rfl rfl rf_a0 ?_
  refine ok_V (As := [.ref 10, .int (nI g), .int (nI 2), .int x]) (b := 83) (st := []) mkX9_hear qX11_voice_38 rfl (rc_83) rfl rfl rfl rfl (Nat.le_of_ble_eq_true rfl) (c_hear_7_2 hR (by omega) hK) ?_
  refine ok_reti eX11_voice_41 rfl ?_
  refine ⟨rfl, _, rfl, ?_⟩
  refine ok_step (ps := []) (L' := [some (.ref 94), some (.int (nI g)), some (.int (nI 2)), some (.int x), none]) (st' := [.int (nI g), .ref 94]) (σ' := (apt 84 83 0 (rf_w (rf_w (rf_w (rf_w α 83 2 (nI 7)) 83 3 (nI g)) 83 4 (μ 95 (194 + 8 * g))) 83 0 (nI 0)) 0 [81, 12], μ)) (pc' := 2) kX12_voice_0 rfl rfl rf_a0 ?_
  refine ok_V (As := [.int (nI g)]) (b := 94) (st := []) mkX12_isGroup qX12_voice_2 rfl (rc_94) rfl rfl rfl rfl (Nat.le_of_ble_eq_true rfl) (m_isGroup) ?_
  refine ok_if_eq bX12_voice_5 (fun g5 => absurd g5 ((bI_n0.mpr (wi_in hI.at4 hg (by omega))))) (fun _ => ?_)
  refine ok_step (ps := []) (L' := [some (.ref 94), some (.int (nI g)), some (.int (nI 2)), some (.int x), none]) (st' := [.long (lN 3), .long (lN 0), .long ((nI 2).toInt64)]) (σ' := (apt 84 83 0 (rf_w (rf_w (rf_w (rf_w α 83 2 (nI 7)) 83 3 (nI g)) 83 4 (μ 95 (194 + 8 * g))) 83 0 (nI 0)) 0 [81, 12], μ)) (pc' := 14) kX12_voice_8 rfl rfl rf_a0 ?_
  refine ok_S (As := [.long ((nI 2).toInt64), .long (lN 0), .long (lN 3)]) (st := []) mkX12_in qX12_voice_14 rfl rfl rfl rfl rfl (Nat.le_of_ble_eq_true rfl) (m_in) ?_
  rw [show wl ((nI 2).toInt64) (lN 0) (lN 3) = wi (nI 2) (nI 0) (nI 3) from wl_of rfl (nI_l (by decide)).symm (nI_l (by decide)).symm, show bI (wi (nI 2) (nI 0) (nI 3)) = nI 1 from rfl]
  refine ok_if_ne bX12_voice_17 (fun _ => ?_) (fun g17 => absurd g17 ((by decide)))
  refine ok_step (ps := []) (L' := [some (.ref 94), some (.int (nI g)), some (.int (nI 2)), some (.int x), none]) (st' := [.ref 94]) (σ' := (apt 84 83 0 (rf_w (rf_w (rf_w (rf_w α 83 2 (nI 7)) 83 3 (nI g)) 83 4 (μ 95 (194 + 8 * g))) 83 0 (nI 0)) 0 [81, 12], rf_w (rf_w μ 94 18 (nI 0)) 94 19 (nI g))) (pc' := 37) kX12_voice_26 rfl rfl rf_a0 ?_
  refine ok_V (As := []) (b := 94) (st := []) mkX12_own qX12_voice_37 rfl (rc_94) rfl rfl rfl rfl (Nat.le_of_ble_eq_true rfl) (m_own (K := 7) (g := g) (by omega) (by rw [rf_w_row (by decide), rf_w_row (by decide)]; exact hK) (by simp [rf_w_at])) ?_
  refine ok_step (ps := []) (L' := [some (.ref 94), some (.int (nI g)), some (.int (nI 2)), some (.int x), some (.int (nI 7))]) (st' := [.int (nI 2)]) (σ' := (apt 84 83 0 (rf_w (rf_w (rf_w (rf_w α 83 2 (nI 7)) 83 3 (nI g)) 83 4 (μ 95 (194 + 8 * g))) 83 0 (nI 0)) 0 [81, 12], rf_w (rf_w μ 94 18 (nI 0)) 94 19 (nI g))) (pc' := 43) kX12_voice_40 rfl rfl rf_a0 ?_
  refine ok_if_ne bX12_voice_43 (fun _ => ?_) (fun g43 => absurd g43 ((by decide)))
  refine ok_step (ps := []) (L' := [some (.ref 94), some (.int (nI g)), some (.int (nI 2)), some (.int x), some (.int (nI 7))]) (st' := [.int (nI 1), .int (nI 2)]) (σ' := (apt 84 83 0 (rf_w (rf_w (rf_w (rf_w α 83 2 (nI 7)) 83 3 (nI g)) 83 4 (μ 95 (194 + 8 * g))) 83 0 (nI 0)) 0 [81, 12], rf_w (rf_w μ 94 18 (nI 0)) 94 19 (nI g))) (pc' := 58) kX12_voice_56 rfl rfl rf_a0 ?_
  refine ok_icmp_ne bX12_voice_58 (fun _ => ?_) (fun g58 => absurd g58 ((by decide)))
  refine ok_step (ps := []) (L' := [some (.ref 94), some (.int (nI g)), some (.int (nI 2)), some (.int x), some (.int (nI 7))]) (st' := [.int (nI 2), .int (nI 2)]) (σ' := (apt 84 83 0 (rf_w (rf_w (rf_w (rf_w α 83 2 (nI 7)) 83 3 (nI g)) 83 4 (μ 95 (194 + 8 * g))) 83 0 (nI 0)) 0 [81, 12], rf_w (rf_w μ 94 18 (nI 0)) 94 19 (nI g))) (pc' := 73) kX12_voice_71 rfl rfl rf_a0 ?_
  refine ok_icmp_ne bX12_voice_73 (fun g73 => absurd ((by decide)) g73) (fun _ => ?_)
  refine ok_step (ps := []) (L' := [some (.ref 94), some (.int (nI g)), some (.int (nI 2)), some (.int x), some (.int (nI 7))]) (st' := [.int x, .int (nI 7), .ref 94]) (σ' := (apt 84 83 0 (rf_w (rf_w (rf_w (rf_w α 83 2 (nI 7)) 83 3 (nI g)) 83 4 (μ 95 (194 + 8 * g))) 83 0 (nI 0)) 0 [81, 12], rf_w (rf_w μ 94 18 (nI 0)) 94 19 (nI g))) (pc' := 80) kX12_voice_76 rfl rfl rf_a0 ?_
  refine ok_V (As := [.int (nI 7), .int x]) (b := 94) (st := []) mkX12_tellsOf qX12_voice_80 rfl (rc_94) rfl rfl rfl rfl (Nat.le_of_ble_eq_true rfl) (mv7_2_7 (ν := rf_w (rf_w μ 94 18 (nI 0)) 94 19 (nI g)) (mn := (μ 95 (194 + 8 * g))) (b := 0) (g := g) (by rw [rf_w_row (by decide), rf_w_row (by decide)]; exact hK) (by rw [rf_w_row (by decide), rf_w_row (by decide)]) (by simp [rf_w_at]) (by omega) (by simp [rf_w_at]) (by decide)) ?_
  refine ok_goto bX12_voice_83 ?_
  refine ok_reti eX12_voice_93 rfl ?_
  exact ⟨rfl, _, rfl, J.apt (α := α) (μ := μ) hJ.vo0 (by simp [rf_w_at]) (by decide)⟩
theorem c_hear_7_3 {g : Nat} {x : Int32} (hR : Rl 1 α (μ 95)) (hg : g < 16) (hK : μ 95 (190 + 8 * g) = nI 7) : rf_At (rf_T Ln xs) MX9_hear 25 0 ([some (.ref 83), some (.ref 10), some (.int (nI g)), some (.int (nI 3)), some (.int x)], [], 108, (α, μ)) (some (.int (((((x + (nI g)) ^^^ (μ 95 (194 + 8 * g))) + (nI g)) * nI 2) ^^^ ((x - (μ 95 (194 + 8 * g))) * nI 5)))) 108 (apt 84 83 0 (rf_w (rf_w (rf_w (rf_w α 83 2 (nI 7)) 83 3 (nI g)) 83 4 (μ 95 (194 + 8 * g))) 83 0 (nI 0)) 0 [13, 11, 80, 60, 10, 81, 12], μ) := by
  refine rf_pa ?_
  refine ok_step (ps := [rf_in (nI g) 16, rf_in (nI g) 16]) (L' := [some (.ref 83), some (.ref 10), some (.int (nI g)), some (.int (nI 3)), some (.int x)]) (st' := [.int (nI 0), .int x, .int (nI 3), .int ((rf_w (rf_w (rf_w (rf_w α 83 2 (α 11 ((nI g).toNatClampNeg))) 83 3 (nI g)) 83 4 ((rf_w (rf_w α 83 2 (α 11 ((nI g).toNatClampNeg))) 83 3 (nI g)) 15 ((nI g).toNatClampNeg))) 83 0 (nI 0)) 83 2), .ref 83]) (σ' := (rf_w (rf_w (rf_w (rf_w α 83 2 (α 11 ((nI g).toNatClampNeg))) 83 3 (nI g)) 83 4 ((rf_w (rf_w α 83 2 (α 11 ((nI g).toNatClampNeg))) 83 3 (nI g)) 15 ((nI g).toNatClampNeg))) 83 0 (nI 0), μ)) (pc' := 39) kX9_hear_0 rfl rfl (rf_a1 (rf_in_n (a := g) rfl (by omega)) (rf_a1 (rf_in_n (a := g) rfl (by omega)) rf_a0)) ?_
  try rw [(show (nI g).toNatClampNeg = g from rf_cl_n rfl (by omega))]
  try rw [(show α 11 g = μ 95 (190 + 8 * g) from rl_10 hR (i := g) (by omega) (by omega))]
  try rw [hK]
  try rw [(show (nI g).toNatClampNeg = g from rf_cl_n rfl (by omega))]
  try rw [(show (rf_w (rf_w α 83 2 (nI 7)) 83 3 (nI g)) 15 g = (rf_w α 83 2 (nI 7)) 15 g from by rw [rf_w_at, if_neg (fun h => absurd h.1 (by decide))])]
  try rw [(show (rf_w α 83 2 (nI 7)) 15 g = α 15 g from by rw [rf_w_at, if_neg (fun h => absurd h.1 (by decide))])]
  try rw [(show α 15 g = μ 95 (194 + 8 * g) from rl_14 hR (i := g) (by omega) (by omega))]
  try rw [(show (rf_w (rf_w (rf_w (rf_w α 83 2 (nI 7)) 83 3 (nI g)) 83 4 (μ 95 (194 + 8 * g))) 83 0 (nI 0)) 83 2 = (rf_w (rf_w (rf_w α 83 2 (nI 7)) 83 3 (nI g)) 83 4 (μ 95 (194 + 8 * g))) 83 2 from by rw [rf_w_at, if_neg (fun h => absurd h.2 (by omega))])]
  try rw [(show (rf_w (rf_w (rf_w α 83 2 (nI 7)) 83 3 (nI g)) 83 4 (μ 95 (194 + 8 * g))) 83 2 = (rf_w (rf_w α 83 2 (nI 7)) 83 3 (nI g)) 83 2 from by rw [rf_w_at, if_neg (fun h => absurd h.2 (by omega))])]
  try rw [(show (rf_w (rf_w α 83 2 (nI 7)) 83 3 (nI g)) 83 2 = (rf_w α 83 2 (nI 7)) 83 2 from by rw [rf_w_at, if_neg (fun h => absurd h.2 (by omega))])]
  try rw [(show (rf_w α 83 2 (nI 7)) 83 2 = (nI 7) from by rw [rf_w_at, if_pos ⟨rfl, rfl⟩])]
  refine ok_V (As := [.int (nI 7), .int (nI 3), .int x, .int (nI 0)]) (b := 83) (st := []) mkX9_speak qX9_hear_39 rfl (rc_83) rfl rfl rfl rfl (Nat.le_of_ble_eq_true rfl) (cv7_3_7 (α := rf_w (rf_w (rf_w (rf_w α 83 2 (nI 7)) 83 3 (nI g)) 83 4 (μ 95 (194 + 8 * g))) 83 0 (nI 0)) (nu := nI g) (mn := (μ 95 (194 + 8 * g))) (b := 0) (dep := 0) (by simp [rf_w_at]) (by simp [rf_w_at]) (by simp [rf_w_at]) (by simp [rf_w_at]) (by decide) (by decide)) ?_
  refine ok_reti eX9_hear_42 rfl ?_
  exact ⟨rfl, rfl⟩
theorem op_voice_7_3 {g : Nat} {x : Int32} (hJ : J α μ) (hg : g < cn (μ 95) 4) (hK : μ 95 (190 + 8 * g) = nI 7) : Op (rf_T Ln xs) MX11_voice MX12_voice [some (.ref 0), some (.int (nI g)), some (.int (nI 3)), some (.int x)] [some (.ref 94), some (.int (nI g)), some (.int (nI 3)), some (.int x), none] α μ := by
  have hR := hJ.1.1.1
  have hI := hJ.2
  have b0 := hI.le0
  have b1 := hI.le1
  have b2 := hI.le2
  have b3 := hI.le3
  have b4 := hI.le4
  have b5 := hI.le5
  have b6 := hI.le6
  have b8 := hI.le8
  have b9 := hI.le9
  have b11 := hI.le11
  have b12 := hI.le12
  refine ok_step (ps := []) (L' := [some (.ref 0), some (.int (nI g)), some (.int (nI 3)), some (.int x)]) (st' := [.int (nI g), .ref 0]) (σ' := (α, μ)) (pc' := 2) kX11_voice_0 rfl rfl rf_a0 ?_
  refine ok_V (As := [.int (nI g)]) (b := 0) (st := []) mkX11_isGroup qX11_voice_2 rfl (rc_0) rfl rfl rfl rfl (Nat.le_of_ble_eq_true rfl) (c_isGroup hR) ?_
  refine ok_if_eq bX11_voice_5 (fun h5 => absurd h5 ((bI_n0.mpr (wi_in hI.at4 hg (by omega))))) (fun _ => ?_)
  refine ok_step (ps := []) (L' := [some (.ref 0), some (.int (nI g)), some (.int (nI 3)), some (.int x)]) (st' := [.int (nI 3), .int (nI 0), .int (nI 3)]) (σ' := (α, μ)) (pc' := 11) kX11_voice_8 rfl rfl rf_a0 ?_
  refine ok_S (As := [.int (nI 3), .int (nI 0), .int (nI 3)]) (st := []) mkX11_within qX11_voice_11 rfl rfl rfl rfl rfl (Nat.le_of_ble_eq_true rfl) (c_within) ?_
  rw [show bI (wi (nI 3) (nI 0) (nI 3)) = nI 1 from rfl]
  refine ok_if_ne bX11_voice_14 (fun _ => ?_) (fun h14 => absurd h14 ((by decide)))
  refine ok_step (ps := []) (L' := [some (.ref 0), some (.int (nI g)), some (.int (nI 3)), some (.int x)]) (st' := [.int x, .int (nI 3), .int (nI g), .ref 10, .ref 83]) (σ' := (α, μ)) (pc' := 38) kX11_voice_24 rfl rfl rf_a0 ?_
  refine ok_V (As := [.ref 10, .int (nI g), .int (nI 3), .int x]) (b := 83) (st := []) mkX9_hear qX11_voice_38 rfl (rc_83) rfl rfl rfl rfl (Nat.le_of_ble_eq_true rfl) (c_hear_7_3 hR (by omega) hK) ?_
  refine ok_reti eX11_voice_41 rfl ?_
  refine ⟨rfl, _, rfl, ?_⟩
  refine ok_step (ps := []) (L' := [some (.ref 94), some (.int (nI g)), some (.int (nI 3)), some (.int x), none]) (st' := [.int (nI g), .ref 94]) (σ' := (apt 84 83 0 (rf_w (rf_w (rf_w (rf_w α 83 2 (nI 7)) 83 3 (nI g)) 83 4 (μ 95 (194 + 8 * g))) 83 0 (nI 0)) 0 [13, 11, 80, 60, 10, 81, 12], μ)) (pc' := 2) kX12_voice_0 rfl rfl rf_a0 ?_
  refine ok_V (As := [.int (nI g)]) (b := 94) (st := []) mkX12_isGroup qX12_voice_2 rfl (rc_94) rfl rfl rfl rfl (Nat.le_of_ble_eq_true rfl) (m_isGroup) ?_
  refine ok_if_eq bX12_voice_5 (fun g5 => absurd g5 ((bI_n0.mpr (wi_in hI.at4 hg (by omega))))) (fun _ => ?_)
  refine ok_step (ps := []) (L' := [some (.ref 94), some (.int (nI g)), some (.int (nI 3)), some (.int x), none]) (st' := [.long (lN 3), .long (lN 0), .long ((nI 3).toInt64)]) (σ' := (apt 84 83 0 (rf_w (rf_w (rf_w (rf_w α 83 2 (nI 7)) 83 3 (nI g)) 83 4 (μ 95 (194 + 8 * g))) 83 0 (nI 0)) 0 [13, 11, 80, 60, 10, 81, 12], μ)) (pc' := 14) kX12_voice_8 rfl rfl rf_a0 ?_
  refine ok_S (As := [.long ((nI 3).toInt64), .long (lN 0), .long (lN 3)]) (st := []) mkX12_in qX12_voice_14 rfl rfl rfl rfl rfl (Nat.le_of_ble_eq_true rfl) (m_in) ?_
  rw [show wl ((nI 3).toInt64) (lN 0) (lN 3) = wi (nI 3) (nI 0) (nI 3) from wl_of rfl (nI_l (by decide)).symm (nI_l (by decide)).symm, show bI (wi (nI 3) (nI 0) (nI 3)) = nI 1 from rfl]
  refine ok_if_ne bX12_voice_17 (fun _ => ?_) (fun g17 => absurd g17 ((by decide)))
  refine ok_step (ps := []) (L' := [some (.ref 94), some (.int (nI g)), some (.int (nI 3)), some (.int x), none]) (st' := [.ref 94]) (σ' := (apt 84 83 0 (rf_w (rf_w (rf_w (rf_w α 83 2 (nI 7)) 83 3 (nI g)) 83 4 (μ 95 (194 + 8 * g))) 83 0 (nI 0)) 0 [13, 11, 80, 60, 10, 81, 12], rf_w (rf_w μ 94 18 (nI 0)) 94 19 (nI g))) (pc' := 37) kX12_voice_26 rfl rfl rf_a0 ?_
  refine ok_V (As := []) (b := 94) (st := []) mkX12_own qX12_voice_37 rfl (rc_94) rfl rfl rfl rfl (Nat.le_of_ble_eq_true rfl) (m_own (K := 7) (g := g) (by omega) (by rw [rf_w_row (by decide), rf_w_row (by decide)]; exact hK) (by simp [rf_w_at])) ?_
  refine ok_step (ps := []) (L' := [some (.ref 94), some (.int (nI g)), some (.int (nI 3)), some (.int x), some (.int (nI 7))]) (st' := [.int (nI 3)]) (σ' := (apt 84 83 0 (rf_w (rf_w (rf_w (rf_w α 83 2 (nI 7)) 83 3 (nI g)) 83 4 (μ 95 (194 + 8 * g))) 83 0 (nI 0)) 0 [13, 11, 80, 60, 10, 81, 12], rf_w (rf_w μ 94 18 (nI 0)) 94 19 (nI g))) (pc' := 43) kX12_voice_40 rfl rfl rf_a0 ?_
  refine ok_if_ne bX12_voice_43 (fun _ => ?_) (fun g43 => absurd g43 ((by decide)))
  refine ok_step (ps := []) (L' := [some (.ref 94), some (.int (nI g)), some (.int (nI 3)), some (.int x), some (.int (nI 7))]) (st' := [.int (nI 1), .int (nI 3)]) (σ' := (apt 84 83 0 (rf_w (rf_w (rf_w (rf_w α 83 2 (nI 7)) 83 3 (nI g)) 83 4 (μ 95 (194 + 8 * g))) 83 0 (nI 0)) 0 [13, 11, 80, 60, 10, 81, 12], rf_w (rf_w μ 94 18 (nI 0)) 94 19 (nI g))) (pc' := 58) kX12_voice_56 rfl rfl rf_a0 ?_
  refine ok_icmp_ne bX12_voice_58 (fun _ => ?_) (fun g58 => absurd g58 ((by decide)))
  refine ok_step (ps := []) (L' := [some (.ref 94), some (.int (nI g)), some (.int (nI 3)), some (.int x), some (.int (nI 7))]) (st' := [.int (nI 2), .int (nI 3)]) (σ' := (apt 84 83 0 (rf_w (rf_w (rf_w (rf_w α 83 2 (nI 7)) 83 3 (nI g)) 83 4 (μ 95 (194 + 8 * g))) 83 0 (nI 0)) 0 [13, 11, 80, 60, 10, 81, 12], rf_w (rf_w μ 94 18 (nI 0)) 94 19 (nI g))) (pc' := 73) kX12_voice_71 rfl rfl rf_a0 ?_
  refine ok_icmp_ne bX12_voice_73 (fun _ => ?_) (fun g73 => absurd g73 ((by decide)))
  refine ok_step (ps := []) (L' := [some (.ref 94), some (.int (nI g)), some (.int (nI 3)), some (.int x), some (.int (nI 7))]) (st' := [.int x, .int (nI 7), .ref 94]) (σ' := (apt 84 83 0 (rf_w (rf_w (rf_w (rf_w α 83 2 (nI 7)) 83 3 (nI g)) 83 4 (μ 95 (194 + 8 * g))) 83 0 (nI 0)) 0 [13, 11, 80, 60, 10, 81, 12], rf_w (rf_w μ 94 18 (nI 0)) 94 19 (nI g))) (pc' := 90) kX12_voice_86 rfl rfl rf_a0 ?_
  refine ok_V (As := [.int (nI 7), .int x]) (b := 94) (st := []) mkX12_paysOf qX12_voice_90 rfl (rc_94) rfl rfl rfl rfl (Nat.le_of_ble_eq_true rfl) (mv7_3_7 (ν := rf_w (rf_w μ 94 18 (nI 0)) 94 19 (nI g)) (mn := (μ 95 (194 + 8 * g))) (b := 0) (g := g) (by rw [rf_w_row (by decide), rf_w_row (by decide)]; exact hK) (by rw [rf_w_row (by decide), rf_w_row (by decide)]) (by simp [rf_w_at]) (by omega) (by simp [rf_w_at]) (by decide)) ?_
  refine ok_reti eX12_voice_93 rfl ?_
  exact ⟨rfl, _, rfl, J.apt (α := α) (μ := μ) hJ.vo0 (by simp [rf_w_at]) (by decide)⟩
theorem op_voice_x {group : Int32} {act : Int32} {x : Int32} (hJ : J α μ) (hx : bI (wi group (nI 0) (μ 95 4 - nI 1)) = 0) : Op (rf_T Ln xs) MX11_voice MX12_voice [some (.ref 0), some (.int group), some (.int act), some (.int x)] [some (.ref 94), some (.int group), some (.int act), some (.int x), none] α μ := by
  have hR := hJ.1.1.1
  have hI := hJ.2
  have b0 := hI.le0
  have b1 := hI.le1
  have b2 := hI.le2
  have b3 := hI.le3
  have b4 := hI.le4
  have b5 := hI.le5
  have b6 := hI.le6
  have b8 := hI.le8
  have b9 := hI.le9
  have b11 := hI.le11
  have b12 := hI.le12
  refine ok_step (ps := []) (L' := [some (.ref 0), some (.int group), some (.int act), some (.int x)]) (st' := [.int group, .ref 0]) (σ' := (α, μ)) (pc' := 2) kX11_voice_0 rfl rfl rf_a0 ?_
  refine ok_V (As := [.int group]) (b := 0) (st := []) mkX11_isGroup qX11_voice_2 rfl (rc_0) rfl rfl rfl rfl (Nat.le_of_ble_eq_true rfl) (c_isGroup hR) ?_
  refine ok_if_eq bX11_voice_5 (fun _ => ?_) (fun h5 => absurd (hx) h5)
  refine ok_step (ps := []) (L' := [some (.ref 0), some (.int group), some (.int act), some (.int x)]) (st' := [.int (-1000000001), .ref 0]) (σ' := (α, μ)) (pc' := 20) kX11_voice_17 rfl rfl rf_a0 ?_
  refine ok_V (As := [.int (-1000000001)]) (b := 0) (st := []) mkX11_error qX11_voice_20 rfl (rc_0) rfl rfl rfl rfl (Nat.le_of_ble_eq_true rfl) (c_error (k := 1) (by decide) (by decide) (by decide)) ?_
  refine ok_reti eX11_voice_23 rfl ?_
  refine ⟨rfl, _, rfl, ?_⟩
  refine ok_step (ps := []) (L' := [some (.ref 94), some (.int group), some (.int act), some (.int x), none]) (st' := [.int group, .ref 94]) (σ' := (rf_w α 93 1 (α 93 1 + nI 1), μ)) (pc' := 2) kX12_voice_0 rfl rfl rf_a0 ?_
  refine ok_V (As := [.int group]) (b := 94) (st := []) mkX12_isGroup qX12_voice_2 rfl (rc_94) rfl rfl rfl rfl (Nat.le_of_ble_eq_true rfl) (m_isGroup) ?_
  refine ok_if_eq bX12_voice_5 (fun _ => ?_) (fun g5 => absurd (hx) g5)
  refine ok_step (ps := []) (L' := [some (.ref 94), some (.int group), some (.int act), some (.int x), none]) (st' := [.int (nI 1), .ref 94]) (σ' := (rf_w α 93 1 (α 93 1 + nI 1), μ)) (pc' := 22) kX12_voice_20 rfl rfl rf_a0 ?_
  refine ok_V (As := [.int (nI 1)]) (b := 94) (st := []) mkX12_finds qX12_voice_22 rfl (rc_94) rfl rfl rfl rfl (Nat.le_of_ble_eq_true rfl) (m_finds (k := 1) (by decide)) ?_
  refine ok_reti eX12_voice_25 rfl ?_
  exact ⟨rfl, _, rfl, hJ.err (k := 1) (by decide)⟩
theorem op_voice_y {group : Int32} {act : Int32} {x : Int32} (hJ : J α μ) (hx : ¬ bI (wi group (nI 0) (μ 95 4 - nI 1)) = 0) (hy : bI (wi act (nI 0) (nI 3)) = 0) : Op (rf_T Ln xs) MX11_voice MX12_voice [some (.ref 0), some (.int group), some (.int act), some (.int x)] [some (.ref 94), some (.int group), some (.int act), some (.int x), none] α μ := by
  have hR := hJ.1.1.1
  have hI := hJ.2
  have b0 := hI.le0
  have b1 := hI.le1
  have b2 := hI.le2
  have b3 := hI.le3
  have b4 := hI.le4
  have b5 := hI.le5
  have b6 := hI.le6
  have b8 := hI.le8
  have b9 := hI.le9
  have b11 := hI.le11
  have b12 := hI.le12
  refine ok_step (ps := []) (L' := [some (.ref 0), some (.int group), some (.int act), some (.int x)]) (st' := [.int group, .ref 0]) (σ' := (α, μ)) (pc' := 2) kX11_voice_0 rfl rfl rf_a0 ?_
  refine ok_V (As := [.int group]) (b := 0) (st := []) mkX11_isGroup qX11_voice_2 rfl (rc_0) rfl rfl rfl rfl (Nat.le_of_ble_eq_true rfl) (c_isGroup hR) ?_
  refine ok_if_eq bX11_voice_5 (fun h5 => absurd h5 (hx)) (fun _ => ?_)
  refine ok_step (ps := []) (L' := [some (.ref 0), some (.int group), some (.int act), some (.int x)]) (st' := [.int (nI 3), .int (nI 0), .int act]) (σ' := (α, μ)) (pc' := 11) kX11_voice_8 rfl rfl rf_a0 ?_
  refine ok_S (As := [.int act, .int (nI 0), .int (nI 3)]) (st := []) mkX11_within qX11_voice_11 rfl rfl rfl rfl rfl (Nat.le_of_ble_eq_true rfl) (c_within) ?_
  refine ok_if_ne bX11_voice_14 (fun h14 => absurd (hy) h14) (fun _ => ?_)
  refine ok_step (ps := []) (L' := [some (.ref 0), some (.int group), some (.int act), some (.int x)]) (st' := [.int (-1000000001), .ref 0]) (σ' := (α, μ)) (pc' := 20) kX11_voice_17 rfl rfl rf_a0 ?_
  refine ok_V (As := [.int (-1000000001)]) (b := 0) (st := []) mkX11_error qX11_voice_20 rfl (rc_0) rfl rfl rfl rfl (Nat.le_of_ble_eq_true rfl) (c_error (k := 1) (by decide) (by decide) (by decide)) ?_
  refine ok_reti eX11_voice_23 rfl ?_
  refine ⟨rfl, _, rfl, ?_⟩
  refine ok_step (ps := []) (L' := [some (.ref 94), some (.int group), some (.int act), some (.int x), none]) (st' := [.int group, .ref 94]) (σ' := (rf_w α 93 1 (α 93 1 + nI 1), μ)) (pc' := 2) kX12_voice_0 rfl rfl rf_a0 ?_
  refine ok_V (As := [.int group]) (b := 94) (st := []) mkX12_isGroup qX12_voice_2 rfl (rc_94) rfl rfl rfl rfl (Nat.le_of_ble_eq_true rfl) (m_isGroup) ?_
  refine ok_if_eq bX12_voice_5 (fun g5 => absurd g5 (hx)) (fun _ => ?_)
  refine ok_step (ps := []) (L' := [some (.ref 94), some (.int group), some (.int act), some (.int x), none]) (st' := [.long (lN 3), .long (lN 0), .long act.toInt64]) (σ' := (rf_w α 93 1 (α 93 1 + nI 1), μ)) (pc' := 14) kX12_voice_8 rfl rfl rf_a0 ?_
  refine ok_S (As := [.long act.toInt64, .long (lN 0), .long (lN 3)]) (st := []) mkX12_in qX12_voice_14 rfl rfl rfl rfl rfl (Nat.le_of_ble_eq_true rfl) (m_in) ?_
  rw [show wl act.toInt64 (lN 0) (lN 3) = wi act (nI 0) (nI 3) from wl_of rfl (nI_l (by decide)).symm (nI_l (by decide)).symm]
  refine ok_if_ne bX12_voice_17 (fun g17 => absurd (hy) g17) (fun _ => ?_)
  refine ok_step (ps := []) (L' := [some (.ref 94), some (.int group), some (.int act), some (.int x), none]) (st' := [.int (nI 1), .ref 94]) (σ' := (rf_w α 93 1 (α 93 1 + nI 1), μ)) (pc' := 22) kX12_voice_20 rfl rfl rf_a0 ?_
  refine ok_V (As := [.int (nI 1)]) (b := 94) (st := []) mkX12_finds qX12_voice_22 rfl (rc_94) rfl rfl rfl rfl (Nat.le_of_ble_eq_true rfl) (m_finds (k := 1) (by decide)) ?_
  refine ok_reti eX12_voice_25 rfl ?_
  exact ⟨rfl, _, rfl, hJ.err (k := 1) (by decide)⟩
theorem op_voice {group act x : Int32} (hJ : J α μ) : Op (rf_T Ln xs) MX11_voice MX12_voice [some (.ref 0), some (.int group), some (.int act), some (.int x)] [some (.ref 94), some (.int group), some (.int act), some (.int x), none] α μ := by
  have hI := hJ.2
  have b4 := hI.le4
  by_cases hx : bI (wi group (nI 0) (μ 95 4 - nI 1)) = 0
  · exact op_voice_x hJ hx
  · by_cases hy : bI (wi act (nI 0) (nI 3)) = 0
    · exact op_voice_y hJ hx hy
    · obtain ⟨g, hg, rfl⟩ := wi_lt (bI_n0.mp hx) hI.at4 (by omega)
      obtain ⟨a, -, ha, rfl⟩ := wi_of (bI_n0.mp hy) (by decide) (by decide)
      have hk := hI.leb (b := 7) (bd_190 (i := g) (by omega) rfl) (by decide)
      have hK := hI.atb (b := 7) (bd_190 (i := g) (by omega) rfl) (by decide)
      generalize cn (μ 95) (190 + 8 * g) = K at hk hK
      have hk : K = 0 ∨ K = 1 ∨ K = 2 ∨ K = 3 ∨ K = 4 ∨ K = 5 ∨ K = 6 ∨ K = 7 := by omega
      have ha : a = 0 ∨ a = 1 ∨ a = 2 ∨ a = 3 := by omega
      rcases hk with rfl | rfl | rfl | rfl | rfl | rfl | rfl | rfl <;> rcases ha with rfl | rfl | rfl | rfl
      · exact op_voice_0_0 hJ hg hK
      · exact op_voice_0_1 hJ hg hK
      · exact op_voice_0_2 hJ hg hK
      · exact op_voice_0_3 hJ hg hK
      · exact op_voice_1_0 hJ hg hK
      · exact op_voice_1_1 hJ hg hK
      · exact op_voice_1_2 hJ hg hK
      · exact op_voice_1_3 hJ hg hK
      · exact op_voice_2_0 hJ hg hK
      · exact op_voice_2_1 hJ hg hK
      · exact op_voice_2_2 hJ hg hK
      · exact op_voice_2_3 hJ hg hK
      · exact op_voice_3_0 hJ hg hK
      · exact op_voice_3_1 hJ hg hK
      · exact op_voice_3_2 hJ hg hK
      · exact op_voice_3_3 hJ hg hK
      · exact op_voice_4_0 hJ hg hK
      · exact op_voice_4_1 hJ hg hK
      · exact op_voice_4_2 hJ hg hK
      · exact op_voice_4_3 hJ hg hK
      · exact op_voice_5_0 hJ hg hK
      · exact op_voice_5_1 hJ hg hK
      · exact op_voice_5_2 hJ hg hK
      · exact op_voice_5_3 hJ hg hK
      · exact op_voice_6_0 hJ hg hK
      · exact op_voice_6_1 hJ hg hK
      · exact op_voice_6_2 hJ hg hK
      · exact op_voice_6_3 hJ hg hK
      · exact op_voice_7_0 hJ hg hK
      · exact op_voice_7_1 hJ hg hK
      · exact op_voice_7_2 hJ hg hK
      · exact op_voice_7_3 hJ hg hK
end H60
