theorem sI_0 {F : Nat → Int32} {i : Nat} (h : F i = nI 0) : sumI F i = sumI F (i + 1) := by
  rw [sumI, h]
  exact (Int32.add_zero _).symm
theorem sI_1 {F : Nat → Int32} {i : Nat} {v : Int32} (h : F i = v) : sumI F i + v = sumI F (i + 1) := by rw [sumI, h]
theorem hb_0 {t : Int32} : hb (nI 0) t = false := by
  unfold hb
  refine decide_eq_false (fun e => ?_)
  rw [show (nI 0 >>> (t &&& 31) : Int32) = 0 from Int32.zero_shiftRight] at e
  exact absurd e (by decide)
/-- who doesn't pay, when READING GROUPS on TRAINS of a set pay surely -/
def f_tell (d : Nat → Int32) (set : Int32) (g : Nat) : Int32 := if (decide (d (190 + 8 * g) = nI 3) && hb set (d (191 + 8 * g)) || s_now d g) = true then nI 0 else d (194 + 8 * g)
def f_unp (d : Nat → Int32) (fine : Int32) (g : Nat) : Int32 := if s_pays d g fine (s_with d (d (191 + 8 * g))) (rf_max (s_all d) (nI 1)) = true then nI 0 else d (194 + 8 * g)
theorem unp_tell {d : Nat → Int32} : sumI (f_tell d (nI 0)) (cn d 4) = sumI (f_unp d (d 9)) (cn d 4) := sumI_congr (fun g _ => by
  unfold f_tell f_unp
  rw [hb_0, Bool.and_false, Bool.false_or]
  rfl)
theorem wi01' {x : Int32} (h : wi x (nI 0) (nI 1) = true) (h0 : ¬ x = nI 0) : x = nI 1 := by
  obtain ⟨k, -, h3, rfl⟩ := wi_of h (by decide) (by decide)
  rcases (show k = 0 ∨ k = 1 by omega) with rfl | rfl
  · exact absurd rfl h0
  · rfl
section H46
variable {Ln : Nat} {xs : Nat → Int32} {α μ ν γ : Nat → Nat → Int32} {d : Nat → Int32}
theorem sw_dft7 {x : Int32} (h : x.toInt < 0 ∨ 7 < x.toInt) : bI (wi x (nI 0) (nI 7)) = 0 := by
  rw [bI_0]
  cases e : wi x (nI 0) (nI 7) with
  | false => rfl
  | true =>
    obtain ⟨k, -, h3, rfl⟩ := wi_of e (by decide) (by decide)
    rw [nI_toInt (by omega)] at h
    omega
theorem op_ofGroup {group : Int32} {what : Int32} (hJ : J α μ)  : Op (rf_T Ln xs) MX11_ofGroup MX12_ofGroup [some (.ref 0), some (.int group), some (.int what)] [some (.ref 94), some (.int group), some (.int what)] α μ := by
  have hR := hJ.1.1.1
  have hI := hJ.2
  have b0 := hI.le0
  have b1 := hI.le1
  have b2 := hI.le2
  have b3 := hI.le3
  have b4 := hI.le4
  have b5 := hI.le5
  have b6 := hI.le6
  have b8 := hI.le8
  have b9 := hI.le9
  have b11 := hI.le11
  have b12 := hI.le12
  refine ok_step (ps := []) (L' := [some (.ref 0), some (.int group), some (.int what)]) (st' := [.int group, .ref 0]) (σ' := (α, μ)) (pc' := 2) kX11_ofGroup_0 rfl rfl rf_a0 ?_
  refine ok_V (As := [.int group]) (b := 0) (st := []) mkX11_isGroup qX11_ofGroup_2 rfl (rc_0) rfl rfl rfl rfl (Nat.le_of_ble_eq_true rfl) (c_isGroup hR) ?_
  refine ok_if_ne bX11_ofGroup_5 (fun h5 => ?_) (fun h5 => ?_)
  · obtain ⟨g, hg, rfl⟩ := wi_lt (bI_n0.mp h5) hI.at4 (by omega)
    refine ok_step (ps := []) (L' := [some (.ref 0), some (.int (nI g)), some (.int what)]) (st' := [.int what]) (σ' := (α, μ)) (pc' := 16) kX11_ofGroup_15 rfl rfl rf_a0 ?_
    refine ok_table bX11_ofGroup_16 (fun h16 => ?_) (fun i t ht h16 => ?_)
    · refine ok_step (ps := []) (L' := [some (.ref 0), some (.int (nI g)), some (.int what)]) (st' := [.int (-1000000001), .ref 0]) (σ' := (α, μ)) (pc' := 174) kX11_ofGroup_171 rfl rfl rf_a0 ?_
      refine ok_V (As := [.int (-1000000001)]) (b := 0) (st := []) mkX11_error qX11_ofGroup_174 rfl (rc_0) rfl rfl rfl rfl (Nat.le_of_ble_eq_true rfl) (c_error (k := 1) (by decide) (by decide) (by decide)) ?_
      refine ok_reti eX11_ofGroup_177 rfl ?_
      refine ⟨rfl, _, rfl, ?_⟩
      refine ok_step (ps := []) (L' := [some (.ref 94), some (.int (nI g)), some (.int what)]) (st' := [.int (nI g), .ref 94]) (σ' := (rf_w α 93 1 (α 93 1 + nI 1), μ)) (pc' := 2) kX12_ofGroup_0 rfl rfl rf_a0 ?_
      refine ok_V (As := [.int (nI g)]) (b := 94) (st := []) mkX12_isGroup qX12_ofGroup_2 rfl (rc_94) rfl rfl rfl rfl (Nat.le_of_ble_eq_true rfl) (m_isGroup) ?_
      refine ok_if_eq bX12_ofGroup_5 (fun g5 => absurd g5 (h5)) (fun _ => ?_)
      refine ok_step (ps := []) (L' := [some (.ref 94), some (.int (nI g)), some (.int what)]) (st' := [.long (lN 7), .long (lN 0), .long what.toInt64]) (σ' := (rf_w α 93 1 (α 93 1 + nI 1), μ)) (pc' := 14) kX12_ofGroup_8 rfl rfl rf_a0 ?_
      refine ok_S (As := [.long what.toInt64, .long (lN 0), .long (lN 7)]) (st := []) mkX12_in qX12_ofGroup_14 rfl rfl rfl rfl rfl (Nat.le_of_ble_eq_true rfl) (m_in) ?_
      rw [show wl what.toInt64 (lN 0) (lN 7) = wi what (nI 0) (nI 7) from wl_of rfl (nI_l (by decide)).symm (nI_l (by decide)).symm]
      refine ok_if_ne bX12_ofGroup_17 (fun g17 => absurd (sw_dft7 h16) g17) (fun _ => ?_)
      refine ok_step (ps := []) (L' := [some (.ref 94), some (.int (nI g)), some (.int what)]) (st' := [.int (nI 1), .ref 94]) (σ' := (rf_w α 93 1 (α 93 1 + nI 1), μ)) (pc' := 22) kX12_ofGroup_20 rfl rfl rf_a0 ?_
      refine ok_V (As := [.int (nI 1)]) (b := 94) (st := []) mkX12_finds qX12_ofGroup_22 rfl (rc_94) rfl rfl rfl rfl (Nat.le_of_ble_eq_true rfl) (m_finds (k := 1) (by decide)) ?_
      refine ok_reti eX12_ofGroup_25 rfl ?_
      exact ⟨rfl, _, rfl, hJ.err (k := 1) (by decide)⟩
    · match i, ht, h16 with
      | 0, ht, h16 =>
        cases ht
        obtain rfl : what = nI 0 := sw_eq (n := 0) (by omega) (by decide)
        refine ok_step (ps := [rf_in (nI g) 16]) (L' := [some (.ref 0), some (.int (nI g)), some (.int (nI 0))]) (st' := [.int (α 11 ((nI g).toNatClampNeg))]) (σ' := (α, μ)) (pc' := 76) kX11_ofGroup_64 rfl rfl (rf_a1 (rf_in_n (a := g) rfl (by omega)) rf_a0) ?_
        try rw [(show (nI g).toNatClampNeg = g from rf_cl_n rfl (by omega))]
        try rw [(show α 11 g = μ 95 (190 + 8 * g) from rl_10 hR (i := g) (by omega) (by omega))]
        refine ok_reti eX11_ofGroup_76 rfl ?_
        refine ⟨rfl, _, rfl, ?_⟩
        refine ok_step (ps := []) (L' := [some (.ref 94), some (.int (nI g)), some (.int (nI 0))]) (st' := [.int (nI g), .ref 94]) (σ' := (α, μ)) (pc' := 2) kX12_ofGroup_0 rfl rfl rf_a0 ?_
        refine ok_V (As := [.int (nI g)]) (b := 94) (st := []) mkX12_isGroup qX12_ofGroup_2 rfl (rc_94) rfl rfl rfl rfl (Nat.le_of_ble_eq_true rfl) (m_isGroup) ?_
        refine ok_if_eq bX12_ofGroup_5 (fun g5 => absurd g5 (h5)) (fun _ => ?_)
        refine ok_step (ps := []) (L' := [some (.ref 94), some (.int (nI g)), some (.int (nI 0))]) (st' := [.long (lN 7), .long (lN 0), .long ((nI 0).toInt64)]) (σ' := (α, μ)) (pc' := 14) kX12_ofGroup_8 rfl rfl rf_a0 ?_
        refine ok_S (As := [.long ((nI 0).toInt64), .long (lN 0), .long (lN 7)]) (st := []) mkX12_in qX12_ofGroup_14 rfl rfl rfl rfl rfl (Nat.le_of_ble_eq_true rfl) (m_in) ?_
        rw [show wl ((nI 0).toInt64) (lN 0) (lN 7) = wi (nI 0) (nI 0) (nI 7) from wl_of rfl (nI_l (by decide)).symm (nI_l (by decide)).symm, show bI (wi (nI 0) (nI 0) (nI 7)) = nI 1 from rfl]
        refine ok_if_ne bX12_ofGroup_17 (fun _ => ?_) (fun g17 => absurd g17 ((by decide)))
        refine ok_step (ps := []) (L' := [some (.ref 94), some (.int (nI g)), some (.int (nI 0))]) (st' := [.int (nI 0)]) (σ' := (α, μ)) (pc' := 27) kX12_ofGroup_26 rfl rfl rf_a0 ?_
        refine ok_td bX12_ofGroup_27 (by omega) ?_
        refine ok_step (ps := []) (L' := [some (.ref 94), some (.int (nI g)), some (.int (nI 0))]) (st' := [.int (nI 0), .int (nI g), .ref 94]) (σ' := (α, μ)) (pc' := 95) kX12_ofGroup_92 rfl rfl rf_a0 ?_
        refine ok_V (As := [.int (nI g), .int (nI 0)]) (b := 94) (st := []) mkX12_gr qX12_ofGroup_95 rfl (rc_94) rfl rfl rfl rfl (Nat.le_of_ble_eq_true rfl) (m_gr_d (j := (190 + 8 * g)) (d := μ 95) rfl (by omega) (by omega) (by omega)) ?_
        refine ok_reti eX12_ofGroup_98 rfl ?_
        exact ⟨rfl, _, rfl, hJ⟩
      | 1, ht, h16 =>
        cases ht
        obtain rfl : what = nI 1 := sw_eq (n := 1) (by omega) (by decide)
        refine ok_step (ps := [rf_in (nI g) 16]) (L' := [some (.ref 0), some (.int (nI g)), some (.int (nI 1))]) (st' := [.int (α 12 ((nI g).toNatClampNeg))]) (σ' := (α, μ)) (pc' := 89) kX11_ofGroup_77 rfl rfl (rf_a1 (rf_in_n (a := g) rfl (by omega)) rf_a0) ?_
        try rw [(show (nI g).toNatClampNeg = g from rf_cl_n rfl (by omega))]
        try rw [(show α 12 g = μ 95 (191 + 8 * g) from rl_11 hR (i := g) (by omega) (by omega))]
        refine ok_reti eX11_ofGroup_89 rfl ?_
        refine ⟨rfl, _, rfl, ?_⟩
        refine ok_step (ps := []) (L' := [some (.ref 94), some (.int (nI g)), some (.int (nI 1))]) (st' := [.int (nI g), .ref 94]) (σ' := (α, μ)) (pc' := 2) kX12_ofGroup_0 rfl rfl rf_a0 ?_
        refine ok_V (As := [.int (nI g)]) (b := 94) (st := []) mkX12_isGroup qX12_ofGroup_2 rfl (rc_94) rfl rfl rfl rfl (Nat.le_of_ble_eq_true rfl) (m_isGroup) ?_
        refine ok_if_eq bX12_ofGroup_5 (fun g5 => absurd g5 (h5)) (fun _ => ?_)
        refine ok_step (ps := []) (L' := [some (.ref 94), some (.int (nI g)), some (.int (nI 1))]) (st' := [.long (lN 7), .long (lN 0), .long ((nI 1).toInt64)]) (σ' := (α, μ)) (pc' := 14) kX12_ofGroup_8 rfl rfl rf_a0 ?_
        refine ok_S (As := [.long ((nI 1).toInt64), .long (lN 0), .long (lN 7)]) (st := []) mkX12_in qX12_ofGroup_14 rfl rfl rfl rfl rfl (Nat.le_of_ble_eq_true rfl) (m_in) ?_
        rw [show wl ((nI 1).toInt64) (lN 0) (lN 7) = wi (nI 1) (nI 0) (nI 7) from wl_of rfl (nI_l (by decide)).symm (nI_l (by decide)).symm, show bI (wi (nI 1) (nI 0) (nI 7)) = nI 1 from rfl]
        refine ok_if_ne bX12_ofGroup_17 (fun _ => ?_) (fun g17 => absurd g17 ((by decide)))
        refine ok_step (ps := []) (L' := [some (.ref 94), some (.int (nI g)), some (.int (nI 1))]) (st' := [.int (nI 1)]) (σ' := (α, μ)) (pc' := 27) kX12_ofGroup_26 rfl rfl rf_a0 ?_
        refine ok_td bX12_ofGroup_27 (by omega) ?_
        refine ok_step (ps := []) (L' := [some (.ref 94), some (.int (nI g)), some (.int (nI 1))]) (st' := [.int (nI 1), .int (nI g), .ref 94]) (σ' := (α, μ)) (pc' := 95) kX12_ofGroup_92 rfl rfl rf_a0 ?_
        refine ok_V (As := [.int (nI g), .int (nI 1)]) (b := 94) (st := []) mkX12_gr qX12_ofGroup_95 rfl (rc_94) rfl rfl rfl rfl (Nat.le_of_ble_eq_true rfl) (m_gr_d (j := (191 + 8 * g)) (d := μ 95) rfl (by omega) (by omega) (by omega)) ?_
        refine ok_reti eX12_ofGroup_98 rfl ?_
        exact ⟨rfl, _, rfl, hJ⟩
      | 2, ht, h16 =>
        cases ht
        obtain rfl : what = nI 2 := sw_eq (n := 2) (by omega) (by decide)
        refine ok_step (ps := [rf_in (nI g) 16]) (L' := [some (.ref 0), some (.int (nI g)), some (.int (nI 2))]) (st' := [.int (α 13 ((nI g).toNatClampNeg))]) (σ' := (α, μ)) (pc' := 102) kX11_ofGroup_90 rfl rfl (rf_a1 (rf_in_n (a := g) rfl (by omega)) rf_a0) ?_
        try rw [(show (nI g).toNatClampNeg = g from rf_cl_n rfl (by omega))]
        try rw [(show α 13 g = μ 95 (192 + 8 * g) from rl_12 hR (i := g) (by omega) (by omega))]
        refine ok_reti eX11_ofGroup_102 rfl ?_
        refine ⟨rfl, _, rfl, ?_⟩
        refine ok_step (ps := []) (L' := [some (.ref 94), some (.int (nI g)), some (.int (nI 2))]) (st' := [.int (nI g), .ref 94]) (σ' := (α, μ)) (pc' := 2) kX12_ofGroup_0 rfl rfl rf_a0 ?_
        refine ok_V (As := [.int (nI g)]) (b := 94) (st := []) mkX12_isGroup qX12_ofGroup_2 rfl (rc_94) rfl rfl rfl rfl (Nat.le_of_ble_eq_true rfl) (m_isGroup) ?_
        refine ok_if_eq bX12_ofGroup_5 (fun g5 => absurd g5 (h5)) (fun _ => ?_)
        refine ok_step (ps := []) (L' := [some (.ref 94), some (.int (nI g)), some (.int (nI 2))]) (st' := [.long (lN 7), .long (lN 0), .long ((nI 2).toInt64)]) (σ' := (α, μ)) (pc' := 14) kX12_ofGroup_8 rfl rfl rf_a0 ?_
        refine ok_S (As := [.long ((nI 2).toInt64), .long (lN 0), .long (lN 7)]) (st := []) mkX12_in qX12_ofGroup_14 rfl rfl rfl rfl rfl (Nat.le_of_ble_eq_true rfl) (m_in) ?_
        rw [show wl ((nI 2).toInt64) (lN 0) (lN 7) = wi (nI 2) (nI 0) (nI 7) from wl_of rfl (nI_l (by decide)).symm (nI_l (by decide)).symm, show bI (wi (nI 2) (nI 0) (nI 7)) = nI 1 from rfl]
        refine ok_if_ne bX12_ofGroup_17 (fun _ => ?_) (fun g17 => absurd g17 ((by decide)))
        refine ok_step (ps := []) (L' := [some (.ref 94), some (.int (nI g)), some (.int (nI 2))]) (st' := [.int (nI 2)]) (σ' := (α, μ)) (pc' := 27) kX12_ofGroup_26 rfl rfl rf_a0 ?_
        refine ok_td bX12_ofGroup_27 (by omega) ?_
        refine ok_step (ps := []) (L' := [some (.ref 94), some (.int (nI g)), some (.int (nI 2))]) (st' := [.int (nI 2), .int (nI g), .ref 94]) (σ' := (α, μ)) (pc' := 95) kX12_ofGroup_92 rfl rfl rf_a0 ?_
        refine ok_V (As := [.int (nI g), .int (nI 2)]) (b := 94) (st := []) mkX12_gr qX12_ofGroup_95 rfl (rc_94) rfl rfl rfl rfl (Nat.le_of_ble_eq_true rfl) (m_gr_d (j := (192 + 8 * g)) (d := μ 95) rfl (by omega) (by omega) (by omega)) ?_
        refine ok_reti eX12_ofGroup_98 rfl ?_
        exact ⟨rfl, _, rfl, hJ⟩
      | 3, ht, h16 =>
        cases ht
        obtain rfl : what = nI 3 := sw_eq (n := 3) (by omega) (by decide)
        refine ok_step (ps := [rf_in (nI g) 16]) (L' := [some (.ref 0), some (.int (nI g)), some (.int (nI 3))]) (st' := [.int (α 14 ((nI g).toNatClampNeg))]) (σ' := (α, μ)) (pc' := 115) kX11_ofGroup_103 rfl rfl (rf_a1 (rf_in_n (a := g) rfl (by omega)) rf_a0) ?_
        try rw [(show (nI g).toNatClampNeg = g from rf_cl_n rfl (by omega))]
        try rw [(show α 14 g = μ 95 (193 + 8 * g) from rl_13 hR (i := g) (by omega) (by omega))]
        refine ok_reti eX11_ofGroup_115 rfl ?_
        refine ⟨rfl, _, rfl, ?_⟩
        refine ok_step (ps := []) (L' := [some (.ref 94), some (.int (nI g)), some (.int (nI 3))]) (st' := [.int (nI g), .ref 94]) (σ' := (α, μ)) (pc' := 2) kX12_ofGroup_0 rfl rfl rf_a0 ?_
        refine ok_V (As := [.int (nI g)]) (b := 94) (st := []) mkX12_isGroup qX12_ofGroup_2 rfl (rc_94) rfl rfl rfl rfl (Nat.le_of_ble_eq_true rfl) (m_isGroup) ?_
        refine ok_if_eq bX12_ofGroup_5 (fun g5 => absurd g5 (h5)) (fun _ => ?_)
        refine ok_step (ps := []) (L' := [some (.ref 94), some (.int (nI g)), some (.int (nI 3))]) (st' := [.long (lN 7), .long (lN 0), .long ((nI 3).toInt64)]) (σ' := (α, μ)) (pc' := 14) kX12_ofGroup_8 rfl rfl rf_a0 ?_
        refine ok_S (As := [.long ((nI 3).toInt64), .long (lN 0), .long (lN 7)]) (st := []) mkX12_in qX12_ofGroup_14 rfl rfl rfl rfl rfl (Nat.le_of_ble_eq_true rfl) (m_in) ?_
        rw [show wl ((nI 3).toInt64) (lN 0) (lN 7) = wi (nI 3) (nI 0) (nI 7) from wl_of rfl (nI_l (by decide)).symm (nI_l (by decide)).symm, show bI (wi (nI 3) (nI 0) (nI 7)) = nI 1 from rfl]
        refine ok_if_ne bX12_ofGroup_17 (fun _ => ?_) (fun g17 => absurd g17 ((by decide)))
        refine ok_step (ps := []) (L' := [some (.ref 94), some (.int (nI g)), some (.int (nI 3))]) (st' := [.int (nI 3)]) (σ' := (α, μ)) (pc' := 27) kX12_ofGroup_26 rfl rfl rf_a0 ?_
        refine ok_td bX12_ofGroup_27 (by omega) ?_
        refine ok_step (ps := []) (L' := [some (.ref 94), some (.int (nI g)), some (.int (nI 3))]) (st' := [.int (nI 3), .int (nI g), .ref 94]) (σ' := (α, μ)) (pc' := 95) kX12_ofGroup_92 rfl rfl rf_a0 ?_
        refine ok_V (As := [.int (nI g), .int (nI 3)]) (b := 94) (st := []) mkX12_gr qX12_ofGroup_95 rfl (rc_94) rfl rfl rfl rfl (Nat.le_of_ble_eq_true rfl) (m_gr_d (j := (193 + 8 * g)) (d := μ 95) rfl (by omega) (by omega) (by omega)) ?_
        refine ok_reti eX12_ofGroup_98 rfl ?_
        exact ⟨rfl, _, rfl, hJ⟩
      | 4, ht, h16 =>
        cases ht
        obtain rfl : what = nI 4 := sw_eq (n := 4) (by omega) (by decide)
        refine ok_step (ps := [rf_in (nI g) 16]) (L' := [some (.ref 0), some (.int (nI g)), some (.int (nI 4))]) (st' := [.int (α 15 ((nI g).toNatClampNeg))]) (σ' := (α, μ)) (pc' := 128) kX11_ofGroup_116 rfl rfl (rf_a1 (rf_in_n (a := g) rfl (by omega)) rf_a0) ?_
        try rw [(show (nI g).toNatClampNeg = g from rf_cl_n rfl (by omega))]
        try rw [(show α 15 g = μ 95 (194 + 8 * g) from rl_14 hR (i := g) (by omega) (by omega))]
        refine ok_reti eX11_ofGroup_128 rfl ?_
        refine ⟨rfl, _, rfl, ?_⟩
        refine ok_step (ps := []) (L' := [some (.ref 94), some (.int (nI g)), some (.int (nI 4))]) (st' := [.int (nI g), .ref 94]) (σ' := (α, μ)) (pc' := 2) kX12_ofGroup_0 rfl rfl rf_a0 ?_
        refine ok_V (As := [.int (nI g)]) (b := 94) (st := []) mkX12_isGroup qX12_ofGroup_2 rfl (rc_94) rfl rfl rfl rfl (Nat.le_of_ble_eq_true rfl) (m_isGroup) ?_
        refine ok_if_eq bX12_ofGroup_5 (fun g5 => absurd g5 (h5)) (fun _ => ?_)
        refine ok_step (ps := []) (L' := [some (.ref 94), some (.int (nI g)), some (.int (nI 4))]) (st' := [.long (lN 7), .long (lN 0), .long ((nI 4).toInt64)]) (σ' := (α, μ)) (pc' := 14) kX12_ofGroup_8 rfl rfl rf_a0 ?_
        refine ok_S (As := [.long ((nI 4).toInt64), .long (lN 0), .long (lN 7)]) (st := []) mkX12_in qX12_ofGroup_14 rfl rfl rfl rfl rfl (Nat.le_of_ble_eq_true rfl) (m_in) ?_
        rw [show wl ((nI 4).toInt64) (lN 0) (lN 7) = wi (nI 4) (nI 0) (nI 7) from wl_of rfl (nI_l (by decide)).symm (nI_l (by decide)).symm, show bI (wi (nI 4) (nI 0) (nI 7)) = nI 1 from rfl]
        refine ok_if_ne bX12_ofGroup_17 (fun _ => ?_) (fun g17 => absurd g17 ((by decide)))
        refine ok_step (ps := []) (L' := [some (.ref 94), some (.int (nI g)), some (.int (nI 4))]) (st' := [.int (nI 4)]) (σ' := (α, μ)) (pc' := 27) kX12_ofGroup_26 rfl rfl rf_a0 ?_
        refine ok_td bX12_ofGroup_27 (by omega) ?_
        refine ok_step (ps := []) (L' := [some (.ref 94), some (.int (nI g)), some (.int (nI 4))]) (st' := [.int (nI 4), .int (nI g), .ref 94]) (σ' := (α, μ)) (pc' := 95) kX12_ofGroup_92 rfl rfl rf_a0 ?_
        refine ok_V (As := [.int (nI g), .int (nI 4)]) (b := 94) (st := []) mkX12_gr qX12_ofGroup_95 rfl (rc_94) rfl rfl rfl rfl (Nat.le_of_ble_eq_true rfl) (m_gr_d (j := (194 + 8 * g)) (d := μ 95) rfl (by omega) (by omega) (by omega)) ?_
        refine ok_reti eX12_ofGroup_98 rfl ?_
        exact ⟨rfl, _, rfl, hJ⟩
      | 5, ht, h16 =>
        cases ht
        obtain rfl : what = nI 5 := sw_eq (n := 5) (by omega) (by decide)
        refine ok_step (ps := []) (L' := [some (.ref 0), some (.int (nI g)), some (.int (nI 5))]) (st' := [.int (nI g), .ref 10]) (σ' := (α, μ)) (pc' := 137) kX11_ofGroup_129 rfl rfl rf_a0 ?_
        have hc137 : rf_At (rf_T Ln xs) MX3_beliefOf 50 0 ([some (.ref 10), some (.int (nI g))], [], 108, (α, μ)) (some (.int (nI (10 * cn (μ 95) (195 + 8 * g) + cn (μ 95) (196 + 8 * g))))) 108 (α, μ) := by
          refine rf_pa ?_
          refine ok_step (ps := [rf_in (nI g) 16, rf_in (nI g) 16]) (L' := [some (.ref 10), some (.int (nI g))]) (st' := [.int (((nI 10) * (α 16 ((nI g).toNatClampNeg))) + (α 17 ((nI g).toNatClampNeg)))]) (σ' := (α, μ)) (pc' := 16) kX3_beliefOf_0 rfl rfl (rf_a1 (rf_in_n (a := g) rfl (by omega)) (rf_a1 (rf_in_n (a := g) rfl (by omega)) rf_a0)) ?_
          try rw [(show (nI g).toNatClampNeg = g from rf_cl_n rfl (by omega))]
          try rw [(show α 16 g = μ 95 (195 + 8 * g) from rl_15 hR (i := g) (by omega) (by omega))]
          try rw [(show ((nI 10) * (μ 95 (195 + 8 * g))) = nI (10 * cn (μ 95) (195 + 8 * g)) from rf_eq (rf_nmul (x := nI 10) (y := μ 95 (195 + 8 * g)) rfl (hI.atb (k := (195 + 8 * g)) (bd_195 (i := g) (by omega) (by omega)) (by decide))) (by omega))]
          try rw [(show (nI g).toNatClampNeg = g from rf_cl_n rfl (by omega))]
          try rw [(show α 17 g = μ 95 (196 + 8 * g) from rl_16 hR (i := g) (by omega) (by omega))]
          try rw [(show ((nI (10 * cn (μ 95) (195 + 8 * g))) + (μ 95 (196 + 8 * g))) = nI (10 * cn (μ 95) (195 + 8 * g) + cn (μ 95) (196 + 8 * g)) from rf_eq (rf_nadd (x := nI (10 * cn (μ 95) (195 + 8 * g))) (y := μ 95 (196 + 8 * g)) rfl (hI.atb (k := (196 + 8 * g)) (bd_196 (i := g) (by omega) (by omega)) (by decide))) (by omega))]
          refine ok_reti eX3_beliefOf_16 rfl ?_
          exact ⟨rfl, rfl⟩
        refine ok_V (As := [.int (nI g)]) (b := 10) (st := []) mkX3_beliefOf qX11_ofGroup_137 rfl (rc_10) rfl rfl rfl rfl (Nat.le_of_ble_eq_true rfl) (hc137) ?_
        refine ok_reti eX11_ofGroup_140 rfl ?_
        refine ⟨rfl, _, rfl, ?_⟩
        refine ok_step (ps := []) (L' := [some (.ref 94), some (.int (nI g)), some (.int (nI 5))]) (st' := [.int (nI g), .ref 94]) (σ' := (α, μ)) (pc' := 2) kX12_ofGroup_0 rfl rfl rf_a0 ?_
        refine ok_V (As := [.int (nI g)]) (b := 94) (st := []) mkX12_isGroup qX12_ofGroup_2 rfl (rc_94) rfl rfl rfl rfl (Nat.le_of_ble_eq_true rfl) (m_isGroup) ?_
        refine ok_if_eq bX12_ofGroup_5 (fun g5 => absurd g5 (h5)) (fun _ => ?_)
        refine ok_step (ps := []) (L' := [some (.ref 94), some (.int (nI g)), some (.int (nI 5))]) (st' := [.long (lN 7), .long (lN 0), .long ((nI 5).toInt64)]) (σ' := (α, μ)) (pc' := 14) kX12_ofGroup_8 rfl rfl rf_a0 ?_
        refine ok_S (As := [.long ((nI 5).toInt64), .long (lN 0), .long (lN 7)]) (st := []) mkX12_in qX12_ofGroup_14 rfl rfl rfl rfl rfl (Nat.le_of_ble_eq_true rfl) (m_in) ?_
        rw [show wl ((nI 5).toInt64) (lN 0) (lN 7) = wi (nI 5) (nI 0) (nI 7) from wl_of rfl (nI_l (by decide)).symm (nI_l (by decide)).symm, show bI (wi (nI 5) (nI 0) (nI 7)) = nI 1 from rfl]
        refine ok_if_ne bX12_ofGroup_17 (fun _ => ?_) (fun g17 => absurd g17 ((by decide)))
        refine ok_step (ps := []) (L' := [some (.ref 94), some (.int (nI g)), some (.int (nI 5))]) (st' := [.int (nI 5)]) (σ' := (α, μ)) (pc' := 27) kX12_ofGroup_26 rfl rfl rf_a0 ?_
        refine ok_tk bX12_ofGroup_27 (i := 0) rfl (by omega) ?_
        refine ok_step (ps := []) (L' := [some (.ref 94), some (.int (nI g)), some (.int (nI 5))]) (st' := [.int (nI 5), .int (nI g), .ref 94, .int (nI 10)]) (σ' := (α, μ)) (pc' := 57) kX12_ofGroup_52 rfl rfl rf_a0 ?_
        refine ok_V (As := [.int (nI g), .int (nI 5)]) (b := 94) (st := [.int (nI 10)]) mkX12_gr qX12_ofGroup_57 rfl (rc_94) rfl rfl rfl rfl (Nat.le_of_ble_eq_true rfl) (m_gr_d (j := (195 + 8 * g)) (d := μ 95) rfl (by omega) (by omega) (by omega)) ?_
        refine ok_step (ps := []) (L' := [some (.ref 94), some (.int (nI g)), some (.int (nI 5))]) (st' := [.int (nI 6), .int (nI g), .ref 94, .int ((nI 10) * (μ 95 (195 + 8 * g)))]) (σ' := (α, μ)) (pc' := 65) kX12_ofGroup_60 rfl rfl rf_a0 ?_
        try rw [(show ((nI 10) * (μ 95 (195 + 8 * g))) = nI (10 * cn (μ 95) (195 + 8 * g)) from rf_eq (rf_nmul (x := nI 10) (y := μ 95 (195 + 8 * g)) rfl (hI.atb (k := (195 + 8 * g)) (bd_195 (i := g) (by omega) (by omega)) (by decide))) (by omega))]
        refine ok_V (As := [.int (nI g), .int (nI 6)]) (b := 94) (st := [.int (nI (10 * cn (μ 95) (195 + 8 * g)))]) mkX12_gr qX12_ofGroup_65 rfl (rc_94) rfl rfl rfl rfl (Nat.le_of_ble_eq_true rfl) (m_gr_d (j := (196 + 8 * g)) (d := μ 95) rfl (by omega) (by omega) (by omega)) ?_
        refine ok_step (ps := []) (L' := [some (.ref 94), some (.int (nI g)), some (.int (nI 5))]) (st' := [.int ((nI (10 * cn (μ 95) (195 + 8 * g))) + (μ 95 (196 + 8 * g)))]) (σ' := (α, μ)) (pc' := 69) kX12_ofGroup_68 rfl rfl rf_a0 ?_
        try rw [(show ((nI (10 * cn (μ 95) (195 + 8 * g))) + (μ 95 (196 + 8 * g))) = nI (10 * cn (μ 95) (195 + 8 * g) + cn (μ 95) (196 + 8 * g)) from rf_eq (rf_nadd (x := nI (10 * cn (μ 95) (195 + 8 * g))) (y := μ 95 (196 + 8 * g)) rfl (hI.atb (k := (196 + 8 * g)) (bd_196 (i := g) (by omega) (by omega)) (by decide))) (by omega))]
        refine ok_reti eX12_ofGroup_69 rfl ?_
        exact ⟨rfl, _, rfl, hJ⟩
      | 6, ht, h16 =>
        cases ht
        obtain rfl : what = nI 6 := sw_eq (n := 6) (by omega) (by decide)
        refine ok_step (ps := [rf_in (nI g) 16]) (L' := [some (.ref 0), some (.int (nI g)), some (.int (nI 6))]) (st' := [.int (α 18 ((nI g).toNatClampNeg))]) (σ' := (α, μ)) (pc' := 153) kX11_ofGroup_141 rfl rfl (rf_a1 (rf_in_n (a := g) rfl (by omega)) rf_a0) ?_
        try rw [(show (nI g).toNatClampNeg = g from rf_cl_n rfl (by omega))]
        try rw [(show α 18 g = μ 95 (197 + 8 * g) from rl_17 hR (i := g) (by omega) (by omega))]
        refine ok_reti eX11_ofGroup_153 rfl ?_
        refine ⟨rfl, _, rfl, ?_⟩
        refine ok_step (ps := []) (L' := [some (.ref 94), some (.int (nI g)), some (.int (nI 6))]) (st' := [.int (nI g), .ref 94]) (σ' := (α, μ)) (pc' := 2) kX12_ofGroup_0 rfl rfl rf_a0 ?_
        refine ok_V (As := [.int (nI g)]) (b := 94) (st := []) mkX12_isGroup qX12_ofGroup_2 rfl (rc_94) rfl rfl rfl rfl (Nat.le_of_ble_eq_true rfl) (m_isGroup) ?_
        refine ok_if_eq bX12_ofGroup_5 (fun g5 => absurd g5 (h5)) (fun _ => ?_)
        refine ok_step (ps := []) (L' := [some (.ref 94), some (.int (nI g)), some (.int (nI 6))]) (st' := [.long (lN 7), .long (lN 0), .long ((nI 6).toInt64)]) (σ' := (α, μ)) (pc' := 14) kX12_ofGroup_8 rfl rfl rf_a0 ?_
        refine ok_S (As := [.long ((nI 6).toInt64), .long (lN 0), .long (lN 7)]) (st := []) mkX12_in qX12_ofGroup_14 rfl rfl rfl rfl rfl (Nat.le_of_ble_eq_true rfl) (m_in) ?_
        rw [show wl ((nI 6).toInt64) (lN 0) (lN 7) = wi (nI 6) (nI 0) (nI 7) from wl_of rfl (nI_l (by decide)).symm (nI_l (by decide)).symm, show bI (wi (nI 6) (nI 0) (nI 7)) = nI 1 from rfl]
        refine ok_if_ne bX12_ofGroup_17 (fun _ => ?_) (fun g17 => absurd g17 ((by decide)))
        refine ok_step (ps := []) (L' := [some (.ref 94), some (.int (nI g)), some (.int (nI 6))]) (st' := [.int (nI 6)]) (σ' := (α, μ)) (pc' := 27) kX12_ofGroup_26 rfl rfl rf_a0 ?_
        refine ok_tk bX12_ofGroup_27 (i := 1) rfl (by omega) ?_
        refine ok_step (ps := []) (L' := [some (.ref 94), some (.int (nI g)), some (.int (nI 6))]) (st' := [.int (nI 7), .int (nI g), .ref 94]) (σ' := (α, μ)) (pc' := 74) kX12_ofGroup_70 rfl rfl rf_a0 ?_
        refine ok_V (As := [.int (nI g), .int (nI 7)]) (b := 94) (st := []) mkX12_gr qX12_ofGroup_74 rfl (rc_94) rfl rfl rfl rfl (Nat.le_of_ble_eq_true rfl) (m_gr_d (j := (197 + 8 * g)) (d := μ 95) rfl (by omega) (by omega) (by omega)) ?_
        refine ok_reti eX12_ofGroup_77 rfl ?_
        exact ⟨rfl, _, rfl, hJ⟩
      | 7, ht, h16 =>
        cases ht
        obtain rfl : what = nI 7 := sw_eq (n := 7) (by omega) (by decide)
        refine ok_step (ps := []) (L' := [some (.ref 0), some (.int (nI g)), some (.int (nI 7))]) (st' := [.int (nI g), .ref 1]) (σ' := (α, μ)) (pc' := 159) kX11_ofGroup_154 rfl rfl rf_a0 ?_
        refine ok_Vx (As := [.int (nI g)]) (b := 1) (st := []) mkX10_paysNow qX11_ofGroup_159 rfl (rc_1) rfl rfl rfl rfl (Nat.le_of_ble_eq_true rfl) (c_now hJ (by omega)) (fun r1 σ1 hq => ?_)
        obtain ⟨rfl, α, rfl, hJ⟩ := qJ hJ hq
        have hR := hJ.1.1.1
        refine ok_if_eq bX11_ofGroup_162 (fun h162 => ?_) (fun h162 => ?_)
        · refine ok_step (ps := []) (L' := [some (.ref 0), some (.int (nI g)), some (.int (nI 7))]) (st' := [.int (nI 0)]) (σ' := (α, μ)) (pc' := 170) kX11_ofGroup_169 rfl rfl rf_a0 ?_
          refine ok_reti eX11_ofGroup_170 rfl ?_
          refine ⟨rfl, _, rfl, ?_⟩
          refine ok_step (ps := []) (L' := [some (.ref 94), some (.int (nI g)), some (.int (nI 7))]) (st' := [.int (nI g), .ref 94]) (σ' := (α, μ)) (pc' := 2) kX12_ofGroup_0 rfl rfl rf_a0 ?_
          refine ok_V (As := [.int (nI g)]) (b := 94) (st := []) mkX12_isGroup qX12_ofGroup_2 rfl (rc_94) rfl rfl rfl rfl (Nat.le_of_ble_eq_true rfl) (m_isGroup) ?_
          refine ok_if_eq bX12_ofGroup_5 (fun g5 => absurd g5 (h5)) (fun _ => ?_)
          refine ok_step (ps := []) (L' := [some (.ref 94), some (.int (nI g)), some (.int (nI 7))]) (st' := [.long (lN 7), .long (lN 0), .long ((nI 7).toInt64)]) (σ' := (α, μ)) (pc' := 14) kX12_ofGroup_8 rfl rfl rf_a0 ?_
          refine ok_S (As := [.long ((nI 7).toInt64), .long (lN 0), .long (lN 7)]) (st := []) mkX12_in qX12_ofGroup_14 rfl rfl rfl rfl rfl (Nat.le_of_ble_eq_true rfl) (m_in) ?_
          rw [show wl ((nI 7).toInt64) (lN 0) (lN 7) = wi (nI 7) (nI 0) (nI 7) from wl_of rfl (nI_l (by decide)).symm (nI_l (by decide)).symm, show bI (wi (nI 7) (nI 0) (nI 7)) = nI 1 from rfl]
          refine ok_if_ne bX12_ofGroup_17 (fun _ => ?_) (fun g17 => absurd g17 ((by decide)))
          refine ok_step (ps := []) (L' := [some (.ref 94), some (.int (nI g)), some (.int (nI 7))]) (st' := [.int (nI 7)]) (σ' := (α, μ)) (pc' := 27) kX12_ofGroup_26 rfl rfl rf_a0 ?_
          refine ok_tk bX12_ofGroup_27 (i := 2) rfl (by omega) ?_
          refine ok_step (ps := []) (L' := [some (.ref 94), some (.int (nI g)), some (.int (nI 7))]) (st' := [.int (nI g), .ref 94]) (σ' := (α, μ)) (pc' := 80) kX12_ofGroup_78 rfl rfl rf_a0 ?_
          refine ok_Vx (As := [.int (nI g)]) (b := 94) (st := []) mkX12_pays qX12_ofGroup_80 rfl (rc_94) rfl rfl rfl rfl (Nat.le_of_ble_eq_true rfl) (m_pays hJ rfl (by omega)) (fun r1 σ1 hq => ?_)
          obtain ⟨rfl, ν, rfl, hJ2, -, -⟩ := hq
          refine ok_if_eq bX12_ofGroup_83 (fun _ => ?_) (fun g83 => absurd (h162) g83)
          refine ok_step (ps := []) (L' := [some (.ref 94), some (.int (nI g)), some (.int (nI 7))]) (st' := [.int (nI 0)]) (σ' := (α, ν)) (pc' := 91) kX12_ofGroup_90 rfl rfl rf_a0 ?_
          refine ok_reti eX12_ofGroup_91 rfl ?_
          exact ⟨rfl, _, rfl, hJ2⟩
        · refine ok_step (ps := []) (L' := [some (.ref 0), some (.int (nI g)), some (.int (nI 7))]) (st' := [.int (nI 1)]) (σ' := (α, μ)) (pc' := 166) kX11_ofGroup_165 rfl rfl rf_a0 ?_
          refine ok_goto bX11_ofGroup_166 ?_
          refine ok_reti eX11_ofGroup_170 rfl ?_
          refine ⟨rfl, _, rfl, ?_⟩
          refine ok_step (ps := []) (L' := [some (.ref 94), some (.int (nI g)), some (.int (nI 7))]) (st' := [.int (nI g), .ref 94]) (σ' := (α, μ)) (pc' := 2) kX12_ofGroup_0 rfl rfl rf_a0 ?_
          refine ok_V (As := [.int (nI g)]) (b := 94) (st := []) mkX12_isGroup qX12_ofGroup_2 rfl (rc_94) rfl rfl rfl rfl (Nat.le_of_ble_eq_true rfl) (m_isGroup) ?_
          refine ok_if_eq bX12_ofGroup_5 (fun g5 => absurd g5 (h5)) (fun _ => ?_)
          refine ok_step (ps := []) (L' := [some (.ref 94), some (.int (nI g)), some (.int (nI 7))]) (st' := [.long (lN 7), .long (lN 0), .long ((nI 7).toInt64)]) (σ' := (α, μ)) (pc' := 14) kX12_ofGroup_8 rfl rfl rf_a0 ?_
          refine ok_S (As := [.long ((nI 7).toInt64), .long (lN 0), .long (lN 7)]) (st := []) mkX12_in qX12_ofGroup_14 rfl rfl rfl rfl rfl (Nat.le_of_ble_eq_true rfl) (m_in) ?_
          rw [show wl ((nI 7).toInt64) (lN 0) (lN 7) = wi (nI 7) (nI 0) (nI 7) from wl_of rfl (nI_l (by decide)).symm (nI_l (by decide)).symm, show bI (wi (nI 7) (nI 0) (nI 7)) = nI 1 from rfl]
          refine ok_if_ne bX12_ofGroup_17 (fun _ => ?_) (fun g17 => absurd g17 ((by decide)))
          refine ok_step (ps := []) (L' := [some (.ref 94), some (.int (nI g)), some (.int (nI 7))]) (st' := [.int (nI 7)]) (σ' := (α, μ)) (pc' := 27) kX12_ofGroup_26 rfl rfl rf_a0 ?_
          refine ok_tk bX12_ofGroup_27 (i := 2) rfl (by omega) ?_
          refine ok_step (ps := []) (L' := [some (.ref 94), some (.int (nI g)), some (.int (nI 7))]) (st' := [.int (nI g), .ref 94]) (σ' := (α, μ)) (pc' := 80) kX12_ofGroup_78 rfl rfl rf_a0 ?_
          refine ok_Vx (As := [.int (nI g)]) (b := 94) (st := []) mkX12_pays qX12_ofGroup_80 rfl (rc_94) rfl rfl rfl rfl (Nat.le_of_ble_eq_true rfl) (m_pays hJ rfl (by omega)) (fun r1 σ1 hq => ?_)
          obtain ⟨rfl, ν, rfl, hJ2, -, -⟩ := hq
          refine ok_if_eq bX12_ofGroup_83 (fun g83 => absurd g83 (h162)) (fun _ => ?_)
          refine ok_step (ps := []) (L' := [some (.ref 94), some (.int (nI g)), some (.int (nI 7))]) (st' := [.int (nI 1)]) (σ' := (α, ν)) (pc' := 87) kX12_ofGroup_86 rfl rfl rf_a0 ?_
          refine ok_goto bX12_ofGroup_87 ?_
          refine ok_reti eX12_ofGroup_91 rfl ?_
          exact ⟨rfl, _, rfl, hJ2⟩
      | i + 8, ht, _ => simp at ht
  · refine ok_step (ps := []) (L' := [some (.ref 0), some (.int group), some (.int what)]) (st' := [.int (-1000000001), .ref 0]) (σ' := (α, μ)) (pc' := 11) kX11_ofGroup_8 rfl rfl rf_a0 ?_
    refine ok_V (As := [.int (-1000000001)]) (b := 0) (st := []) mkX11_error qX11_ofGroup_11 rfl (rc_0) rfl rfl rfl rfl (Nat.le_of_ble_eq_true rfl) (c_error (k := 1) (by decide) (by decide) (by decide)) ?_
    refine ok_reti eX11_ofGroup_14 rfl ?_
    refine ⟨rfl, _, rfl, ?_⟩
    refine ok_step (ps := []) (L' := [some (.ref 94), some (.int group), some (.int what)]) (st' := [.int group, .ref 94]) (σ' := (rf_w α 93 1 (α 93 1 + nI 1), μ)) (pc' := 2) kX12_ofGroup_0 rfl rfl rf_a0 ?_
    refine ok_V (As := [.int group]) (b := 94) (st := []) mkX12_isGroup qX12_ofGroup_2 rfl (rc_94) rfl rfl rfl rfl (Nat.le_of_ble_eq_true rfl) (m_isGroup) ?_
    refine ok_if_eq bX12_ofGroup_5 (fun _ => ?_) (fun g5 => absurd (h5) g5)
    refine ok_step (ps := []) (L' := [some (.ref 94), some (.int group), some (.int what)]) (st' := [.int (nI 1), .ref 94]) (σ' := (rf_w α 93 1 (α 93 1 + nI 1), μ)) (pc' := 22) kX12_ofGroup_20 rfl rfl rf_a0 ?_
    refine ok_V (As := [.int (nI 1)]) (b := 94) (st := []) mkX12_finds qX12_ofGroup_22 rfl (rc_94) rfl rfl rfl rfl (Nat.le_of_ble_eq_true rfl) (m_finds (k := 1) (by decide)) ?_
    refine ok_reti eX12_ofGroup_25 rfl ?_
    exact ⟨rfl, _, rfl, hJ.err (k := 1) (by decide)⟩
theorem op_law {use : Int32} {a : Int32} {b : Int32} {c : Int32} {e : Int32} (hJ : J α μ)  : Op (rf_T Ln xs) MX11_law MX12_law [some (.ref 0), some (.int use), some (.int a), some (.int b), some (.int c), some (.int e)] [some (.ref 94), some (.int use), some (.int a), some (.int b), some (.int c), some (.int e)] α μ := by
  have hR := hJ.1.1.1
  have hI := hJ.2
  have b0 := hI.le0
  have b1 := hI.le1
  have b2 := hI.le2
  have b3 := hI.le3
  have b4 := hI.le4
  have b5 := hI.le5
  have b6 := hI.le6
  have b8 := hI.le8
  have b9 := hI.le9
  have b11 := hI.le11
  have b12 := hI.le12
  refine ok_step (ps := []) (L' := [some (.ref 0), some (.int use), some (.int a), some (.int b), some (.int c), some (.int e)]) (st' := [.int (nI 1), .int (nI 0), .int use]) (σ' := (α, μ)) (pc' := 3) kX11_law_0 rfl rfl rf_a0 ?_
  refine ok_S (As := [.int use, .int (nI 0), .int (nI 1)]) (st := []) mkX11_within qX11_law_3 rfl rfl rfl rfl rfl (Nat.le_of_ble_eq_true rfl) (c_within) ?_
  refine ok_if_ne bX11_law_6 (fun h6 => ?_) (fun h6 => ?_)
  · refine ok_step (ps := []) (L' := [some (.ref 0), some (.int use), some (.int a), some (.int b), some (.int c), some (.int e)]) (st' := [.int use]) (σ' := (α, μ)) (pc' := 17) kX11_law_16 rfl rfl rf_a0 ?_
    refine ok_if_ne bX11_law_17 (fun h17 => ?_) (fun h17 => ?_)
    · obtain rfl : use = nI 1 := wi01' (bI_n0.mp h6) h17
      refine ok_step (ps := []) (L' := [some (.ref 0), some (.int (nI 1)), some (.int a), some (.int b), some (.int c), some (.int e)]) (st' := [.int e, .int c, .int b, .int a, .ref 1]) (σ' := (α, μ)) (pc' := 47) kX11_law_37 rfl rfl rf_a0 ?_
      refine ok_Vx (As := [.int a, .int b, .int c, .int e]) (b := 1) (st := []) mkX10_rule qX11_law_47 rfl (rc_1) rfl rfl rfl rfl (Nat.le_of_ble_eq_true rfl) (c_rule hJ) (fun r1 σ1 hq => ?_)
      obtain ⟨rfl, α, rfl, hJ⟩ := qJ hJ hq
      refine ok_reti eX11_law_50 rfl ?_
      refine ⟨rfl, _, rfl, ?_⟩
      refine ok_step (ps := []) (L' := [some (.ref 94), some (.int (nI 1)), some (.int a), some (.int b), some (.int c), some (.int e)]) (st' := [.long (lN 1), .long (lN 0), .long ((nI 1).toInt64)]) (σ' := (α, μ)) (pc' := 4) kX12_law_0 rfl rfl rf_a0 ?_
      refine ok_S (As := [.long ((nI 1).toInt64), .long (lN 0), .long (lN 1)]) (st := []) mkX12_in qX12_law_4 rfl rfl rfl rfl rfl (Nat.le_of_ble_eq_true rfl) (m_in) ?_
      rw [show wl ((nI 1).toInt64) (lN 0) (lN 1) = wi (nI 1) (nI 0) (nI 1) from wl_of rfl (nI_l (by decide)).symm (nI_l (by decide)).symm, show bI (wi (nI 1) (nI 0) (nI 1)) = nI 1 from rfl]
      refine ok_if_ne bX12_law_7 (fun _ => ?_) (fun g7 => absurd g7 ((by decide)))
      refine ok_step (ps := [rf_in (nI 0) 5, rf_in (nI 1) 5, rf_in (nI 2) 5, rf_in (nI 3) 5, rf_in (nI 4) 5]) (L' := [some (.ref 94), some (.int (nI 1)), some (.int a), some (.int b), some (.int c), some (.int e)]) (st' := [.int (nI 1), .ref 94]) (σ' := (α, rf_w (rf_w (rf_w (rf_w (rf_w μ 98 ((nI 0).toNatClampNeg) a) 98 ((nI 1).toNatClampNeg) b) 98 ((nI 2).toNatClampNeg) c) 98 ((nI 3).toNatClampNeg) e) 98 ((nI 4).toNatClampNeg) (nI 0))) (pc' := 55) kX12_law_16 rfl rfl (rf_a1 (rf_in_n (a := 0) rfl (by omega)) (rf_a1 (rf_in_n (a := 1) rfl (by omega)) (rf_a1 (rf_in_n (a := 2) rfl (by omega)) (rf_a1 (rf_in_n (a := 3) rfl (by omega)) (rf_a1 (rf_in_n (a := 4) rfl (by omega)) rf_a0))))) ?_
      try rw [(show (nI 0).toNatClampNeg = 0 from rf_cl_n rfl (by omega))]
      try rw [(show (nI 1).toNatClampNeg = 1 from rf_cl_n rfl (by omega))]
      try rw [(show (nI 2).toNatClampNeg = 2 from rf_cl_n rfl (by omega))]
      try rw [(show (nI 3).toNatClampNeg = 3 from rf_cl_n rfl (by omega))]
      try rw [(show (nI 4).toNatClampNeg = 4 from rf_cl_n rfl (by omega))]
      have hJ1 := hJ.sB (w5_sB0 (a := a) (b := b) (c := c) (e := e) (f := nI 0))
      refine ok_Vx (As := [.int (nI 1)]) (b := 94) (st := []) mkX12_gives qX12_law_55 rfl (rc_94) rfl rfl rfl rfl (Nat.le_of_ble_eq_true rfl) (m_gives_1 hJ1) (fun r1 σ1 hq => ?_)
      obtain ⟨rfl, ν, rfl, hB⟩ := hq
      have eg := gv_congr (u := 1) (by decide) hJ1.1.1.2.2 (nm' := (rf_w (rf_w (rf_w (rf_w (rf_w μ 98 0 a) 98 1 b) 98 2 c) 98 3 e) 98 4 (nI 0)) 98) (nm := (nm5 a b c e (nI 0))) (fun i hi => wr5 i (by omega))
      have h95 : (rf_w (rf_w (rf_w (rf_w (rf_w μ 98 0 a) 98 1 b) 98 2 c) 98 3 e) 98 4 (nI 0)) 95 = μ 95 := wr5_o (by decide)
      rw [eg, h95]
      refine ok_reti eX12_law_58 rfl ?_
      exact ⟨rfl, _, rfl, hJ.sB (w5_sB hB)⟩
    · obtain rfl : use = nI 0 := h17
      refine ok_step (ps := []) (L' := [some (.ref 0), some (.int (nI 0)), some (.int a), some (.int b), some (.int c), some (.int e)]) (st' := [.int (nI 0), .int e, .int c, .int b, .int a, .ref 1]) (σ' := (α, μ)) (pc' := 31) kX11_law_20 rfl rfl rf_a0 ?_
      refine ok_Vx (As := [.int a, .int b, .int c, .int e, .int (nI 0)]) (b := 1) (st := []) mkX10_weigh qX11_law_31 rfl (rc_1) rfl rfl rfl rfl (Nat.le_of_ble_eq_true rfl) (c_weigh hJ) (fun r1 σ1 hq => ?_)
      obtain ⟨rfl, α, rfl, hJ⟩ := qJ hJ hq
      refine ok_goto bX11_law_34 ?_
      refine ok_reti eX11_law_50 rfl ?_
      refine ⟨rfl, _, rfl, ?_⟩
      refine ok_step (ps := []) (L' := [some (.ref 94), some (.int (nI 0)), some (.int a), some (.int b), some (.int c), some (.int e)]) (st' := [.long (lN 1), .long (lN 0), .long ((nI 0).toInt64)]) (σ' := (α, μ)) (pc' := 4) kX12_law_0 rfl rfl rf_a0 ?_
      refine ok_S (As := [.long ((nI 0).toInt64), .long (lN 0), .long (lN 1)]) (st := []) mkX12_in qX12_law_4 rfl rfl rfl rfl rfl (Nat.le_of_ble_eq_true rfl) (m_in) ?_
      rw [show wl ((nI 0).toInt64) (lN 0) (lN 1) = wi (nI 0) (nI 0) (nI 1) from wl_of rfl (nI_l (by decide)).symm (nI_l (by decide)).symm, show bI (wi (nI 0) (nI 0) (nI 1)) = nI 1 from rfl]
      refine ok_if_ne bX12_law_7 (fun _ => ?_) (fun g7 => absurd g7 ((by decide)))
      refine ok_step (ps := [rf_in (nI 0) 5, rf_in (nI 1) 5, rf_in (nI 2) 5, rf_in (nI 3) 5, rf_in (nI 4) 5]) (L' := [some (.ref 94), some (.int (nI 0)), some (.int a), some (.int b), some (.int c), some (.int e)]) (st' := [.int (nI 0), .ref 94]) (σ' := (α, rf_w (rf_w (rf_w (rf_w (rf_w μ 98 ((nI 0).toNatClampNeg) a) 98 ((nI 1).toNatClampNeg) b) 98 ((nI 2).toNatClampNeg) c) 98 ((nI 3).toNatClampNeg) e) 98 ((nI 4).toNatClampNeg) (nI 0))) (pc' := 55) kX12_law_16 rfl rfl (rf_a1 (rf_in_n (a := 0) rfl (by omega)) (rf_a1 (rf_in_n (a := 1) rfl (by omega)) (rf_a1 (rf_in_n (a := 2) rfl (by omega)) (rf_a1 (rf_in_n (a := 3) rfl (by omega)) (rf_a1 (rf_in_n (a := 4) rfl (by omega)) rf_a0))))) ?_
      try rw [(show (nI 0).toNatClampNeg = 0 from rf_cl_n rfl (by omega))]
      try rw [(show (nI 1).toNatClampNeg = 1 from rf_cl_n rfl (by omega))]
      try rw [(show (nI 2).toNatClampNeg = 2 from rf_cl_n rfl (by omega))]
      try rw [(show (nI 3).toNatClampNeg = 3 from rf_cl_n rfl (by omega))]
      try rw [(show (nI 4).toNatClampNeg = 4 from rf_cl_n rfl (by omega))]
      have hJ1 := hJ.sB (w5_sB0 (a := a) (b := b) (c := c) (e := e) (f := nI 0))
      refine ok_Vx (As := [.int (nI 0)]) (b := 94) (st := []) mkX12_gives qX12_law_55 rfl (rc_94) rfl rfl rfl rfl (Nat.le_of_ble_eq_true rfl) (m_gives_0 hJ1) (fun r1 σ1 hq => ?_)
      obtain ⟨rfl, ν, rfl, hB⟩ := hq
      have eg := gv_congr (u := 0) (by decide) hJ1.1.1.2.1 (nm' := (rf_w (rf_w (rf_w (rf_w (rf_w μ 98 0 a) 98 1 b) 98 2 c) 98 3 e) 98 4 (nI 0)) 98) (nm := (nm5 a b c e (nI 0))) (fun i hi => wr5 i (by omega))
      have h95 : (rf_w (rf_w (rf_w (rf_w (rf_w μ 98 0 a) 98 1 b) 98 2 c) 98 3 e) 98 4 (nI 0)) 95 = μ 95 := wr5_o (by decide)
      rw [eg, h95]
      refine ok_reti eX12_law_58 rfl ?_
      exact ⟨rfl, _, rfl, hJ.sB (w5_sB hB)⟩
  · refine ok_step (ps := []) (L' := [some (.ref 0), some (.int use), some (.int a), some (.int b), some (.int c), some (.int e)]) (st' := [.int (-1000000001), .ref 0]) (σ' := (α, μ)) (pc' := 12) kX11_law_9 rfl rfl rf_a0 ?_
    refine ok_V (As := [.int (-1000000001)]) (b := 0) (st := []) mkX11_error qX11_law_12 rfl (rc_0) rfl rfl rfl rfl (Nat.le_of_ble_eq_true rfl) (c_error (k := 1) (by decide) (by decide) (by decide)) ?_
    refine ok_reti eX11_law_15 rfl ?_
    refine ⟨rfl, _, rfl, ?_⟩
    refine ok_step (ps := []) (L' := [some (.ref 94), some (.int use), some (.int a), some (.int b), some (.int c), some (.int e)]) (st' := [.long (lN 1), .long (lN 0), .long use.toInt64]) (σ' := (rf_w α 93 1 (α 93 1 + nI 1), μ)) (pc' := 4) kX12_law_0 rfl rfl rf_a0 ?_
    refine ok_S (As := [.long use.toInt64, .long (lN 0), .long (lN 1)]) (st := []) mkX12_in qX12_law_4 rfl rfl rfl rfl rfl (Nat.le_of_ble_eq_true rfl) (m_in) ?_
    rw [show wl use.toInt64 (lN 0) (lN 1) = wi use (nI 0) (nI 1) from wl_of rfl (nI_l (by decide)).symm (nI_l (by decide)).symm]
    refine ok_if_ne bX12_law_7 (fun g7 => absurd (h6) g7) (fun _ => ?_)
    refine ok_step (ps := []) (L' := [some (.ref 94), some (.int use), some (.int a), some (.int b), some (.int c), some (.int e)]) (st' := [.int (nI 1), .ref 94]) (σ' := (rf_w α 93 1 (α 93 1 + nI 1), μ)) (pc' := 12) kX12_law_10 rfl rfl rf_a0 ?_
    refine ok_V (As := [.int (nI 1)]) (b := 94) (st := []) mkX12_finds qX12_law_12 rfl (rc_94) rfl rfl rfl rfl (Nat.le_of_ble_eq_true rfl) (m_finds (k := 1) (by decide)) ?_
    refine ok_reti eX12_law_15 rfl ?_
    exact ⟨rfl, _, rfl, hJ.err (k := 1) (by decide)⟩
theorem c_su_l {set : Int32}  : ∀ (j i : Nat) (α : Nat → Nat → Int32), J α μ → i + j = cn (μ 95) 4 → rf_Ok (rf_T Ln xs) MX10_sumUnpaid 8 4 [some (.ref 1), some (.int set), some (.int (sumI (f_tell (μ 95) set) i)), some (.int (nI i)), none] [] (α, μ) (fun r s => r = some (.int (sumI (f_tell (μ 95) set) (cn (μ 95) 4))) ∧ ∃ α' : Nat → Nat → Int32, s = (α', μ) ∧ J α' μ) := by
  intro j
  induction j with
  | zero =>
    intro i α hJ hj
    have hR := hJ.1.1.1
    have hI := hJ.2
    have b0 := hI.le0
    have b2 := hI.le2
    have b3 := hI.le3
    have b4 := hI.le4
    have b5 := hI.le5
    have b8 := hI.le8
    have b9 := hI.le9
    have hj : i = cn (μ 95) 4 := by omega
    refine ok_step (ps := []) (L' := [some (.ref 1), some (.int set), some (.int (sumI (f_tell (μ 95) set) i)), some (.int (nI i)), none]) (st' := [.int (α 10 0), .int (nI i)]) (σ' := (α, μ)) (pc' := 12) kX10_sumUnpaid_4 rfl rfl rf_a0 ?_
    try rw [(show α 10 0 = μ 95 4 from hR 9 0 4 rfl)]
    refine ok_icmp_ge bX10_sumUnpaid_12 (fun _ => ?_) (fun h12 => absurd (le_of hI.at4 (by omega) (by omega)) h12)
    refine ok_step (ps := []) (L' := [some (.ref 1), some (.int set), some (.int (sumI (f_tell (μ 95) set) i)), some (.int (nI i)), none]) (st' := [.int (sumI (f_tell (μ 95) set) i)]) (σ' := (α, μ)) (pc' := 83) kX10_sumUnpaid_82 rfl rfl rf_a0 ?_
    refine ok_reti eX10_sumUnpaid_83 rfl ?_
    exact ⟨by rw [hj], _, rfl, hJ⟩
  | succ j ih =>
    intro i α hJ hj
    have hR := hJ.1.1.1
    have hI := hJ.2
    have b0 := hI.le0
    have b2 := hI.le2
    have b3 := hI.le3
    have b4 := hI.le4
    have b5 := hI.le5
    have b8 := hI.le8
    have b9 := hI.le9
    refine ok_step (ps := []) (L' := [some (.ref 1), some (.int set), some (.int (sumI (f_tell (μ 95) set) i)), some (.int (nI i)), none]) (st' := [.int (α 10 0), .int (nI i)]) (σ' := (α, μ)) (pc' := 12) kX10_sumUnpaid_4 rfl rfl rf_a0 ?_
    try rw [(show α 10 0 = μ 95 4 from hR 9 0 4 rfl)]
    refine ok_icmp_ge bX10_sumUnpaid_12 (fun h12 => absurd h12 (nle_of hI.at4 (by omega) (by omega))) (fun _ => ?_)
    refine ok_step (ps := [rf_in (nI i) 16]) (L' := [some (.ref 1), some (.int set), some (.int (sumI (f_tell (μ 95) set) i)), some (.int (nI i)), none]) (st' := [.int (nI 3), .int (α 11 ((nI i).toNatClampNeg))]) (σ' := (α, μ)) (pc' := 25) kX10_sumUnpaid_15 rfl rfl (rf_a1 (rf_in_n (a := i) rfl (by omega)) rf_a0) ?_
    try rw [(show (nI i).toNatClampNeg = i from rf_cl_n rfl (by omega))]
    try rw [(show α 11 i = μ 95 (190 + 8 * i) from rl_10 hR (i := i) (by omega) (by omega))]
    refine ok_icmp_ne bX10_sumUnpaid_25 (fun h25 => ?_) (fun h25 => ?_)
    · refine ok_step (ps := []) (L' := [some (.ref 1), some (.int set), some (.int (sumI (f_tell (μ 95) set) i)), some (.int (nI i)), none]) (st' := [.int (nI 0)]) (σ' := (α, μ)) (pc' := 49) kX10_sumUnpaid_48 rfl rfl rf_a0 ?_
      refine ok_step (ps := []) (L' := [some (.ref 1), some (.int set), some (.int (sumI (f_tell (μ 95) set) i)), some (.int (nI i)), some (.int (nI 0))]) (st' := [.int (nI 0)]) (σ' := (α, μ)) (pc' := 53) kX10_sumUnpaid_49 rfl rfl rf_a0 ?_
      refine ok_if_ne bX10_sumUnpaid_53 (fun h53 => absurd ((by decide)) h53) (fun _ => ?_)
      refine ok_step (ps := []) (L' := [some (.ref 1), some (.int set), some (.int (sumI (f_tell (μ 95) set) i)), some (.int (nI i)), some (.int (nI 0))]) (st' := [.int (nI i), .ref 1]) (σ' := (α, μ)) (pc' := 58) kX10_sumUnpaid_56 rfl rfl rf_a0 ?_
      refine ok_Vx (As := [.int (nI i)]) (b := 1) (st := []) mkX10_paysNow qX10_sumUnpaid_58 rfl (rc_1) rfl rfl rfl rfl (Nat.le_of_ble_eq_true rfl) (c_now hJ (by omega)) (fun r1 σ1 hq => ?_)
      obtain ⟨rfl, α, rfl, hJ⟩ := qJ hJ hq
      have hR := hJ.1.1.1
      refine ok_if_ne bX10_sumUnpaid_61 (fun h61 => ?_) (fun h61 => ?_)
      · refine ok_step (ps := []) (L' := [some (.ref 1), some (.int set), some (.int (sumI (f_tell (μ 95) set) i)), some (.int ((nI i) + (nI 1))), some (.int (nI 0))]) (st' := []) (σ' := (α, μ)) (pc' := 79) kX10_sumUnpaid_76 rfl rfl rf_a0 ?_
        try rw [(show ((nI i) + (nI 1)) = nI (i + 1) from nI_add _ _)]
        refine ok_goto bX10_sumUnpaid_79 ?_
        rw [show sumI (f_tell (μ 95) set) i = sumI (f_tell (μ 95) set) (i + 1) from sI_0 (by simp [f_tell, h25, bI_n0.mp h61])]
        refine ok_kill (x := 4) ?_
        exact ih (i + 1) α hJ (by omega)
      · refine ok_step (ps := [rf_in (nI i) 16]) (L' := [some (.ref 1), some (.int set), some (.int ((sumI (f_tell (μ 95) set) i) + (α 15 ((nI i).toNatClampNeg)))), some (.int (nI i)), some (.int (nI 0))]) (st' := []) (σ' := (α, μ)) (pc' := 76) kX10_sumUnpaid_64 rfl rfl (rf_a1 (rf_in_n (a := i) rfl (by omega)) rf_a0) ?_
        try rw [(show (nI i).toNatClampNeg = i from rf_cl_n rfl (by omega))]
        try rw [(show α 15 i = μ 95 (194 + 8 * i) from rl_14 hR (i := i) (by omega) (by omega))]
        refine ok_step (ps := []) (L' := [some (.ref 1), some (.int set), some (.int ((sumI (f_tell (μ 95) set) i) + (μ 95 (194 + 8 * i)))), some (.int ((nI i) + (nI 1))), some (.int (nI 0))]) (st' := []) (σ' := (α, μ)) (pc' := 79) kX10_sumUnpaid_76 rfl rfl rf_a0 ?_
        try rw [(show ((nI i) + (nI 1)) = nI (i + 1) from nI_add _ _)]
        refine ok_goto bX10_sumUnpaid_79 ?_
        rw [show (sumI (f_tell (μ 95) set) i) + (μ 95 (194 + 8 * i)) = sumI (f_tell (μ 95) set) (i + 1) from sI_1 (by simp [f_tell, h25, bI_0.mp h61])]
        refine ok_kill (x := 4) ?_
        exact ih (i + 1) α hJ (by omega)
    · refine ok_step (ps := [rf_in (nI i) 16]) (L' := [some (.ref 1), some (.int set), some (.int (sumI (f_tell (μ 95) set) i)), some (.int (nI i)), none]) (st' := [.int (α 12 ((nI i).toNatClampNeg)), .int set]) (σ' := (α, μ)) (pc' := 38) kX10_sumUnpaid_28 rfl rfl (rf_a1 (rf_in_n (a := i) rfl (by omega)) rf_a0) ?_
      try rw [(show (nI i).toNatClampNeg = i from rf_cl_n rfl (by omega))]
      try rw [(show α 12 i = μ 95 (191 + 8 * i) from rl_11 hR (i := i) (by omega) (by omega))]
      refine ok_S (As := [.int set, .int (μ 95 (191 + 8 * i))]) (st := []) mkX11_has qX10_sumUnpaid_38 rfl rfl rfl rfl rfl (Nat.le_of_ble_eq_true rfl) (c_has) ?_
      refine ok_if_eq bX10_sumUnpaid_41 (fun h41 => ?_) (fun h41 => ?_)
      · refine ok_step (ps := []) (L' := [some (.ref 1), some (.int set), some (.int (sumI (f_tell (μ 95) set) i)), some (.int (nI i)), none]) (st' := [.int (nI 0)]) (σ' := (α, μ)) (pc' := 49) kX10_sumUnpaid_48 rfl rfl rf_a0 ?_
        refine ok_step (ps := []) (L' := [some (.ref 1), some (.int set), some (.int (sumI (f_tell (μ 95) set) i)), some (.int (nI i)), some (.int (nI 0))]) (st' := [.int (nI 0)]) (σ' := (α, μ)) (pc' := 53) kX10_sumUnpaid_49 rfl rfl rf_a0 ?_
        refine ok_if_ne bX10_sumUnpaid_53 (fun h53 => absurd ((by decide)) h53) (fun _ => ?_)
        refine ok_step (ps := []) (L' := [some (.ref 1), some (.int set), some (.int (sumI (f_tell (μ 95) set) i)), some (.int (nI i)), some (.int (nI 0))]) (st' := [.int (nI i), .ref 1]) (σ' := (α, μ)) (pc' := 58) kX10_sumUnpaid_56 rfl rfl rf_a0 ?_
        refine ok_Vx (As := [.int (nI i)]) (b := 1) (st := []) mkX10_paysNow qX10_sumUnpaid_58 rfl (rc_1) rfl rfl rfl rfl (Nat.le_of_ble_eq_true rfl) (c_now hJ (by omega)) (fun r1 σ1 hq => ?_)
        obtain ⟨rfl, α, rfl, hJ⟩ := qJ hJ hq
        have hR := hJ.1.1.1
        refine ok_if_ne bX10_sumUnpaid_61 (fun h61 => ?_) (fun h61 => ?_)
        · refine ok_step (ps := []) (L' := [some (.ref 1), some (.int set), some (.int (sumI (f_tell (μ 95) set) i)), some (.int ((nI i) + (nI 1))), some (.int (nI 0))]) (st' := []) (σ' := (α, μ)) (pc' := 79) kX10_sumUnpaid_76 rfl rfl rf_a0 ?_
          try rw [(show ((nI i) + (nI 1)) = nI (i + 1) from nI_add _ _)]
          refine ok_goto bX10_sumUnpaid_79 ?_
          rw [show sumI (f_tell (μ 95) set) i = sumI (f_tell (μ 95) set) (i + 1) from sI_0 (by simp [f_tell, h25, bI_0.mp h41, bI_n0.mp h61])]
          refine ok_kill (x := 4) ?_
          exact ih (i + 1) α hJ (by omega)
        · refine ok_step (ps := [rf_in (nI i) 16]) (L' := [some (.ref 1), some (.int set), some (.int ((sumI (f_tell (μ 95) set) i) + (α 15 ((nI i).toNatClampNeg)))), some (.int (nI i)), some (.int (nI 0))]) (st' := []) (σ' := (α, μ)) (pc' := 76) kX10_sumUnpaid_64 rfl rfl (rf_a1 (rf_in_n (a := i) rfl (by omega)) rf_a0) ?_
          try rw [(show (nI i).toNatClampNeg = i from rf_cl_n rfl (by omega))]
          try rw [(show α 15 i = μ 95 (194 + 8 * i) from rl_14 hR (i := i) (by omega) (by omega))]
          refine ok_step (ps := []) (L' := [some (.ref 1), some (.int set), some (.int ((sumI (f_tell (μ 95) set) i) + (μ 95 (194 + 8 * i)))), some (.int ((nI i) + (nI 1))), some (.int (nI 0))]) (st' := []) (σ' := (α, μ)) (pc' := 79) kX10_sumUnpaid_76 rfl rfl rf_a0 ?_
          try rw [(show ((nI i) + (nI 1)) = nI (i + 1) from nI_add _ _)]
          refine ok_goto bX10_sumUnpaid_79 ?_
          rw [show (sumI (f_tell (μ 95) set) i) + (μ 95 (194 + 8 * i)) = sumI (f_tell (μ 95) set) (i + 1) from sI_1 (by simp [f_tell, h25, bI_0.mp h41, bI_0.mp h61])]
          refine ok_kill (x := 4) ?_
          exact ih (i + 1) α hJ (by omega)
      · refine ok_step (ps := []) (L' := [some (.ref 1), some (.int set), some (.int (sumI (f_tell (μ 95) set) i)), some (.int (nI i)), none]) (st' := [.int (nI 1)]) (σ' := (α, μ)) (pc' := 45) kX10_sumUnpaid_44 rfl rfl rf_a0 ?_
        refine ok_goto bX10_sumUnpaid_45 ?_
        refine ok_step (ps := []) (L' := [some (.ref 1), some (.int set), some (.int (sumI (f_tell (μ 95) set) i)), some (.int (nI i)), some (.int (nI 1))]) (st' := [.int (nI 1)]) (σ' := (α, μ)) (pc' := 53) kX10_sumUnpaid_49 rfl rfl rf_a0 ?_
        refine ok_if_ne bX10_sumUnpaid_53 (fun _ => ?_) (fun h53 => absurd h53 ((by decide)))
        refine ok_step (ps := []) (L' := [some (.ref 1), some (.int set), some (.int (sumI (f_tell (μ 95) set) i)), some (.int ((nI i) + (nI 1))), some (.int (nI 1))]) (st' := []) (σ' := (α, μ)) (pc' := 79) kX10_sumUnpaid_76 rfl rfl rf_a0 ?_
        try rw [(show ((nI i) + (nI 1)) = nI (i + 1) from nI_add _ _)]
        refine ok_goto bX10_sumUnpaid_79 ?_
        rw [show sumI (f_tell (μ 95) set) i = sumI (f_tell (μ 95) set) (i + 1) from sI_0 (by simp [f_tell, h25, bI_n0.mp h41])]
        refine ok_kill (x := 4) ?_
        exact ih (i + 1) α hJ (by omega)
theorem c_su {set : Int32} (hJ : J α μ) : rf_Ok (rf_T Ln xs) MX10_sumUnpaid 8 0 [some (.ref 1), some (.int set), none, none, none] [] (α, μ) (fun r s => r = some (.int (sumI (f_tell (μ 95) set) (cn (μ 95) 4))) ∧ ∃ α' : Nat → Nat → Int32, s = (α', μ) ∧ J α' μ) := by
  refine ok_step (ps := []) (L' := [some (.ref 1), some (.int set), some (.int (nI 0)), some (.int (nI 0)), none]) (st' := []) (σ' := (α, μ)) (pc' := 4) kX10_sumUnpaid_0 rfl rfl rf_a0 ?_
  exact c_su_l (cn (μ 95) 4) 0 α hJ (by omega)
theorem m_ub_l {fine : Int32}  : ∀ (j i : Nat) (ν : Nat → Nat → Int32), J α ν → ν 95 = d → i + j = cn d 4 → rf_Ok (rf_T Ln xs) MX12_unpaidBy 50 10 [some (.ref 94), some (.int fine), some (.int (sumI (f_unp d fine) i)), some (.int (s_all d)), some (.int (nI i))] [] (γ, ν) (fun r s => r = some (.int (sumI (f_unp d fine) (cn d 4))) ∧ ∃ ν' : Nat → Nat → Int32, s = (γ, ν') ∧ J α ν' ∧ ν' 95 = d) := by
  intro j
  induction j with
  | zero =>
    intro i ν hJ hd hj
    have hI : Iv d := by rw [← hd]; exact hJ.2
    have b0 := hI.le0
    have b2 := hI.le2
    have b3 := hI.le3
    have b4 := hI.le4
    have b5 := hI.le5
    have b8 := hI.le8
    have b9 := hI.le9
    have hj : i = cn d 4 := by omega
    refine ok_step (ps := [rf_in (nI 4) 700]) (L' := [some (.ref 94), some (.int fine), some (.int (sumI (f_unp d fine) i)), some (.int (s_all d)), some (.int (nI i))]) (st' := [.int (ν 95 ((nI 4).toNatClampNeg)), .int (nI i)]) (σ' := (γ, ν)) (pc' := 18) kX12_unpaidBy_10 rfl rfl (rf_a1 (rf_in_n (a := 4) rfl (by omega)) rf_a0) ?_
    try rw [(show (nI 4).toNatClampNeg = 4 from rf_cl_n rfl (by omega))]
    try rw [(show ν 95 4 = d 4 from congrFun hd _)]
    refine ok_icmp_ge bX12_unpaidBy_18 (fun _ => ?_) (fun h18 => absurd (le_of hI.at4 (by omega) (by omega)) h18)
    refine ok_step (ps := []) (L' := [some (.ref 94), some (.int fine), some (.int (sumI (f_unp d fine) i)), some (.int (s_all d)), some (.int (nI i))]) (st' := [.int (sumI (f_unp d fine) i)]) (σ' := (γ, ν)) (pc' := 64) kX12_unpaidBy_63 rfl rfl rf_a0 ?_
    refine ok_reti eX12_unpaidBy_64 rfl ?_
    exact ⟨by rw [hj], _, rfl, hJ, hd⟩
  | succ j ih =>
    intro i ν hJ hd hj
    have hI : Iv d := by rw [← hd]; exact hJ.2
    have b0 := hI.le0
    have b2 := hI.le2
    have b3 := hI.le3
    have b4 := hI.le4
    have b5 := hI.le5
    have b8 := hI.le8
    have b9 := hI.le9
    refine ok_step (ps := [rf_in (nI 4) 700]) (L' := [some (.ref 94), some (.int fine), some (.int (sumI (f_unp d fine) i)), some (.int (s_all d)), some (.int (nI i))]) (st' := [.int (ν 95 ((nI 4).toNatClampNeg)), .int (nI i)]) (σ' := (γ, ν)) (pc' := 18) kX12_unpaidBy_10 rfl rfl (rf_a1 (rf_in_n (a := 4) rfl (by omega)) rf_a0) ?_
    try rw [(show (nI 4).toNatClampNeg = 4 from rf_cl_n rfl (by omega))]
    try rw [(show ν 95 4 = d 4 from congrFun hd _)]
    refine ok_icmp_ge bX12_unpaidBy_18 (fun h18 => absurd h18 (nle_of hI.at4 (by omega) (by omega))) (fun _ => ?_)
    refine ok_step (ps := []) (L' := [some (.ref 94), some (.int fine), some (.int (sumI (f_unp d fine) i)), some (.int (s_all d)), some (.int (nI i))]) (st' := [.int (nI 1), .int (nI i), .ref 94, .ref 94, .int (nI i), .ref 94, .int (sumI (f_unp d fine) i)]) (σ' := (γ, ν)) (pc' := 30) kX12_unpaidBy_21 rfl rfl rf_a0 ?_
    refine ok_V (As := [.int (nI i), .int (nI 1)]) (b := 94) (st := [.ref 94, .int (nI i), .ref 94, .int (sumI (f_unp d fine) i)]) mkX12_gr qX12_unpaidBy_30 rfl (rc_94) rfl rfl rfl rfl (Nat.le_of_ble_eq_true rfl) (m_gr_d (j := (191 + 8 * i)) hd (by omega) (by omega) (by omega)) ?_
    refine ok_V (As := [.int (d (191 + 8 * i))]) (b := 94) (st := [.int (nI i), .ref 94, .int (sumI (f_unp d fine) i)]) mkX12_lotsWith qX12_unpaidBy_33 rfl (rc_94) rfl rfl rfl rfl (Nat.le_of_ble_eq_true rfl) (m_with_d hI hd) ?_
    refine ok_step (ps := []) (L' := [some (.ref 94), some (.int fine), some (.int (sumI (f_unp d fine) i)), some (.int (s_all d)), some (.int (nI i))]) (st' := [.int fine, .int (s_all d), .int (s_with d (d (191 + 8 * i))), .int (nI i), .ref 94, .int (sumI (f_unp d fine) i)]) (σ' := (γ, ν)) (pc' := 38) kX12_unpaidBy_36 rfl rfl rf_a0 ?_
    refine ok_Vx (As := [.int (nI i), .int (s_with d (d (191 + 8 * i))), .int (s_all d), .int fine]) (b := 94) (st := [.int (sumI (f_unp d fine) i)]) mkX12_paysBy qX12_unpaidBy_38 rfl (rc_94) rfl rfl rfl rfl (Nat.le_of_ble_eq_true rfl) (m_payB hJ hd (by omega)) (fun r1 σ1 hq => ?_)
    obtain ⟨rfl, ν, rfl, hJ, hd, -⟩ := hq
    refine ok_if_eq bX12_unpaidBy_41 (fun h41 => ?_) (fun h41 => ?_)
    · refine ok_step (ps := []) (L' := [some (.ref 94), some (.int fine), some (.int (sumI (f_unp d fine) i)), some (.int (s_all d)), some (.int (nI i))]) (st' := [.int (nI 4), .int (nI i), .ref 94, .int (sumI (f_unp d fine) i)]) (σ' := (γ, ν)) (pc' := 52) kX12_unpaidBy_48 rfl rfl rf_a0 ?_
      refine ok_V (As := [.int (nI i), .int (nI 4)]) (b := 94) (st := [.int (sumI (f_unp d fine) i)]) mkX12_gr qX12_unpaidBy_52 rfl (rc_94) rfl rfl rfl rfl (Nat.le_of_ble_eq_true rfl) (m_gr_d (j := (194 + 8 * i)) hd (by omega) (by omega) (by omega)) ?_
      refine ok_step (ps := []) (L' := [some (.ref 94), some (.int fine), some (.int ((sumI (f_unp d fine) i) + (d (194 + 8 * i)))), some (.int (s_all d)), some (.int ((nI i) + (nI 1)))]) (st' := []) (σ' := (γ, ν)) (pc' := 60) kX12_unpaidBy_55 rfl rfl rf_a0 ?_
      try rw [(show ((nI i) + (nI 1)) = nI (i + 1) from nI_add _ _)]
      refine ok_goto bX12_unpaidBy_60 ?_
      rw [show (sumI (f_unp d fine) i) + (d (194 + 8 * i)) = sumI (f_unp d fine) (i + 1) from sI_1 (by simp [f_unp, nI_0, bI_0.mp h41])]
      exact ih (i + 1) ν hJ hd (by omega)
    · refine ok_step (ps := []) (L' := [some (.ref 94), some (.int fine), some (.int (sumI (f_unp d fine) i)), some (.int (s_all d)), some (.int (nI i))]) (st' := [.int (nI 0), .int (sumI (f_unp d fine) i)]) (σ' := (γ, ν)) (pc' := 45) kX12_unpaidBy_44 rfl rfl rf_a0 ?_
      refine ok_goto bX12_unpaidBy_45 ?_
      refine ok_step (ps := []) (L' := [some (.ref 94), some (.int fine), some (.int ((sumI (f_unp d fine) i) + (nI 0))), some (.int (s_all d)), some (.int ((nI i) + (nI 1)))]) (st' := []) (σ' := (γ, ν)) (pc' := 60) kX12_unpaidBy_55 rfl rfl rf_a0 ?_
      try rw [(show ((nI i) + (nI 1)) = nI (i + 1) from nI_add _ _)]
      refine ok_goto bX12_unpaidBy_60 ?_
      rw [show (sumI (f_unp d fine) i) + (nI 0) = sumI (f_unp d fine) (i + 1) from sI_1 (by simp [f_unp, nI_0, bI_n0.mp h41])]
      exact ih (i + 1) ν hJ hd (by omega)
theorem m_ub {fine : Int32} (hJ : J α ν) (hd : ν 95 = d) : rf_Ok (rf_T Ln xs) MX12_unpaidBy 50 0 [some (.ref 94), some (.int fine), none, none, none] [] (γ, ν) (fun r s => r = some (.int (sumI (f_unp d fine) (cn d 4))) ∧ ∃ ν' : Nat → Nat → Int32, s = (γ, ν') ∧ J α ν' ∧ ν' 95 = d) := by
  have hI : Iv d := by rw [← hd]; exact hJ.2
  refine ok_step (ps := []) (L' := [some (.ref 94), some (.int fine), some (.int (nI 0)), none, none]) (st' := [.ref 94]) (σ' := (γ, ν)) (pc' := 3) kX12_unpaidBy_0 rfl rfl rf_a0 ?_
  refine ok_V (As := []) (b := 94) (st := []) mkX12_allLots qX12_unpaidBy_3 rfl (rc_94) rfl rfl rfl rfl (Nat.le_of_ble_eq_true rfl) (m_all_d hI hd) ?_
  refine ok_step (ps := []) (L' := [some (.ref 94), some (.int fine), some (.int (nI 0)), some (.int (s_all d)), some (.int (nI 0))]) (st' := []) (σ' := (γ, ν)) (pc' := 10) kX12_unpaidBy_6 rfl rfl rf_a0 ?_
  exact m_ub_l (cn d 4) 0 ν hJ hd (by omega)
theorem op_unpaid (hJ : J α μ)  : Op (rf_T Ln xs) MX11_unpaid MX12_unpaid [some (.ref 0)] [some (.ref 94)] α μ := by
  have hR := hJ.1.1.1
  have hI := hJ.2
  have b0 := hI.le0
  have b1 := hI.le1
  have b2 := hI.le2
  have b3 := hI.le3
  have b4 := hI.le4
  have b5 := hI.le5
  have b6 := hI.le6
  have b8 := hI.le8
  have b9 := hI.le9
  have b11 := hI.le11
  have b12 := hI.le12
  refine ok_step (ps := []) (L' := [some (.ref 0)]) (st' := [.int (nI 0), .ref 1]) (σ' := (α, μ)) (pc' := 5) kX11_unpaid_0 rfl rfl rf_a0 ?_
  refine ok_Vx (As := [.int (nI 0)]) (b := 1) (st := []) mkX10_sumUnpaid qX11_unpaid_5 rfl (rc_1) rfl rfl rfl rfl (Nat.le_of_ble_eq_true rfl) (c_su hJ) (fun r1 σ1 hq => ?_)
  obtain ⟨rfl, α, rfl, hJ⟩ := hq
  refine ok_reti eX11_unpaid_8 rfl ?_
  refine ⟨rfl, _, rfl, ?_⟩
  refine ok_step (ps := [rf_in (nI 9) 700]) (L' := [some (.ref 94)]) (st' := [.int (μ 95 ((nI 9).toNatClampNeg)), .ref 94]) (σ' := (α, μ)) (pc' := 8) kX12_unpaid_0 rfl rfl (rf_a1 (rf_in_n (a := 9) rfl (by omega)) rf_a0) ?_
  try rw [(show (nI 9).toNatClampNeg = 9 from rf_cl_n rfl (by omega))]
  refine ok_Vx (As := [.int (μ 95 9)]) (b := 94) (st := []) mkX12_unpaidBy qX12_unpaid_8 rfl (rc_94) rfl rfl rfl rfl (Nat.le_of_ble_eq_true rfl) (m_ub hJ rfl) (fun r1 σ1 hq => ?_)
  obtain ⟨rfl, ν, rfl, hJ2, -⟩ := hq
  refine ok_reti eX12_unpaid_11 rfl ?_
  exact ⟨by rw [unp_tell], _, rfl, hJ2⟩
end H46
