theorem all_0 {d : Nat → Int32} (hI : Iv d) : s_all d = 0 ↔ nA d = 0 := by
  have := nA_le hI
  rw [all_n hI]
  exact ⟨fun h => nI_inj (b := 0) h (by omega) (by omega), fun h => by rw [h]; rfl⟩
/-- the first of the next j DAYS, from n on, by which a TRAIN is seen so often; 0: none -/
def sn (b m : Int64) (x : Int32) : Nat → Int64 → Int64 → Nat → Nat
  | 0, _, _, _ => 0
  | j + 1, p, q, n => if lg_cmp (lN 100 * (p * b - q * m)) (x.toInt64 * (p * b)) < 0 then sn b m x j (p * b) (q * m) (n + 1) else n
def snI (n : Nat) : Int32 := if n = 0 then (-1) else nI n
theorem sn_le {b m : Int64} {x : Int32} : ∀ {j : Nat} {p q : Int64} {n : Nat}, sn b m x j p q n ≤ n + j
  | 0, _, _, _ => by unfold sn; omega
  | j + 1, p, q, n => by
    unfold sn
    split
    · have := sn_le (b := b) (m := m) (x := x) (j := j) (p := p * b) (q := q * m) (n := n + 1)
      omega
    · omega
theorem snI_ge {n : Nat} (hn : n < 100) : (0 : Int32) ≤ snI n ↔ n ≠ 0 := by
  unfold snI
  by_cases h : n = 0
  · rw [if_pos h]
    exact ⟨fun h1 => absurd h1 (by decide), fun h1 => absurd h h1⟩
  · rw [if_neg h]
    exact ⟨fun _ => h, fun _ => nI_le (a := 0) (by omega) (by omega)⟩
theorem below_0 {d : Nat → Int32} (hI : Iv d) (h : s_all d = 0) : lN 1 = (rf_max (s_all d) (nI 1)).toInt64 := by
  rw [below_n hI, show nB d = 1 from if_pos ((all_0 hI).mp h), nI_l (by decide)]
theorem below_1 {d : Nat → Int32} (hI : Iv d) (h : ¬ s_all d = 0) : (s_all d).toInt64 = (rf_max (s_all d) (nI 1)).toInt64 := by
  rw [below_n hI, show nB d = nA d from if_neg (fun e => h ((all_0 hI).mpr e)), all_n hI]
section H33
variable {Ln : Nat} {xs : Nat → Int32} {α μ : Nat → Nat → Int32}
theorem op_odds {train : Int32} {part : Int32} (hJ : J α μ)  : Op (rf_T Ln xs) MX11_odds MX12_odds [some (.ref 0), some (.int train), some (.int part)] [some (.ref 94), some (.int train), some (.int part), none] α μ := by
  have hR := hJ.1.1.1
  have hI := hJ.2
  have b0 := hI.le0
  have b1 := hI.le1
  have b2 := hI.le2
  have b3 := hI.le3
  have b4 := hI.le4
  have b5 := hI.le5
  have b6 := hI.le6
  have b8 := hI.le8
  have b9 := hI.le9
  have b11 := hI.le11
  have b12 := hI.le12
  have hA := nA_le hI
  have hB := nB_le hI
  have hB1 := nB_pos (d := μ 95)
  refine ok_step (ps := []) (L' := [some (.ref 0), some (.int train), some (.int part)]) (st' := [.int train, .ref 0]) (σ' := (α, μ)) (pc' := 2) kX11_odds_0 rfl rfl rf_a0 ?_
  refine ok_V (As := [.int train]) (b := 0) (st := []) mkX11_isTrain qX11_odds_2 rfl (rc_0) rfl rfl rfl rfl (Nat.le_of_ble_eq_true rfl) (c_isTrain hR) ?_
  refine ok_if_eq bX11_odds_5 (fun h5 => ?_) (fun h5 => ?_)
  · refine ok_step (ps := []) (L' := [some (.ref 0), some (.int train), some (.int part)]) (st' := [.int (-1000000001), .ref 0]) (σ' := (α, μ)) (pc' := 20) kX11_odds_17 rfl rfl rf_a0 ?_
    refine ok_V (As := [.int (-1000000001)]) (b := 0) (st := []) mkX11_error qX11_odds_20 rfl (rc_0) rfl rfl rfl rfl (Nat.le_of_ble_eq_true rfl) (c_error (k := 1) (by decide) (by decide) (by decide)) ?_
    refine ok_reti eX11_odds_23 rfl ?_
    refine ⟨rfl, _, rfl, ?_⟩
    refine ok_step (ps := []) (L' := [some (.ref 94), some (.int train), some (.int part), none]) (st' := [.int train, .ref 94]) (σ' := (rf_w α 93 1 (α 93 1 + nI 1), μ)) (pc' := 2) kX12_odds_0 rfl rfl rf_a0 ?_
    refine ok_V (As := [.int train]) (b := 94) (st := []) mkX12_isTrain qX12_odds_2 rfl (rc_94) rfl rfl rfl rfl (Nat.le_of_ble_eq_true rfl) (m_isTrain) ?_
    refine ok_if_eq bX12_odds_5 (fun _ => ?_) (fun g5 => absurd (h5) g5)
    refine ok_step (ps := []) (L' := [some (.ref 94), some (.int train), some (.int part), none]) (st' := [.int (nI 1), .ref 94]) (σ' := (rf_w α 93 1 (α 93 1 + nI 1), μ)) (pc' := 20) kX12_odds_18 rfl rfl rf_a0 ?_
    refine ok_V (As := [.int (nI 1)]) (b := 94) (st := []) mkX12_finds qX12_odds_20 rfl (rc_94) rfl rfl rfl rfl (Nat.le_of_ble_eq_true rfl) (m_finds (k := 1) (by decide)) ?_
    refine ok_reti eX12_odds_23 rfl ?_
    exact ⟨rfl, _, rfl, hJ.err (k := 1) (by decide)⟩
  · obtain ⟨t, ht, rfl⟩ := wi_lt (bI_n0.mp h5) hI.at3 (by omega)
    have hw := nW_le (d := μ 95) t
    refine ok_step (ps := []) (L' := [some (.ref 0), some (.int (nI t)), some (.int part)]) (st' := [.int (nI 1), .int (nI 0), .int part]) (σ' := (α, μ)) (pc' := 11) kX11_odds_8 rfl rfl rf_a0 ?_
    refine ok_S (As := [.int part, .int (nI 0), .int (nI 1)]) (st := []) mkX11_within qX11_odds_11 rfl rfl rfl rfl rfl (Nat.le_of_ble_eq_true rfl) (c_within) ?_
    refine ok_if_ne bX11_odds_14 (fun h14 => ?_) (fun h14 => ?_)
    · refine ok_step (ps := []) (L' := [some (.ref 0), some (.int (nI t)), some (.int part)]) (st' := [.int (nI t), .ref 19]) (σ' := (α, μ)) (pc' := 32) kX11_odds_24 rfl rfl rf_a0 ?_
      refine ok_V (As := [.int (nI t)]) (b := 19) (st := []) mkX7_lotsWith qX11_odds_32 rfl (rc_19) rfl rfl rfl rfl (Nat.le_of_ble_eq_true rfl) (c_with hR hI) ?_
      refine ok_step (ps := []) (L' := [some (.ref 0), some (.int (nI t)), some (.int part)]) (st' := [.ref 19, .long ((s_with (μ 95) (nI t)).toInt64)]) (σ' := (α, μ)) (pc' := 43) kX11_odds_35 rfl rfl rf_a0 ?_
      refine ok_V (As := []) (b := 19) (st := [.long ((s_with (μ 95) (nI t)).toInt64)]) mkX7_below qX11_odds_43 rfl (rc_19) rfl rfl rfl rfl (Nat.le_of_ble_eq_true rfl) (c_below hR hI) ?_
      refine ok_step (ps := []) (L' := [some (.ref 0), some (.int (nI t)), some (.int part)]) (st' := [.int part, .long ((rf_max (s_all (μ 95)) (nI 1)).toInt64), .long ((s_with (μ 95) (nI t)).toInt64)]) (σ' := (α, μ)) (pc' := 48) kX11_odds_46 rfl rfl rf_a0 ?_
      rw [show (s_with (μ 95) (nI t)).toInt64 = lN (nW (μ 95) t) from by rw [with_n hI, nI_l (by omega)]]
      rw [show (rf_max (s_all (μ 95)) (nI 1)).toInt64 = lN (nB (μ 95)) from by rw [below_n hI, nI_l (by omega)]]
      refine ok_S (As := [.long (lN (nW (μ 95) t)), .long (lN (nB (μ 95))), .int part]) (st := []) mkX11_lowest qX11_odds_48 rfl rfl rfl rfl rfl (Nat.le_of_ble_eq_true rfl) (c_low (a0 := (nW (μ 95) t)) (b0 := (nB (μ 95))) (by omega) (by omega) (by omega) (by omega)) ?_
      refine ok_step (ps := []) (L' := [some (.ref 0), some (.int (nI t)), some (.int part)]) (st' := [.int ((lN ((if part = 0 then (nW (μ 95) t) else (nB (μ 95))) / Nat.gcd (nW (μ 95) t) (nB (μ 95)))).toInt32)]) (σ' := (α, μ)) (pc' := 52) kX11_odds_51 rfl rfl rf_a0 ?_
      refine ok_reti eX11_odds_52 rfl ?_
      refine ⟨rfl, _, rfl, ?_⟩
      refine ok_step (ps := []) (L' := [some (.ref 94), some (.int (nI t)), some (.int part), none]) (st' := [.int (nI t), .ref 94]) (σ' := (α, μ)) (pc' := 2) kX12_odds_0 rfl rfl rf_a0 ?_
      refine ok_V (As := [.int (nI t)]) (b := 94) (st := []) mkX12_isTrain qX12_odds_2 rfl (rc_94) rfl rfl rfl rfl (Nat.le_of_ble_eq_true rfl) (m_isTrain) ?_
      refine ok_if_eq bX12_odds_5 (fun g5 => absurd g5 (h5)) (fun _ => ?_)
      refine ok_step (ps := []) (L' := [some (.ref 94), some (.int (nI t)), some (.int part), none]) (st' := [.long (lN 1), .long (lN 0), .long part.toInt64]) (σ' := (α, μ)) (pc' := 12) kX12_odds_8 rfl rfl rf_a0 ?_
      refine ok_S (As := [.long part.toInt64, .long (lN 0), .long (lN 1)]) (st := []) mkX12_in qX12_odds_12 rfl rfl rfl rfl rfl (Nat.le_of_ble_eq_true rfl) (m_in) ?_
      rw [show wl part.toInt64 (lN 0) (lN 1) = wi part (nI 0) (nI 1) from wl_of rfl (nI_l (by decide)).symm (nI_l (by decide)).symm]
      refine ok_if_ne bX12_odds_15 (fun _ => ?_) (fun g15 => absurd g15 (h14))
      refine ok_step (ps := []) (L' := [some (.ref 94), some (.int (nI t)), some (.int part), none]) (st' := [.ref 94]) (σ' := (α, μ)) (pc' := 25) kX12_odds_24 rfl rfl rf_a0 ?_
      refine ok_V (As := []) (b := 94) (st := []) mkX12_allLots qX12_odds_25 rfl (rc_94) rfl rfl rfl rfl (Nat.le_of_ble_eq_true rfl) (m_all hI) ?_
      refine ok_step (ps := []) (L' := [some (.ref 94), some (.int (nI t)), some (.int part), some (.int (s_all (μ 95)))]) (st' := [.int (s_all (μ 95))]) (σ' := (α, μ)) (pc' := 30) kX12_odds_28 rfl rfl rf_a0 ?_
      refine ok_if_ne bX12_odds_30 (fun g30 => ?_) (fun g30 => ?_)
      · have g0 : nA (μ 95) ≠ 0 := fun e => g30 ((all_0 hI).mpr e)
        refine ok_step (ps := []) (L' := [some (.ref 94), some (.int (nI t)), some (.int part), some (.int (s_all (μ 95)))]) (st' := [.int (nI t), .ref 94]) (σ' := (α, μ)) (pc' := 39) kX12_odds_37 rfl rfl rf_a0 ?_
        refine ok_V (As := [.int (nI t)]) (b := 94) (st := []) mkX12_lotsWith qX12_odds_39 rfl (rc_94) rfl rfl rfl rfl (Nat.le_of_ble_eq_true rfl) (m_with hI) ?_
        refine ok_step (ps := []) (L' := [some (.ref 94), some (.int (nI t)), some (.int part), some (.int (s_all (μ 95)))]) (st' := [.long ((s_with (μ 95) (nI t)).toInt64)]) (σ' := (α, μ)) (pc' := 43) kX12_odds_42 rfl rfl rf_a0 ?_
        refine ok_step (ps := []) (L' := [some (.ref 94), some (.int (nI t)), some (.int part), some (.int (s_all (μ 95)))]) (st' := [.int (s_all (μ 95)), .long ((s_with (μ 95) (nI t)).toInt64)]) (σ' := (α, μ)) (pc' := 44) kX12_odds_43 rfl rfl rf_a0 ?_
        refine ok_if_ne bX12_odds_44 (fun _ => ?_) (fun g44 => absurd g44 (g30))
        refine ok_step (ps := []) (L' := [some (.ref 94), some (.int (nI t)), some (.int part), some (.int (s_all (μ 95)))]) (st' := [.long ((s_all (μ 95)).toInt64), .long ((s_with (μ 95) (nI t)).toInt64)]) (σ' := (α, μ)) (pc' := 53) kX12_odds_51 rfl rfl rf_a0 ?_
        refine ok_step (ps := []) (L' := [some (.ref 94), some (.int (nI t)), some (.int part), some (.int (s_all (μ 95)))]) (st' := [.int part, .long ((s_all (μ 95)).toInt64), .long ((s_with (μ 95) (nI t)).toInt64)]) (σ' := (α, μ)) (pc' := 54) kX12_odds_53 rfl rfl rf_a0 ?_
        rw [show (s_with (μ 95) (nI t)).toInt64 = lN (nW (μ 95) t) from by rw [with_n hI, nI_l (by omega)]]
        rw [show (s_all (μ 95)).toInt64 = lN (nA (μ 95)) from by rw [all_n hI, nI_l (by omega)]]
        refine ok_S (As := [.long (lN (nW (μ 95) t)), .long (lN (nA (μ 95))), .int part]) (st := []) mkX12_part qX12_odds_54 rfl rfl rfl rfl rfl (Nat.le_of_ble_eq_true rfl) (m_part (a0 := (nW (μ 95) t)) (b0 := (nA (μ 95))) (by omega) (by omega) (by omega)) ?_
        refine ok_step (ps := []) (L' := [some (.ref 94), some (.int (nI t)), some (.int part), some (.int (s_all (μ 95)))]) (st' := [.int ((lN ((if part = 0 then (nW (μ 95) t) else (nA (μ 95))) / Nat.gcd (nW (μ 95) t) (nA (μ 95)))).toInt32)]) (σ' := (α, μ)) (pc' := 58) kX12_odds_57 rfl rfl rf_a0 ?_
        refine ok_reti eX12_odds_58 rfl ?_
        refine ⟨?_, _, rfl, hJ⟩
        rw [show nB (μ 95) = nA (μ 95) from if_neg (fun e => g30 ((all_0 hI).mpr e))]
      · refine ok_step (ps := []) (L' := [some (.ref 94), some (.int (nI t)), some (.int part), some (.int (s_all (μ 95)))]) (st' := [.long (lN 0)]) (σ' := (α, μ)) (pc' := 34) kX12_odds_33 rfl rfl rf_a0 ?_
        refine ok_goto bX12_odds_34 ?_
        refine ok_step (ps := []) (L' := [some (.ref 94), some (.int (nI t)), some (.int part), some (.int (s_all (μ 95)))]) (st' := [.int (s_all (μ 95)), .long (lN 0)]) (σ' := (α, μ)) (pc' := 44) kX12_odds_43 rfl rfl rf_a0 ?_
        refine ok_if_ne bX12_odds_44 (fun g44 => absurd (g30) g44) (fun _ => ?_)
        refine ok_step (ps := []) (L' := [some (.ref 94), some (.int (nI t)), some (.int part), some (.int (s_all (μ 95)))]) (st' := [.long (lN 1), .long (lN 0)]) (σ' := (α, μ)) (pc' := 48) kX12_odds_47 rfl rfl rf_a0 ?_
        refine ok_goto bX12_odds_48 ?_
        refine ok_step (ps := []) (L' := [some (.ref 94), some (.int (nI t)), some (.int part), some (.int (s_all (μ 95)))]) (st' := [.int part, .long (lN 1), .long (lN 0)]) (σ' := (α, μ)) (pc' := 54) kX12_odds_53 rfl rfl rf_a0 ?_
        refine ok_S (As := [.long (lN 0), .long (lN 1), .int part]) (st := []) mkX12_part qX12_odds_54 rfl rfl rfl rfl rfl (Nat.le_of_ble_eq_true rfl) (m_part (a0 := 0) (b0 := 1) (by omega) (by omega) (by omega)) ?_
        refine ok_step (ps := []) (L' := [some (.ref 94), some (.int (nI t)), some (.int part), some (.int (s_all (μ 95)))]) (st' := [.int ((lN ((if part = 0 then 0 else 1) / Nat.gcd 0 1)).toInt32)]) (σ' := (α, μ)) (pc' := 58) kX12_odds_57 rfl rfl rf_a0 ?_
        refine ok_reti eX12_odds_58 rfl ?_
        have e0 := (all_0 hI).mp g30
        refine ⟨?_, _, rfl, hJ⟩
        rw [show nB (μ 95) = 1 from if_pos e0, show nW (μ 95) t = 0 from by omega]
    · refine ok_step (ps := []) (L' := [some (.ref 0), some (.int (nI t)), some (.int part)]) (st' := [.int (-1000000001), .ref 0]) (σ' := (α, μ)) (pc' := 20) kX11_odds_17 rfl rfl rf_a0 ?_
      refine ok_V (As := [.int (-1000000001)]) (b := 0) (st := []) mkX11_error qX11_odds_20 rfl (rc_0) rfl rfl rfl rfl (Nat.le_of_ble_eq_true rfl) (c_error (k := 1) (by decide) (by decide) (by decide)) ?_
      refine ok_reti eX11_odds_23 rfl ?_
      refine ⟨rfl, _, rfl, ?_⟩
      refine ok_step (ps := []) (L' := [some (.ref 94), some (.int (nI t)), some (.int part), none]) (st' := [.int (nI t), .ref 94]) (σ' := (rf_w α 93 1 (α 93 1 + nI 1), μ)) (pc' := 2) kX12_odds_0 rfl rfl rf_a0 ?_
      refine ok_V (As := [.int (nI t)]) (b := 94) (st := []) mkX12_isTrain qX12_odds_2 rfl (rc_94) rfl rfl rfl rfl (Nat.le_of_ble_eq_true rfl) (m_isTrain) ?_
      refine ok_if_eq bX12_odds_5 (fun g5 => absurd g5 (h5)) (fun _ => ?_)
      refine ok_step (ps := []) (L' := [some (.ref 94), some (.int (nI t)), some (.int part), none]) (st' := [.long (lN 1), .long (lN 0), .long part.toInt64]) (σ' := (rf_w α 93 1 (α 93 1 + nI 1), μ)) (pc' := 12) kX12_odds_8 rfl rfl rf_a0 ?_
      refine ok_S (As := [.long part.toInt64, .long (lN 0), .long (lN 1)]) (st := []) mkX12_in qX12_odds_12 rfl rfl rfl rfl rfl (Nat.le_of_ble_eq_true rfl) (m_in) ?_
      rw [show wl part.toInt64 (lN 0) (lN 1) = wi part (nI 0) (nI 1) from wl_of rfl (nI_l (by decide)).symm (nI_l (by decide)).symm]
      refine ok_if_ne bX12_odds_15 (fun g15 => absurd (h14) g15) (fun _ => ?_)
      refine ok_step (ps := []) (L' := [some (.ref 94), some (.int (nI t)), some (.int part), none]) (st' := [.int (nI 1), .ref 94]) (σ' := (rf_w α 93 1 (α 93 1 + nI 1), μ)) (pc' := 20) kX12_odds_18 rfl rfl rf_a0 ?_
      refine ok_V (As := [.int (nI 1)]) (b := 94) (st := []) mkX12_finds qX12_odds_20 rfl (rc_94) rfl rfl rfl rfl (Nat.le_of_ble_eq_true rfl) (m_finds (k := 1) (by decide)) ?_
      refine ok_reti eX12_odds_23 rfl ?_
      exact ⟨rfl, _, rfl, hJ.err (k := 1) (by decide)⟩
theorem c_sn_l {b m : Int64} {t x : Int32} : ∀ (j i : Nat) (p q : Int64), i + j = 9 → 1 ≤ i → rf_Ok (rf_T Ln xs) MX7_daysTillSeen 3 25 [some (.ref 19), some (.int t), some (.int x), some (.long b), none, some (.long m), none, some (.long p), none, some (.long q), none, some (.int (nI i))] [] (α, μ) (fun r s => r = some (.int (snI (sn b m x j p q i))) ∧ s = (α, μ)) := by
  intro j
  induction j with
  | zero =>
    intro i p q hj hi
    refine ok_step (ps := []) (L' := [some (.ref 19), some (.int t), some (.int x), some (.long b), none, some (.long m), none, some (.long p), none, some (.long q), none, some (.int (nI i))]) (st' := [.int (nI 8), .int (nI i)]) (σ' := (α, μ)) (pc' := 29) kX7_daysTillSeen_25 rfl rfl rf_a0 ?_
    refine ok_icmp_gt bX7_daysTillSeen_29 (fun _ => ?_) (fun h29 => absurd (nI_lt (by omega) (by omega)) h29)
    refine ok_step (ps := []) (L' := [some (.ref 19), some (.int t), some (.int x), some (.long b), none, some (.long m), none, some (.long p), none, some (.long q), none, some (.int (nI i))]) (st' := [.int (-1)]) (σ' := (α, μ)) (pc' := 73) kX7_daysTillSeen_72 rfl rfl rf_a0 ?_
    refine ok_reti eX7_daysTillSeen_73 rfl ?_
    exact ⟨rfl, rfl⟩
  | succ j ih =>
    intro i p q hj hi
    refine ok_step (ps := []) (L' := [some (.ref 19), some (.int t), some (.int x), some (.long b), none, some (.long m), none, some (.long p), none, some (.long q), none, some (.int (nI i))]) (st' := [.int (nI 8), .int (nI i)]) (σ' := (α, μ)) (pc' := 29) kX7_daysTillSeen_25 rfl rfl rf_a0 ?_
    refine ok_icmp_gt bX7_daysTillSeen_29 (fun h29 => absurd h29 (nI_nlt (by omega) (by omega))) (fun _ => ?_)
    refine ok_step (ps := []) (L' := [some (.ref 19), some (.int t), some (.int x), some (.long b), none, some (.long m), none, some (.long (p * b)), none, some (.long (q * m)), none, some (.int (nI i))]) (st' := [.int (lg_cmp ((lN 100) * ((p * b) - (q * m))) (x.toInt64 * (p * b)))]) (σ' := (α, μ)) (pc' := 60) kX7_daysTillSeen_32 rfl rfl rf_a0 ?_
    refine ok_if_lt bX7_daysTillSeen_60 (fun h60 => ?_) (fun h60 => ?_)
    · refine ok_step (ps := []) (L' := [some (.ref 19), some (.int t), some (.int x), some (.long b), none, some (.long m), none, some (.long (p * b)), none, some (.long (q * m)), none, some (.int ((nI i) + (nI 1)))]) (st' := []) (σ' := (α, μ)) (pc' := 69) kX7_daysTillSeen_66 rfl rfl rf_a0 ?_
      try rw [(show ((nI i) + (nI 1)) = nI (i + 1) from nI_add _ _)]
      refine ok_goto bX7_daysTillSeen_69 ?_
      rw [show sn b m x (j + 1) p q i = sn b m x j (p * b) (q * m) (i + 1) from by rw [sn, if_pos h60]]
      exact ih (i + 1) (p * b) (q * m) (by omega) (by omega)
    · refine ok_step (ps := []) (L' := [some (.ref 19), some (.int t), some (.int x), some (.long b), none, some (.long m), none, some (.long (p * b)), none, some (.long (q * m)), none, some (.int (nI i))]) (st' := [.int (nI i)]) (σ' := (α, μ)) (pc' := 65) kX7_daysTillSeen_63 rfl rfl rf_a0 ?_
      refine ok_reti eX7_daysTillSeen_65 rfl ?_
      exact ⟨by rw [sn, if_neg h60, snI, if_neg (by omega)], rfl⟩
theorem c_sn {t x : Int32} (hR : Rl 1 α (μ 95)) (hI : Iv (μ 95)) : rf_At (rf_T Ln xs) MX7_daysTillSeen 3 0 ([some (.ref 19), some (.int t), some (.int x), none, none, none, none, none, none, none, none, none], [], 108, (α, μ)) (some (.int (snI (sn ((rf_max (s_all (μ 95)) (nI 1)).toInt64) ((rf_max (s_all (μ 95)) (nI 1)).toInt64 - (s_with (μ 95) t).toInt64) x 8 (lN 1) (lN 1) 1)))) 108 (α, μ) := by
  refine rf_pa ?_
  refine ok_step (ps := []) (L' := [some (.ref 19), some (.int t), some (.int x), none, none, none, none, none, none, none, none, none]) (st' := [.ref 19]) (σ' := (α, μ)) (pc' := 1) kX7_daysTillSeen_0 rfl rfl rf_a0 ?_
  refine ok_V (As := []) (b := 19) (st := []) mkX7_below qX7_daysTillSeen_1 rfl (rc_19) rfl rfl rfl rfl (Nat.le_of_ble_eq_true rfl) (c_below hR hI) ?_
  refine ok_step (ps := []) (L' := [some (.ref 19), some (.int t), some (.int x), some (.long ((rf_max (s_all (μ 95)) (nI 1)).toInt64)), none, none, none, none, none, none, none, none]) (st' := [.int t, .ref 19, .long ((rf_max (s_all (μ 95)) (nI 1)).toInt64)]) (σ' := (α, μ)) (pc' := 9) kX7_daysTillSeen_4 rfl rfl rf_a0 ?_
  refine ok_V (As := [.int t]) (b := 19) (st := [.long ((rf_max (s_all (μ 95)) (nI 1)).toInt64)]) mkX7_lotsWith qX7_daysTillSeen_9 rfl (rc_19) rfl rfl rfl rfl (Nat.le_of_ble_eq_true rfl) (c_with hR hI) ?_
  refine ok_step (ps := []) (L' := [some (.ref 19), some (.int t), some (.int x), some (.long ((rf_max (s_all (μ 95)) (nI 1)).toInt64)), none, some (.long (((rf_max (s_all (μ 95)) (nI 1)).toInt64) - ((s_with (μ 95) t).toInt64))), none, some (.long (lN 1)), none, some (.long (lN 1)), none, some (.int (nI 1))]) (st' := []) (σ' := (α, μ)) (pc' := 25) kX7_daysTillSeen_12 rfl rfl rf_a0 ?_
  exact c_sn_l 8 1 (lN 1) (lN 1) (by omega) (by omega)
theorem m_sn_l {b m : Int64} {t x : Int32} {Q : Option Value → rf_Mem → Prop} : ∀ (j i : Nat) (p q : Int64), i + j = 9 → 1 ≤ i → (sn b m x j p q i ≠ 0 → Q (some (.int (nI (sn b m x j p q i)))) (α, μ)) → (sn b m x j p q i = 0 → Q (some (.int ((-1000000000) - nI 2))) (α, rf_w μ 97 2 (μ 97 2 + nI 1))) → rf_Ok (rf_T Ln xs) MX12_seen 60 62 [some (.ref 94), some (.int t), some (.int x), some (.long b), none, some (.long m), none, some (.long p), none, some (.long q), none, some (.int (nI i))] [] (α, μ) Q := by
  intro j
  induction j with
  | zero =>
    intro i p q hj hi q1 q0
    refine ok_step (ps := []) (L' := [some (.ref 94), some (.int t), some (.int x), some (.long b), none, some (.long m), none, some (.long p), none, some (.long q), none, some (.int (nI i))]) (st' := [.int (nI 8), .int (nI i)]) (σ' := (α, μ)) (pc' := 66) kX12_seen_62 rfl rfl rf_a0 ?_
    refine ok_icmp_gt bX12_seen_66 (fun _ => ?_) (fun h66 => absurd (nI_lt (by omega) (by omega)) h66)
    refine ok_step (ps := []) (L' := [some (.ref 94), some (.int t), some (.int x), some (.long b), none, some (.long m), none, some (.long p), none, some (.long q), none, some (.int (nI i))]) (st' := [.int (nI 2), .ref 94]) (σ' := (α, μ)) (pc' := 111) kX12_seen_109 rfl rfl rf_a0 ?_
    refine ok_V (As := [.int (nI 2)]) (b := 94) (st := []) mkX12_finds qX12_seen_111 rfl (rc_94) rfl rfl rfl rfl (Nat.le_of_ble_eq_true rfl) (m_finds (k := 2) (by decide)) ?_
    refine ok_reti eX12_seen_114 rfl ?_
    exact q0 rfl
  | succ j ih =>
    intro i p q hj hi q1 q0
    refine ok_step (ps := []) (L' := [some (.ref 94), some (.int t), some (.int x), some (.long b), none, some (.long m), none, some (.long p), none, some (.long q), none, some (.int (nI i))]) (st' := [.int (nI 8), .int (nI i)]) (σ' := (α, μ)) (pc' := 66) kX12_seen_62 rfl rfl rf_a0 ?_
    refine ok_icmp_gt bX12_seen_66 (fun h66 => absurd h66 (nI_nlt (by omega) (by omega))) (fun _ => ?_)
    refine ok_step (ps := []) (L' := [some (.ref 94), some (.int t), some (.int x), some (.long b), none, some (.long m), none, some (.long (p * b)), none, some (.long (q * m)), none, some (.int (nI i))]) (st' := [.int (lg_cmp ((lN 100) * ((p * b) - (q * m))) (x.toInt64 * (p * b)))]) (σ' := (α, μ)) (pc' := 97) kX12_seen_69 rfl rfl rf_a0 ?_
    refine ok_if_lt bX12_seen_97 (fun h97 => ?_) (fun h97 => ?_)
    · refine ok_step (ps := []) (L' := [some (.ref 94), some (.int t), some (.int x), some (.long b), none, some (.long m), none, some (.long (p * b)), none, some (.long (q * m)), none, some (.int ((nI i) + (nI 1)))]) (st' := []) (σ' := (α, μ)) (pc' := 106) kX12_seen_103 rfl rfl rf_a0 ?_
      try rw [(show ((nI i) + (nI 1)) = nI (i + 1) from nI_add _ _)]
      refine ok_goto bX12_seen_106 ?_
      rw [show sn b m x (j + 1) p q i = sn b m x j (p * b) (q * m) (i + 1) from by rw [sn, if_pos h97]] at q1 q0
      exact ih (i + 1) (p * b) (q * m) (by omega) (by omega) q1 q0
    · refine ok_step (ps := []) (L' := [some (.ref 94), some (.int t), some (.int x), some (.long b), none, some (.long m), none, some (.long (p * b)), none, some (.long (q * m)), none, some (.int (nI i))]) (st' := [.int (nI i)]) (σ' := (α, μ)) (pc' := 102) kX12_seen_100 rfl rfl rf_a0 ?_
      refine ok_reti eX12_seen_102 rfl ?_
      rw [show sn b m x (j + 1) p q i = i from by rw [sn, if_neg h97]] at q1
      exact q1 (by omega)
theorem op_seen {train : Int32} {x : Int32} (hJ : J α μ)  : Op (rf_T Ln xs) MX11_seen MX12_seen [some (.ref 0), some (.int train), some (.int x), none] [some (.ref 94), some (.int train), some (.int x), none, none, none, none, none, none, none, none, none] α μ := by
  have hR := hJ.1.1.1
  have hI := hJ.2
  have b0 := hI.le0
  have b1 := hI.le1
  have b2 := hI.le2
  have b3 := hI.le3
  have b4 := hI.le4
  have b5 := hI.le5
  have b6 := hI.le6
  have b8 := hI.le8
  have b9 := hI.le9
  have b11 := hI.le11
  have b12 := hI.le12
  refine ok_step (ps := []) (L' := [some (.ref 0), some (.int train), some (.int x), none]) (st' := [.int train, .ref 0]) (σ' := (α, μ)) (pc' := 2) kX11_seen_0 rfl rfl rf_a0 ?_
  refine ok_V (As := [.int train]) (b := 0) (st := []) mkX11_isTrain qX11_seen_2 rfl (rc_0) rfl rfl rfl rfl (Nat.le_of_ble_eq_true rfl) (c_isTrain hR) ?_
  refine ok_if_eq bX11_seen_5 (fun h5 => ?_) (fun h5 => ?_)
  · refine ok_step (ps := []) (L' := [some (.ref 0), some (.int train), some (.int x), none]) (st' := [.int (-1000000001), .ref 0]) (σ' := (α, μ)) (pc' := 21) kX11_seen_18 rfl rfl rf_a0 ?_
    refine ok_V (As := [.int (-1000000001)]) (b := 0) (st := []) mkX11_error qX11_seen_21 rfl (rc_0) rfl rfl rfl rfl (Nat.le_of_ble_eq_true rfl) (c_error (k := 1) (by decide) (by decide) (by decide)) ?_
    refine ok_reti eX11_seen_24 rfl ?_
    refine ⟨rfl, _, rfl, ?_⟩
    refine ok_step (ps := []) (L' := [some (.ref 94), some (.int train), some (.int x), none, none, none, none, none, none, none, none, none]) (st' := [.int train, .ref 94]) (σ' := (rf_w α 93 1 (α 93 1 + nI 1), μ)) (pc' := 2) kX12_seen_0 rfl rfl rf_a0 ?_
    refine ok_V (As := [.int train]) (b := 94) (st := []) mkX12_isTrain qX12_seen_2 rfl (rc_94) rfl rfl rfl rfl (Nat.le_of_ble_eq_true rfl) (m_isTrain) ?_
    refine ok_if_eq bX12_seen_5 (fun _ => ?_) (fun g5 => absurd (h5) g5)
    refine ok_step (ps := []) (L' := [some (.ref 94), some (.int train), some (.int x), none, none, none, none, none, none, none, none, none]) (st' := [.int (nI 1), .ref 94]) (σ' := (rf_w α 93 1 (α 93 1 + nI 1), μ)) (pc' := 22) kX12_seen_20 rfl rfl rf_a0 ?_
    refine ok_V (As := [.int (nI 1)]) (b := 94) (st := []) mkX12_finds qX12_seen_22 rfl (rc_94) rfl rfl rfl rfl (Nat.le_of_ble_eq_true rfl) (m_finds (k := 1) (by decide)) ?_
    refine ok_reti eX12_seen_25 rfl ?_
    exact ⟨rfl, _, rfl, hJ.err (k := 1) (by decide)⟩
  · refine ok_step (ps := []) (L' := [some (.ref 0), some (.int train), some (.int x), none]) (st' := [.int (nI 100), .int (nI 0), .int x]) (σ' := (α, μ)) (pc' := 12) kX11_seen_8 rfl rfl rf_a0 ?_
    refine ok_S (As := [.int x, .int (nI 0), .int (nI 100)]) (st := []) mkX11_within qX11_seen_12 rfl rfl rfl rfl rfl (Nat.le_of_ble_eq_true rfl) (c_within) ?_
    refine ok_if_ne bX11_seen_15 (fun h15 => ?_) (fun h15 => ?_)
    · refine ok_step (ps := []) (L' := [some (.ref 0), some (.int train), some (.int x), none]) (st' := [.int x, .int train, .ref 19]) (σ' := (α, μ)) (pc' := 34) kX11_seen_25 rfl rfl rf_a0 ?_
      refine ok_V (As := [.int train, .int x]) (b := 19) (st := []) mkX7_daysTillSeen qX11_seen_34 rfl (rc_19) rfl rfl rfl rfl (Nat.le_of_ble_eq_true rfl) (c_sn hR hI) ?_
      refine ok_step (ps := []) (L' := [some (.ref 0), some (.int train), some (.int x), some (.int (snI (sn ((rf_max (s_all (μ 95)) (nI 1)).toInt64) ((rf_max (s_all (μ 95)) (nI 1)).toInt64 - (s_with (μ 95) train).toInt64) x 8 (lN 1) (lN 1) 1)))]) (st' := [.int (snI (sn ((rf_max (s_all (μ 95)) (nI 1)).toInt64) ((rf_max (s_all (μ 95)) (nI 1)).toInt64 - (s_with (μ 95) train).toInt64) x 8 (lN 1) (lN 1) 1))]) (σ' := (α, μ)) (pc' := 39) kX11_seen_37 rfl rfl rf_a0 ?_
      refine ok_if_ge bX11_seen_39 (fun h39 => ?_) (fun h39 => ?_)
      · refine ok_step (ps := []) (L' := [some (.ref 0), some (.int train), some (.int x), some (.int (snI (sn ((rf_max (s_all (μ 95)) (nI 1)).toInt64) ((rf_max (s_all (μ 95)) (nI 1)).toInt64 - (s_with (μ 95) train).toInt64) x 8 (lN 1) (lN 1) 1)))]) (st' := [.int (snI (sn ((rf_max (s_all (μ 95)) (nI 1)).toInt64) ((rf_max (s_all (μ 95)) (nI 1)).toInt64 - (s_with (μ 95) train).toInt64) x 8 (lN 1) (lN 1) 1))]) (σ' := (α, μ)) (pc' := 52) kX11_seen_51 rfl rfl rf_a0 ?_
        refine ok_reti eX11_seen_52 rfl ?_
        refine ⟨rfl, _, rfl, ?_⟩
        refine ok_step (ps := []) (L' := [some (.ref 94), some (.int train), some (.int x), none, none, none, none, none, none, none, none, none]) (st' := [.int train, .ref 94]) (σ' := (α, μ)) (pc' := 2) kX12_seen_0 rfl rfl rf_a0 ?_
        refine ok_V (As := [.int train]) (b := 94) (st := []) mkX12_isTrain qX12_seen_2 rfl (rc_94) rfl rfl rfl rfl (Nat.le_of_ble_eq_true rfl) (m_isTrain) ?_
        refine ok_if_eq bX12_seen_5 (fun g5 => absurd g5 (h5)) (fun _ => ?_)
        refine ok_step (ps := []) (L' := [some (.ref 94), some (.int train), some (.int x), none, none, none, none, none, none, none, none, none]) (st' := [.long (lN 100), .long (lN 0), .long x.toInt64]) (σ' := (α, μ)) (pc' := 14) kX12_seen_8 rfl rfl rf_a0 ?_
        refine ok_S (As := [.long x.toInt64, .long (lN 0), .long (lN 100)]) (st := []) mkX12_in qX12_seen_14 rfl rfl rfl rfl rfl (Nat.le_of_ble_eq_true rfl) (m_in) ?_
        rw [show wl x.toInt64 (lN 0) (lN 100) = wi x (nI 0) (nI 100) from wl_of rfl (nI_l (by decide)).symm (nI_l (by decide)).symm]
        refine ok_if_ne bX12_seen_17 (fun _ => ?_) (fun g17 => absurd g17 (h15))
        refine ok_step (ps := []) (L' := [some (.ref 94), some (.int train), some (.int x), none, none, none, none, none, none, none, none, none]) (st' := [.ref 94]) (σ' := (α, μ)) (pc' := 27) kX12_seen_26 rfl rfl rf_a0 ?_
        refine ok_V (As := []) (b := 94) (st := []) mkX12_allLots qX12_seen_27 rfl (rc_94) rfl rfl rfl rfl (Nat.le_of_ble_eq_true rfl) (m_all hI) ?_
        refine ok_if_ne bX12_seen_30 (fun g30 => ?_) (fun g30 => ?_)
        · refine ok_step (ps := []) (L' := [some (.ref 94), some (.int train), some (.int x), none, none, none, none, none, none, none, none, none]) (st' := [.ref 94]) (σ' := (α, μ)) (pc' := 38) kX12_seen_37 rfl rfl rf_a0 ?_
          refine ok_V (As := []) (b := 94) (st := []) mkX12_allLots qX12_seen_38 rfl (rc_94) rfl rfl rfl rfl (Nat.le_of_ble_eq_true rfl) (m_all hI) ?_
          refine ok_step (ps := []) (L' := [some (.ref 94), some (.int train), some (.int x), none, none, none, none, none, none, none, none, none]) (st' := [.long ((s_all (μ 95)).toInt64)]) (σ' := (α, μ)) (pc' := 42) kX12_seen_41 rfl rfl rf_a0 ?_
          refine ok_step (ps := []) (L' := [some (.ref 94), some (.int train), some (.int x), some (.long ((s_all (μ 95)).toInt64)), none, none, none, none, none, none, none, none]) (st' := [.int train, .ref 94, .long ((s_all (μ 95)).toInt64)]) (σ' := (α, μ)) (pc' := 46) kX12_seen_42 rfl rfl rf_a0 ?_
          refine ok_V (As := [.int train]) (b := 94) (st := [.long ((s_all (μ 95)).toInt64)]) mkX12_lotsWith qX12_seen_46 rfl (rc_94) rfl rfl rfl rfl (Nat.le_of_ble_eq_true rfl) (m_with hI) ?_
          refine ok_step (ps := []) (L' := [some (.ref 94), some (.int train), some (.int x), some (.long ((s_all (μ 95)).toInt64)), none, some (.long (((s_all (μ 95)).toInt64) - ((s_with (μ 95) train).toInt64))), none, some (.long (lN 1)), none, some (.long (lN 1)), none, some (.int (nI 1))]) (st' := []) (σ' := (α, μ)) (pc' := 62) kX12_seen_49 rfl rfl rf_a0 ?_
          have eb : (s_all (μ 95)).toInt64 = (rf_max (s_all (μ 95)) (nI 1)).toInt64 := below_1 hI g30
          have es : sn ((s_all (μ 95)).toInt64) ((s_all (μ 95)).toInt64 - (s_with (μ 95) train).toInt64) x 8 (lN 1) (lN 1) 1 = sn ((rf_max (s_all (μ 95)) (nI 1)).toInt64) ((rf_max (s_all (μ 95)) (nI 1)).toInt64 - (s_with (μ 95) train).toInt64) x 8 (lN 1) (lN 1) 1 := congrArg (fun z => sn z (z - (s_with (μ 95) train).toInt64) x 8 (lN 1) (lN 1) 1) eb
          have el : sn ((s_all (μ 95)).toInt64) ((s_all (μ 95)).toInt64 - (s_with (μ 95) train).toInt64) x 8 (lN 1) (lN 1) 1 ≤ 1 + 8 := sn_le
          rw [← es, snI_ge (by omega)] at h39
          refine m_sn_l 8 1 (lN 1) (lN 1) (by omega) (by omega) (fun e => ?_) (fun e => ?_)
          · exact ⟨by rw [← es, snI, if_neg e], _, rfl, hJ⟩
          · exact absurd e h39
        · refine ok_step (ps := []) (L' := [some (.ref 94), some (.int train), some (.int x), none, none, none, none, none, none, none, none, none]) (st' := [.long (lN 1)]) (σ' := (α, μ)) (pc' := 34) kX12_seen_33 rfl rfl rf_a0 ?_
          refine ok_goto bX12_seen_34 ?_
          refine ok_step (ps := []) (L' := [some (.ref 94), some (.int train), some (.int x), some (.long (lN 1)), none, none, none, none, none, none, none, none]) (st' := [.int train, .ref 94, .long (lN 1)]) (σ' := (α, μ)) (pc' := 46) kX12_seen_42 rfl rfl rf_a0 ?_
          refine ok_V (As := [.int train]) (b := 94) (st := [.long (lN 1)]) mkX12_lotsWith qX12_seen_46 rfl (rc_94) rfl rfl rfl rfl (Nat.le_of_ble_eq_true rfl) (m_with hI) ?_
          refine ok_step (ps := []) (L' := [some (.ref 94), some (.int train), some (.int x), some (.long (lN 1)), none, some (.long ((lN 1) - ((s_with (μ 95) train).toInt64))), none, some (.long (lN 1)), none, some (.long (lN 1)), none, some (.int (nI 1))]) (st' := []) (σ' := (α, μ)) (pc' := 62) kX12_seen_49 rfl rfl rf_a0 ?_
          have eb : lN 1 = (rf_max (s_all (μ 95)) (nI 1)).toInt64 := below_0 hI g30
          have es : sn (lN 1) (lN 1 - (s_with (μ 95) train).toInt64) x 8 (lN 1) (lN 1) 1 = sn ((rf_max (s_all (μ 95)) (nI 1)).toInt64) ((rf_max (s_all (μ 95)) (nI 1)).toInt64 - (s_with (μ 95) train).toInt64) x 8 (lN 1) (lN 1) 1 := congrArg (fun z => sn z (z - (s_with (μ 95) train).toInt64) x 8 (lN 1) (lN 1) 1) eb
          have el : sn (lN 1) (lN 1 - (s_with (μ 95) train).toInt64) x 8 (lN 1) (lN 1) 1 ≤ 1 + 8 := sn_le
          rw [← es, snI_ge (by omega)] at h39
          refine m_sn_l 8 1 (lN 1) (lN 1) (by omega) (by omega) (fun e => ?_) (fun e => ?_)
          · exact ⟨by rw [← es, snI, if_neg e], _, rfl, hJ⟩
          · exact absurd e h39
      · refine ok_step (ps := []) (L' := [some (.ref 0), some (.int train), some (.int x), some (.int (snI (sn ((rf_max (s_all (μ 95)) (nI 1)).toInt64) ((rf_max (s_all (μ 95)) (nI 1)).toInt64 - (s_with (μ 95) train).toInt64) x 8 (lN 1) (lN 1) 1)))]) (st' := [.int (-1000000002), .ref 0]) (σ' := (α, μ)) (pc' := 45) kX11_seen_42 rfl rfl rf_a0 ?_
        refine ok_V (As := [.int (-1000000002)]) (b := 0) (st := []) mkX11_error qX11_seen_45 rfl (rc_0) rfl rfl rfl rfl (Nat.le_of_ble_eq_true rfl) (c_error (k := 2) (by decide) (by decide) (by decide)) ?_
        refine ok_goto bX11_seen_48 ?_
        refine ok_reti eX11_seen_52 rfl ?_
        refine ⟨rfl, _, rfl, ?_⟩
        refine ok_step (ps := []) (L' := [some (.ref 94), some (.int train), some (.int x), none, none, none, none, none, none, none, none, none]) (st' := [.int train, .ref 94]) (σ' := (rf_w α 93 2 (α 93 2 + nI 1), μ)) (pc' := 2) kX12_seen_0 rfl rfl rf_a0 ?_
        refine ok_V (As := [.int train]) (b := 94) (st := []) mkX12_isTrain qX12_seen_2 rfl (rc_94) rfl rfl rfl rfl (Nat.le_of_ble_eq_true rfl) (m_isTrain) ?_
        refine ok_if_eq bX12_seen_5 (fun g5 => absurd g5 (h5)) (fun _ => ?_)
        refine ok_step (ps := []) (L' := [some (.ref 94), some (.int train), some (.int x), none, none, none, none, none, none, none, none, none]) (st' := [.long (lN 100), .long (lN 0), .long x.toInt64]) (σ' := (rf_w α 93 2 (α 93 2 + nI 1), μ)) (pc' := 14) kX12_seen_8 rfl rfl rf_a0 ?_
        refine ok_S (As := [.long x.toInt64, .long (lN 0), .long (lN 100)]) (st := []) mkX12_in qX12_seen_14 rfl rfl rfl rfl rfl (Nat.le_of_ble_eq_true rfl) (m_in) ?_
        rw [show wl x.toInt64 (lN 0) (lN 100) = wi x (nI 0) (nI 100) from wl_of rfl (nI_l (by decide)).symm (nI_l (by decide)).symm]
        refine ok_if_ne bX12_seen_17 (fun _ => ?_) (fun g17 => absurd g17 (h15))
        refine ok_step (ps := []) (L' := [some (.ref 94), some (.int train), some (.int x), none, none, none, none, none, none, none, none, none]) (st' := [.ref 94]) (σ' := (rf_w α 93 2 (α 93 2 + nI 1), μ)) (pc' := 27) kX12_seen_26 rfl rfl rf_a0 ?_
        refine ok_V (As := []) (b := 94) (st := []) mkX12_allLots qX12_seen_27 rfl (rc_94) rfl rfl rfl rfl (Nat.le_of_ble_eq_true rfl) (m_all hI) ?_
        refine ok_if_ne bX12_seen_30 (fun g30 => ?_) (fun g30 => ?_)
        · refine ok_step (ps := []) (L' := [some (.ref 94), some (.int train), some (.int x), none, none, none, none, none, none, none, none, none]) (st' := [.ref 94]) (σ' := (rf_w α 93 2 (α 93 2 + nI 1), μ)) (pc' := 38) kX12_seen_37 rfl rfl rf_a0 ?_
          refine ok_V (As := []) (b := 94) (st := []) mkX12_allLots qX12_seen_38 rfl (rc_94) rfl rfl rfl rfl (Nat.le_of_ble_eq_true rfl) (m_all hI) ?_
          refine ok_step (ps := []) (L' := [some (.ref 94), some (.int train), some (.int x), none, none, none, none, none, none, none, none, none]) (st' := [.long ((s_all (μ 95)).toInt64)]) (σ' := (rf_w α 93 2 (α 93 2 + nI 1), μ)) (pc' := 42) kX12_seen_41 rfl rfl rf_a0 ?_
          refine ok_step (ps := []) (L' := [some (.ref 94), some (.int train), some (.int x), some (.long ((s_all (μ 95)).toInt64)), none, none, none, none, none, none, none, none]) (st' := [.int train, .ref 94, .long ((s_all (μ 95)).toInt64)]) (σ' := (rf_w α 93 2 (α 93 2 + nI 1), μ)) (pc' := 46) kX12_seen_42 rfl rfl rf_a0 ?_
          refine ok_V (As := [.int train]) (b := 94) (st := [.long ((s_all (μ 95)).toInt64)]) mkX12_lotsWith qX12_seen_46 rfl (rc_94) rfl rfl rfl rfl (Nat.le_of_ble_eq_true rfl) (m_with hI) ?_
          refine ok_step (ps := []) (L' := [some (.ref 94), some (.int train), some (.int x), some (.long ((s_all (μ 95)).toInt64)), none, some (.long (((s_all (μ 95)).toInt64) - ((s_with (μ 95) train).toInt64))), none, some (.long (lN 1)), none, some (.long (lN 1)), none, some (.int (nI 1))]) (st' := []) (σ' := (rf_w α 93 2 (α 93 2 + nI 1), μ)) (pc' := 62) kX12_seen_49 rfl rfl rf_a0 ?_
          have eb : (s_all (μ 95)).toInt64 = (rf_max (s_all (μ 95)) (nI 1)).toInt64 := below_1 hI g30
          have es : sn ((s_all (μ 95)).toInt64) ((s_all (μ 95)).toInt64 - (s_with (μ 95) train).toInt64) x 8 (lN 1) (lN 1) 1 = sn ((rf_max (s_all (μ 95)) (nI 1)).toInt64) ((rf_max (s_all (μ 95)) (nI 1)).toInt64 - (s_with (μ 95) train).toInt64) x 8 (lN 1) (lN 1) 1 := congrArg (fun z => sn z (z - (s_with (μ 95) train).toInt64) x 8 (lN 1) (lN 1) 1) eb
          have el : sn ((s_all (μ 95)).toInt64) ((s_all (μ 95)).toInt64 - (s_with (μ 95) train).toInt64) x 8 (lN 1) (lN 1) 1 ≤ 1 + 8 := sn_le
          rw [← es, snI_ge (by omega)] at h39
          refine m_sn_l 8 1 (lN 1) (lN 1) (by omega) (by omega) (fun e => ?_) (fun e => ?_)
          · exact absurd e h39
          · exact ⟨rfl, _, rfl, hJ.err (k := 2) (by decide)⟩
        · refine ok_step (ps := []) (L' := [some (.ref 94), some (.int train), some (.int x), none, none, none, none, none, none, none, none, none]) (st' := [.long (lN 1)]) (σ' := (rf_w α 93 2 (α 93 2 + nI 1), μ)) (pc' := 34) kX12_seen_33 rfl rfl rf_a0 ?_
          refine ok_goto bX12_seen_34 ?_
          refine ok_step (ps := []) (L' := [some (.ref 94), some (.int train), some (.int x), some (.long (lN 1)), none, none, none, none, none, none, none, none]) (st' := [.int train, .ref 94, .long (lN 1)]) (σ' := (rf_w α 93 2 (α 93 2 + nI 1), μ)) (pc' := 46) kX12_seen_42 rfl rfl rf_a0 ?_
          refine ok_V (As := [.int train]) (b := 94) (st := [.long (lN 1)]) mkX12_lotsWith qX12_seen_46 rfl (rc_94) rfl rfl rfl rfl (Nat.le_of_ble_eq_true rfl) (m_with hI) ?_
          refine ok_step (ps := []) (L' := [some (.ref 94), some (.int train), some (.int x), some (.long (lN 1)), none, some (.long ((lN 1) - ((s_with (μ 95) train).toInt64))), none, some (.long (lN 1)), none, some (.long (lN 1)), none, some (.int (nI 1))]) (st' := []) (σ' := (rf_w α 93 2 (α 93 2 + nI 1), μ)) (pc' := 62) kX12_seen_49 rfl rfl rf_a0 ?_
          have eb : lN 1 = (rf_max (s_all (μ 95)) (nI 1)).toInt64 := below_0 hI g30
          have es : sn (lN 1) (lN 1 - (s_with (μ 95) train).toInt64) x 8 (lN 1) (lN 1) 1 = sn ((rf_max (s_all (μ 95)) (nI 1)).toInt64) ((rf_max (s_all (μ 95)) (nI 1)).toInt64 - (s_with (μ 95) train).toInt64) x 8 (lN 1) (lN 1) 1 := congrArg (fun z => sn z (z - (s_with (μ 95) train).toInt64) x 8 (lN 1) (lN 1) 1) eb
          have el : sn (lN 1) (lN 1 - (s_with (μ 95) train).toInt64) x 8 (lN 1) (lN 1) 1 ≤ 1 + 8 := sn_le
          rw [← es, snI_ge (by omega)] at h39
          refine m_sn_l 8 1 (lN 1) (lN 1) (by omega) (by omega) (fun e => ?_) (fun e => ?_)
          · exact absurd e h39
          · exact ⟨rfl, _, rfl, hJ.err (k := 2) (by decide)⟩
    · refine ok_step (ps := []) (L' := [some (.ref 0), some (.int train), some (.int x), none]) (st' := [.int (-1000000001), .ref 0]) (σ' := (α, μ)) (pc' := 21) kX11_seen_18 rfl rfl rf_a0 ?_
      refine ok_V (As := [.int (-1000000001)]) (b := 0) (st := []) mkX11_error qX11_seen_21 rfl (rc_0) rfl rfl rfl rfl (Nat.le_of_ble_eq_true rfl) (c_error (k := 1) (by decide) (by decide) (by decide)) ?_
      refine ok_reti eX11_seen_24 rfl ?_
      refine ⟨rfl, _, rfl, ?_⟩
      refine ok_step (ps := []) (L' := [some (.ref 94), some (.int train), some (.int x), none, none, none, none, none, none, none, none, none]) (st' := [.int train, .ref 94]) (σ' := (rf_w α 93 1 (α 93 1 + nI 1), μ)) (pc' := 2) kX12_seen_0 rfl rfl rf_a0 ?_
      refine ok_V (As := [.int train]) (b := 94) (st := []) mkX12_isTrain qX12_seen_2 rfl (rc_94) rfl rfl rfl rfl (Nat.le_of_ble_eq_true rfl) (m_isTrain) ?_
      refine ok_if_eq bX12_seen_5 (fun g5 => absurd g5 (h5)) (fun _ => ?_)
      refine ok_step (ps := []) (L' := [some (.ref 94), some (.int train), some (.int x), none, none, none, none, none, none, none, none, none]) (st' := [.long (lN 100), .long (lN 0), .long x.toInt64]) (σ' := (rf_w α 93 1 (α 93 1 + nI 1), μ)) (pc' := 14) kX12_seen_8 rfl rfl rf_a0 ?_
      refine ok_S (As := [.long x.toInt64, .long (lN 0), .long (lN 100)]) (st := []) mkX12_in qX12_seen_14 rfl rfl rfl rfl rfl (Nat.le_of_ble_eq_true rfl) (m_in) ?_
      rw [show wl x.toInt64 (lN 0) (lN 100) = wi x (nI 0) (nI 100) from wl_of rfl (nI_l (by decide)).symm (nI_l (by decide)).symm]
      refine ok_if_ne bX12_seen_17 (fun g17 => absurd (h15) g17) (fun _ => ?_)
      refine ok_step (ps := []) (L' := [some (.ref 94), some (.int train), some (.int x), none, none, none, none, none, none, none, none, none]) (st' := [.int (nI 1), .ref 94]) (σ' := (rf_w α 93 1 (α 93 1 + nI 1), μ)) (pc' := 22) kX12_seen_20 rfl rfl rf_a0 ?_
      refine ok_V (As := [.int (nI 1)]) (b := 94) (st := []) mkX12_finds qX12_seen_22 rfl (rc_94) rfl rfl rfl rfl (Nat.le_of_ble_eq_true rfl) (m_finds (k := 1) (by decide)) ?_
      refine ok_reti eX12_seen_25 rfl ?_
      exact ⟨rfl, _, rfl, hJ.err (k := 1) (by decide)⟩
end H33
