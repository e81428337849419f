def fR (F : Nat) (s m r p t : Int32) (c : Nat → Int32) : Nat → Int32 := upd (upd (if F < 60 then upd (upd (upd (upd c (340 + 3 * F) s) (341 + 3 * F) m) (342 + 3 * F) r) 6 (nI (1 + F)) else c) 7 p) 0 t
theorem fB_95 {F : Nat} {s m r p t : Int32} {ρ : Nat → Nat → Int32} : fB F s m r p t ρ 95 = fR F s m r p t (ρ 95) := by
  unfold fB fR
  rw [rf_w_self, rf_w_self]
  by_cases e : F < 60
  · rw [if_pos e, if_pos e, rf_w_self, rf_w_self, rf_w_self, rf_w_self]
  · rw [if_neg e, if_neg e]
theorem fR_o {F : Nat} {s m r p t : Int32} {c : Nat → Int32} {j : Nat} (h : j ≠ 0 ∧ j ≠ 6 ∧ j ≠ 7 ∧ j < 340) : fR F s m r p t c j = c j := by
  unfold fR
  rw [pk_un h.1, pk_un h.2.2.1]
  by_cases e : F < 60
  · rw [if_pos e, pk_un h.2.1, pk_un (by omega), pk_un (by omega), pk_un (by omega)]
  · rw [if_neg e]
theorem sumN_cg {f g : Nat → Nat} : ∀ {n : Nat}, (∀ i, i < n → f i = g i) → sumN f n = sumN g n
  | 0, _ => rfl
  | n + 1, h => by rw [sumN, sumN, sumN_cg (fun i hi => h i (by omega)), h n (by omega)]
theorem day_A {d : Nat → Int32} {S F n : Nat} {s m r p t : Int32} (hI : Iv d) (hn : n ≤ 16) : nA (fR F s m r p t (ct d S n)) = nA d ∧ cn (fR F s m r p t (ct d S n)) 0 = t.toNatClampNeg := by
  have e : ∀ j, j = 5 ∨ (330 ≤ j ∧ j < 340) → fR F s m r p t (ct d S n) j = d j := fun j hj => by
    rw [fR_o (by omega)]
    exact ct_o (by omega) (fun k hk => ⟨by omega, by omega⟩)
  refine ⟨?_, ?_⟩
  · unfold nA
    have e5 : cn (fR F s m r p t (ct d S n)) 5 = cn d 5 := by unfold cn; rw [e 5 (by omega)]
    have b5 := hI.le5
    rw [e5]
    exact sumN_cg (fun i hi => by unfold cn; rw [e (330 + i) (by omega)])
  · unfold fR
    exact cn_self
section H64
variable {Ln : Nat} {xs : Nat → Int32} {α μ δ γ : Nat → Nat → Int32}
theorem dys {n : Nat} (hn : n ≤ 50) : ∀ (j i : Nat) (acc : Int32) (α : Nat → Nat → Int32) (d : Nat → Int32), (∃ μ, J α μ ∧ μ 95 = d) → 1 ≤ nA d → cn d 0 + j ≤ 399 → i + j = n → ∃ (r : Int32) (α2 : Nat → Nat → Int32), rf_At (rf_T Ln xs) MX11_days 60 59 ([some (.ref 0), some (.int (nI n)), some (.int acc), some (.int (nI i))], [], 108, (α, δ)) (some (.int r)) 108 (α2, δ) ∧ ∀ μ γ, J α μ → μ 95 = d → ∃ μ2, rf_At (rf_T Ln xs) MX12_days 60 49 ([some (.ref 94), some (.int (nI n)), some (.int acc), some (.int (nI i))], [], 108, (γ, μ)) (some (.int r)) 108 (γ, μ2) ∧ J α2 μ2 := by
  intro j
  induction j with
  | zero =>
    intro i acc α d hw hA h0 hj
    obtain rfl : i = n := by omega
    refine ⟨acc, α, rf_pa ?_, fun μ γ hJ hd => ⟨μ, rf_pa ?_, hJ⟩⟩
    · refine ok_step (ps := []) (L' := [some (.ref 0), some (.int (nI i)), some (.int acc), some (.int (nI i))]) (st' := [.int (nI i), .int (nI i)]) (σ' := (α, δ)) (pc' := 61) kX11_days_59 rfl rfl rf_a0 ?_
      refine ok_icmp_ge bX11_days_61 (fun _ => ?_) (fun h61 => absurd (nI_le (by omega) (by omega)) h61)
      refine ok_step (ps := []) (L' := [some (.ref 0), some (.int (nI i)), some (.int acc), some (.int (nI i))]) (st' := [.int acc]) (σ' := (α, δ)) (pc' := 81) kX11_days_80 rfl rfl rf_a0 ?_
      refine ok_reti eX11_days_81 rfl ?_
      exact ⟨rfl, rfl⟩
    · refine ok_step (ps := []) (L' := [some (.ref 94), some (.int (nI i)), some (.int acc), some (.int (nI i))]) (st' := [.int (nI i), .int (nI i)]) (σ' := (γ, μ)) (pc' := 51) kX12_days_49 rfl rfl rf_a0 ?_
      refine ok_icmp_ge bX12_days_51 (fun _ => ?_) (fun h51 => absurd (nI_le (by omega) (by omega)) h51)
      refine ok_step (ps := []) (L' := [some (.ref 94), some (.int (nI i)), some (.int acc), some (.int (nI i))]) (st' := [.int acc]) (σ' := (γ, μ)) (pc' := 68) kX12_days_67 rfl rfl rf_a0 ?_
      refine ok_reti eX12_days_68 rfl ?_
      exact ⟨rfl, rfl⟩
  | succ j ih =>
    intro i acc α d hw hA h0 hj
    obtain ⟨μ0, hJ0, hd0⟩ := hw
    have hI : Iv d := by rw [← hd0]; exact hJ0.2
    have b0 := hI.le0
    have b4 := hI.le4
    have b5 := hI.le5
    have b6 := hI.le6
    have b7 := hI.le7
    have b9 := hI.le9
    obtain ⟨A, eA⟩ : ∃ A, nA d = A := ⟨_, rfl⟩
    rw [eA] at hA
    have hA2 : A ≤ 72 := by rw [← eA]; exact nA_le hI
    obtain ⟨a, ha, ea⟩ := zr_n d
    have hmod : a % A < A := Nat.mod_lt _ (by omega)
    obtain ⟨S, hS, s1, s2⟩ := pickS (d := d) (r := a % A) (cn d 5) (show a % A < nA d by omega)
    obtain ⟨m, hm⟩ : ∃ m, sumN (fm d S) (cn d 4) = m := ⟨_, rfl⟩
    have hm9 : m ≤ 15984 := by rw [← hm]; exact fm_le hI b4
    have hl : 1 ≤ cn d (330 + S) := by
      have : csum d (S + 1) = csum d S + cn d (330 + S) := rfl
      omega
    have hmA : m * A ≤ 15984 * 72 := Nat.mul_le_mul hm9 hA2
    have hr : m * A / cn d (330 + S) ≤ 1150848 := Nat.le_trans (Nat.div_le_self _ _) hmA
    have hcd : rf_Ok (rf_T Ln xs) MX10_passDay 20 0 [some (.ref 1), none, none, none, none] [] (α, δ) (fun r t => r = some (.int (nI m)) ∧ ∃ β : Nat → Nat → Int32, sC α β ∧ Rl 1 β (ct d S (cn d 4)) ∧ t = (fA (cn d 6) (nI S) (nI m) (nI (m * A / cn d (330 + S))) (nI (min (cn d 7 + cn d 9 * m) 1999999999)) (nI (1 + cn d 0)) β, δ)) := by
      subst hd0
      exact c_day hJ0 eA hA ea ha hS s1 s2 hm
    obtain ⟨r1, t1, hat, rfl, β, hsC, hRβ, rfl⟩ := hcd
    have step : ∀ μ γ, J α μ → μ 95 = d → ∃ μ1, rf_At (rf_T Ln xs) MX12_aDay 51 0 ([some (.ref 94), none, none, none, none, none, none], [], 108, (γ, μ)) (some (.int (nI m))) 108 (γ, μ1) ∧ J (fA (cn d 6) (nI S) (nI m) (nI (m * A / cn d (330 + S))) (nI (min (cn d 7 + cn d 9 * m) 1999999999)) (nI (1 + cn d 0)) β) μ1 ∧ μ1 95 = fR (cn d 6) (nI S) (nI m) (nI (m * A / cn d (330 + S))) (nI (min (cn d 7 + cn d 9 * m) 1999999999)) (nI (1 + cn d 0)) (ct d S (cn d 4)) := fun μ γ hJ hd => by
      obtain ⟨r2, t2, hat2, rfl, ρ, hsD, hρ, rfl⟩ := m_day (Ln := Ln) (xs := xs) (γ := γ) hJ hd eA hA ea ha hS s1 s2 hm
      have hJb : J β ρ := hJ.day hsC hsD (by rw [hρ]; exact hRβ) (fun j j1 j2 => by rw [hρ, ct_o (by omega) (fun k hk => ⟨by omega, by omega⟩), hd]) (by rw [hρ]; exact ct_Iv hI (Nat.le_refl _))
      exact ⟨_, hat2, hJb.fin b6 (by omega) hm9 hr (by omega) (by omega), by rw [fB_95, hρ]⟩
    obtain ⟨μ1, -, hJ1, hd1⟩ := step μ0 μ0 hJ0 hd0
    have hdA := day_A (d := d) (S := S) (F := cn d 6) (n := cn d 4) (s := nI S) (m := nI m) (r := nI (m * A / cn d (330 + S))) (p := nI (min (cn d 7 + cn d 9 * m) 1999999999)) (t := nI (1 + cn d 0)) hI b4
    rw [nI_clamp (by omega)] at hdA
    obtain ⟨r, α2, hc, hmm⟩ := ih (i + 1) (acc + nI m) _ _ ⟨μ1, hJ1, hd1⟩ (by rw [hdA.1, eA]; exact hA) (by rw [hdA.2]; omega) (by omega)
    refine ⟨r, α2, rf_pa ?_, fun μ γ hJ hd => ?_⟩
    · refine ok_step (ps := []) (L' := [some (.ref 0), some (.int (nI n)), some (.int acc), some (.int (nI i))]) (st' := [.int (nI n), .int (nI i)]) (σ' := (α, δ)) (pc' := 61) kX11_days_59 rfl rfl rf_a0 ?_
      refine ok_icmp_ge bX11_days_61 (fun h61 => absurd h61 (nI_ge (by omega) (by omega))) (fun _ => ?_)
      refine ok_step (ps := []) (L' := [some (.ref 0), some (.int (nI n)), some (.int acc), some (.int (nI i))]) (st' := [.ref 1, .int acc]) (σ' := (α, δ)) (pc' := 69) kX11_days_64 rfl rfl rf_a0 ?_
      refine ok_V (As := []) (b := 1) (st := [.int acc]) mkX10_passDay qX11_days_69 rfl (rc_1) rfl rfl rfl rfl (Nat.le_of_ble_eq_true rfl) (hat) ?_
      refine ok_step (ps := []) (L' := [some (.ref 0), some (.int (nI n)), some (.int (acc + (nI m))), some (.int ((nI i) + (nI 1)))]) (st' := []) (σ' := (fA (cn d 6) (nI S) (nI m) (nI (m * A / cn d (330 + S))) (nI (min (cn d 7 + cn d 9 * m) 1999999999)) (nI (1 + cn d 0)) β, δ)) (pc' := 77) kX11_days_72 rfl rfl rf_a0 ?_
      try rw [(show ((nI i) + (nI 1)) = nI (i + 1) from nI_add _ _)]
      refine ok_goto bX11_days_77 ?_
      exact rf_ap hc ⟨rfl, rfl⟩
    · obtain ⟨μ2, hat2, hJ2, hd2⟩ := step μ γ hJ hd
      obtain ⟨μ3, hat3, hJ3⟩ := hmm μ2 γ hJ2 hd2
      refine ⟨μ3, rf_pa ?_, hJ3⟩
      refine ok_step (ps := []) (L' := [some (.ref 94), some (.int (nI n)), some (.int acc), some (.int (nI i))]) (st' := [.int (nI n), .int (nI i)]) (σ' := (γ, μ)) (pc' := 51) kX12_days_49 rfl rfl rf_a0 ?_
      refine ok_icmp_ge bX12_days_51 (fun h51 => absurd h51 (nI_ge (by omega) (by omega))) (fun _ => ?_)
      refine ok_step (ps := []) (L' := [some (.ref 94), some (.int (nI n)), some (.int acc), some (.int (nI i))]) (st' := [.ref 94, .int acc]) (σ' := (γ, μ)) (pc' := 56) kX12_days_54 rfl rfl rf_a0 ?_
      refine ok_V (As := []) (b := 94) (st := [.int acc]) mkX12_aDay qX12_days_56 rfl (rc_94) rfl rfl rfl rfl (Nat.le_of_ble_eq_true rfl) (hat2) ?_
      refine ok_step (ps := []) (L' := [some (.ref 94), some (.int (nI n)), some (.int (acc + (nI m))), some (.int ((nI i) + (nI 1)))]) (st' := []) (σ' := (γ, μ2)) (pc' := 64) kX12_days_59 rfl rfl rf_a0 ?_
      try rw [(show ((nI i) + (nI 1)) = nI (i + 1) from nI_add _ _)]
      refine ok_goto bX12_days_64 ?_
      exact rf_ap hat3 ⟨rfl, rfl⟩
theorem op_days {n0 : Int32} (hJ : J α μ)  : Op (rf_T Ln xs) MX11_days MX12_days [some (.ref 0), some (.int n0), none, none] [some (.ref 94), some (.int n0), none, none] α μ := by
  have hR := hJ.1.1.1
  have hI := hJ.2
  have b0 := hI.le0
  have b1 := hI.le1
  have b2 := hI.le2
  have b3 := hI.le3
  have b4 := hI.le4
  have b5 := hI.le5
  have b6 := hI.le6
  have b8 := hI.le8
  have b9 := hI.le9
  have b11 := hI.le11
  have b12 := hI.le12
  refine ok_step (ps := []) (L' := [some (.ref 0), some (.int n0), none, none]) (st' := [.int (nI 50), .int (nI 1), .int n0]) (σ' := (α, μ)) (pc' := 4) kX11_days_0 rfl rfl rf_a0 ?_
  refine ok_S (As := [.int n0, .int (nI 1), .int (nI 50)]) (st := []) mkX11_within qX11_days_4 rfl rfl rfl rfl rfl (Nat.le_of_ble_eq_true rfl) (c_within) ?_
  refine ok_if_ne bX11_days_7 (fun h7 => ?_) (fun h7 => ?_)
  · obtain ⟨n, hn1, hn2, rfl⟩ := wi_of (bI_n0.mp h7) (by decide) (by decide)
    refine ok_step (ps := []) (L' := [some (.ref 0), some (.int (nI n)), none, none]) (st' := [.int (nI 399), .int ((α 22 0) + (nI n))]) (σ' := (α, μ)) (pc' := 32) kX11_days_17 rfl rfl rf_a0 ?_
    try rw [(show α 22 0 = μ 95 0 from hR 21 0 0 rfl)]
    try rw [(show ((μ 95 0) + (nI n)) = nI (cn (μ 95) 0 + n) from rf_eq (rf_nadd (x := μ 95 0) (y := nI n) (hI.at0) rfl) (by omega))]
    refine ok_icmp_gt bX11_days_32 (fun h32 => ?_) (fun h32 => ?_)
    · refine ok_step (ps := []) (L' := [some (.ref 0), some (.int (nI n)), none, none]) (st' := [.int (-1000000003), .ref 0]) (σ' := (α, μ)) (pc' := 51) kX11_days_48 rfl rfl rf_a0 ?_
      refine ok_V (As := [.int (-1000000003)]) (b := 0) (st := []) mkX11_error qX11_days_51 rfl (rc_0) rfl rfl rfl rfl (Nat.le_of_ble_eq_true rfl) (c_error (k := 3) (by decide) (by decide) (by decide)) ?_
      refine ok_reti eX11_days_54 rfl ?_
      refine ⟨rfl, _, rfl, ?_⟩
      refine ok_step (ps := []) (L' := [some (.ref 94), some (.int (nI n)), none, none]) (st' := [.long (lN 50), .long (lN 1), .long ((nI n).toInt64)]) (σ' := (rf_w α 93 3 (α 93 3 + nI 1), μ)) (pc' := 6) kX12_days_0 rfl rfl rf_a0 ?_
      refine ok_S (As := [.long ((nI n).toInt64), .long (lN 1), .long (lN 50)]) (st := []) mkX12_in qX12_days_6 rfl rfl rfl rfl rfl (Nat.le_of_ble_eq_true rfl) (m_in) ?_
      rw [show wl ((nI n).toInt64) (lN 1) (lN 50) = wi (nI n) (nI 1) (nI 50) from wl_of rfl (nI_l (by decide)).symm (nI_l (by decide)).symm]
      refine ok_if_ne bX12_days_9 (fun _ => ?_) (fun g9 => absurd g9 (h7))
      refine ok_step (ps := [rf_in (nI 0) 700]) (L' := [some (.ref 94), some (.int (nI n)), none, none]) (st' := [.int (nI 399), .int ((μ 95 ((nI 0).toNatClampNeg)) + (nI n))]) (σ' := (rf_w α 93 3 (α 93 3 + nI 1), μ)) (pc' := 29) kX12_days_18 rfl rfl (rf_a1 (rf_in_n (a := 0) rfl (by omega)) rf_a0) ?_
      try rw [(show (nI 0).toNatClampNeg = 0 from rf_cl_n rfl (by omega))]
      try rw [(show ((μ 95 0) + (nI n)) = nI (cn (μ 95) 0 + n) from rf_eq (rf_nadd (x := μ 95 0) (y := nI n) (hI.at0) rfl) (by omega))]
      refine ok_icmp_gt bX12_days_29 (fun _ => ?_) (fun g29 => absurd (h32) g29)
      refine ok_step (ps := []) (L' := [some (.ref 94), some (.int (nI n)), none, none]) (st' := [.int (nI 3), .ref 94]) (σ' := (rf_w α 93 3 (α 93 3 + nI 1), μ)) (pc' := 41) kX12_days_39 rfl rfl rf_a0 ?_
      refine ok_V (As := [.int (nI 3)]) (b := 94) (st := []) mkX12_finds qX12_days_41 rfl (rc_94) rfl rfl rfl rfl (Nat.le_of_ble_eq_true rfl) (m_finds (k := 3) (by decide)) ?_
      refine ok_reti eX12_days_44 rfl ?_
      exact ⟨rfl, _, rfl, hJ.err (k := 3) (by decide)⟩
    · refine ok_step (ps := []) (L' := [some (.ref 0), some (.int (nI n)), none, none]) (st' := [.ref 19]) (σ' := (α, μ)) (pc' := 42) kX11_days_35 rfl rfl rf_a0 ?_
      refine ok_V (As := []) (b := 19) (st := []) mkX7_all qX11_days_42 rfl (rc_19) rfl rfl rfl rfl (Nat.le_of_ble_eq_true rfl) (c_all hR hI) ?_
      refine ok_if_ne bX11_days_45 (fun h45 => ?_) (fun h45 => ?_)
      · refine ok_step (ps := []) (L' := [some (.ref 0), some (.int (nI n)), some (.int (nI 0)), some (.int (nI 0))]) (st' := []) (σ' := (α, μ)) (pc' := 59) kX11_days_55 rfl rfl rf_a0 ?_
        have hA := all_n hI
        have hA1 : 1 ≤ nA (μ 95) := by
          rcases Nat.eq_zero_or_pos (nA (μ 95)) with h | h
          · exact absurd ((all_0 hI).mpr h) h45
          · exact h
        have h0 : cn (μ 95) 0 + n ≤ 399 := by
          rw [nI_ltI (by omega) (by omega)] at h32
          omega
        obtain ⟨r, α2, hc, hmm⟩ := dys (Ln := Ln) (xs := xs) (δ := μ) (n := n) hn2 n 0 (nI 0) α (μ 95) ⟨μ, hJ, rfl⟩ hA1 h0 (by omega)
        refine rf_ap hc ?_
        refine ⟨rfl, _, rfl, ?_⟩
        obtain ⟨μ2, hm2, hJ2⟩ := hmm μ α2 hJ rfl
        refine ok_step (ps := []) (L' := [some (.ref 94), some (.int (nI n)), none, none]) (st' := [.long (lN 50), .long (lN 1), .long ((nI n).toInt64)]) (σ' := (α2, μ)) (pc' := 6) kX12_days_0 rfl rfl rf_a0 ?_
        refine ok_S (As := [.long ((nI n).toInt64), .long (lN 1), .long (lN 50)]) (st := []) mkX12_in qX12_days_6 rfl rfl rfl rfl rfl (Nat.le_of_ble_eq_true rfl) (m_in) ?_
        rw [show wl ((nI n).toInt64) (lN 1) (lN 50) = wi (nI n) (nI 1) (nI 50) from wl_of rfl (nI_l (by decide)).symm (nI_l (by decide)).symm]
        refine ok_if_ne bX12_days_9 (fun _ => ?_) (fun g9 => absurd g9 (bI_n0.mpr (wi_n hn1 hn2 (by decide))))
        refine ok_step (ps := [rf_in (nI 0) 700]) (L' := [some (.ref 94), some (.int (nI n)), none, none]) (st' := [.int (nI 399), .int ((μ 95 ((nI 0).toNatClampNeg)) + (nI n))]) (σ' := (α2, μ)) (pc' := 29) kX12_days_18 rfl rfl (rf_a1 (rf_in_n (a := 0) rfl (by omega)) rf_a0) ?_
        try rw [(show (nI 0).toNatClampNeg = 0 from rf_cl_n rfl (by omega))]
        try rw [(show ((μ 95 0) + (nI n)) = nI (cn (μ 95) 0 + n) from rf_eq (rf_nadd (x := μ 95 0) (y := nI n) (hI.at0) rfl) (by omega))]
        refine ok_icmp_gt bX12_days_29 (fun g29 => absurd g29 (h32)) (fun _ => ?_)
        refine ok_step (ps := []) (L' := [some (.ref 94), some (.int (nI n)), none, none]) (st' := [.ref 94]) (σ' := (α2, μ)) (pc' := 33) kX12_days_32 rfl rfl rf_a0 ?_
        refine ok_V (As := []) (b := 94) (st := []) mkX12_allLots qX12_days_33 rfl (rc_94) rfl rfl rfl rfl (Nat.le_of_ble_eq_true rfl) (m_all hI) ?_
        refine ok_if_ne bX12_days_36 (fun _ => ?_) (fun g36 => absurd g36 (h45))
        refine ok_step (ps := []) (L' := [some (.ref 94), some (.int (nI n)), some (.int (nI 0)), some (.int (nI 0))]) (st' := []) (σ' := (α2, μ)) (pc' := 49) kX12_days_45 rfl rfl rf_a0 ?_
        exact rf_ap hm2 ⟨rfl, _, rfl, hJ2⟩
      · refine ok_step (ps := []) (L' := [some (.ref 0), some (.int (nI n)), none, none]) (st' := [.int (-1000000003), .ref 0]) (σ' := (α, μ)) (pc' := 51) kX11_days_48 rfl rfl rf_a0 ?_
        refine ok_V (As := [.int (-1000000003)]) (b := 0) (st := []) mkX11_error qX11_days_51 rfl (rc_0) rfl rfl rfl rfl (Nat.le_of_ble_eq_true rfl) (c_error (k := 3) (by decide) (by decide) (by decide)) ?_
        refine ok_reti eX11_days_54 rfl ?_
        refine ⟨rfl, _, rfl, ?_⟩
        refine ok_step (ps := []) (L' := [some (.ref 94), some (.int (nI n)), none, none]) (st' := [.long (lN 50), .long (lN 1), .long ((nI n).toInt64)]) (σ' := (rf_w α 93 3 (α 93 3 + nI 1), μ)) (pc' := 6) kX12_days_0 rfl rfl rf_a0 ?_
        refine ok_S (As := [.long ((nI n).toInt64), .long (lN 1), .long (lN 50)]) (st := []) mkX12_in qX12_days_6 rfl rfl rfl rfl rfl (Nat.le_of_ble_eq_true rfl) (m_in) ?_
        rw [show wl ((nI n).toInt64) (lN 1) (lN 50) = wi (nI n) (nI 1) (nI 50) from wl_of rfl (nI_l (by decide)).symm (nI_l (by decide)).symm]
        refine ok_if_ne bX12_days_9 (fun _ => ?_) (fun g9 => absurd g9 (h7))
        refine ok_step (ps := [rf_in (nI 0) 700]) (L' := [some (.ref 94), some (.int (nI n)), none, none]) (st' := [.int (nI 399), .int ((μ 95 ((nI 0).toNatClampNeg)) + (nI n))]) (σ' := (rf_w α 93 3 (α 93 3 + nI 1), μ)) (pc' := 29) kX12_days_18 rfl rfl (rf_a1 (rf_in_n (a := 0) rfl (by omega)) rf_a0) ?_
        try rw [(show (nI 0).toNatClampNeg = 0 from rf_cl_n rfl (by omega))]
        try rw [(show ((μ 95 0) + (nI n)) = nI (cn (μ 95) 0 + n) from rf_eq (rf_nadd (x := μ 95 0) (y := nI n) (hI.at0) rfl) (by omega))]
        refine ok_icmp_gt bX12_days_29 (fun g29 => absurd g29 (h32)) (fun _ => ?_)
        refine ok_step (ps := []) (L' := [some (.ref 94), some (.int (nI n)), none, none]) (st' := [.ref 94]) (σ' := (rf_w α 93 3 (α 93 3 + nI 1), μ)) (pc' := 33) kX12_days_32 rfl rfl rf_a0 ?_
        refine ok_V (As := []) (b := 94) (st := []) mkX12_allLots qX12_days_33 rfl (rc_94) rfl rfl rfl rfl (Nat.le_of_ble_eq_true rfl) (m_all hI) ?_
        refine ok_if_ne bX12_days_36 (fun g36 => absurd (h45) g36) (fun _ => ?_)
        refine ok_step (ps := []) (L' := [some (.ref 94), some (.int (nI n)), none, none]) (st' := [.int (nI 3), .ref 94]) (σ' := (rf_w α 93 3 (α 93 3 + nI 1), μ)) (pc' := 41) kX12_days_39 rfl rfl rf_a0 ?_
        refine ok_V (As := [.int (nI 3)]) (b := 94) (st := []) mkX12_finds qX12_days_41 rfl (rc_94) rfl rfl rfl rfl (Nat.le_of_ble_eq_true rfl) (m_finds (k := 3) (by decide)) ?_
        refine ok_reti eX12_days_44 rfl ?_
        exact ⟨rfl, _, rfl, hJ.err (k := 3) (by decide)⟩
  · refine ok_step (ps := []) (L' := [some (.ref 0), some (.int n0), none, none]) (st' := [.int (-1000000001), .ref 0]) (σ' := (α, μ)) (pc' := 13) kX11_days_10 rfl rfl rf_a0 ?_
    refine ok_V (As := [.int (-1000000001)]) (b := 0) (st := []) mkX11_error qX11_days_13 rfl (rc_0) rfl rfl rfl rfl (Nat.le_of_ble_eq_true rfl) (c_error (k := 1) (by decide) (by decide) (by decide)) ?_
    refine ok_reti eX11_days_16 rfl ?_
    refine ⟨rfl, _, rfl, ?_⟩
    refine ok_step (ps := []) (L' := [some (.ref 94), some (.int n0), none, none]) (st' := [.long (lN 50), .long (lN 1), .long n0.toInt64]) (σ' := (rf_w α 93 1 (α 93 1 + nI 1), μ)) (pc' := 6) kX12_days_0 rfl rfl rf_a0 ?_
    refine ok_S (As := [.long n0.toInt64, .long (lN 1), .long (lN 50)]) (st := []) mkX12_in qX12_days_6 rfl rfl rfl rfl rfl (Nat.le_of_ble_eq_true rfl) (m_in) ?_
    rw [show wl n0.toInt64 (lN 1) (lN 50) = wi n0 (nI 1) (nI 50) from wl_of rfl (nI_l (by decide)).symm (nI_l (by decide)).symm]
    refine ok_if_ne bX12_days_9 (fun g9 => absurd (h7) g9) (fun _ => ?_)
    refine ok_step (ps := []) (L' := [some (.ref 94), some (.int n0), none, none]) (st' := [.int (nI 1), .ref 94]) (σ' := (rf_w α 93 1 (α 93 1 + nI 1), μ)) (pc' := 14) kX12_days_12 rfl rfl rf_a0 ?_
    refine ok_V (As := [.int (nI 1)]) (b := 94) (st := []) mkX12_finds qX12_days_14 rfl (rc_94) rfl rfl rfl rfl (Nat.le_of_ble_eq_true rfl) (m_finds (k := 1) (by decide)) ?_
    refine ok_reti eX12_days_17 rfl ?_
    exact ⟨rfl, _, rfl, hJ.err (k := 1) (by decide)⟩
end H64
