/-- Euclid's steps from (a, b) end within n -/
def gE : Nat → Nat → Nat → Bool
  | 0, _, b => decide (b = 0)
  | n + 1, a, b => decide (b = 0) || gE n b (a % b)
theorem gE_mono : ∀ {n a b : Nat}, gE n a b = true → gE (n + 1) a b = true
  | 0, a, b, h => by
    have h : b = 0 := by simpa [gE] using h
    simp [gE, h]
  | n + 1, a, b, h => by
    simp only [gE, Bool.or_eq_true, decide_eq_true_eq] at h ⊢
    rcases h with h | h
    · exact Or.inl h
    · exact Or.inr (by have := gE_mono h; simpa only [gE, Bool.or_eq_true, decide_eq_true_eq] using this)
theorem gE_of : ∀ (k a b : Nat), b < 2 ^ k → gE (2 * k) a b = true
  | 0, a, b, h => by
    have : b = 0 := by simpa using h
    simp [gE, this]
  | k + 1, a, b, h => by
    show gE (2 * k + 1 + 1) a b = true
    simp only [gE, Bool.or_eq_true, decide_eq_true_eq]
    rcases Nat.eq_zero_or_pos b with h0 | h0
    · exact Or.inl h0
    · refine Or.inr ?_
      rcases Nat.eq_zero_or_pos (a % b) with h1 | h1
      · exact Or.inl h1
      · refine Or.inr (gE_of k _ _ ?_)
        have h2 := Nat.mod_lt a h0
        generalize a % b = r at h1 h2
        have h3 : b % r < r := Nat.mod_lt b h1
        rw [Nat.pow_succ] at h
        rcases Nat.lt_or_ge (2 * r) (b + 1) with h4 | h4
        · omega
        · have h5 : b % r = b - r := by
            rw [Nat.mod_eq_sub_mod (by omega), Nat.mod_eq_of_lt (by omega)]
          omega
theorem lN_eq0 {a : Nat} (h : a < 2 ^ 63) : lN a = lN 0 ↔ a = 0 := pk_lEQ h (by omega)
theorem lgc0 {a : Nat} (h : a < 2 ^ 63) : lg_cmp (lN a) (lN 0) = 0 ↔ a = 0 := by rw [lgc_eq, lN_eq0 h]
theorem nzl_n {a : Nat} (h : a < 2 ^ 63) (h0 : 0 < a) : rf_nzl (lN a) = true := by
  unfold rf_nzl
  simp only [decide_eq_true_eq]
  exact fun e => by
    have := (lN_eq0 h).mp e
    omega
/-- ALL and the LOTS with a TRAIN as numbers -/
def nA (d : Nat → Int32) : Nat := sumN (fun s => cn d (330 + s)) (cn d 5)
def nW (d : Nat → Int32) (t : Nat) : Nat := sumN (fun s => if hb (d (320 + s)) (nI t) = true then cn d (330 + s) else 0) (cn d 5)
theorem all_n {d : Nat → Int32} (hI : Iv d) : s_all d = nI (nA d) := by
  have b5 := hI.le5
  exact sumI_nat (fun s hs => hI.atb (b := 9) (bd_330 (i := s) (by omega) rfl) (by decide))
theorem nA_le {d : Nat → Int32} (hI : Iv d) : nA d ≤ 72 := by
  have b5 := hI.le5
  have := sumN_le (f := fun s => cn d (330 + s)) (b := 9) (n := cn d 5) (fun s hs => hI.leb (b := 9) (bd_330 (i := s) (by omega) rfl) (by decide))
  unfold nA
  omega
theorem with_n {d : Nat → Int32} (hI : Iv d) (t : Nat) : s_with d (nI t) = nI (nW d t) := by
  have b5 := hI.le5
  refine sumI_nat (fun s hs => ?_)
  unfold f_with
  by_cases h : hb (d (320 + s)) (nI t) = true
  · simp only [h, if_true]
    exact hI.atb (b := 9) (bd_330 (i := s) (by omega) rfl) (by decide)
  · simp only [h]
    rfl
theorem sumN_mono {f g : Nat → Nat} : ∀ {n : Nat}, (∀ i, i < n → f i ≤ g i) → sumN f n ≤ sumN g n
  | 0, _ => Nat.le_refl _
  | n + 1, h => Nat.add_le_add (sumN_mono (fun i hi => h i (by omega))) (h n (by omega))
theorem nW_le {d : Nat → Int32} (t : Nat) : nW d t ≤ nA d := sumN_mono (fun s _ => by by_cases h : hb (d (320 + s)) (nI t) = true <;> simp [h])
/-- what stands below the line -/
def nB (d : Nat → Int32) : Nat := if nA d = 0 then 1 else nA d
theorem nB_pos {d : Nat → Int32} : 1 ≤ nB d := by unfold nB; split <;> omega
theorem nB_le {d : Nat → Int32} (hI : Iv d) : nB d ≤ 72 := by have := nA_le hI; unfold nB; split <;> omega
theorem below_n {d : Nat → Int32} (hI : Iv d) : rf_max (s_all d) (nI 1) = nI (nB d) := by
  have := nA_le hI
  rw [all_n hI]
  unfold rf_max nB
  by_cases h : nA d = 0
  · rw [h]
    rfl
  · rw [if_neg (nI_nlt (by omega) (by omega)), if_neg h]
section H32
variable {Ln : Nat} {xs : Nat → Int32} {α μ : Nat → Nat → Int32}
theorem ok_kill {T : rf_Tb} {M : rf_M} {d pc x : Nat} {L : List (Option Value)} {st : List Value} {σ : rf_Mem} {Q : Option Value → rf_Mem → Prop} (k : rf_Ok T M d pc (L.set x none) st σ Q) : rf_Ok T M d pc L st σ Q := by
  obtain ⟨r, s', h1, h2⟩ := k
  exact ⟨r, s', fun p l e R s m args below meth c lo D ad0 n0 Q hC hR hE hf ad cid H locs ls a1 a2 a3 a4 a5 a6 => h1 p l e R s m args below meth c lo D ad0 n0 Q hC hR hE hf ad cid H locs ls a1 a2 a3 a4 a5 (rf_Lv_kill a6), h2⟩
theorem gcd_step {a b : Nat} : Nat.gcd b (a % b) = Nat.gcd a b := by
  rw [Nat.gcd_comm b (a % b), ← Nat.gcd_rec, Nat.gcd_comm]
theorem c_low_l {a0 b0 : Nat} {w : Int32} (h0 : a0 < 2 ^ 62) (h1 : b0 < 2 ^ 62) (h2 : 1 ≤ b0) : ∀ (n a b i : Nat), a < 2 ^ 62 → b < 2 ^ 62 → Nat.gcd a b = Nat.gcd a0 b0 → gE n a b = true → i + n ≤ 99 →  rf_Ok (rf_T Ln xs) MX11_lowest 1 9 [some (.long (lN a0)), none, some (.long (lN b0)), none, some (.int w), some (.long (lN a)), none, some (.long (lN b)), none, some (.int (nI i)), none, none] [] (α, μ) (fun r s => r = some (.long (lN ((if w = 0 then a0 else b0) / Nat.gcd a0 b0))) ∧ s = (α, μ)) := by
  have hgp : 0 < Nat.gcd a0 b0 := Nat.gcd_pos_of_pos_right _ h2
  have fin : ∀ (a i : Nat), a < 2 ^ 62 → a = Nat.gcd a0 b0 → i ≤ 99 → rf_Ok (rf_T Ln xs) MX11_lowest 1 9 [some (.long (lN a0)), none, some (.long (lN b0)), none, some (.int w), some (.long (lN a)), none, some (.long (lN 0)), none, some (.int (nI i)), none, none] [] (α, μ) (fun r s => r = some (.long (lN ((if w = 0 then a0 else b0) / Nat.gcd a0 b0))) ∧ s = (α, μ)) := by
    intro a i ha hg hi
    refine ok_step (ps := []) (L' := [some (.long (lN a0)), none, some (.long (lN b0)), none, some (.int w), some (.long (lN a)), none, some (.long (lN 0)), none, some (.int (nI i)), none, none]) (st' := [.int (nI 100), .int (nI i)]) (σ' := (α, μ)) (pc' := 13) kX11_lowest_9 rfl rfl rf_a0 ?_
    refine ok_icmp_ge bX11_lowest_13 (fun h13 => absurd h13 (nI_ge (by omega) (by omega))) (fun _ => ?_)
    refine ok_step (ps := []) (L' := [some (.long (lN a0)), none, some (.long (lN b0)), none, some (.int w), some (.long (lN a)), none, some (.long (lN 0)), none, some (.int (nI i)), none, none]) (st' := [.int (lg_cmp (lN 0) (lN 0))]) (σ' := (α, μ)) (pc' := 20) kX11_lowest_16 rfl rfl rf_a0 ?_
    refine ok_if_eq bX11_lowest_20 (fun _ => ?_) (fun h20 => absurd ((lgc0 (by omega)).mpr rfl) h20)
    refine ok_step (ps := []) (L' := [some (.long (lN a0)), none, some (.long (lN b0)), none, some (.int w), some (.long (lN a)), none, some (.long (lN 0)), none, some (.int (nI i)), none, none]) (st' := [.int w]) (σ' := (α, μ)) (pc' := 46) kX11_lowest_44 rfl rfl rf_a0 ?_
    refine ok_if_ne bX11_lowest_46 (fun h46 => ?_) (fun h46 => ?_)
    · refine ok_step (ps := []) (L' := [some (.long (lN a0)), none, some (.long (lN b0)), none, some (.int w), some (.long (lN a)), none, some (.long (lN 0)), none, some (.int (nI i)), none, none]) (st' := [.long (lN b0)]) (σ' := (α, μ)) (pc' := 54) kX11_lowest_53 rfl rfl rf_a0 ?_
      refine ok_step (ps := []) (L' := [some (.long (lN a0)), none, some (.long (lN b0)), none, some (.int w), some (.long (lN a)), none, some (.long (lN 0)), none, some (.long (lN b0)), none, none]) (st' := [.int (lg_cmp (lN a) (lN 0))]) (σ' := (α, μ)) (pc' := 60) kX11_lowest_54 rfl rfl rf_a0 ?_
      refine ok_if_ne bX11_lowest_60 (fun _ => ?_) (fun h60 => absurd h60 (fun e => absurd ((lgc0 (by omega)).mp e) (by omega)))
      refine ok_step (ps := [rf_nzl (lN a)]) (L' := [some (.long (lN a0)), none, some (.long (lN b0)), none, some (.int w), some (.long (lN a)), none, some (.long (lN 0)), none, some (.long (lN b0)), none, none]) (st' := [.long ((lN b0) / (lN a))]) (σ' := (α, μ)) (pc' := 73) kX11_lowest_68 rfl rfl (rf_a1 (nzl_n (by omega) (by omega)) rf_a0) ?_
      refine ok_retl eX11_lowest_73 rfl ?_
      refine ⟨congrArg (fun z => some (Value.long z)) ?_, rfl⟩
      rw [pk_lDiv (by omega) (by omega) (by omega), show a = Nat.gcd a0 b0 from hg]
      first | rw [if_pos h46] | rw [if_neg h46]
    · refine ok_step (ps := []) (L' := [some (.long (lN a0)), none, some (.long (lN b0)), none, some (.int w), some (.long (lN a)), none, some (.long (lN 0)), none, some (.int (nI i)), none, none]) (st' := [.long (lN a0)]) (σ' := (α, μ)) (pc' := 50) kX11_lowest_49 rfl rfl rf_a0 ?_
      refine ok_goto bX11_lowest_50 ?_
      refine ok_step (ps := []) (L' := [some (.long (lN a0)), none, some (.long (lN b0)), none, some (.int w), some (.long (lN a)), none, some (.long (lN 0)), none, some (.long (lN a0)), none, none]) (st' := [.int (lg_cmp (lN a) (lN 0))]) (σ' := (α, μ)) (pc' := 60) kX11_lowest_54 rfl rfl rf_a0 ?_
      refine ok_if_ne bX11_lowest_60 (fun _ => ?_) (fun h60 => absurd h60 (fun e => absurd ((lgc0 (by omega)).mp e) (by omega)))
      refine ok_step (ps := [rf_nzl (lN a)]) (L' := [some (.long (lN a0)), none, some (.long (lN b0)), none, some (.int w), some (.long (lN a)), none, some (.long (lN 0)), none, some (.long (lN a0)), none, none]) (st' := [.long ((lN a0) / (lN a))]) (σ' := (α, μ)) (pc' := 73) kX11_lowest_68 rfl rfl (rf_a1 (nzl_n (by omega) (by omega)) rf_a0) ?_
      refine ok_retl eX11_lowest_73 rfl ?_
      refine ⟨congrArg (fun z => some (Value.long z)) ?_, rfl⟩
      rw [pk_lDiv (by omega) (by omega) (by omega), show a = Nat.gcd a0 b0 from hg]
      first | rw [if_pos h46] | rw [if_neg h46]
  intro n
  induction n with
  | zero =>
    intro a b i ha hb hg he hi
    have e : b = 0 := by simpa [gE] using he
    subst e
    exact fin a i ha (by simpa using hg) (by omega)
  | succ n ih =>
    intro a b i ha hb hg he hi
    rcases Nat.eq_zero_or_pos b with e | e
    · subst e
      exact fin a i ha (by simpa using hg) (by omega)
    · have he : gE n b (a % b) = true := by
        simp only [gE, Bool.or_eq_true, decide_eq_true_eq] at he
        rcases he with he | he
        · omega
        · exact he
      have hm := Nat.mod_lt a e
      refine ok_step (ps := []) (L' := [some (.long (lN a0)), none, some (.long (lN b0)), none, some (.int w), some (.long (lN a)), none, some (.long (lN b)), none, some (.int (nI i)), none, none]) (st' := [.int (nI 100), .int (nI i)]) (σ' := (α, μ)) (pc' := 13) kX11_lowest_9 rfl rfl rf_a0 ?_
      refine ok_icmp_ge bX11_lowest_13 (fun h13 => absurd h13 (nI_ge (by omega) (by omega))) (fun _ => ?_)
      refine ok_step (ps := []) (L' := [some (.long (lN a0)), none, some (.long (lN b0)), none, some (.int w), some (.long (lN a)), none, some (.long (lN b)), none, some (.int (nI i)), none, none]) (st' := [.int (lg_cmp (lN b) (lN 0))]) (σ' := (α, μ)) (pc' := 20) kX11_lowest_16 rfl rfl rf_a0 ?_
      refine ok_if_eq bX11_lowest_20 (fun h20 => absurd h20 (fun q => absurd ((lgc0 (by omega)).mp q) (by omega))) (fun _ => ?_)
      refine ok_step (ps := [rf_nzl (lN b)]) (L' := [some (.long (lN a0)), none, some (.long (lN b0)), none, some (.int w), some (.long (lN b)), none, some (.long ((lN a) - (lN a) / (lN b) * (lN b))), none, some (.int ((nI i) + (nI 1))), some (.long ((lN a) - (lN a) / (lN b) * (lN b))), none]) (st' := []) (σ' := (α, μ)) (pc' := 41) kX11_lowest_23 rfl rfl (rf_a1 (nzl_n (by omega) e) rf_a0) ?_
      try rw [(show ((nI i) + (nI 1)) = nI (i + 1) from nI_add _ _)]
      refine ok_goto bX11_lowest_41 ?_
      rw [show (lN a) - (lN a) / (lN b) * (lN b) = lN (a % b) from pk_lRem (by omega) e (by omega)]
      refine ok_kill (x := 10) ?_
      exact ih b (a % b) (i + 1) (by omega) (by omega) (gcd_step.trans hg) he (by omega)
theorem c_low {a0 b0 : Nat} {w : Int32} (h0 : a0 < 2 ^ 62) (h1 : b0 < 2 ^ 62) (h2 : 1 ≤ b0) (h3 : b0 < 2 ^ 20) : rf_At (rf_T Ln xs) MX11_lowest 1 0 ([some (.long (lN a0)), none, some (.long (lN b0)), none, some (.int w), none, none, none, none, none, none, none], [], 108, (α, μ)) (some (.long (lN ((if w = 0 then a0 else b0) / Nat.gcd a0 b0)))) 108 (α, μ) := by
  refine rf_pa ?_
  refine ok_step (ps := []) (L' := [some (.long (lN a0)), none, some (.long (lN b0)), none, some (.int w), some (.long (lN a0)), none, some (.long (lN b0)), none, some (.int (nI 0)), none, none]) (st' := []) (σ' := (α, μ)) (pc' := 9) kX11_lowest_0 rfl rfl rf_a0 ?_
  exact c_low_l h0 h1 h2 40 a0 b0 0 h0 h1 rfl (gE_of 20 a0 b0 h3) (by omega)
theorem m_com_l {a0 b0 : Nat} : ∀ (n a b : Nat), a < 2 ^ 62 → b < 2 ^ 62 → Nat.gcd a b = Nat.gcd a0 b0 → gE n a b = true → rf_Ok (rf_T Ln xs) MX12_common 1 6 [some (.long (lN a0)), none, some (.long (lN b0)), none, some (.long (lN a)), none, some (.long (lN b)), none, none, none] [] (α, μ) (fun r s => r = some (.long (lN (Nat.gcd a0 b0))) ∧ s = (α, μ)) := by
  have fin : ∀ (a : Nat), a < 2 ^ 62 → a = Nat.gcd a0 b0 → rf_Ok (rf_T Ln xs) MX12_common 1 6 [some (.long (lN a0)), none, some (.long (lN b0)), none, some (.long (lN a)), none, some (.long (lN 0)), none, none, none] [] (α, μ) (fun r s => r = some (.long (lN (Nat.gcd a0 b0))) ∧ s = (α, μ)) := by
    intro a ha hg
    refine ok_step (ps := []) (L' := [some (.long (lN a0)), none, some (.long (lN b0)), none, some (.long (lN a)), none, some (.long (lN 0)), none, none, none]) (st' := [.int (lg_cmp (lN 0) (lN 0))]) (σ' := (α, μ)) (pc' := 10) kX12_common_6 rfl rfl rf_a0 ?_
    refine ok_if_eq bX12_common_10 (fun _ => ?_) (fun h10 => absurd ((lgc0 (by omega)).mpr rfl) h10)
    refine ok_step (ps := []) (L' := [some (.long (lN a0)), none, some (.long (lN b0)), none, some (.long (lN a)), none, some (.long (lN 0)), none, none, none]) (st' := [.long (lN a)]) (σ' := (α, μ)) (pc' := 33) kX12_common_31 rfl rfl rf_a0 ?_
    refine ok_retl eX12_common_33 rfl ?_
    exact ⟨by rw [hg], rfl⟩
  intro n
  induction n with
  | zero =>
    intro a b ha hb hg he
    have e : b = 0 := by simpa [gE] using he
    subst e
    exact fin a ha (by simpa using hg)
  | succ n ih =>
    intro a b ha hb hg he
    rcases Nat.eq_zero_or_pos b with e | e
    · subst e
      exact fin a ha (by simpa using hg)
    · have he : gE n b (a % b) = true := by
        simp only [gE, Bool.or_eq_true, decide_eq_true_eq] at he
        rcases he with he | he
        · omega
        · exact he
      have hm := Nat.mod_lt a e
      refine ok_step (ps := []) (L' := [some (.long (lN a0)), none, some (.long (lN b0)), none, some (.long (lN a)), none, some (.long (lN b)), none, none, none]) (st' := [.int (lg_cmp (lN b) (lN 0))]) (σ' := (α, μ)) (pc' := 10) kX12_common_6 rfl rfl rf_a0 ?_
      refine ok_if_eq bX12_common_10 (fun h10 => absurd h10 (fun q => absurd ((lgc0 (by omega)).mp q) (by omega))) (fun _ => ?_)
      refine ok_step (ps := [rf_nzl (lN b)]) (L' := [some (.long (lN a0)), none, some (.long (lN b0)), none, some (.long (lN b)), none, some (.long ((lN a) - (lN a) / (lN b) * (lN b))), none, some (.long ((lN a) - (lN a) / (lN b) * (lN b))), none]) (st' := []) (σ' := (α, μ)) (pc' := 28) kX12_common_13 rfl rfl (rf_a1 (nzl_n (by omega) e) rf_a0) ?_
      refine ok_goto bX12_common_28 ?_
      rw [show (lN a) - (lN a) / (lN b) * (lN b) = lN (a % b) from pk_lRem (by omega) e (by omega)]
      refine ok_kill (x := 8) ?_
      exact ih b (a % b) (by omega) (by omega) (gcd_step.trans hg) he
theorem m_com {a0 b0 : Nat} (h0 : a0 < 2 ^ 62) (h1 : b0 < 2 ^ 62) : rf_At (rf_T Ln xs) MX12_common 1 0 ([some (.long (lN a0)), none, some (.long (lN b0)), none, none, none, none, none, none, none], [], 108, (α, μ)) (some (.long (lN (Nat.gcd a0 b0)))) 108 (α, μ) := by
  refine rf_pa ?_
  refine ok_step (ps := []) (L' := [some (.long (lN a0)), none, some (.long (lN b0)), none, some (.long (lN a0)), none, some (.long (lN b0)), none, none, none]) (st' := []) (σ' := (α, μ)) (pc' := 6) kX12_common_0 rfl rfl rf_a0 ?_
  exact m_com_l 124 a0 b0 h0 h1 rfl (gE_of 62 a0 b0 h1)
theorem m_part {a0 b0 : Nat} {w : Int32} (h0 : a0 < 2 ^ 62) (h1 : b0 < 2 ^ 62) (h2 : 1 ≤ b0) : rf_At (rf_T Ln xs) MX12_part 2 0 ([some (.long (lN a0)), none, some (.long (lN b0)), none, some (.int w)], [], 108, (α, μ)) (some (.long (lN ((if w = 0 then a0 else b0) / Nat.gcd a0 b0)))) 108 (α, μ) := by
  have hgp : 0 < Nat.gcd a0 b0 := Nat.gcd_pos_of_pos_right _ h2
  have hgl : Nat.gcd a0 b0 ≤ b0 := Nat.gcd_le_right _ h2
  refine rf_pa ?_
  refine ok_step (ps := []) (L' := [some (.long (lN a0)), none, some (.long (lN b0)), none, some (.int w)]) (st' := [.int w]) (σ' := (α, μ)) (pc' := 2) kX12_part_0 rfl rfl rf_a0 ?_
  refine ok_if_ne bX12_part_2 (fun z2 => ?_) (fun z2 => ?_)
  · refine ok_step (ps := []) (L' := [some (.long (lN a0)), none, some (.long (lN b0)), none, some (.int w)]) (st' := [.long (lN b0)]) (σ' := (α, μ)) (pc' := 10) kX12_part_9 rfl rfl rf_a0 ?_
    refine ok_step (ps := []) (L' := [some (.long (lN a0)), none, some (.long (lN b0)), none, some (.int w)]) (st' := [.long (lN b0), .long (lN a0), .long (lN b0)]) (σ' := (α, μ)) (pc' := 12) kX12_part_10 rfl rfl rf_a0 ?_
    refine ok_S (As := [.long (lN a0), .long (lN b0)]) (st := [.long (lN b0)]) mkX12_common qX12_part_12 rfl rfl rfl rfl rfl (Nat.le_of_ble_eq_true rfl) (m_com h0 h1) ?_
    refine ok_step (ps := [rf_nzl (lN (Nat.gcd a0 b0))]) (L' := [some (.long (lN a0)), none, some (.long (lN b0)), none, some (.int w)]) (st' := [.long ((lN b0) / (lN (Nat.gcd a0 b0)))]) (σ' := (α, μ)) (pc' := 16) kX12_part_15 rfl rfl (rf_a1 (nzl_n (by omega) hgp) rf_a0) ?_
    refine ok_retl eX12_part_16 rfl ?_
    refine ⟨congrArg (fun z => some (Value.long z)) ?_, rfl⟩
    rw [pk_lDiv (by omega) (by omega) (by omega)]
    first | rw [if_pos z2] | rw [if_neg z2]
  · refine ok_step (ps := []) (L' := [some (.long (lN a0)), none, some (.long (lN b0)), none, some (.int w)]) (st' := [.long (lN a0)]) (σ' := (α, μ)) (pc' := 6) kX12_part_5 rfl rfl rf_a0 ?_
    refine ok_goto bX12_part_6 ?_
    refine ok_step (ps := []) (L' := [some (.long (lN a0)), none, some (.long (lN b0)), none, some (.int w)]) (st' := [.long (lN b0), .long (lN a0), .long (lN a0)]) (σ' := (α, μ)) (pc' := 12) kX12_part_10 rfl rfl rf_a0 ?_
    refine ok_S (As := [.long (lN a0), .long (lN b0)]) (st := [.long (lN a0)]) mkX12_common qX12_part_12 rfl rfl rfl rfl rfl (Nat.le_of_ble_eq_true rfl) (m_com h0 h1) ?_
    refine ok_step (ps := [rf_nzl (lN (Nat.gcd a0 b0))]) (L' := [some (.long (lN a0)), none, some (.long (lN b0)), none, some (.int w)]) (st' := [.long ((lN a0) / (lN (Nat.gcd a0 b0)))]) (σ' := (α, μ)) (pc' := 16) kX12_part_15 rfl rfl (rf_a1 (nzl_n (by omega) hgp) rf_a0) ?_
    refine ok_retl eX12_part_16 rfl ?_
    refine ⟨congrArg (fun z => some (Value.long z)) ?_, rfl⟩
    rw [pk_lDiv (by omega) (by omega) (by omega)]
    first | rw [if_pos z2] | rw [if_neg z2]
end H32
