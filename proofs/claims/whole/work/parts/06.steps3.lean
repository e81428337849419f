theorem rf_in_0 : ∀ w ∈ u_ws RX0 TX0 4, w ∈ rf_words := by decide +kernel
theorem rf_in_1 : ∀ w ∈ u_ws RX1 TX1 7, w ∈ rf_words := by decide +kernel
theorem rf_in_2 : ∀ w ∈ u_ws RX2 TX2 4, w ∈ rf_words := by decide +kernel
theorem rf_in_3 : ∀ w ∈ u_ws RX3 TX3 11, w ∈ rf_words := by decide +kernel
theorem rf_in_4 : ∀ w ∈ u_ws RX4 TX4 10, w ∈ rf_words := by decide +kernel
theorem rf_in_5 : ∀ w ∈ u_ws RX5 TX5 6, w ∈ rf_words := by decide +kernel
theorem rf_in_6 : ∀ w ∈ u_ws RX6 TX6 3, w ∈ rf_words := by decide +kernel
theorem rf_in_7 : ∀ w ∈ u_ws RX7 TX7 3, w ∈ rf_words := by decide +kernel
theorem rf_in_8 : ∀ w ∈ u_ws RX8 TX8 3, w ∈ rf_words := by decide +kernel
theorem rf_in_9 : ∀ w ∈ u_ws RX9 TX9 5, w ∈ rf_words := by decide +kernel
theorem rf_in_10 : ∀ w ∈ u_ws RX10 TX10 10, w ∈ rf_words := by decide +kernel
theorem rf_in_11 : ∀ w ∈ u_ws RX11 TX11 8, w ∈ rf_words := by decide +kernel
theorem rf_in_12 : ∀ w ∈ u_ws RX12 TX12 24, w ∈ rf_words := by decide +kernel
theorem rf_13 {P : Nat → Prop} (h0 : P 0) (h1 : P 1) (h2 : P 2) (h3 : P 3) (h4 : P 4) (h5 : P 5) (h6 : P 6) (h7 : P 7) (h8 : P 8) (h9 : P 9) (h10 : P 10) (h11 : P 11) (h12 : P 12) : ∀ ci, ci < 13 → P ci
  | 0, _ => h0 | 1, _ => h1 | 2, _ => h2 | 3, _ => h3 | 4, _ => h4 | 5, _ => h5 | 6, _ => h6 | 7, _ => h7 | 8, _ => h8 | 9, _ => h9 | 10, _ => h10 | 11, _ => h11 | 12, _ => h12
  | n + 13, h => absurd h (by omega)
def rf_tyf (ci : Nat) : Nat → FieldType := rf_tyc.getD ci tyX0
/-- what the tables say of class ci -/
theorem rf_cls_ok : ∀ ci, ci < 13 → vwCl[ci]? = some ((rf_cls ci).1, (rf_cls ci).2.1, (rf_cls ci).2.2) ∧ (∀ w ∈ u_ws (rf_cls ci).1 (rf_cls ci).2.1 (rf_cls ci).2.2, w ∈ rf_words) ∧ (∀ k, k < (rf_cls ci).2.2 → parseFieldDescriptor ((rf_cls ci).2.1 k).2.2.1 = some (rf_tyf ci k)) ∧ (∀ a, a < (rf_cls ci).2.2 → ∀ b, b < (rf_cls ci).2.2 → a ≠ b → ((rf_cls ci).2.1 a).2.1 ≠ ((rf_cls ci).2.1 b).2.1) ∧ (Cond.instantiable (rf_cls ci).1 (rf_cls ci).2.2 ∈ rf_words ∧ Cond.initialized (rf_cls ci).1 ∈ rf_words) := by
  apply rf_13
  · exact ⟨rfl, rf_in_0, tyX0_ok, nmX0, by decide +kernel⟩
  · exact ⟨rfl, rf_in_1, tyX1_ok, nmX1, by decide +kernel⟩
  · exact ⟨rfl, rf_in_2, tyX2_ok, nmX2, by decide +kernel⟩
  · exact ⟨rfl, rf_in_3, tyX3_ok, nmX3, by decide +kernel⟩
  · exact ⟨rfl, rf_in_4, tyX4_ok, nmX4, by decide +kernel⟩
  · exact ⟨rfl, rf_in_5, tyX5_ok, nmX5, by decide +kernel⟩
  · exact ⟨rfl, rf_in_6, tyX6_ok, nmX6, by decide +kernel⟩
  · exact ⟨rfl, rf_in_7, tyX7_ok, nmX7, by decide +kernel⟩
  · exact ⟨rfl, rf_in_8, tyX8_ok, nmX8, by decide +kernel⟩
  · exact ⟨rfl, rf_in_9, tyX9_ok, nmX9, by decide +kernel⟩
  · exact ⟨rfl, rf_in_10, tyX10_ok, nmX10, by decide +kernel⟩
  · exact ⟨rfl, rf_in_11, tyX11_ok, nmX11, by decide +kernel⟩
  · exact ⟨rfl, rf_in_12, tyX12_ok, nmX12, by decide +kernel⟩
theorem rf_in_vp {i : Int32} {n : Nat} (h : rf_in i n = true) : vp_in i n := by
  simp only [rf_in, Bool.and_eq_true, decide_eq_true_eq] at h
  rintro (h1 | h1)
  · exact absurd h1 (Int32.not_lt.mpr h.1)
  · omega
section RFM
variable {T : rf_Tb} {M : rf_M} {p : Program} {l : Launch} {e : Env} {R : Room} {s : State} {m : MethodId} {args : Array Value} {below : List Frame} {meth : Method} {c : Code} {lo : Nat} {D : va_G} {ad0 : Nat → Nat} {n0 n' : Nat} {Q : State → Prop} {d pc pc' : Nat} {S S' : rf_St} {ps : List Bool}
variable {H : Heap} {locs : List Loc} {cells slots : Nat} {ls : Array Slot} {rest : List Value} {ad : Nat → Nat} {cid : Nat → ClassId} {n : Nat} {σ : rf_Mem}
theorem rf_get_W (hC : rf_Cx M p s m args meth c) {ci j index a t : Nat} (hci : ci < 13) (hj : j < (rf_cls ci).2.2) (hlk : Cond.fieldLink M.1.cls index ((rf_cls ci).2.1 j).1 ((rf_cls ci).2.1 j).2.1 ((rf_cls ci).2.1 j).2.2.1 ∈ rf_words) (hdg : decode M.2.1 pc = .ok (.getfield index, 3))
    (hw : rf_Wd T.1 lo D ad cid n σ s H) (ha : a < n) (hk : (T.1 a).1 = ci + 3) (ht : (T.1 a).2.2[j]? = some t) (kk : W p l e R s m args below meth c H locs cells slots Q (F0 m (pc + 3) ls (rf_cv ad (rf_av t (rf_row σ a j) (rf_row σ a (j + 100))) :: rest))) :
    W p l e R s m args below meth c H locs cells slots Q (F0 m pc ls (.ref (ad a) :: rest)) := by
  obtain ⟨hx, hb, hml, hown, hts, hr, hlocks, hnm⟩ := hC
  obtain ⟨e1, e2, e3, e4, e5, e6⟩ := rf_cls_ok ci hci
  have hg := rf_ws_get (T := T.1) (ad := ad) (cid := cid) (σ := σ) ha
  rw [rf_enc_obj _ _ hk] at hg
  refine va_get hx hb hts e2 hown hw.2.2.2.2.1 hw.2.2.1 a hg e1 j hj (hts _ hlk) (fun _ h => h) ?_ hdg kk
  rw [List.getElem?_map, rf_fa_get, ht]
  simp
theorem rf_k_get (hC : rf_Cx M p s m args meth c) {ci j index : Nat} {v : Int32} (hci : ci < 13) (hj : j < (rf_cls ci).2.2) (hlk : Cond.fieldLink M.1.cls index ((rf_cls ci).2.1 j).1 ((rf_cls ci).2.1 j).2.1 ((rf_cls ci).2.1 j).2.2.1 ∈ rf_words) (hdg : decode M.2.1 pc = .ok (.getfield index, 3))
    (hr : rf_get T ci j v S = (ps, S')) (hps : rf_all ps) (k : rf_Ht T M p l e R s m args below meth c lo D ad0 n0 n' Q (pc + 3) S') : rf_Ht T M p l e R s m args below meth c lo D ad0 n0 n' Q pc S := by
  obtain ⟨L, st, n, σ⟩ := S
  unfold rf_get at hr
  split at hr
  · rename_i L1 a st1 n1 σ1 heq
    cases heq
    generalize hT : T.1 a = sh at hr
    obtain ⟨kd, len, sl⟩ := sh
    simp only at hr
    cases hc : (Nat.beq kd (ci + 3) && Nat.blt a n) with
    | false => rw [hc] at hr; exact (rf_badf hr hps).elim
    | true =>
      rw [hc] at hr
      simp only [Bool.and_eq_true, Nat.beq_eq, Nat.blt_eq, cond_true] at hc hr
      obtain ⟨hc1, hc2⟩ := hc
      have hk : (T.1 a).1 = ci + 3 := by rw [hT]; exact hc1
      split at hr
      · rename_i h5
        cases hr
        exact rf_pure (fun ad cid H locs ls _ hw _ _ kk => rf_get_W hC hci hj hlk hdg hw hc2 hk (by rw [hT]; exact h5) kk) k
      · rename_i h5
        cases hr
        exact rf_pure (fun ad cid H locs ls _ hw _ _ kk => rf_get_W hC hci hj hlk hdg hw hc2 hk (by rw [hT]; exact h5) kk) k
      · rename_i h5
        cases hr
        have h6 := hps.1
        simp only [rf_eqb, decide_eq_true_eq] at h6
        refine rf_pure (fun ad cid H locs ls _ hw _ _ kk => rf_get_W hC hci hj hlk hdg hw hc2 hk (by rw [hT]; exact h5) ?_) k
        simp only [rf_av, h6]
        exact kk
      · rename_i h5
        cases hr
        exact rf_pure (fun ad cid H locs ls _ hw _ _ kk => rf_get_W hC hci hj hlk hdg hw hc2 hk (by rw [hT]; exact h5) kk) k
      · rename_i t h5
        cases hr
        exact rf_pure (fun ad cid H locs ls _ hw _ _ kk => rf_get_W hC hci hj hlk hdg hw hc2 hk (by rw [hT]; exact h5) kk) k
      · exact (rf_badf hr hps).elim
  · exact (rf_badf hr hps).elim
/-- a field gets a value -/
theorem rf_put_W (hC : rf_Cx M p s m args meth c) {ci j index a : Nat} (hci : ci < 13) (hj : j < (rf_cls ci).2.2) (hlk : Cond.fieldLink M.1.cls index ((rf_cls ci).2.1 j).1 ((rf_cls ci).2.1 j).2.1 ((rf_cls ci).2.1 j).2.2.1 ∈ rf_words) (hfin : ((rf_cls ci).2.1 j).2.2.2 = false ∨ (M.1.name = "<init>" ∧ ((rf_cls ci).2.1 j).1 = M.1.cls)) (hdg : decode M.2.1 pc = .ok (.putfield index, 3))
    (hw : rf_Wd T.1 lo D ad cid n σ s H) (hS : va_S (fun q => lo ≤ q) s.heap H locs) (ha : a < n) (hk : (T.1 a).1 = ci + 3) (ht : (T.1 a).2.2[j]? = some (rf_tk ci j)) {u : Value} {g : Nat → Int32} (hn : narrow (rf_tyf ci j) (rf_cv ad u) = rf_cv ad u) (hfit : fits (rf_tyf ci j) (rf_cv ad u) = true)
    (hu : rf_av (rf_tk ci j) (g j) (g (j + 100)) = u) (hg : ∀ i, i ≠ j → i ≠ j + 100 → g i = rf_row σ a i) (h2 : rf_tk ci j = 1 ∨ g (j + 100) = rf_row σ a (j + 100)) (hc : rf_tk ci j = 2 → g j = 0 ∨ rf_okr n ((g j).toNatClampNeg - 1))
    (kk : ∀ (H1 : Heap) (locs1 : List Loc), rf_Wd T.1 lo D ad cid n (rf_rs σ a g) s H1 → va_S (fun q => lo ≤ q) s.heap H1 locs1 → W p l e R s m args below meth c H1 locs1 cells slots Q (F0 m (pc + 3) ls rest)) :
    W p l e R s m args below meth c H locs cells slots Q (F0 m pc ls (rf_cv ad u :: .ref (ad a) :: rest)) := by
  obtain ⟨hx, hb, hml, hown, hts, hr, hlocks, hnm⟩ := hC
  obtain ⟨e1, e2, e3, e4, e5, e6⟩ := rf_cls_ok ci hci
  have hg0 := rf_ws_get (T := T.1) (ad := ad) (cid := cid) (σ := σ) ha
  rw [rf_enc_obj _ _ hk] at hg0
  have hl := (hw.2.1 a ha).1
  have hfl : j < ((rf_fa (rf_row σ a) 0 (T.1 a).2.2).map (rf_cv ad)).length := by
    rw [List.length_map, rf_fa_len]
    exact (List.getElem?_eq_some_iff.mp ht).1
  have hset : ((rf_fa (rf_row σ a) 0 (T.1 a).2.2).map (rf_cv ad)).set j (rf_cv ad u) = (rf_fa g 0 (T.1 a).2.2).map (rf_cv ad) := by
    rw [← List.map_set, rf_fa_set hl ht hu hg h2]
  have hcl : 3 ≤ (T.1 a).1 → ∀ i, (T.1 a).2.2[i]? = some 2 → g i = 0 ∨ rf_okr n ((g i).toNatClampNeg - 1) := by
    intro h3 i hi
    by_cases e : i = j
    · subst e
      rw [ht] at hi
      exact hc (Option.some.inj hi)
    · have hil := (List.getElem?_eq_some_iff.mp hi).1
      rw [hg i e (by omega)]
      exact ((hw.2.1 a ha).2.2 h3 i).1 hi
  have fin : ∀ (H1 : Heap) (locs1 : List Loc), va_P D vwCl ((rf_ws T.1 ad cid n σ).set a (ad a, .inr (ci, ((rf_fa (rf_row σ a) 0 (T.1 a).2.2).map (rf_cv ad)).set j (rf_cv ad u)))) H1 → va_D (fun q => lo ≤ q) ((rf_ws T.1 ad cid n σ).set a (ad a, .inr (ci, ((rf_fa (rf_row σ a) 0 (T.1 a).2.2).map (rf_cv ad)).set j (rf_cv ad u)))) → va_S (fun q => lo ≤ q) s.heap H1 locs1 → W p l e R s m args below meth c H1 locs1 cells slots Q (F0 m (pc + 3) ls rest) := by
    intro H1 locs1 hP hD hS1
    rw [hset, ← rf_enc_obj ad (cid a) hk] at hP hD
    exact kk H1 locs1 (rf_Wd_set hw ha g hcl hP hD) hS1
  rcases hfin with hf | ⟨hf1, hf2⟩
  · exact va_put hx hb hts e2 (rf_tyf ci) e3 e4 hown hw.2.2.2.2.1 hw.2.2.1 hw.2.2.2.1 hS a hg0 e1 j hj (hts _ hlk) (fun _ h => h) hf (e3 j hj) hn hfit hfl hdg fin
  · cases hf : ((rf_cls ci).2.1 j).2.2.2 with
    | false => exact va_put hx hb hts e2 (rf_tyf ci) e3 e4 hown hw.2.2.2.2.1 hw.2.2.1 hw.2.2.2.1 hS a hg0 e1 j hj (hts _ hlk) (fun _ h => h) hf (e3 j hj) hn hfit hfl hdg fin
    | true => exact va_putF hx hb hts e2 (rf_tyf ci) e3 e4 hown hw.2.2.2.2.1 hw.2.2.1 hw.2.2.2.1 hS a hg0 e1 j hj (hts _ hlk) (fun _ h => h) hf (hnm.trans hf1) hf2 (e3 j hj) hn hfit hfl hdg fin
end RFM
