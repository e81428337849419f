theorem rf_ty_0 {t : FieldType} (h : rf_tyk t = 0) : t = .int := by cases t <;> simp_all [rf_tyk]
theorem rf_ty_1 {t : FieldType} (h : rf_tyk t = 1) : t = .long := by cases t <;> simp_all [rf_tyk]
theorem rf_ty_3 {t : FieldType} (h : rf_tyk t = 3) : t = .boolean := by cases t <;> simp_all [rf_tyk]
theorem rf_ty_2 {t : FieldType} (h : rf_tyk t = 2) : (∃ C, t = .object C) ∨ ∃ u, t = .array u := by cases t <;> simp_all [rf_tyk]
theorem rf_tk_ty {ci j : Nat} (hci : ci < 13) (hj : j < (rf_cls ci).2.2) : rf_tyk (rf_tyf ci j) = rf_tk ci j := ((rf_tk_ok ci hci).2 j hj).symm
theorem rf_getD99 {sl : List Nat} {j t : Nat} (h : sl.getD j 99 = t) (ht : t < 99) : sl[j]? = some t := by
  rw [List.getD_eq_getElem?_getD] at h
  cases hq : sl[j]? with
  | none => rw [hq] at h; simp at h; omega
  | some o => rw [hq] at h; simp at h; rw [h]
theorem rf_bb_z {a : Int32} (h : rf_bb a = true) : a = 0 ∨ a = 1 := by
  simpa [rf_bb] using h
theorem rf_dr_of {a : Nat} (h : a < 2000) : rf_dr (Int32.ofNat (a + 1)) = .ref a ∧ (Int32.ofNat (a + 1)).toNatClampNeg - 1 = a := by
  have h1 : (Int32.ofNat (a + 1)).toNatClampNeg = a + 1 := nI_clamp (by omega)
  have h2 : ¬ (Int32.ofNat (a + 1)) = 0 := nI_ne0 (n := a + 1) (by omega) (by omega)
  refine ⟨?_, by omega⟩
  unfold rf_dr
  rw [if_neg h2, h1]
  rfl
theorem rf_upd_ne {f : Nat → Int32} {k i : Nat} {x : Int32} (h : i ≠ k) : upd f k x i = f i := pk_un h
section RFP
variable {T : rf_Tb} {M : rf_M} {p : Program} {l : Launch} {e : Env} {R : Room} {s : State} {m : MethodId} {args : Array Value} {below : List Frame} {meth : Method} {c : Code} {lo : Nat} {D : va_G} {ad0 : Nat → Nat} {n0 n' : Nat} {Q : State → Prop} {d pc pc' : Nat} {S S' : rf_St} {ps : List Bool}
variable {H : Heap} {locs : List Loc} {cells slots : Nat} {ls : Array Slot} {rest : List Value} {ad : Nat → Nat} {cid : Nat → ClassId} {n : Nat} {σ : rf_Mem}
theorem rf_k_put (hC : rf_Cx M p s m args meth c) {ci j index : Nat} (hci : ci < 13) (hj : j < (rf_cls ci).2.2) (hlk : Cond.fieldLink M.1.cls index ((rf_cls ci).2.1 j).1 ((rf_cls ci).2.1 j).2.1 ((rf_cls ci).2.1 j).2.2.1 ∈ rf_words) (hfin : ((rf_cls ci).2.1 j).2.2.2 = false ∨ (M.1.name = "<init>" ∧ ((rf_cls ci).2.1 j).1 = M.1.cls)) (hdg : decode M.2.1 pc = .ok (.putfield index, 3))
    (hr : rf_put T ci j S = (ps, S')) (hps : rf_all ps) (k : rf_Ht T M p l e R s m args below meth c lo D ad0 n0 n' Q (pc + 3) S') : rf_Ht T M p l e R s m args below meth c lo D ad0 n0 n' Q pc S := by
  obtain ⟨L, st, n, σ⟩ := S
  have htk := rf_tk_ty hci hj
  unfold rf_put at hr
  split at hr
  · rename_i L1 x a st1 n1 σ1 heq
    cases heq
    generalize hT : T.1 a = sh at hr
    obtain ⟨kd, len, sl⟩ := sh
    simp only at hr
    cases hc : (Nat.beq kd (ci + 3) && Nat.blt a n && Nat.beq (sl.getD j 99) (rf_tk ci j)) with
    | false => rw [hc] at hr; exact (rf_badf hr hps).elim
    | true =>
      rw [hc] at hr
      simp only [Bool.and_eq_true, Nat.beq_eq, Nat.blt_eq, cond_true] at hc hr
      obtain ⟨⟨hc1, hc2⟩, hc3⟩ := hc
      have hk : (T.1 a).1 = ci + 3 := by rw [hT]; exact hc1
      have ht : (T.1 a).2.2[j]? = some (rf_tk ci j) := by
        rw [hT]
        refine rf_getD99 hc3 ?_
        split at hr <;> first | (rename_i h0; omega) | exact (rf_badf hr hps).elim
      split at hr
      · rename_i h0
        cases hr
        rw [h0] at htk
        intro ad cid H locs ls a1 a2 a3 a4 a5 a6
        refine rf_put_W hC hci hj hlk hfin hdg a4 a5 hc2 hk ht (u := .int x) (g := upd (rf_row σ a) j x) (by rw [rf_ty_0 htk]; rfl) (by rw [rf_ty_0 htk]; rfl) (by rw [h0, pk_us]; rfl) (fun i h1 _ => rf_upd_ne h1) (Or.inr (rf_upd_ne (by omega))) (fun h2 => absurd (h0.symm.trans h2) (by omega)) (fun H1 locs1 hw1 hS1 => ?_)
        rw [rf_wr_eq] at k
        exact k ad cid H1 locs1 ls a1 a2 a3 hw1 hS1 a6
      · rename_i h0
        cases hr
        rw [h0] at htk
        intro ad cid H locs ls a1 a2 a3 a4 a5 a6
        have hz := rf_bb_z hps.1
        refine rf_put_W hC hci hj hlk hfin hdg a4 a5 hc2 hk ht (u := .int x) (g := upd (rf_row σ a) j x) (by rw [rf_ty_3 htk]; rcases hz with rfl | rfl <;> rfl) (by rw [rf_ty_3 htk]; rcases hz with rfl | rfl <;> rfl) (by rw [h0, pk_us]; rfl) (fun i h1 _ => rf_upd_ne h1) (Or.inr (rf_upd_ne (by omega))) (fun h2 => absurd (h0.symm.trans h2) (by omega)) (fun H1 locs1 hw1 hS1 => ?_)
        rw [rf_wr_eq] at k
        exact k ad cid H1 locs1 ls a1 a2 a3 hw1 hS1 a6
      · exact (rf_badf hr hps).elim
  · rename_i L1 x a st1 n1 σ1 heq
    cases heq
    generalize hT : T.1 a = sh at hr
    obtain ⟨kd, len, sl⟩ := sh
    simp only at hr
    cases hc : (Nat.beq kd (ci + 3) && Nat.blt a n && Nat.beq (sl.getD j 99) (rf_tk ci j)) with
    | false => rw [hc] at hr; exact (rf_badf hr hps).elim
    | true =>
      rw [hc] at hr
      simp only [Bool.and_eq_true, Nat.beq_eq, Nat.blt_eq, cond_true] at hc hr
      obtain ⟨⟨hc1, hc2⟩, hc3⟩ := hc
      have hk : (T.1 a).1 = ci + 3 := by rw [hT]; exact hc1
      have ht : (T.1 a).2.2[j]? = some (rf_tk ci j) := by
        rw [hT]
        refine rf_getD99 hc3 ?_
        split at hr <;> first | (rename_i h0; omega) | exact (rf_badf hr hps).elim
      split at hr
      · rename_i h0
        cases hr
        rw [h0] at htk
        intro ad cid H locs ls a1 a2 a3 a4 a5 a6
        refine rf_put_W hC hci hj hlk hfin hdg a4 a5 hc2 hk ht (u := .long x) (g := upd (upd (rf_row σ a) j (rf_hi x)) (j + 100) (rf_lo x)) (by rw [rf_ty_1 htk]; rfl) (by rw [rf_ty_1 htk]; rfl) (by rw [h0, pk_us, rf_upd_ne (by omega), pk_us]; simp only [rf_av, rf_jn_hl]) (fun i h1 h2 => by rw [rf_upd_ne h2, rf_upd_ne h1]) (Or.inl h0) (fun h2 => absurd (h0.symm.trans h2) (by omega)) (fun H1 locs1 hw1 hS1 => ?_)
        have e1 : rf_wr (rf_wr σ a j (rf_hi x)) a (j + 100) (rf_lo x) = rf_rs σ a (upd (upd (rf_row σ a) j (rf_hi x)) (j + 100) (rf_lo x)) := by
          rw [rf_wr_eq, rf_wr_eq, rf_row_rs]
          simp only [if_true]
          unfold rf_rs
          cases Nat.blt a 94 <;> simp only [cond_true, cond_false, Prod.mk.injEq, true_and, and_true] <;> funext i <;> unfold rf_r <;> by_cases e : i = a <;> simp [e]
        rw [e1] at k
        exact k ad cid H1 locs1 ls a1 a2 a3 hw1 hS1 a6
      · exact (rf_badf hr hps).elim
  · rename_i L1 x a st1 n1 σ1 heq
    cases heq
    generalize hT : T.1 a = sh at hr
    obtain ⟨kd, len, sl⟩ := sh
    simp only at hr
    cases hc : (Nat.beq kd (ci + 3) && Nat.blt a n && Nat.beq (sl.getD j 99) (rf_tk ci j) && Nat.blt x 2000 && (Nat.blt x n || Nat.ble 500 x)) with
    | false => rw [hc] at hr; exact (rf_badf hr hps).elim
    | true =>
      rw [hc] at hr
      simp only [Bool.and_eq_true, Bool.or_eq_true, Nat.beq_eq, Nat.blt_eq, Nat.ble_eq, cond_true] at hc hr
      obtain ⟨⟨⟨⟨hc1, hc2⟩, hc3⟩, hc4⟩, hc5⟩ := hc
      have hk : (T.1 a).1 = ci + 3 := by rw [hT]; exact hc1
      have ht : (T.1 a).2.2[j]? = some (rf_tk ci j) := by
        rw [hT]
        refine rf_getD99 hc3 ?_
        split at hr <;> first | (rename_i h0; omega) | exact (rf_badf hr hps).elim
      split at hr
      · rename_i h0
        cases hr
        rw [h0] at htk
        intro ad cid H locs ls a1 a2 a3 a4 a5 a6
        obtain ⟨d1, d2⟩ := rf_dr_of hc4
        refine rf_put_W hC hci hj hlk hfin hdg a4 a5 hc2 hk ht (u := .ref x) (g := upd (rf_row σ a) j (Int32.ofNat (x + 1))) (by rcases rf_ty_2 htk with ⟨C, h⟩ | ⟨C, h⟩ <;> rw [h] <;> rfl) (by rcases rf_ty_2 htk with ⟨C, h⟩ | ⟨C, h⟩ <;> rw [h] <;> rfl) (by rw [h0, pk_us]; exact d1) (fun i h1 _ => rf_upd_ne h1) (Or.inr (rf_upd_ne (by omega))) (fun _ => Or.inr (by rw [pk_us, d2]; exact hc5)) (fun H1 locs1 hw1 hS1 => ?_)
        rw [rf_wr_eq] at k
        exact k ad cid H1 locs1 ls a1 a2 a3 hw1 hS1 a6
      · exact (rf_badf hr hps).elim
  · rename_i L1 a st1 n1 σ1 heq
    cases heq
    generalize hT : T.1 a = sh at hr
    obtain ⟨kd, len, sl⟩ := sh
    simp only at hr
    cases hc : (Nat.beq kd (ci + 3) && Nat.blt a n && Nat.beq (sl.getD j 99) (rf_tk ci j)) with
    | false => rw [hc] at hr; exact (rf_badf hr hps).elim
    | true =>
      rw [hc] at hr
      simp only [Bool.and_eq_true, Nat.beq_eq, Nat.blt_eq, cond_true] at hc hr
      obtain ⟨⟨hc1, hc2⟩, hc3⟩ := hc
      have hk : (T.1 a).1 = ci + 3 := by rw [hT]; exact hc1
      have ht : (T.1 a).2.2[j]? = some (rf_tk ci j) := by
        rw [hT]
        refine rf_getD99 hc3 ?_
        split at hr <;> first | (rename_i h0; omega) | exact (rf_badf hr hps).elim
      split at hr
      · rename_i h0
        cases hr
        rw [h0] at htk
        intro ad cid H locs ls a1 a2 a3 a4 a5 a6
        refine rf_put_W hC hci hj hlk hfin hdg a4 a5 hc2 hk ht (u := .null) (g := upd (rf_row σ a) j 0) (by rcases rf_ty_2 htk with ⟨C, h⟩ | ⟨C, h⟩ <;> rw [h] <;> rfl) (by rcases rf_ty_2 htk with ⟨C, h⟩ | ⟨C, h⟩ <;> rw [h] <;> rfl) (by rw [h0, pk_us]; rfl) (fun i h1 _ => rf_upd_ne h1) (Or.inr (rf_upd_ne (by omega))) (fun _ => Or.inl pk_us) (fun H1 locs1 hw1 hS1 => ?_)
        rw [rf_wr_eq] at k
        exact k ad cid H1 locs1 ls a1 a2 a3 hw1 hS1 a6
      · exact (rf_badf hr hps).elim
  · exact (rf_badf hr hps).elim
/-- what the tables say of a row's class -/
theorem rf_Ka {a : Nat} (hw : rf_Wd T.1 lo D ad cid n σ s H) (ha : a < n) (hk : (T.1 a).1 ≤ 2) : va_K D vwCl [(cid a, rf_ty (T.1 a).1)] s := ⟨hw.2.2.2.2.1.1, fun i q hi => by
  match i, hi with
  | 0, hi => cases hi; exact hw.2.2.2.2.2 a ha hk
  | i + 1, hi => simp at hi⟩
theorem rf_k_eld (hC : rf_Cx M p s m args meth c) (hE : rf_Ex T.2 lo ad0 s) {kd : Nat} (hkd : (kd = 0 ∧ decode M.2.1 pc = .ok (.iaload, 1)) ∨ (kd = 1 ∧ decode M.2.1 pc = .ok (.baload, 1)))
    (hr : rf_eld T kd S = (ps, S')) (hps : rf_all ps) (k : rf_Ht T M p l e R s m args below meth c lo D ad0 n0 n' Q (pc + 1) S') : rf_Ht T M p l e R s m args below meth c lo D ad0 n0 n' Q pc S := by
  obtain ⟨hx, hb, hml, hown, hts, hrt, hlocks, hnm⟩ := hC
  obtain ⟨L, st, n, σ⟩ := S
  unfold rf_eld at hr
  split at hr
  · rename_i L1 i a st1 n1 σ1 heq
    cases heq
    cases hlt : Nat.blt a 1000 with
    | true =>
      rw [hlt] at hr
      rw [cond_true] at hr
      generalize hT : T.1 a = sh at hr
      obtain ⟨kd', len, sl⟩ := sh
      try simp only at hr
      cases hc : (Nat.beq kd' kd && Nat.blt a n) with
      | false => rw [hc] at hr; exact (rf_badf hr hps).elim
      | true =>
        rw [hc] at hr
        simp only [Bool.and_eq_true, Nat.beq_eq, Nat.blt_eq, cond_true] at hc hr
        cases hr
        obtain ⟨hc1, hc2⟩ := hc
        have hin := rf_in_vp hps.1
        refine rf_pure (fun ad cid H locs ls _ hw _ _ kk => ?_) k
        have hg := rf_ws_get (T := T.1) (ad := ad) (cid := cid) (σ := σ) hc2
        rcases hkd with ⟨h0, hd⟩ | ⟨h0, hd⟩
        · have hk : (T.1 a).1 = 0 := by rw [hT]; omega
          have hK := rf_Ka hw hc2 (by omega)
          rw [hk] at hK
          rw [rf_enc_0 _ _ hk, hT] at hg
          exact va_iald hx hb hK hw.2.2.1 a 0 hg rfl hin hd kk
        · have hk : (T.1 a).1 = 1 := by rw [hT]; omega
          have hK := rf_Ka hw hc2 (by omega)
          rw [hk] at hK
          rw [rf_enc_1 _ _ hk, hT] at hg
          exact va_zald hx hb hK hw.2.2.1 a 0 hg rfl hin hd kk
    | false =>
      rw [hlt] at hr
      rw [cond_false] at hr
      generalize hT : T.2 a = sh at hr
      obtain ⟨kd', len, f⟩ := sh
      try simp only at hr
      have h1000 : 1000 ≤ a := by
        rcases Nat.lt_or_ge a 1000 with h | h
        · rw [Nat.blt_eq.mpr h] at hlt; cases hlt
        · exact h
      cases hc : (Nat.beq kd' kd && Nat.ble a 1004) with
      | false => rw [hc] at hr; exact (rf_badf hr hps).elim
      | true =>
        rw [hc] at hr
        simp only [Bool.and_eq_true, Nat.beq_eq, Nat.ble_eq, cond_true] at hc hr
        cases hr
        obtain ⟨hc1, hc2⟩ := hc
        have hin := rf_in_vp hps.1
        have hX := hE.2.1 a h1000 hc2
        rw [hT] at hX
        refine rf_pure (fun ad cid H locs ls hag hw hS _ kk => ?_) k
        have ea : rf_cv ad (.ref a) = .ref (ad0 a) := by
          show Value.ref (ad a) = _
          rw [hag a (Or.inr (Nat.le_trans (by decide) h1000))]
        simp only [List.map_cons, ea]
        rcases hkd with ⟨h0, hd⟩ | ⟨h0, hd⟩
        · simp only [show kd' = 0 by omega, if_true] at hX
          exact va_ti hx hb hX hS hin rfl hd kk
        · simp only [show kd' = 1 by omega] at hX
          exact va_tb hx hb hX hS hin rfl hd kk
  · exact (rf_badf hr hps).elim
theorem rf_k_est (hC : rf_Cx M p s m args meth c) {kd : Nat} (hkd : (kd = 0 ∧ decode M.2.1 pc = .ok (.iastore, 1)) ∨ (kd = 1 ∧ decode M.2.1 pc = .ok (.bastore, 1)))
    (hr : rf_est T kd S = (ps, S')) (hps : rf_all ps) (k : rf_Ht T M p l e R s m args below meth c lo D ad0 n0 n' Q (pc + 1) S') : rf_Ht T M p l e R s m args below meth c lo D ad0 n0 n' Q pc S := by
  obtain ⟨hx, hb, hml, hown, hts, hrt, hlocks, hnm⟩ := hC
  obtain ⟨L, st, n, σ⟩ := S
  unfold rf_est at hr
  split at hr
  · rename_i L1 x i a st1 n1 σ1 heq
    cases heq
    generalize hT : T.1 a = sh at hr
    obtain ⟨kd', len, sl⟩ := sh
    simp only at hr
    cases hc : (Nat.beq kd' kd && Nat.blt a n) with
    | false => rw [hc] at hr; exact (rf_badf hr hps).elim
    | true =>
      rw [hc] at hr
      simp only [Bool.and_eq_true, Nat.beq_eq, Nat.blt_eq, cond_true] at hc hr
      obtain ⟨hc1, hc2⟩ := hc
      intro ad cid H locs ls a1 a2 a3 a4 a5 a6
      have hg := rf_ws_get (T := T.1) (ad := ad) (cid := cid) (σ := σ) hc2
      rcases hkd with ⟨h0, hd⟩ | ⟨h0, hd⟩
      · have hk : (T.1 a).1 = 0 := by rw [hT]; omega
        rw [h0] at hr
        cases hr
        have hK := rf_Ka a4 hc2 (by omega)
        rw [hk] at hK
        rw [rf_enc_0 _ _ hk] at hg
        refine va_iast hx hb hK a4.2.2.1 a4.2.2.2.1 a5 a 0 hg rfl (by rw [hT]; exact rf_in_vp hps.1) hd (fun H1 locs1 hP hD hS => ?_)
        rw [← rf_enc_0 ad (cid a) hk] at hP hD
        rw [rf_wr_eq] at k
        exact k ad cid H1 locs1 ls a1 a2 a3 (rf_Wd_set a4 hc2 _ (fun h => by omega) hP hD) hS a6
      · have hk : (T.1 a).1 = 1 := by rw [hT]; omega
        rw [h0] at hr
        cases hr
        have hK := rf_Ka a4 hc2 (by omega)
        rw [hk] at hK
        rw [rf_enc_1 _ _ hk] at hg
        have hz : vp_nar .boolean x = x := by rcases rf_bb_z hps.2.1 with rfl | rfl <;> rfl
        refine va_zast hx hb hK a4.2.2.1 a4.2.2.2.1 a5 a 0 hg rfl (by rw [hT]; exact rf_in_vp hps.1) hd (fun H1 locs1 hP hD hS => ?_)
        rw [hz, ← rf_enc_1 ad (cid a) hk] at hP hD
        rw [rf_wr_eq] at k
        exact k ad cid H1 locs1 ls a1 a2 a3 (rf_Wd_set a4 hc2 _ (fun h => by omega) hP hD) hS a6
  · exact (rf_badf hr hps).elim
theorem rf_k_aald (hC : rf_Cx M p s m args meth c) (hd : decode M.2.1 pc = .ok (.aaload, 1))
    (hr : rf_aald T S = (ps, S')) (hps : rf_all ps) (k : rf_Ht T M p l e R s m args below meth c lo D ad0 n0 n' Q (pc + 1) S') : rf_Ht T M p l e R s m args below meth c lo D ad0 n0 n' Q pc S := by
  obtain ⟨hx, hb, hml, hown, hts, hrt, hlocks, hnm⟩ := hC
  obtain ⟨L, st, n, σ⟩ := S
  unfold rf_aald at hr
  split at hr
  · rename_i L1 i a st1 n1 σ1 heq
    cases heq
    generalize hT : T.1 a = sh at hr
    obtain ⟨kd', len, sl⟩ := sh
    simp only at hr
    cases hc : (Nat.beq kd' 2 && Nat.blt a n) with
    | false => rw [hc] at hr; exact (rf_badf hr hps).elim
    | true =>
      rw [hc] at hr
      simp only [Bool.and_eq_true, Nat.beq_eq, Nat.blt_eq, cond_true] at hc hr
      cases hr
      obtain ⟨hc1, hc2⟩ := hc
      have hin := rf_in_vp hps.1
      have hlt : i.toNatClampNeg < len := Nat.not_le.mp fun q => hin (Or.inr q)
      refine rf_pure (fun ad cid H locs ls _ hw _ _ kk => ?_) k
      have hk : (T.1 a).1 = 2 := by rw [hT]; omega
      have hg := rf_ws_get (T := T.1) (ad := ad) (cid := cid) (σ := σ) hc2
      have hK := rf_Ka hw hc2 (by omega)
      rw [hk] at hK
      rw [rf_enc_2 _ _ hk, hT] at hg
      refine W.aald (v := .ref (ad (sl.getD i.toNatClampNeg 0))) (ty := .array .int) hx hb (hw.2.2.1 a _ hg) ((hK.2 0 _ rfl).1 len (fun j => va_rf (if j < len then some (ad (sl.getD j 0)) else none))) rfl (fun q => by cases q) (by show ¬ (i < 0 ∨ (arrV _ _ _).slots.size ≤ _); rw [arrV_size]; exact hin) (by show (arrV _ _ _).slots[_]? = _; rw [arrV_read _ _ hlt]; show some (va_rf (if i.toNatClampNeg < len then some (ad (sl.getD i.toNatClampNeg 0)) else none)) = _; rw [if_pos hlt]; rfl) rfl rfl hd kk
  · exact (rf_badf hr hps).elim
theorem rf_k_alen (hC : rf_Cx M p s m args meth c) (hE : rf_Ex T.2 lo ad0 s) (hd : decode M.2.1 pc = .ok (.arraylength, 1))
    (hr : rf_alen T S = (ps, S')) (hps : rf_all ps) (k : rf_Ht T M p l e R s m args below meth c lo D ad0 n0 n' Q (pc + 1) S') : rf_Ht T M p l e R s m args below meth c lo D ad0 n0 n' Q pc S := by
  obtain ⟨hx, hb, hml, hown, hts, hrt, hlocks, hnm⟩ := hC
  obtain ⟨L, st, n, σ⟩ := S
  unfold rf_alen at hr
  split at hr
  · rename_i L1 a st1 n1 σ1 heq
    cases heq
    cases hlt : Nat.blt a 1000 with
    | true =>
      rw [hlt] at hr
      rw [cond_true] at hr
      generalize hT : T.1 a = sh at hr
      obtain ⟨kd', len, sl⟩ := sh
      try simp only at hr
      cases hc : (Nat.ble kd' 2 && Nat.blt a n) with
      | false => rw [hc] at hr; exact (rf_badf hr hps).elim
      | true =>
        rw [hc] at hr
        simp only [Bool.and_eq_true, Nat.ble_eq, Nat.blt_eq, cond_true] at hc hr
        cases hr
        obtain ⟨hc1, hc2⟩ := hc
        refine rf_pure (fun ad cid H locs ls _ hw _ _ kk => ?_) k
        have hg := rf_ws_get (T := T.1) (ad := ad) (cid := cid) (σ := σ) hc2
        have hK := rf_Ka hw hc2 (by rw [hT]; exact hc1)
        rcases (show kd' = 0 ∨ kd' = 1 ∨ kd' = 2 by omega) with h | h | h
        · have hk : (T.1 a).1 = 0 := by rw [hT]; exact h
          rw [rf_enc_0 _ _ hk, hT] at hg
          exact va_alen hx hb hK hw.2.2.1 a 0 hg rfl rfl hd kk
        · have hk : (T.1 a).1 = 1 := by rw [hT]; exact h
          rw [rf_enc_1 _ _ hk, hT] at hg
          exact va_alen hx hb hK hw.2.2.1 a 0 hg rfl rfl hd kk
        · have hk : (T.1 a).1 = 2 := by rw [hT]; exact h
          rw [rf_enc_2 _ _ hk, hT] at hg
          exact va_alen hx hb hK hw.2.2.1 a 0 hg rfl rfl hd kk
    | false =>
      rw [hlt] at hr
      rw [cond_false] at hr
      generalize hT : T.2 a = sh at hr
      obtain ⟨kd', len, f⟩ := sh
      try simp only at hr
      have h1000 : 1000 ≤ a := by
        rcases Nat.lt_or_ge a 1000 with h | h
        · rw [Nat.blt_eq.mpr h] at hlt; cases hlt
        · exact h
      cases hc : Nat.ble a 1004 with
      | false => rw [hc] at hr; exact (rf_badf hr hps).elim
      | true =>
        rw [hc] at hr
        simp only [Nat.ble_eq, cond_true] at hc hr
        cases hr
        have hX := hE.2.1 a h1000 hc
        rw [hT] at hX
        refine rf_pure (fun ad cid H locs ls hag hw hS _ kk => ?_) k
        have ea : rf_cv ad (.ref a) = .ref (ad0 a) := by
          show Value.ref (ad a) = _
          rw [hag a (Or.inr (Nat.le_trans (by decide) h1000))]
        simp only [List.map_cons, ea]
        exact va_tlen hx hb hX hS rfl hd kk
  · exact (rf_badf hr hps).elim
end RFP
