theorem rf_w_a0 : Cond.arrayClass .int ∈ rf_words := by decide +kernel
theorem rf_w_a1 : Cond.arrayClass .boolean ∈ rf_words := by decide +kernel
theorem rf_w_oi : Cond.instanceMethod Lib.objectInit ∈ rf_words ∧ Cond.code Lib.objectInit ⟨#[0xb1]⟩ 1 none ∈ rf_words := by decide +kernel
theorem rf_w_mx : Cond.static Lib.Math.max.name ∈ rf_words ∧ Cond.initialized "java/lang/Math" ∈ rf_words ∧ Cond.code Lib.Math.max.name Lib.Math.max.code 2 (some .int) ∈ rf_words := by decide +kernel
theorem rf_w_mn : Cond.static Lib.Math.min.name ∈ rf_words ∧ Cond.code Lib.Math.min.name Lib.Math.min.code 2 (some .int) ∈ rf_words := by decide +kernel
theorem rf_w_ac : Cond.native arraycopyName ∈ rf_words ∧ Cond.static arraycopyName ∈ rf_words ∧ Cond.initialized "java/lang/System" ∈ rf_words := by decide +kernel
theorem rf_cats : ∀ (st : List Value), (st.map fun v => v.category).sum ≤ 2 * st.length
  | [] => by simp
  | v :: st => by
    have := rf_cats st
    rcases lv_cat v with h | h <;> simp [h] <;> omega
theorem rf_tkl_len : ∀ ci, ci < 13 → (rf_tkl.getD ci []).length ≤ 90 := by decide +kernel
theorem rf_tkl_4 : ∀ ci, ci < 13 → ∀ t ∈ rf_tkl.getD ci [], t < 4 := by decide +kernel
theorem rf_tk_9 : ∀ ci, ci < 13 → ∀ j, j < (rf_cls ci).2.2 → rf_tk ci j ≠ 9 := by decide +kernel
section RFN
variable {T : rf_Tb} {M : rf_M} {p : Program} {l : Launch} {e : Env} {R : Room} {s : State} {m : MethodId} {args : Array Value} {below : List Frame} {meth : Method} {c : Code} {lo : Nat} {D : va_G} {ad0 : Nat → Nat} {n0 n' : Nat} {Q : State → Prop} {d pc pc' : Nat} {S S' : rf_St} {ps : List Bool}
theorem rf_room1 {n : Nat} (hR : rf_Rm T.1 R d n0 n') (h0 : n0 ≤ n) (h1 : n + 1 ≤ n') : n - n0 + 1 ≤ R.cells ∧ rf_sl T.1 n - rf_sl T.1 n0 + (T.1 n).2.1 ≤ R.slots ∧ n - n0 + 1 = n + 1 - n0 ∧ rf_sl T.1 n - rf_sl T.1 n0 + (T.1 n).2.1 = rf_sl T.1 (n + 1) - rf_sl T.1 n0 := by
  obtain ⟨-, -, h3, h4⟩ := hR
  have e1 := rf_sl_mono T.1 h0
  have e2 := rf_sl_mono T.1 h1
  have e3 : rf_sl T.1 (n + 1) = rf_sl T.1 n + (T.1 n).2.1 := rfl
  omega
theorem rf_hA {q : Nat} (hE : rf_Ex T.2 lo ad0 s) (h : s.heap.size ≤ q) : lo ≤ q := Nat.le_trans hE.1.1 h
theorem rf_k_newo (hC : rf_Cx M p s m args meth c) (hR : rf_Rm T.1 R d n0 n') (hE : rf_Ex T.2 lo ad0 s) {ci index : Nat} (hci : ci < 13) (hlk : Cond.classLink M.1.cls index (rf_cls ci).1 ∈ rf_words) (hd : decode M.2.1 pc = .ok (.new index, 3))
    (hr : rf_newo T ci S = (ps, S')) (hps : rf_all ps) (hn : S'.2.2.1 ≤ n') (k : rf_Ht T M p l e R s m args below meth c lo D ad0 n0 n' Q (pc + 3) S') : rf_Ht T M p l e R s m args below meth c lo D ad0 n0 n' Q pc S := by
  obtain ⟨hx, hb, hml, hown, hts, hrt, hlocks, hnm⟩ := hC
  obtain ⟨L, st, n, σ⟩ := S
  unfold rf_newo at hr
  simp only at hr
  cases hc : (Nat.beq (T.1 n).1 (ci + 3) && Nat.blt n 499 && decide ((T.1 n).2.2 = rf_tkl.getD ci []) && Nat.beq (T.1 n).2.1 (T.1 n).2.2.length && rf_fr n L st) with
  | false => rw [hc] at hr; exact (rf_badf hr hps).elim
  | true =>
    rw [hc] at hr
    simp only [Bool.and_eq_true, Nat.beq_eq, Nat.blt_eq, decide_eq_true_eq, cond_true, rf_fr] at hc hr
    cases hr
    obtain ⟨⟨⟨⟨hc1, hc2⟩, hc3⟩, hc4⟩, hc5, hc6⟩ := hc
    obtain ⟨e1, e2, e3, e4, e5, e6⟩ := rf_cls_ok ci hci
    have tk := rf_tk_ok ci hci
    have hTn : (T.1 n).2.1 = (rf_cls ci).2.2 := by rw [hc4, hc3]; exact tk.1
    intro ad cid H locs ls a1 a2 a3 a4 a5 a6
    obtain ⟨r1, r2, r3, r4⟩ := rf_room1 hR a2 hn
    have a4 : rf_Wd T.1 lo D ad cid n σ s H := a4
    have hk : (T.1 n).1 = ci + 3 := hc1
    rw [hTn] at r2 r4
    refine va_new (fs := (rf_fa rf_0 0 (rf_tkl.getD ci [])).map (rf_cv ad)) hx hb hts e2 (rf_tyf ci) e3 hown (hts _ hlk) (hts _ e5) (hts _ e6) a4.2.2.2.2.1 a4.2.2.1 a4.2.2.2.1 a5 (fun q h => rf_hA hE h) e1 (fun j hj => ?_) r1 r2 hd (fun q H1 hP hD hS => ?_)
    · have h1 := tk.2 j hj
      unfold vp_V
      rw [List.getD_eq_getElem?_getD, List.getElem?_map, rf_fa_get]
      have hjl : j < (rf_tkl.getD ci []).length := by rw [tk.1]; exact hj
      have hg : (rf_tkl.getD ci [])[j]? = some (rf_tk ci j) := by
        unfold rf_tk
        rw [List.getD_eq_getElem?_getD (l := rf_tkl.getD ci []), List.getElem?_eq_getElem hjl]
        rfl
      rw [hg]
      have hd0 : ∀ t : FieldType, rf_tyk t = rf_tk ci j → rf_tk ci j ≠ 9 → defaultValue t = rf_cv ad (rf_av (rf_tk ci j) 0 0) := by
        intro t ht h9
        rw [← ht] at h9 ⊢
        cases t <;> first | rfl | exact absurd rfl h9 | (show Value.long 0 = Value.long (rf_jn 0 0); rfl)
      have h9 : rf_tk ci j ≠ 9 := rf_tk_9 ci hci j hj
      exact hd0 _ h1.symm h9
    · have he : rf_enc (va_up ad n q) 0 (T.1 n) rf_0 = .inr (ci, (rf_fa rf_0 0 (rf_tkl.getD ci [])).map (rf_cv ad)) := by
        rw [rf_enc_obj _ _ hk, hc3]
        refine congrArg (fun z => Sum.inr (ci, z)) (List.map_congr_left fun v hv => rf_cv_eq fun a ea => ?_)
        obtain ⟨i, hi⟩ := List.getElem?_of_mem hv
        rw [rf_fa_get] at hi
        obtain ⟨t, ht, rfl⟩ := Option.map_eq_some_iff.mp hi
        have ht4 : t < 4 := rf_tkl_4 ci hci t (List.mem_of_getElem? ht)
        rcases (show t = 0 ∨ t = 1 ∨ t = 2 ∨ t = 3 by omega) with rfl | rfl | rfl | rfl <;> simp [rf_av, rf_dr, rf_0] at ea
      have hw1 := rf_Wd_push (cA := 0) a4 hc2 (by rw [hc3]; exact rf_tkl_len ci hci) (by omega) (fun _ j t ht => by
        rw [hc3] at ht
        exact rf_tkl_4 ci hci t (List.mem_of_getElem? ht)) he hP hD (fun h => by omega)
      have k1 := k (va_up ad n q) (va_up cid n 0) H1 locs ls (rf_ag_push a1 a2 (by omega)) (Nat.le_trans a2 (Nat.le_succ n)) hn hw1 hS (rf_Lv_push a6 hc5)
      rw [r3, r4]
      rw [List.map_cons, rf_st_push hc6] at k1
      have eq : rf_cv (va_up ad n q) (.ref n) = .ref q := by
        show Value.ref (va_up ad n q n) = _
        rw [va_up_self]
      rw [eq] at k1
      exact k1
theorem rf_k_newr (hC : rf_Cx M p s m args meth c) (hR : rf_Rm T.1 R d n0 n') (hE : rf_Ex T.2 lo ad0 s) {kd len : Nat} (hkd : (kd = 0 ∧ decode M.2.1 pc = .ok (.newarray .int, 2)) ∨ (kd = 1 ∧ decode M.2.1 pc = .ok (.newarray .boolean, 2)))
    (hr : rf_newr T kd len S = (ps, S')) (hps : rf_all ps) (hn : S'.2.2.1 ≤ n') (k : rf_Ht T M p l e R s m args below meth c lo D ad0 n0 n' Q (pc + 2) S') : rf_Ht T M p l e R s m args below meth c lo D ad0 n0 n' Q pc S := by
  obtain ⟨hx, hb, hml, hown, hts, hrt, hlocks, hnm⟩ := hC
  obtain ⟨L, st, n, σ⟩ := S
  unfold rf_newr at hr
  split at hr
  · rename_i L1 v st1 n1 σ1 heq
    cases heq
    generalize hT : T.1 n = sh at hr
    obtain ⟨kd', len', sl⟩ := sh
    try simp only at hr
    cases hc : (Nat.beq kd' kd && Nat.beq len' len && decide (sl = []) && Nat.blt n 499 && Nat.blt len 100000 && rf_fr n L st1) with
    | false => rw [hc] at hr; exact (rf_badf hr hps).elim
    | true =>
      rw [hc] at hr
      simp only [Bool.and_eq_true, Nat.beq_eq, Nat.blt_eq, decide_eq_true_eq, cond_true, rf_fr] at hc hr
      cases hr
      obtain ⟨⟨⟨⟨⟨hc1, hc2⟩, hc3⟩, hc4⟩, hc7⟩, hc5, hc6⟩ := hc
      have hv := hps.1
      simp only [rf_eqb, decide_eq_true_eq] at hv
      subst hv
      intro ad cid H locs ls a1 a2 a3 a4 a5 a6
      obtain ⟨r1, r2, r3, r4⟩ := rf_room1 hR a2 hn
      have a4 : rf_Wd T.1 lo D ad cid n σ s H := a4
      have hTn : (T.1 n).2.1 = len := by rw [hT]; exact hc2
      rw [hTn] at r2 r4
      have hcl : (Int32.ofNat len).toNatClampNeg = len := nI_clamp (by omega)
      have hneg : ¬ Int32.ofNat len < 0 := nI_pos (n := len) (by omega)
      have fin : ∀ (ty : FieldType) (q : Nat) (cA : ClassId) (H1 : Heap), ty = rf_ty (T.1 n).1 → va_K D vwCl ([] ++ [(cA, ty)]) s → va_P D vwCl (rf_ws T.1 ad cid n σ ++ [(q, .inl (cA, len, .inl rf_0))]) H1 → va_D (fun q => lo ≤ q) (rf_ws T.1 ad cid n σ ++ [(q, .inl (cA, len, .inl rf_0))]) → va_S (fun q => lo ≤ q) s.heap H1 locs → W p l e R s m args below meth c H1 locs (n - n0 + 1) (rf_sl T.1 n - rf_sl T.1 n0 + len) Q (F0 m (pc + 2) ls (.ref q :: st1.map (rf_cv ad))) := by
        intro ty q cA H1 ht hK hP hD hS
        have hk01 : (T.1 n).1 = 0 ∨ (T.1 n).1 = 1 := by rw [hT]; rcases hkd with ⟨h, -⟩ | ⟨h, -⟩ <;> simp <;> omega
        have he : rf_enc (va_up ad n q) cA (T.1 n) rf_0 = .inl (cA, len, .inl rf_0) := by
          rcases hk01 with h | h
          · rw [rf_enc_0 _ _ h, hTn]
          · rw [rf_enc_1 _ _ h, hTn]
        have hw1 := rf_Wd_push (cA := cA) a4 hc4 (by rw [hT, hc3]; simp) (by omega) (fun h => by omega) he hP hD (fun _ => by rw [← ht]; exact hK.2 0 _ rfl)
        have k1 := k (va_up ad n q) (va_up cid n cA) H1 locs ls (rf_ag_push a1 a2 (by omega)) (Nat.le_trans a2 (Nat.le_succ n)) hn hw1 hS (rf_Lv_push a6 hc5)
        rw [r3, r4]
        rw [List.map_cons, rf_st_push hc6] at k1
        have eq : rf_cv (va_up ad n q) (.ref n) = .ref q := by
          show Value.ref (va_up ad n q n) = _
          rw [va_up_self]
        rw [eq] at k1
        exact k1
      rcases hkd with ⟨h0, hd⟩ | ⟨h0, hd⟩
      · refine va_newa (atype := .int) (ty := .int) (a0 := (len, .inl rf_0)) hx hb (hts _ rf_w_a0) rfl a4.2.2.2.2.1 a4.2.2.1 a4.2.2.2.1 a5 (fun q h => rf_hA hE h) (fun cA => rfl) hneg hcl (by show len * 4 ≤ _; omega) r1 r2 hd (fun q cA H1 hK hP hD hS => fin .int q cA H1 (by rw [hT, show kd' = 0 by omega]; rfl) hK hP hD hS)
      · refine va_newa (atype := .boolean) (ty := .boolean) (a0 := (len, .inl rf_0)) hx hb (hts _ rf_w_a1) rfl a4.2.2.2.2.1 a4.2.2.1 a4.2.2.2.1 a5 (fun q h => rf_hA hE h) (fun cA => rfl) hneg hcl (by show len * 1 ≤ _; omega) r1 r2 hd (fun q cA H1 hK hP hD hS => fin .boolean q cA H1 (by rw [hT, show kd' = 1 by omega]; rfl) hK hP hD hS)
  · exact (rf_badf hr hps).elim
theorem rf_k_copy (hC : rf_Cx M p s m args meth c) (hR : rf_Rm T.1 R d n0 n') (hd1 : 1 ≤ d) {index : Nat} (hlk : Cond.methodLink M.1.cls index arraycopyName ∈ rf_words) (hd : decode M.2.1 pc = .ok (.invokestatic index, 3))
    (hr : rf_copy T S = (ps, S')) (hps : rf_all ps) (k : rf_Ht T M p l e R s m args below meth c lo D ad0 n0 n' Q (pc + 3) S') : rf_Ht T M p l e R s m args below meth c lo D ad0 n0 n' Q pc S := by
  obtain ⟨hx, hb, hml, hown, hts, hrt, hlocks, hnm⟩ := hC
  obtain ⟨L, st, n, σ⟩ := S
  unfold rf_copy at hr
  split at hr
  · rename_i L1 w dp b sp a st1 n1 σ1 heq
    cases heq
    generalize hT : T.1 a = sh at hr
    obtain ⟨ka, la, sa⟩ := sh
    generalize hTb : T.1 b = sh at hr
    obtain ⟨kb, lb, sb⟩ := sh
    try simp only at hr
    cases hc : (Nat.beq ka 0 && Nat.beq kb 0 && Nat.blt a n && Nat.blt b n && Nat.ble st1.length 8) with
    | false => rw [hc] at hr; exact (rf_badf hr hps).elim
    | true =>
      rw [hc] at hr
      simp only [Bool.and_eq_true, Nat.beq_eq, Nat.blt_eq, Nat.ble_eq, cond_true] at hc hr
      cases hr
      obtain ⟨⟨⟨⟨hc1, hc2⟩, hc3⟩, hc4⟩, hc5⟩ := hc
      have hq := hps.1
      simp only [rf_cp, Bool.and_eq_true, decide_eq_true_eq] at hq
      obtain ⟨⟨⟨⟨q1, q2⟩, q3⟩, q4⟩, q5⟩ := hq
      intro ad cid H locs ls a1 a2 a3 a4 a5 a6
      have hka : (T.1 a).1 = 0 := by rw [hT]; exact hc1
      have hkb : (T.1 b).1 = 0 := by rw [hTb]; exact hc2
      have hga := rf_ws_get (T := T.1) (ad := ad) (cid := cid) (σ := σ) hc3
      have hgb := rf_ws_get (T := T.1) (ad := ad) (cid := cid) (σ := σ) hc4
      rw [rf_enc_0 _ _ hka] at hga
      rw [rf_enc_0 _ _ hkb] at hgb
      have hKa := rf_Ka a4 hc3 (by omega)
      have hKb := rf_Ka a4 hc4 (by omega)
      rw [hka] at hKa
      rw [hkb] at hKb
      have hK := hKa.app hKb
      have hcat := rf_cats (st1.map (rf_cv ad))
      rw [List.length_map] at hcat
      refine va_copyi (ty := .int) hx hb (by rw [hml]; exact a6.2.1.symm) hown (hts _ hlk) (hts _ rf_w_ac.1) (hts _ rf_w_ac.2.1) (hts _ rf_w_ac.2.2) hK a4.2.2.1 a4.2.2.2.1 a5 a b 0 1 hga hgb rfl rfl rfl (Int32.not_lt.mpr q1) (Int32.not_lt.mpr q2) (Int32.not_lt.mpr q3) (by rw [hT]; exact q4) (by rw [hTb]; exact q5) (fun _ _ => rfl) (Nat.le_trans hd1 hR.1) ?_ hd (fun H1 locs1 hP hD hS => ?_)
      · have h1 : nativeFrameWords "java/lang/System" "arraycopy" 5 = 7 := by decide +kernel
        rw [h1]
        have := hR.2.1
        omega
      · rw [← rf_enc_0 ad (cid b) hkb] at hP hD
        exact k ad cid H1 locs1 ls a1 a2 a3 (rf_Wd_set a4 hc4 _ (fun h => by omega) hP hD) hS a6
  · exact (rf_badf hr hps).elim
theorem rf_k_sget (hC : rf_Cx M p s m args meth c) (hE : rf_Ex T.2 lo ad0 s) {f index : Nat} (hlk : (f = 0 ∧ Cond.fieldLink M.1.cls index "java/lang/String" "value" "[B" ∈ rf_words) ∨ (f ≠ 0 ∧ Cond.fieldLink M.1.cls index "java/lang/String" "coder" "B" ∈ rf_words)) (hd : decode M.2.1 pc = .ok (.getfield index, 3))
    (hr : rf_sget f S = (ps, S')) (hps : rf_all ps) (k : rf_Ht T M p l e R s m args below meth c lo D ad0 n0 n' Q (pc + 3) S') : rf_Ht T M p l e R s m args below meth c lo D ad0 n0 n' Q pc S := by
  obtain ⟨hx, hb, hml, hown, hts, hrt, hlocks, hnm⟩ := hC
  obtain ⟨L, st, n, σ⟩ := S
  unfold rf_sget at hr
  split at hr
  · rename_i L1 a st1 n1 σ1 heq
    cases heq
    cases hc : (Nat.ble 1005 a && Nat.ble a 1006) with
    | false => rw [hc] at hr; exact (rf_badf hr hps).elim
    | true =>
      rw [hc, cond_true] at hr
      simp only [Bool.and_eq_true, Nat.ble_eq] at hc
      obtain ⟨-, o2, o3⟩ := hE.2.2.1 a hc.1 hc.2
      have ea : ∀ {ad : Nat → Nat}, rf_ag n0 ad0 ad → rf_cv ad (.ref a) = .ref (ad0 a) := fun {ad} hag => by
        show Value.ref (ad a) = _
        rw [hag a (Or.inr (Nat.le_trans (by decide) hc.1))]
      rcases hlk with ⟨h0, hl⟩ | ⟨h0, hl⟩
      · subst h0
        cases hr
        refine rf_pure (fun ad cid H locs ls hag hw hS _ kk => ?_) k
        rw [List.map_cons, ea hag]
        refine vk_getf hx hb o3 hS hown (hts _ hl) (fun _ h => h) hd ?_
        have e2 : rf_cv ad (.ref (a - 2)) = .ref (ad0 (a - 2)) := by
          show Value.ref (ad (a - 2)) = _
          rw [hag (a - 2) (Or.inr (by have h5 : 1005 ≤ a := hc.1; exact Nat.le_sub_of_add_le (Nat.le_trans (by decide) h5)))]
        rw [List.map_cons, e2] at kk
        exact kk
      · have h1 : Nat.beq f 0 = false := by
          cases f with
          | zero => exact absurd rfl h0
          | succ f => rfl
        rw [h1] at hr
        cases hr
        refine rf_pure (fun ad cid H locs ls hag hw hS _ kk => ?_) k
        rw [List.map_cons, ea hag]
        exact vk_getf hx hb o2 hS hown (hts _ hl) (fun _ h => h) hd kk
  · exact (rf_badf hr hps).elim
theorem rf_enc_40 (ad : Nat → Nat) (cy : ClassId) : rf_enc ad cy (0, 40, []) rf_0 = .inl (cy, 40, .inl rf_0) := rfl
theorem rf_k_new2 (hC : rf_Cx M p s m args meth c) (hR : rf_Rm T.1 R d n0 n') (hE : rf_Ex T.2 lo ad0 s) {index : Nat} (hlk : Cond.classLink M.1.cls index "[[I" ∈ rf_words) (hd : decode M.2.1 pc = .ok (.multianewarray index 2, 4))
    (hr : rf_new2 T S = (ps, S')) (hps : rf_all ps) (hn : S'.2.2.1 ≤ n') (k : rf_Ht T M p l e R s m args below meth c lo D ad0 n0 n' Q (pc + 4) S') : rf_Ht T M p l e R s m args below meth c lo D ad0 n0 n' Q pc S := by
  obtain ⟨hx, hb, hml, hown, hts, hrt, hlocks, hnm⟩ := hC
  obtain ⟨L, st, n, σ⟩ := S
  unfold rf_new2 at hr
  split at hr
  · rename_i L1 v2 v1 st1 n1 σ1 heq
    cases heq
    cases hc : (Nat.ble 1 n && Nat.beq (T.1 (n - 1)).1 0 && decide (T.1 n = (2, 4, [n + 1, n + 2, n + 3, n + 4])) && Nat.blt n 400 && decide (T.1 (n + 1) = (0, 40, [])) && decide (T.1 (n + 2) = (0, 40, [])) && decide (T.1 (n + 3) = (0, 40, [])) && decide (T.1 (n + 4) = (0, 40, [])) && rf_fr n L st1 && rf_fr (n + 1) L st1 && rf_fr (n + 2) L st1 && rf_fr (n + 3) L st1 && rf_fr (n + 4) L st1) with
    | false => rw [hc] at hr; exact (rf_badf hr hps).elim
    | true =>
      rw [hc] at hr
      simp only [Bool.and_eq_true, Nat.beq_eq, Nat.blt_eq, Nat.ble_eq, decide_eq_true_eq, cond_true, rf_fr] at hc hr
      cases hr
      obtain ⟨⟨⟨⟨⟨⟨⟨⟨⟨⟨⟨⟨hc0, hc1⟩, t0⟩, hc2⟩, t1⟩, t2⟩, t3⟩, t4⟩, f0⟩, f1⟩, f2⟩, f3⟩, f4⟩ := hc
      have hv1 := hps.1
      have hv2 := hps.2.1
      simp only [rf_eqb, decide_eq_true_eq] at hv1 hv2
      subst hv1
      subst hv2
      intro ad cid H locs ls a1 a2 a3 a4 a5 a6
      have a4 : rf_Wd T.1 lo D ad cid n σ s H := a4
      have a2 : n0 ≤ n := a2
      have hn : n + 5 ≤ n' := hn
      have hK1 := rf_Ka a4 (show n - 1 < n by omega) (by omega)
      rw [hc1] at hK1
      have hcy : s.vm.findClass (FieldType.array .int).toString = some (cid (n - 1)) := (hK1.2 0 _ rfl).2
      have e1 := rf_sl_mono T.1 a2
      have e2 := rf_sl_mono T.1 hn
      have e3 : rf_sl T.1 (n + 5) = rf_sl T.1 n + 4 + 40 + 40 + 40 + 40 := by
        show rf_sl T.1 n + (T.1 n).2.1 + (T.1 (n + 1)).2.1 + (T.1 (n + 2)).2.1 + (T.1 (n + 3)).2.1 + (T.1 (n + 4)).2.1 = _
        rw [t0, t1, t2, t3, t4]
      obtain ⟨-, -, r3, r4⟩ := hR
      have hX0 : rf_ws T.1 ad cid n σ ++ va_pl [] (fun _ => (.inl (0, 40, .inl rf_0) : va_E)) = rf_ws T.1 ad cid n σ := List.append_nil _
      refine va_mna (X := rf_ws T.1 ad cid n σ) (L := []) (f := fun _ => (.inl (0, 40, .inl rf_0) : va_E)) (ty := .int) (N' := 4) (K' := 40) (z := (40, .inl rf_0)) hx hb hown (hts _ hlk) hE.1.2.2 (hts _ rf_w_a0) hcy a4.2.2.2.2.1 (by rw [hX0]; exact a4.2.2.1) (by rw [hX0]; exact a4.2.2.2.1) a5 (fun q h => rf_hA hE h) (by decide) (by decide) (by decide) (by decide) (by decide) (by decide) (by decide) rfl rfl (by show n - n0 + (1 + 4) ≤ R.cells; omega) (by show rf_sl T.1 n - rf_sl T.1 n0 + (4 + 4 * 40) ≤ R.slots; omega) (fun cI => ?_) hd (fun q r cA H1 _ _ hK hP hD hS => ?_)
      · rfl
      · have k := k (fun k => if k = n then q else if n + 1 ≤ k ∧ k ≤ n + 4 then r (k - (n + 1)) else ad k) (fun k => if k = n then cA else if n + 1 ≤ k ∧ k ≤ n + 4 then cid (n - 1) else cid k) H1 locs ls
        generalize hs5 : rf_rs (rf_rs (rf_rs (rf_rs (rf_rs σ n rf_0) (n + 1) rf_0) (n + 2) rf_0) (n + 3) rf_0) (n + 4) rf_0 = σ5 at k
        generalize had : (fun k => if k = n then q else if n + 1 ≤ k ∧ k ≤ n + 4 then r (k - (n + 1)) else ad k) = ad5 at k
        generalize hci : (fun k => if k = n then cA else if n + 1 ≤ k ∧ k ≤ n + 4 then cid (n - 1) else cid k) = cid5 at k
        have hrow : ∀ k, rf_row σ5 k = if n ≤ k ∧ k ≤ n + 4 then rf_0 else rf_row σ k := by
          intro k
          rw [← hs5]
          simp only [rf_row_rs]
          repeat' split
          all_goals first | rfl | omega
        have hadn : ad5 n = q := by rw [← had]; simp
        have hadi : ∀ i, i < 4 → ad5 (n + 1 + i) = r i := fun i hi => by
          rw [← had]
          simp only [show ¬ n + 1 + i = n by omega, if_false, show n + 1 ≤ n + 1 + i ∧ n + 1 + i ≤ n + 4 by omega, if_true, and_self, show n + 1 + i - (n + 1) = i by omega]
        have hado : ∀ a, rf_okr n a → ad5 a = ad a := fun a ha => by
          rw [← had]
          have h1 : ¬ a = n := by rcases ha with h | h <;> omega
          have h2 : ¬ (n + 1 ≤ a ∧ a ≤ n + 4) := by rcases ha with h | h <;> omega
          simp only [h1, h2, if_false]
        have hcidn : cid5 n = cA := by rw [← hci]; simp
        have hcidi : ∀ i, i < 4 → cid5 (n + 1 + i) = cid (n - 1) := fun i hi => by
          rw [← hci]
          simp only [show ¬ n + 1 + i = n by omega, if_false, show n + 1 ≤ n + 1 + i ∧ n + 1 + i ≤ n + 4 by omega, if_true, and_self]
        have hcido : ∀ a, a < n → cid5 a = cid a := fun a ha => by
          rw [← hci]
          have h1 : ¬ a = n := by omega
          have h2 : ¬ (n + 1 ≤ a ∧ a ≤ n + 4) := by omega
          simp only [h1, h2, if_false]
        have hTi : ∀ i, i < 4 → T.1 (n + 1 + i) = (0, 40, []) := fun i hi => by
          rcases (show i = 0 ∨ i = 1 ∨ i = 2 ∨ i = 3 by omega) with rfl | rfl | rfl | rfl
          · exact t1
          · exact t2
          · exact t3
          · exact t4
        have hlist : ((rf_ws T.1 ad cid n σ ++ [(q, .inl (cA, 4, .inr (.inr (.inr (.inr (fun i => if i < 4 then some (r i) else none))))))]) ++ va_pl ([] ++ (List.range 4).map r) (vr_up (fun _ => (.inl (0, 40, .inl rf_0) : va_E)) ((List.range 4).map r) (.inl (cid (n - 1), (40, .inl rf_0))))) = rf_ws T.1 ad5 cid5 (n + 5) σ5 := by
          apply List.ext_getElem?
          intro i
          by_cases h1 : i < n
          · rw [List.getElem?_append_left (by simp [rf_ws_len]; omega), List.getElem?_append_left (by rw [rf_ws_len]; exact h1), rf_ws_get h1, rf_ws_get (by omega), hado i (Or.inl h1), hcido i h1, hrow, if_neg (by omega), rf_enc_eq a4.2.1 h1 hado]
          · by_cases h2 : i = n
            · subst h2
              rw [List.getElem?_append_left (by simp [rf_ws_len]), List.getElem?_append_right (by rw [rf_ws_len]; exact Nat.le_refl _), rf_ws_len, Nat.sub_self, rf_ws_get (by omega), hadn, hcidn, rf_enc_2 _ _ (by rw [t0]), t0]
              refine congrArg some (congrArg (fun z => (q, (Sum.inl (cA, 4, Sum.inr (Sum.inr (Sum.inr (Sum.inr z)))) : va_E))) (funext fun j => ?_))
              by_cases hj : j < 4
              · simp only [hj, if_true]
                rcases (show j = 0 ∨ j = 1 ∨ j = 2 ∨ j = 3 by omega) with rfl | rfl | rfl | rfl
                · exact congrArg some (hadi 0 (by omega)).symm
                · exact congrArg some (hadi 1 (by omega)).symm
                · exact congrArg some (hadi 2 (by omega)).symm
                · exact congrArg some (hadi 3 (by omega)).symm
              · simp only [hj, if_false]
            · rw [List.getElem?_append_right (by simp [rf_ws_len]; omega)]
              by_cases h3 : i < n + 5
              · obtain ⟨j, rfl⟩ : ∃ j, i = n + 1 + j := ⟨i - (n + 1), by omega⟩
                have hj : j < 4 := by omega
                rw [show n + 1 + j - (rf_ws T.1 ad cid n σ ++ [(q, (Sum.inl (cA, 4, Sum.inr (Sum.inr (Sum.inr (Sum.inr (fun i => if i < 4 then some (r i) else none))))) : va_E))]).length = j by simp [rf_ws_len], rf_ws_get h3, hadi j hj, hcidi j hj, hTi j hj, hrow, if_pos (by omega), rf_enc_40]
                unfold va_pl
                rw [List.nil_append, List.getElem?_map, List.getElem?_map, List.getElem?_range hj]
                simp only [Option.map_some]
                rw [vr_up_in (List.mem_map.mpr ⟨j, List.mem_range.mpr hj, rfl⟩)]
              · rw [show (rf_ws T.1 ad5 cid5 (n + 5) σ5)[i]? = none from List.getElem?_eq_none (by rw [rf_ws_len]; omega)]
                exact List.getElem?_eq_none (by simp [va_pl, rf_ws_len]; omega)
        rw [hlist] at hP hD
        have hw1 : rf_Wd T.1 lo D ad5 cid5 (n + 5) σ5 s H1 := by
          refine ⟨by omega, fun j hj => ?_, hP, hD, a4.2.2.2.2.1, fun j hj hj2 => ?_⟩
          · by_cases h1 : j < n
            · obtain ⟨c1, c2, c3⟩ := a4.2.1 j h1
              refine ⟨c1, fun g i hi => rf_okr_mono (by omega) (c2 g i hi), fun h3 i => ⟨fun hi => ?_, fun t ht => rf_okr_mono (by omega) ((c3 h3 i).2 t ht)⟩⟩
              rw [hrow, if_neg (by omega)]
              exact ((c3 h3 i).1 hi).imp id (rf_okr_mono (by omega))
            · by_cases h2 : j = n
              · subst h2
                rw [t0]
                refine ⟨by simp, fun _ i hi => Or.inl ?_, fun h3 => absurd h3 (by simp)⟩
                have hi : i < 4 := hi
                rcases (show i = 0 ∨ i = 1 ∨ i = 2 ∨ i = 3 by omega) with rfl | rfl | rfl | rfl <;> simp
              · obtain ⟨i, rfl⟩ : ∃ i, j = n + 1 + i := ⟨j - (n + 1), by omega⟩
                rw [hTi i (by omega)]
                exact ⟨by decide, fun h => absurd h (by decide), fun h => absurd h (by decide)⟩
          · by_cases h1 : j < n
            · rw [hcido j h1]
              exact a4.2.2.2.2.2 j h1 hj2
            · by_cases h2 : j = n
              · subst h2
                rw [hcidn, t0]
                exact hK.2 0 _ rfl
              · obtain ⟨i, rfl⟩ : ∃ i, j = n + 1 + i := ⟨j - (n + 1), by omega⟩
                rw [hTi i (by omega), hcidi i (by omega)]
                exact hK1.2 0 _ rfl
        have hcvL : ∀ v, rf_nr n v = true → rf_nr (n + 1) v = true → rf_nr (n + 2) v = true → rf_nr (n + 3) v = true → rf_nr (n + 4) v = true → rf_cv ad5 v = rf_cv ad v := by
          intro v g0 g1 g2 g3 g4
          refine rf_cv_eq fun a ea => ?_
          subst ea
          have ne : ∀ z, rf_nr z (.ref a) = true → ¬ a = z := fun z hz e => by
            subst e
            simp [rf_nr, Nat.beq_refl] at hz
          have h0 : @Ne Nat a (n) := ne _ g0
          have h1 : @Ne Nat a (n + 1) := ne _ g1
          have h2 : @Ne Nat a (n + 2) := ne _ g2
          have h3 : @Ne Nat a (n + 3) := ne _ g3
          have h4 : @Ne Nat a (n + 4) := ne _ g4
          rw [← had]
          have h5 : ¬ (n + 1 ≤ a ∧ a ≤ n + 4) := fun ⟨u1, u2⟩ => by
            have u1 : @LE.le Nat _ (n + 1) a := u1
            have u2 : @LE.le Nat _ a (n + 4) := u2
            omega
          simp only [h0, h5, if_false]
        have hst : st1.map (rf_cv ad5) = st1.map (rf_cv ad) := List.map_congr_left fun v hv => hcvL v (List.all_eq_true.mp f0.2 v hv) (List.all_eq_true.mp f1.2 v hv) (List.all_eq_true.mp f2.2 v hv) (List.all_eq_true.mp f3.2 v hv) (List.all_eq_true.mp f4.2 v hv)
        have hLv : rf_Lv ad5 ls M.2.2.1 L := by
          refine ⟨a6.1, a6.2.1, a6.2.2.1, fun i v hi => ?_⟩
          have hm := List.mem_of_getElem? hi
          rw [hcvL v (List.all_eq_true.mp f0.1 _ hm) (List.all_eq_true.mp f1.1 _ hm) (List.all_eq_true.mp f2.1 _ hm) (List.all_eq_true.mp f3.1 _ hm) (List.all_eq_true.mp f4.1 _ hm)]
          exact a6.2.2.2 i v hi
        have k1 := k (fun j hj => by rw [hado j (by rcases hj with h | h; exact Or.inl (by omega); exact Or.inr h)]; exact a1 j hj) (by show n0 ≤ n + 5; omega) hn hw1 hS hLv
        rw [List.map_cons, hst] at k1
        have eq : rf_cv ad5 (.ref n) = .ref q := by
          show Value.ref (ad5 n) = _
          rw [hadn]
        rw [eq] at k1
        refine W.widen (k := n + 5 - n0) (n := rf_sl T.1 (n + 5) - rf_sl T.1 n0) (by show n - n0 + 1 + 4 ≤ _; omega) (by show rf_sl T.1 n - rf_sl T.1 n0 + 4 + 4 * 40 ≤ _; omega) k1
  · exact (rf_badf hr hps).elim
end RFN
