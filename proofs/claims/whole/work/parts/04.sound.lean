/-! ===== the world: reading a cell, writing it, a new one ===== -/
theorem rf_ws_get {T : Nat → rf_Sh} {ad : Nat → Nat} {cid : Nat → ClassId} {n k : Nat} {σ : rf_Mem} (h : k < n) : (rf_ws T ad cid n σ)[k]? = some (ad k, rf_enc ad (cid k) (T k) (rf_row σ k)) := by
  unfold rf_ws
  rw [List.getElem?_map, List.getElem?_range h]
  rfl
theorem rf_ws_len {T : Nat → rf_Sh} {ad : Nat → Nat} {cid : Nat → ClassId} {n : Nat} {σ : rf_Mem} : (rf_ws T ad cid n σ).length = n := by
  unfold rf_ws
  rw [List.length_map, List.length_range]
theorem rf_ws_set {T : Nat → rf_Sh} {ad : Nat → Nat} {cid : Nat → ClassId} {n k : Nat} {σ : rf_Mem} (h : k < n) (g : Nat → Int32) : (rf_ws T ad cid n σ).set k (ad k, rf_enc ad (cid k) (T k) g) = rf_ws T ad cid n (rf_rs σ k g) := by
  apply List.ext_getElem?
  intro i
  rw [List.getElem?_set]
  by_cases hi : i < n
  · rw [rf_ws_get hi, rf_ws_get hi, rf_row_rs]
    by_cases e : k = i
    · subst e
      simp [rf_ws_len, h]
    · simp [e, Ne.symm e]
  · have h1 : (rf_ws T ad cid n σ)[i]? = none := List.getElem?_eq_none (by rw [rf_ws_len]; omega)
    have h2 : (rf_ws T ad cid n (rf_rs σ k g))[i]? = none := List.getElem?_eq_none (by rw [rf_ws_len]; omega)
    rw [h1, h2]
    have e : ¬ k = i := by omega
    simp [e]
/-- a row of numbers is written anew -/
theorem rf_Wd_set {T : Nat → rf_Sh} {lo : Nat} {D : va_G} {ad : Nat → Nat} {cid : Nat → ClassId} {n k : Nat} {σ : rf_Mem} {s : State} {H H1 : Heap} (h : rf_Wd T lo D ad cid n σ s H) (hk : k < n) (g : Nat → Int32)
    (hc : 3 ≤ (T k).1 → ∀ j, (T k).2.2[j]? = some 2 → g j = 0 ∨ rf_okr n ((g j).toNatClampNeg - 1))
    (hP : va_P D vwCl ((rf_ws T ad cid n σ).set k (ad k, rf_enc ad (cid k) (T k) g)) H1) (hD : va_D (fun q => lo ≤ q) ((rf_ws T ad cid n σ).set k (ad k, rf_enc ad (cid k) (T k) g))) : rf_Wd T lo D ad cid n (rf_rs σ k g) s H1 := by
  rw [rf_ws_set hk] at hP hD
  refine ⟨h.1, fun j hj => ?_, hP, hD, h.2.2.2.2.1, h.2.2.2.2.2⟩
  obtain ⟨c1, c2, c3⟩ := h.2.1 j hj
  refine ⟨c1, c2, fun h3 i => ⟨fun hi => ?_, (c3 h3 i).2⟩⟩
  rw [rf_row_rs]
  by_cases e : j = k
  · subst e
    simp only [if_true]
    exact hc h3 i hi
  · simp only [e, if_false]
    exact (c3 h3 i).1 hi
theorem rf_fa_get (g : Nat → Int32) : ∀ (ts : List Nat) (j i : Nat), (rf_fa g j ts)[i]? = (ts[i]?).map fun t => rf_av t (g (j + i)) (g (j + i + 100))
  | [], j, i => by simp [rf_fa]
  | t :: ts, j, 0 => by simp [rf_fa]
  | t :: ts, j, i + 1 => by
    rw [rf_fa, List.getElem?_cons_succ, rf_fa_get g ts (j + 1) i, List.getElem?_cons_succ, show j + 1 + i = j + (i + 1) by omega]
theorem rf_fa_len (g : Nat → Int32) : ∀ (ts : List Nat) (j : Nat), (rf_fa g j ts).length = ts.length
  | [], _ => rfl
  | _ :: ts, j => by simp [rf_fa, rf_fa_len g ts (j + 1)]
/-- an object's fields, one of them new -/
theorem rf_fa_set {g g' : Nat → Int32} {ts : List Nat} {j t : Nat} {v : Value} (hl : ts.length ≤ 90) (ht : ts[j]? = some t) (hv : rf_av t (g' j) (g' (j + 100)) = v) (ho : ∀ i, i ≠ j → i ≠ j + 100 → g' i = g i) (h2 : t = 1 ∨ g' (j + 100) = g (j + 100)) : (rf_fa g 0 ts).set j v = rf_fa g' 0 ts := by
  have hj : j < ts.length := (List.getElem?_eq_some_iff.mp ht).1
  apply List.ext_getElem?
  intro i
  rw [List.getElem?_set, rf_fa_len, rf_fa_get, rf_fa_get]
  by_cases e : j = i
  · subst e
    simp only [if_true, hj, ht, Option.map_some, Nat.zero_add, hv]
  · simp only [e, if_false]
    cases hi : ts[i]? with
    | none => rfl
    | some u =>
      have hil : i < ts.length := (List.getElem?_eq_some_iff.mp hi).1
      simp only [Option.map_some, Nat.zero_add]
      rw [ho i (Ne.symm e) (by omega), ho (i + 100) (by omega) (by omega)]
theorem rf_enc_obj (ad : Nat → Nat) (cA : ClassId) {sh : rf_Sh} {c : Nat} (h : sh.1 = c + 3) (g : Nat → Int32) : rf_enc ad cA sh g = .inr (c, (rf_fa g 0 sh.2.2).map (rf_cv ad)) := by
  unfold rf_enc
  rw [h]
theorem rf_enc_0 (ad : Nat → Nat) (cA : ClassId) {sh : rf_Sh} (h : sh.1 = 0) (g : Nat → Int32) : rf_enc ad cA sh g = .inl (cA, sh.2.1, .inl g) := by
  unfold rf_enc
  rw [h]
theorem rf_enc_1 (ad : Nat → Nat) (cA : ClassId) {sh : rf_Sh} (h : sh.1 = 1) (g : Nat → Int32) : rf_enc ad cA sh g = .inl (cA, sh.2.1, .inl g) := by
  unfold rf_enc
  rw [h]
theorem rf_enc_2 (ad : Nat → Nat) (cA : ClassId) {sh : rf_Sh} (h : sh.1 = 2) (g : Nat → Int32) : rf_enc ad cA sh g = .inl (cA, sh.2.1, .inr (.inr (.inr (.inr (fun i => if i < sh.2.1 then some (ad (sh.2.2.getD i 0)) else none))))) := by
  unfold rf_enc
  rw [h]
/-- other addresses, alike where the cells speak of -/
theorem rf_cv_eq {ad ad' : Nat → Nat} : ∀ {v : Value}, (∀ a, v = .ref a → ad' a = ad a) → rf_cv ad' v = rf_cv ad v
  | .ref a, h => by simp [rf_cv, h a rfl]
  | .null, _ => rfl
  | .int _, _ => rfl
  | .long _, _ => rfl
  | .float _, _ => rfl
  | .double _, _ => rfl
  | .retAddr _, _ => rfl
theorem rf_enc_eq {T : Nat → rf_Sh} {n k : Nat} {σ : rf_Mem} {ad ad' : Nat → Nat} {cA : ClassId} (hc : rf_cl T n σ) (hk : k < n) (ha : ∀ a, rf_okr n a → ad' a = ad a) : rf_enc ad' cA (T k) (rf_row σ k) = rf_enc ad cA (T k) (rf_row σ k) := by
  obtain ⟨-, c2, c3⟩ := hc k hk
  match h : (T k).1 with
  | 0 => rw [rf_enc_0 _ _ h, rf_enc_0 _ _ h]
  | 1 => rw [rf_enc_1 _ _ h, rf_enc_1 _ _ h]
  | 2 =>
    rw [rf_enc_2 _ _ h, rf_enc_2 _ _ h]
    have e : (fun i => if i < (T k).2.1 then some (ad' ((T k).2.2.getD i 0)) else none) = (fun i => if i < (T k).2.1 then some (ad ((T k).2.2.getD i 0)) else none) := by
      funext i
      by_cases hi : i < (T k).2.1
      · simp only [hi, if_true]
        rw [ha _ (c2 h i hi)]
      · simp only [hi, if_false]
    rw [e]
  | c + 3 =>
    rw [rf_enc_obj _ _ h, rf_enc_obj _ _ h]
    have e : (rf_fa (rf_row σ k) 0 (T k).2.2).map (rf_cv ad') = (rf_fa (rf_row σ k) 0 (T k).2.2).map (rf_cv ad) := by
      apply List.map_congr_left
      intro v hv
      obtain ⟨i, hi⟩ := List.getElem?_of_mem hv
      rw [rf_fa_get] at hi
      obtain ⟨t, ht, rfl⟩ := Option.map_eq_some_iff.mp hi
      refine rf_cv_eq fun a e => ?_
      have c4 := c3 (by omega) i
      match t, ht, e with
      | 0, _, e => cases e
      | 1, _, e => cases e
      | 2, ht, e =>
        simp only [rf_av, rf_dr, Nat.zero_add] at e
        by_cases h0 : rf_row σ k i = 0
        · simp [h0] at e
        · simp only [h0, if_false] at e
          cases e
          rcases c4.1 ht with h1 | h1
          · exact absurd h1 h0
          · exact ha _ h1
      | 3, _, e => cases e
      | t + 4, ht, e =>
        simp only [rf_av] at e
        cases e
        exact ha _ (c4.2 _ ht)
    rw [e]
theorem rf_okr_mono {n n2 a : Nat} (h : n ≤ n2) (ha : rf_okr n a) : rf_okr n2 a := ha.elim (fun h1 => Or.inl (by omega)) Or.inr
theorem rf_ws_push {T : Nat → rf_Sh} {ad : Nat → Nat} {cid : Nat → ClassId} {n q : Nat} {σ : rf_Mem} {cA : ClassId} (hc : rf_cl T n σ) (hn : n < 500) (g : Nat → Int32) :
    rf_ws T ad cid n σ ++ [(q, rf_enc (va_up ad n q) cA (T n) g)] = rf_ws T (va_up ad n q) (va_up cid n cA) (n + 1) (rf_rs σ n g) := by
  have ha : ∀ a, rf_okr n a → va_up ad n q a = ad a := fun a h => va_up_ne ad q (by rcases h with h | h <;> omega)
  apply List.ext_getElem?
  intro i
  by_cases hi : i < n
  · rw [List.getElem?_append_left (by rw [rf_ws_len]; exact hi), rf_ws_get hi, rf_ws_get (by omega), rf_row_rs]
    have e : ¬ i = n := by omega
    rw [va_up_ne _ _ e, va_up_ne _ _ e]
    simp only [e, if_false]
    rw [rf_enc_eq hc hi ha]
  · rw [List.getElem?_append_right (by rw [rf_ws_len]; omega), rf_ws_len]
    by_cases e : i = n
    · subst e
      rw [rf_ws_get (by omega), rf_row_rs, va_up_self, va_up_self]
      simp
    · have h2 : (rf_ws T (va_up ad n q) (va_up cid n cA) (n + 1) (rf_rs σ n g))[i]? = none := List.getElem?_eq_none (by rw [rf_ws_len]; omega)
      rw [h2]
      exact List.getElem?_eq_none (by simp; omega)
theorem rf_Wd_push {T : Nat → rf_Sh} {lo : Nat} {D : va_G} {ad : Nat → Nat} {cid : Nat → ClassId} {n q : Nat} {σ : rf_Mem} {s : State} {H H1 : Heap} {cA : ClassId} {e : va_E} (h : rf_Wd T lo D ad cid n σ s H) (hn : n < 499)
    (hl : (T n).2.2.length ≤ 90) (h2 : (T n).1 ≠ 2) (h4 : 3 ≤ (T n).1 → ∀ j t : Nat, (T n).2.2[j]? = some t → t < 4) (he : rf_enc (va_up ad n q) cA (T n) rf_0 = e)
    (hP : va_P D vwCl (rf_ws T ad cid n σ ++ [(q, e)]) H1) (hD : va_D (fun q => lo ≤ q) (rf_ws T ad cid n σ ++ [(q, e)])) (hA : (T n).1 ≤ 2 → ArrOfT s cA (rf_ty (T n).1) ∧ va_RA s cA (rf_ty (T n).1)) : rf_Wd T lo D (va_up ad n q) (va_up cid n cA) (n + 1) (rf_rs σ n rf_0) s H1 := by
  subst he
  rw [rf_ws_push h.2.1 (by omega)] at hP hD
  refine ⟨by omega, fun k hk => ?_, hP, hD, h.2.2.2.2.1, fun k hk hk2 => ?_⟩
  · by_cases e : k = n
    · subst e
      refine ⟨hl, fun h => absurd h h2, fun h3 j => ⟨fun _ => Or.inl ?_, fun t ht => ?_⟩⟩
      · rw [rf_row_rs]
        simp [rf_0]
      · have := h4 h3 j _ ht
        omega
    · obtain ⟨c1, c2, c3⟩ := h.2.1 k (by omega)
      refine ⟨c1, fun g i hi => rf_okr_mono (by omega) (c2 g i hi), fun h3 j => ⟨fun hj => ?_, fun t ht => rf_okr_mono (by omega) ((c3 h3 j).2 t ht)⟩⟩
      rw [rf_row_rs]
      simp only [e, if_false]
      exact ((c3 h3 j).1 hj).imp id (rf_okr_mono (by omega))
  · by_cases e : k = n
    · subst e
      rw [va_up_self]
      exact hA hk2
    · rw [va_up_ne _ _ e]
      exact h.2.2.2.2.2 k (by omega) hk2
theorem rf_nr_cv {ad : Nat → Nat} {n q : Nat} {v : Value} (h : rf_nr n v = true) : rf_cv (va_up ad n q) v = rf_cv ad v := by
  refine rf_cv_eq fun a e => ?_
  subst e
  refine va_up_ne _ _ fun e => ?_
  subst e
  simp [rf_nr, Nat.beq_refl] at h
theorem rf_st_push {ad : Nat → Nat} {n q : Nat} {st : List Value} (h : st.all (rf_nr n) = true) : st.map (rf_cv (va_up ad n q)) = st.map (rf_cv ad) := List.map_congr_left fun v hv => rf_nr_cv (List.all_eq_true.mp h v hv)
theorem rf_Lv_push {ad : Nat → Nat} {n q nL : Nat} {L : List (Option Value)} {ls : Array Slot} (hL : rf_Lv ad ls nL L) (h : L.all (rf_no n) = true) : rf_Lv (va_up ad n q) ls nL L := by
  refine ⟨hL.1, hL.2.1, hL.2.2.1, fun i v hi => ?_⟩
  have h1 := List.all_eq_true.mp h _ (List.mem_of_getElem? hi)
  rw [rf_nr_cv (show rf_nr n v = true from h1)]
  exact hL.2.2.2 i v hi
theorem rf_ag_push {n0 n q : Nat} {ad0 ad : Nat → Nat} (h : rf_ag n0 ad0 ad) (h0 : n0 ≤ n) (hn : n < 500) : rf_ag n0 ad0 (va_up ad n q) := fun k hk => by
  rw [va_up_ne _ _ (by omega)]
  exact h k hk
/-! ===== locals ===== -/
theorem rf_Lv_get {ad : Nat → Nat} {ls : Array Slot} {nL x : Nat} {L : List (Option Value)} {v : Value} (h : rf_Lv ad ls nL L) (hx : L.getD x none = some v) : ls[x]? = some (.val (rf_cv ad v)) := by
  refine h.2.2.2 x v ?_
  rw [List.getD_eq_getElem?_getD] at hx
  cases hg : L[x]? with
  | none => rw [hg] at hx; cases hx
  | some o => rw [hg] at hx; exact congrArg some hx
/-- the locals as the kit's list of pairs -/
def rf_prs (ad : Nat → Nat) : Nat → List (Option Value) → List (Nat × Value)
  | _, [] => []
  | i, some v :: L => (i, rf_cv ad v) :: rf_prs ad (i + 1) L
  | i, none :: L => rf_prs ad (i + 1) L
theorem rf_prs_mem {ad : Nat → Nat} : ∀ {L : List (Option Value)} {i j : Nat} {v : Value}, L[j]? = some (some v) → (i + j, rf_cv ad v) ∈ rf_prs ad i L
  | [], i, j, v, h => by simp at h
  | some w :: L, i, 0, v, h => by
    simp at h
    subst h
    simp [rf_prs]
  | none :: L, i, 0, v, h => by simp at h
  | some w :: L, i, j + 1, v, h => by
    have := rf_prs_mem (ad := ad) (i := i + 1) (show L[j]? = some (some v) by simpa using h)
    rw [show i + 1 + j = i + (j + 1) by omega] at this
    exact List.mem_cons_of_mem _ this
  | none :: L, i, j + 1, v, h => by
    have := rf_prs_mem (ad := ad) (i := i + 1) (show L[j]? = some (some v) by simpa using h)
    rw [show i + 1 + j = i + (j + 1) by omega] at this
    exact this
theorem rf_prs_of {ad : Nat → Nat} : ∀ {L : List (Option Value)} {i : Nat} {q : Nat × Value}, q ∈ rf_prs ad i L → ∃ (j : Nat) (v : Value), q = (i + j, rf_cv ad v) ∧ L[j]? = some (some v)
  | [], i, q, h => by simp [rf_prs] at h
  | some w :: L, i, q, h => by
    rcases List.mem_cons.mp h with rfl | h
    · exact ⟨0, w, rfl, rfl⟩
    · obtain ⟨j, v, rfl, hj⟩ := rf_prs_of h
      exact ⟨j + 1, v, by rw [show i + 1 + j = i + (j + 1) by omega], by simpa using hj⟩
  | none :: L, i, q, h => by
    obtain ⟨j, v, rfl, hj⟩ := rf_prs_of (i := i + 1) h
    exact ⟨j + 1, v, by rw [show i + 1 + j = i + (j + 1) by omega], by simpa using hj⟩
theorem rf_Lv_has {ad : Nat → Nat} {ls : Array Slot} {nL : Nat} {L : List (Option Value)} (h : rf_Lv ad ls nL L) : lv_has ls nL (rf_prs ad 0 L) := by
  refine ⟨h.2.1, h.2.2.1, fun q hq => ?_⟩
  obtain ⟨j, v, rfl, hj⟩ := rf_prs_of hq
  rw [Nat.zero_add]
  exact h.2.2.2 j v hj
theorem rf_cv_cat (ad : Nat → Nat) (v : Value) : (rf_cv ad v).category = v.category := by cases v <;> rfl
theorem rf_nl_cat {L : List (Option Value)} {x j : Nat} {v : Value} (h : rf_nl L x = true) (hj : L[j]? = some (some v)) (e : j + 1 = x) : ¬ v.category = 2 := by
  subst e
  have hg : L.getD j none = some v := by rw [List.getD_eq_getElem?_getD, hj]; rfl
  rw [rf_nl, hg] at h
  cases v <;> simp [Value.category] at h ⊢
/-- one place of the locals is new -/
theorem rf_Lv_set1 {ad : Nat → Nat} {ls ls' : Array Slot} {nL x : Nat} {L : List (Option Value)} {v : Value} (h : rf_Lv ad ls nL L) (hn : rf_nl L x = true) (h' : lv_has ls' nL ((x, rf_cv ad v) :: (rf_prs ad 0 L).filter (fun q => !(q.1 == x) && !(q.1 + 1 == x && q.2.category == 2)))) : rf_Lv ad ls' nL (L.set x (some v)) := by
  refine ⟨by rw [List.length_set]; exact h.1, h'.1, h'.2.1, fun i w hi => ?_⟩
  rw [List.getElem?_set] at hi
  by_cases e : x = i
  · subst e
    simp only [if_true] at hi
    split at hi
    · cases hi
      exact h'.2.2 _ List.mem_cons_self
    · cases hi
  · simp only [e, if_false] at hi
    refine h'.2.2 (i, rf_cv ad w) (List.mem_cons_of_mem _ (List.mem_filter.mpr ⟨?_, ?_⟩))
    · have := rf_prs_mem (ad := ad) (i := 0) hi
      rwa [Nat.zero_add] at this
    · by_cases e2 : i + 1 = x
      · have := rf_nl_cat hn hi e2
        simp [Ne.symm e, rf_cv_cat, this]
      · simp [Ne.symm e, e2]
theorem rf_Lv_set2 {ad : Nat → Nat} {ls ls' : Array Slot} {nL x : Nat} {L : List (Option Value)} {v : Value} (h : rf_Lv ad ls nL L) (hn : rf_nl L x = true) (h' : lv_has ls' nL ((x, rf_cv ad v) :: (rf_prs ad 0 L).filter (fun q => !(q.1 == x) && (!(q.1 == x + 1) && !(q.1 + 1 == x && q.2.category == 2))))) : rf_Lv ad ls' nL ((L.set x (some v)).set (x + 1) none) := by
  refine ⟨by rw [List.length_set, List.length_set]; exact h.1, h'.1, h'.2.1, fun i w hi => ?_⟩
  rw [List.getElem?_set] at hi
  by_cases e1 : x + 1 = i
  · subst e1
    simp only [if_true] at hi
    split at hi <;> cases hi
  · simp only [e1, if_false] at hi
    rw [List.getElem?_set] at hi
    by_cases e : x = i
    · subst e
      simp only [if_true] at hi
      split at hi
      · cases hi
        exact h'.2.2 _ List.mem_cons_self
      · cases hi
    · simp only [e, if_false] at hi
      refine h'.2.2 (i, rf_cv ad w) (List.mem_cons_of_mem _ (List.mem_filter.mpr ⟨?_, ?_⟩))
      · have := rf_prs_mem (ad := ad) (i := 0) hi
        rwa [Nat.zero_add] at this
      · by_cases e2 : i + 1 = x
        · have := rf_nl_cat hn hi e2
          simp [Ne.symm e, Ne.symm e1, rf_cv_cat, this]
        · simp [Ne.symm e, Ne.symm e1, e2]
theorem rf_Lv_kill {ad : Nat → Nat} {ls : Array Slot} {nL x : Nat} {L : List (Option Value)} (h : rf_Lv ad ls nL L) : rf_Lv ad ls nL (L.set x none) := by
  refine ⟨by rw [List.length_set]; exact h.1, h.2.1, h.2.2.1, fun i w hi => ?_⟩
  rw [List.getElem?_set] at hi
  by_cases e : x = i
  · subst e
    simp only [if_true] at hi
    split at hi <;> cases hi
  · simp only [e, if_false] at hi
    exact h.2.2.2 i w hi
