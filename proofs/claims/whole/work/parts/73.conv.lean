/-! ===== from the shapes while the constructors run (tSc) to those behind them (tSh) ===== -/
/-- the slots of a cell that hold a reference for good -/
def cvf (k : Nat) (g : Nat → Int32) : Nat → Int32 := fun j => match (tSh k).2.2[j]? with
  | some (t + 4) => if 3 ≤ (tSh k).1 then nI (t + 1) else g j
  | _ => g j
def nrm (σ : rf_Mem) : rf_Mem := (fun k => if k < 94 then cvf k (σ.1 k) else σ.1 k, fun k => if 94 ≤ k ∧ k < 108 then cvf k (σ.2 k) else σ.2 k)
theorem nrm_row (σ : rf_Mem) {k : Nat} (hk : k < 108) : rf_row (nrm σ) k = cvf k (rf_row σ k) := by
  unfold rf_row nrm
  by_cases h : k < 94
  · rw [show Nat.blt k 94 = true from Nat.ble_eq_true_of_le h]
    exact if_pos h
  · rw [show Nat.blt k 94 = false from Bool.eq_false_iff.mpr (fun e => h (Nat.le_of_ble_eq_true e))]
    exact if_pos ⟨by omega, hk⟩
/-- nothing is changed where the references stand as they must -/
theorem nrm_id {σ : rf_Mem} (h : ∀ k, k < 108 → cvf k (rf_row σ k) = rf_row σ k) : nrm σ = σ := by
  refine Prod.ext (funext fun k => ?_) (funext fun k => ?_)
  · show (if k < 94 then cvf k (σ.1 k) else σ.1 k) = σ.1 k
    by_cases e : k < 94
    · have := h k (by omega)
      unfold rf_row at this
      rw [show Nat.blt k 94 = true from Nat.ble_eq_true_of_le e] at this
      rw [if_pos e]
      exact this
    · rw [if_neg e]
  · show (if 94 ≤ k ∧ k < 108 then cvf k (σ.2 k) else σ.2 k) = σ.2 k
    by_cases e : 94 ≤ k ∧ k < 108
    · have := h k e.2
      unfold rf_row at this
      rw [show Nat.blt k 94 = false from Bool.eq_false_iff.mpr (fun x => absurd (Nat.le_of_ble_eq_true x) (by omega))] at this
      rw [if_pos e]
      exact this
    · rw [if_neg e]
theorem cv_sh : ∀ k, k < 108 → ((tSc k).1 = (tSh k).1 ∧ (tSc k).2.1 = (tSh k).2.1 ∧ (tSh k).2.2.length ≤ 90 ∧ ((tSh k).1 ≤ 2 → (tSc k).2.2 = (tSh k).2.2) ∧ (3 ≤ (tSh k).1 → (tSc k).2.2 = (tSh k).2.2.map (fun t => if 4 ≤ t then 2 else t)) ∧ ∀ t ∈ (tSh k).2.2, t < 1000) := by decide +kernel
theorem cv_sl : ∀ n, n ≤ 108 → rf_sl tSc n = rf_sl tSh n
  | 0, _ => rfl
  | n + 1, h => by rw [rf_sl, rf_sl, cv_sl n (by omega), (cv_sh n (by omega)).2.1]
theorem rf_fa_eq : ∀ (sl sl' : List Nat) (j : Nat) (g g' : Nat → Int32), sl.length = sl'.length → (∀ i t t', sl[i]? = some t → sl'[i]? = some t' → rf_av t (g (j + i)) (g (j + i + 100)) = rf_av t' (g' (j + i)) (g' (j + i + 100))) → rf_fa g j sl = rf_fa g' j sl'
  | [], [], _, _, _, _, _ => rfl
  | [], _ :: _, _, _, _, h, _ => by cases h
  | _ :: _, [], _, _, _, h, _ => by cases h
  | t :: sl, t' :: sl', j, g, g', h, e => by
    rw [rf_fa, rf_fa]
    have e0 := e 0 t t' rfl rfl
    rw [Nat.add_zero] at e0
    rw [e0, rf_fa_eq sl sl' (j + 1) g g' (by simpa using h) (fun i a b ha hb => by
      have := e (i + 1) a b (by simpa using ha) (by simpa using hb)
      rw [show j + 1 + i = j + (i + 1) by omega]
      exact this)]
theorem cvf_out {k j : Nat} {g : Nat → Int32} (h : (tSh k).2.2[j]? = none) : cvf k g j = g j := by
  unfold cvf
  rw [h]
theorem cvf_at {k j t : Nat} {g : Nat → Int32} (h3 : 3 ≤ (tSh k).1) (h : (tSh k).2.2[j]? = some (t + 4)) : cvf k g j = nI (t + 1) := by
  unfold cvf
  rw [h]
  exact if_pos h3
theorem cvf_lo {k j t : Nat} {g : Nat → Int32} (h : (tSh k).2.2[j]? = some t) (ht : t < 4) : cvf k g j = g j := by
  unfold cvf
  rw [h]
  match t, ht with
  | 0, _ => rfl
  | 1, _ => rfl
  | 2, _ => rfl
  | 3, _ => rfl
theorem cv_100 {k j t : Nat} {g : Nat → Int32} (hk : k < 108) (h : (tSh k).2.2[j]? = some t) : cvf k g (j + 100) = g (j + 100) := by
  refine cvf_out (List.getElem?_eq_none ?_)
  have := (cv_sh k hk).2.2.1
  omega
theorem cv_h {k : Nat} (hk : k < 108) (ad : Nat → Nat) (cA : ClassId) (g : Nat → Int32) (h3 : 3 ≤ (tSh k).1) : rf_fa (cvf k g) 0 (tSh k).2.2 = rf_fa g 0 (tSh k).2.2 := by
  refine rf_fa_eq _ _ _ _ _ rfl (fun i t t' h h' => ?_)
  obtain rfl : t = t' := by rw [h] at h'; exact Option.some.inj h'
  rw [Nat.zero_add, cv_100 hk h]
  match t, h with
  | 0, h => rw [cvf_lo h (by decide)]
  | 1, h => rw [cvf_lo h (by decide)]
  | 2, h => rw [cvf_lo h (by decide)]
  | 3, h => rw [cvf_lo h (by decide)]
  | t + 4, h => rfl
theorem cv_c {k : Nat} (hk : k < 108) (g : Nat → Int32) (h3 : 3 ≤ (tSh k).1) : rf_fa (cvf k g) 0 (tSc k).2.2 = rf_fa (cvf k g) 0 (tSh k).2.2 := by
  have e := (cv_sh k hk).2.2.2.2.1 h3
  refine rf_fa_eq _ _ _ _ _ (by rw [e, List.length_map]) (fun i t t' h h' => ?_)
  have hb := (cv_sh k hk).2.2.2.2.2 t' (List.mem_of_getElem? h')
  rw [e, List.getElem?_map, h'] at h
  have h := Option.some.inj h
  simp only at h
  rw [Nat.zero_add]
  match t', h', h with
  | 0, h', h => subst h; rfl
  | 1, h', h => subst h; rfl
  | 2, h', h => subst h; rfl
  | 3, h', h => subst h; rfl
  | t' + 4, h', h =>
    rw [if_pos (by omega)] at h
    subst h
    show rf_dr _ = .ref t'
    rw [cvf_at h3 h']
    unfold rf_dr
    have hz : ¬ nI (t' + 1) = 0 := fun e => absurd (nI_inj (a := t' + 1) (b := 0) e (by omega) (by omega)) (by omega)
    rw [if_neg hz, nI_clamp (by omega)]
    rfl
theorem cv_enc {k : Nat} (hk : k < 108) (ad : Nat → Nat) (cA : ClassId) (g : Nat → Int32) : rf_enc ad cA (tSc k) (cvf k g) = rf_enc ad cA (tSh k) g := by
  obtain ⟨e1, e2, -, e4, e5, -⟩ := cv_sh k hk
  by_cases h3 : 3 ≤ (tSh k).1
  · unfold rf_enc
    rw [e1]
    match hk : (tSh k).1, h3 with
    | c + 3, _ =>
      simp only
      have h3' : 3 ≤ (tSh k).1 := by rw [hk]; omega
      rw [cv_c (by assumption) g h3', cv_h (by assumption) ad cA g h3']
  · have e : cvf k g = g := by
      funext j
      unfold cvf
      split
      · rw [if_neg h3]
      · rfl
    have e6 : tSc k = tSh k := Prod.ext e1 (Prod.ext e2 (e4 (by omega)))
    rw [e, e6]
theorem cv_ws {ad : Nat → Nat} {cid : Nat → ClassId} {n : Nat} {σ : rf_Mem} (hn : n ≤ 108) : rf_ws tSc ad cid n (nrm σ) = rf_ws tSh ad cid n σ := by
  unfold rf_ws
  refine List.map_congr_left (fun k hk => ?_)
  rw [List.mem_range] at hk
  rw [nrm_row σ (by omega), cv_enc (by omega)]
theorem cv_cl {n : Nat} {σ : rf_Mem} (hn : n ≤ 108) : rf_cl tSc n (nrm σ) ↔ rf_cl tSh n σ := by
  unfold rf_cl
  refine forall_congr' (fun k => ?_)
  refine imp_congr_right (fun hk => ?_)
  obtain ⟨e1, e2, e3, e4, e5, e6⟩ := cv_sh k (by omega)
  rw [e1, e2, nrm_row σ (by omega)]
  by_cases h3 : 3 ≤ (tSh k).1
  · have e := e5 h3
    constructor
    · rintro ⟨-, -, h⟩
      refine ⟨e3, fun h2 => absurd h2 (by omega), fun _ j => ⟨fun hj => ?_, fun t hj => ?_⟩⟩
      · have h1 := (h h3 j).1 (by rw [e, List.getElem?_map, hj]; rfl)
        rw [cvf_lo hj (by decide)] at h1
        exact h1
      · have h1 := (h h3 j).1 (by rw [e, List.getElem?_map, hj]; exact congrArg some (if_pos (by omega)))
        have hb := e6 _ (List.mem_of_getElem? hj)
        rw [cvf_at h3 hj, nI_clamp (by omega)] at h1
        rcases h1 with h1 | h1
        · exact absurd (nI_inj (b := 0) h1 (by omega) (by omega)) (by omega)
        · exact h1
    · rintro ⟨-, -, h⟩
      refine ⟨by rw [e, List.length_map]; exact e3, fun h2 => absurd h2 (by omega), fun _ j => ⟨fun hj => ?_, fun t hj => ?_⟩⟩
      · rw [e, List.getElem?_map] at hj
        cases hs : (tSh k).2.2[j]? with
        | none => rw [hs] at hj; cases hj
        | some t' =>
          rw [hs] at hj
          have hj := Option.some.inj hj
          simp only at hj
          have hb := e6 _ (List.mem_of_getElem? hs)
          by_cases h4 : 4 ≤ t'
          · obtain ⟨t, rfl⟩ : ∃ t, t' = t + 4 := ⟨t' - 4, by omega⟩
            rw [cvf_at h3 hs, nI_clamp (by omega)]
            exact Or.inr ((h h3 j).2 t hs)
          · rw [if_neg h4] at hj
            subst hj
            rw [cvf_lo hs (by decide)]
            exact (h h3 j).1 hs
      · rw [e, List.getElem?_map] at hj
        cases hs : (tSh k).2.2[j]? with
        | none => rw [hs] at hj; cases hj
        | some t' =>
          rw [hs] at hj
          have hj := Option.some.inj hj
          simp only at hj
          split at hj <;> omega
  · have e := e4 (by omega)
    rw [e]
    constructor
    · rintro ⟨g1, g2, -⟩
      exact ⟨g1, g2, fun h => absurd h h3⟩
    · rintro ⟨g1, g2, -⟩
      exact ⟨g1, g2, fun h => absurd h h3⟩
theorem cv_Wd {lo : Nat} {D : va_G} {ad : Nat → Nat} {cid : Nat → ClassId} {n : Nat} {σ : rf_Mem} {s : State} {H : Heap} (hn : n ≤ 108) : rf_Wd tSc lo D ad cid n (nrm σ) s H ↔ rf_Wd tSh lo D ad cid n σ s H := by
  unfold rf_Wd
  rw [cv_ws hn, cv_cl hn]
  refine and_congr_right (fun _ => and_congr_right (fun _ => and_congr_right (fun _ => and_congr_right (fun _ => and_congr_right (fun _ => ?_)))))
  refine forall_congr' (fun k => ?_)
  refine imp_congr_right (fun hk => ?_)
  rw [(cv_sh k (by omega)).1]
/-- what the shapes behind the constructors give holds for those in them, where the references stand as they must -/
theorem rf_conv {E : Nat → Nat × Nat × (Nat → Int32)} {M : rf_M} {d pc : Nat} {L : List (Option Value)} {st : List Value} {σ σ' : rf_Mem} {r : Option Value} (h : rf_At (tSh, E) M d pc (L, st, 108, σ) r 108 σ') : rf_At (tSc, E) M d pc (L, st, 108, nrm σ) r 108 (nrm σ') := by
  intro p l e R s m args below meth c lo D ad0 n0 Q hC hR hE hf
  by_cases h0 : n0 ≤ 108
  · have eS : rf_sl tSc 108 - rf_sl tSc n0 = rf_sl tSh 108 - rf_sl tSh n0 := by rw [cv_sl 108 (by omega), cv_sl n0 h0]
    have hR2 : rf_Rm tSh R d n0 108 := ⟨hR.1, hR.2.1, hR.2.2.1, by rw [← eS]; exact hR.2.2.2⟩
    have hf2 : rf_Hf (tSh, E) M p l e R s m args below meth c lo D ad0 n0 108 Q r σ' := by
      intro ad cid H locs ls pc g1 g2 g3 g4 g5 g6
      have := hf ad cid H locs ls pc g1 g2 ((cv_Wd (by omega)).mpr g3) g4 g5 g6
      show W p l e R s m args below meth c H locs (108 - n0) (rf_sl tSh 108 - rf_sl tSh n0) Q _
      rw [← eS]
      exact this
    intro ad cid H locs ls g1 g2 g3 g4 g5 g6
    have := h p l e R s m args below meth c lo D ad0 n0 Q hC hR2 hE hf2 ad cid H locs ls g1 g2 g3 ((cv_Wd (by omega)).mp g4) g5 g6
    show W p l e R s m args below meth c H locs (108 - n0) (rf_sl tSc 108 - rf_sl tSc n0) Q _
    rw [eS]
    exact this
  · intro ad cid H locs ls g1 g2 g3
    exact absurd (show n0 ≤ 108 from g2) h0
