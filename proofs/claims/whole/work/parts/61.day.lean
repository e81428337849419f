/-! ===== one DAY, as a change of the row ===== -/
def zz (d : Nat → Int32) : Int32 := d 10 * nI 1103515245 + nI 12345
def zr (d : Nat → Int32) : Int32 := ((zz d).toUInt32 >>> ((nI 8).toUInt32 &&& Int32.toUInt32 31)).toInt32
theorem zr_n (d : Nat → Int32) : ∃ a : Nat, a < 2 ^ 24 ∧ zr d = nI a := by
  have h := pk_ushr (zz d) (nI 8) 8 (by decide)
  have hl := (zz d).toBitVec.isLt
  refine ⟨(zz d).toBitVec.toNat / 2 ^ 8, Nat.div_lt_of_lt_mul (by omega), ?_⟩
  apply Int32.toBitVec_inj.mp
  apply BitVec.eq_of_toNat_eq
  unfold zr
  rw [h]
  show _ = (BitVec.ofNat 32 _).toNat
  rw [BitVec.toNat_ofNat, Nat.mod_eq_of_lt (Nat.lt_of_le_of_lt (Nat.div_le_self _ _) hl)]
def csum (d : Nat → Int32) (k : Nat) : Nat := sumN (fun s => cn d (330 + s)) k
theorem csum_inc {d : Nat → Int32} {a b : Nat} (h : a ≤ b) : csum d a ≤ csum d b := by
  have := sumN_inc (f := fun s => cn d (330 + s)) (a := a) (b - a)
  rw [show a + (b - a) = b by omega] at this
  exact this
/-- the SHIFT that is drawn -/
theorem pickS {d : Nat → Int32} {r : Nat} : ∀ n, r < csum d n → ∃ s, s < n ∧ csum d s ≤ r ∧ r < csum d (s + 1)
  | 0, h => absurd h (Nat.not_lt_zero _)
  | n + 1, h => by
    rcases Nat.lt_or_ge r (csum d n) with h1 | h1
    · obtain ⟨s, s1, s2, s3⟩ := pickS n h1
      exact ⟨s, by omega, s2, s3⟩
    · exact ⟨n, by omega, h1, h⟩
/-- who is FOUND, and what becomes of them -/
def fnd (d : Nat → Int32) (S g : Nat) : Bool := !s_now d g && hb (d (320 + S)) (d (191 + 8 * g))
def fm (d : Nat → Int32) (S g : Nat) : Nat := if fnd d S g = true then cn d (194 + 8 * g) else 0
def pn (d : Nat → Int32) (g : Nat) : Nat := if cn d (195 + 8 * g) < cn d (196 + 8 * g) then cn d (195 + 8 * g) + 1 else cn d (195 + 8 * g)
def un (d : Nat → Int32) (g : Nat) : Nat := if d (197 + 8 * g) = 0 then cn d 0 + 1 else cn d 0 + 30
def cat (d c : Nat → Int32) (g : Nat) : Nat → Int32 := match cn d (190 + 8 * g) with
  | 2 => upd c (195 + 8 * g) (nI (pn d g))
  | 3 => upd c (195 + 8 * g) (nI (pn d g))
  | 4 => upd c (195 + 8 * g) (nI (pn d g))
  | 5 => upd c (197 + 8 * g) (nI (cn d 0 + 30))
  | 7 => upd c (197 + 8 * g) (nI (un d g))
  | _ => c
def ct (d : Nat → Int32) (S : Nat) : Nat → Nat → Int32
  | 0 => upd d 10 (zz d)
  | g + 1 => if fnd d S g = true then cat d (ct d S g) g else ct d S g
theorem cat_o {d c : Nat → Int32} {g j : Nat} (h1 : j ≠ 195 + 8 * g) (h2 : j ≠ 197 + 8 * g) : cat d c g j = c j := by
  have e : ∀ z : Nat → Int32, (z = c ∨ (∃ v, z = upd c (195 + 8 * g) v) ∨ ∃ v, z = upd c (197 + 8 * g) v) → z j = c j := by
    rintro z (rfl | ⟨v, rfl⟩ | ⟨v, rfl⟩)
    · rfl
    · exact pk_un h1
    · exact pk_un h2
  apply e
  unfold cat
  split <;> first | exact Or.inl rfl | exact Or.inr (Or.inl ⟨_, rfl⟩) | exact Or.inr (Or.inr ⟨_, rfl⟩)
theorem ct_o {d : Nat → Int32} {S j : Nat} (h0 : j ≠ 10) : ∀ {g : Nat}, (∀ k, k < g → j ≠ 195 + 8 * k ∧ j ≠ 197 + 8 * k) → ct d S g j = d j
  | 0, _ => pk_un h0
  | g + 1, h => by
    have ih := ct_o (d := d) (S := S) h0 (g := g) (fun k hk => h k (by omega))
    unfold ct
    split
    · rw [cat_o (h g (by omega)).1 (h g (by omega)).2]
      exact ih
    · exact ih
theorem pn_le {d : Nat → Int32} {g : Nat} (hI : Iv d) (hg : g < 16) : pn d g ≤ 9 := by
  have h5 := hI.leb (b := 9) (bd_195 (i := g) hg rfl) (by decide)
  have h6 := hI.leb (b := 9) (bd_196 (i := g) hg rfl) (by decide)
  unfold pn
  split <;> omega
theorem un_le {d : Nat → Int32} {g : Nat} (hI : Iv d) : un d g ≤ 429 := by
  have h0 := hI.le0
  unfold un
  split <;> omega
theorem cat_Iv {d c : Nat → Int32} {g : Nat} (hI : Iv d) (hc : Iv c) (hg : g < 16) (hq : cn c (196 + 8 * g) = cn d (196 + 8 * g)) (hpq : cn d (195 + 8 * g) ≤ cn d (196 + 8 * g)) : Iv (cat d c g) := by
  have h0 := hI.le0
  have h5 := pn_le hI hg
  have h8 : pn d g ≤ cn c (196 + 8 * g) := by rw [hq]; unfold pn; split <;> omega
  have h7 := un_le (g := g) hI
  unfold cat
  split
  · exact hc.put195 hg h5 (Or.inr h8)
  · exact hc.put195 hg h5 (Or.inr h8)
  · exact hc.put195 hg h5 (Or.inr h8)
  · exact hc.put (fun bb hb => ⟨_, by rw [bd_197 (i := g) hg rfl] at hb; cases hb; omega, rfl⟩) (by unfold nst; omega)
  · exact hc.put (fun bb hb => ⟨_, by rw [bd_197 (i := g) hg rfl] at hb; cases hb; omega, rfl⟩) (by unfold nst; omega)
  · exact hc
theorem ct_Iv {d : Nat → Int32} {S : Nat} (hI : Iv d) : ∀ {g : Nat}, g ≤ cn d 4 → Iv (ct d S g)
  | 0, _ => hI.put (fun bb hb => by cases hb) (by unfold nst; omega)
  | g + 1, h => by
    have b4 := hI.le4
    have ih := ct_Iv (S := S) hI (g := g) (by omega)
    unfold ct
    split
    · exact cat_Iv hI ih (by omega) (by unfold cn; rw [ct_o (by omega) (fun k hk => ⟨by omega, by omega⟩)]) (hI.2.2.2.1 g h).2
    · exact ih
/-- the draw is nothing to who pays -/
theorem now_z {d : Nat → Int32} {v : Int32} {g : Nat} : s_now (upd d 10 v) g = s_now d g := by
  have e : ∀ k, k ≠ 10 → upd d 10 v k = d k := fun k hk => pk_un hk
  have c : ∀ k, k ≠ 10 → cn (upd d 10 v) k = cn d k := fun k hk => by unfold cn; rw [e k hk]
  have h1 : ∀ t, s_with (upd d 10 v) t = s_with d t := fun t => by
    unfold s_with
    rw [c 5 (by decide)]
    refine sumI_congr (fun i _ => ?_)
    unfold f_with
    rw [e _ (by omega), e _ (by omega)]
  have h2 : s_all (upd d 10 v) = s_all d := by
    unfold s_all
    rw [c 5 (by decide)]
    exact sumI_congr (fun i _ => e _ (by omega))
  have h3 : s_go (upd d 10 v) g = s_go d g := by
    unfold s_go
    rw [e _ (by omega), e _ (by omega)]
  have h4 : s_fare (upd d 10 v) g = s_fare d g := by
    unfold s_fare
    rw [h3, e _ (by omega), e 8 (by decide)]
  have h5 : ∀ nm, gv 0 (upd d 10 v) nm = gv 0 d nm := fun nm => by
    unfold gv
    rw [e _ (by omega), c _ (by omega), show (fun i => upd d 10 v (530 + 50 * 0 + i)) = fun i => d (530 + 50 * 0 + i) from funext fun i => e _ (by omega)]
  have h6 : ∀ a b f, s_wei (upd d 10 v) g a b f = s_wei d g a b f := fun a b f => by
    unfold s_wei
    rw [h5, h4, h3]
  unfold s_now s_pays
  rw [h1, h2, c (190 + 8 * g) (by omega), c (191 + 8 * g) (by omega), c 0 (by decide), e 9 (by decide), e (191 + 8 * g) (by omega), e (195 + 8 * g) (by omega), e (196 + 8 * g) (by omega), e (197 + 8 * g) (by omega), e 0 (by decide), e (151 + 3 * cn d (191 + 8 * g)) (by omega)]
  simp only [h6]
/-! the end of a DAY -/
def fA (F : Nat) (s m r p t : Int32) (β : Nat → Nat → Int32) : Nat → Nat → Int32 := rf_w (rf_w (if F < 60 then rf_w (rf_w (rf_w (rf_w β 23 F s) 24 F m) 25 F r) 22 3 (nI (1 + F)) else β) 22 1 p) 22 0 t
def fB (F : Nat) (s m r p t : Int32) (ρ : Nat → Nat → Int32) : Nat → Nat → Int32 := rf_w (rf_w (if F < 60 then rf_w (rf_w (rf_w (rf_w ρ 95 (340 + 3 * F) s) 95 (341 + 3 * F) m) 95 (342 + 3 * F) r) 95 6 (nI (1 + F)) else ρ) 95 7 p) 95 0 t
theorem J.put1 {α μ : Nat → Nat → Int32} (h : J α μ) {c i j k : Nat} {v : Int32} (hk : k = 1 + c) (ho : off c i = some j) (hb : ∀ b, bd j = some b → ∃ m, m ≤ b ∧ v = nI m) (hn : nst j) : J (rf_w α k i v) (rf_w μ 95 j v) := by
  subst hk
  refine ⟨h.1.put ho v, ?_⟩
  rw [rf_w_self]
  exact h.2.put hb hn
theorem J.fin {β ρ : Nat → Nat → Int32} (h : J β ρ) {F s m r p t : Nat} (hF : F ≤ 60) (hs : s ≤ 7) (hm : m ≤ 15984) (hr : r ≤ 1150848) (hp : p ≤ 1999999999) (ht : t ≤ 399) : J (fA F (nI s) (nI m) (nI r) (nI p) (nI t) β) (fB F (nI s) (nI m) (nI r) (nI p) (nI t) ρ) := by
  unfold fA fB
  have key : ∀ β ρ, J β ρ → J (rf_w (rf_w β 22 1 (nI p)) 22 0 (nI t)) (rf_w (rf_w ρ 95 7 (nI p)) 95 0 (nI t)) := fun β ρ h => (h.put1 (c := 21) (i := 1) (j := 7) rfl rfl (fun b hb => ⟨p, by cases hb; omega, rfl⟩) (by unfold nst; omega)).put1 (c := 21) (i := 0) (j := 0) rfl rfl (fun b hb => ⟨t, by cases hb; omega, rfl⟩) (by unfold nst; omega)
  by_cases e : F < 60
  · rw [if_pos e, if_pos e]
    refine key _ _ ?_
    have h1 := h.put1 (c := 22) (i := F) (j := 340 + 3 * F) (k := 23) (v := nI s) rfl (off_22 e rfl) (fun b hb => ⟨s, by rw [bd_340 (i := F) e rfl] at hb; cases hb; omega, rfl⟩) (by unfold nst; omega)
    have h2 := h1.put1 (c := 23) (i := F) (j := 341 + 3 * F) (k := 24) (v := nI m) rfl (off_23 e rfl) (fun b hb => ⟨m, by rw [bd_341 (i := F) e rfl] at hb; cases hb; omega, rfl⟩) (by unfold nst; omega)
    have h3 := h2.put1 (c := 24) (i := F) (j := 342 + 3 * F) (k := 25) (v := nI r) rfl (off_24 e rfl) (fun b hb => ⟨r, by rw [bd_342 (i := F) e rfl] at hb; cases hb; omega, rfl⟩) (by unfold nst; omega)
    exact h3.put1 (c := 21) (i := 3) (j := 6) (k := 22) rfl rfl (fun b hb => ⟨1 + F, by cases hb; omega, rfl⟩) (by unfold nst; omega)
  · rw [if_neg e, if_neg e]
    exact key _ _ h
/-- the class's memory after who pays and who is FOUND; the model's -/
def sC (α β : Nat → Nat → Int32) : Prop := ∀ k, ¬ (2 ≤ k ∧ k ≤ 28) → k ≠ 31 → k ≠ 34 → k ≠ 35 → k ≠ 37 → β k = α k
def sD (μ ρ : Nat → Nat → Int32) : Prop := (∀ k, k ≠ 94 → k ≠ 95 → k ≠ 98 → k ≠ 102 → ρ k = μ k) ∧ ∀ i, i < 4 ∨ 10 ≤ i → ρ 94 i = μ 94 i
theorem J.day {α β μ ρ : Nat → Nat → Int32} (h : J α μ) (ha : sC α β) (hm : sD μ ρ) (hR : Rl 1 β (ρ 95)) (ht : ∀ j, 520 ≤ j → j < 630 → ρ 95 j = μ 95 j) (hI : Iv (ρ 95)) : J β ρ := by
  obtain ⟨⟨⟨-, t1, t2⟩, h2, h3, h4, ⟨v1, v2, v3⟩, h6⟩, -⟩ := h
  have a : ∀ k, ¬ (2 ≤ k ∧ k ≤ 28) ∧ k ≠ 31 ∧ k ≠ 34 ∧ k ≠ 35 ∧ k ≠ 37 → β k = α k := fun k hk => ha k hk.1 hk.2.1 hk.2.2.1 hk.2.2.2.1 hk.2.2.2.2
  have m : ∀ k, k ≠ 94 ∧ k ≠ 95 ∧ k ≠ 98 ∧ k ≠ 102 → ρ k = μ k := fun k hk => hm.1 k hk.1 hk.2.1 hk.2.2.1 hk.2.2.2
  refine ⟨⟨⟨hR, ?_, ?_⟩, fun h0 => ?_, ?_, fun k hk => ?_, ⟨?_, ?_, fun i hi => ?_⟩, fun s hs => ?_⟩, hI⟩
  · rw [a 29 (by omega), a 30 (by omega), ht 520 (by omega) (by omega)]
    exact t1.same (fun i hi => ht _ (by omega) (by omega)) (fun _ _ => rfl)
  · rw [a 32 (by omega), a 33 (by omega), ht 521 (by omega) (by omega)]
    exact t2.same (fun i hi => ht _ (by omega) (by omega)) (fun _ _ => rfl)
  · rw [hm.2 2 (by omega)] at h0
    obtain ⟨w1, w2, w3, w4⟩ := h2 h0
    rw [m 96 (by omega)]
    refine ⟨w1.same (fun c hc i => by rw [a _ (by omega)]) (fun _ _ => rfl), w2, ?_, ?_⟩
    · rw [a (38 + 28) (by omega), a (38 + 29) (by omega)]; exact w3
    · rw [a (38 + 31) (by omega), a (38 + 32) (by omega)]; exact w4
  · rw [a 0 (by omega), hm.2 2 (by omega)]; exact h3
  · rw [a 93 (by omega), m 97 (by omega)]; exact h4 k hk
  · rw [a 83 (by omega), hm.2 18 (by omega)]; exact v1
  · rw [hm.2 18 (by omega)]; exact v2
  · rw [a 84 (by omega), m 103 (by omega)]; exact v3 i hi
  · obtain ⟨s1, s2, s3, s4, s5⟩ := h6 s hs
    rw [a 86 (by omega), a 87 (by omega), m 104 (by omega), m 105 (by omega), m 106 (by omega), a (89 + s) (by omega)]
    exact ⟨s1, s2, s3, s4, s5⟩
