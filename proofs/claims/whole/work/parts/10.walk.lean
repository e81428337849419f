/-! ===== blocks, branches, returns ===== -/
theorem rf_ex1_mono (T : rf_Tb) (i : rf_I) (S : rf_St) : S.2.2.1 ≤ (rf_ex1 T i S).2.2.2.1 := by
  have m0 : ∀ {S : rf_St} {n : Nat}, n = S.2.2.1 → S.2.2.1 ≤ n := fun h => Nat.le_of_eq h.symm
  have i1 : ∀ (f) (S : rf_St), S.2.2.1 ≤ (rf_i1 f S).2.2.2.1 := fun f S => by unfold rf_i1; split <;> exact Nat.le_refl _
  have i2 : ∀ (f) (S : rf_St), S.2.2.1 ≤ (rf_i2 f S).2.2.2.1 := fun f S => by unfold rf_i2; split <;> exact Nat.le_refl _
  have i2z : ∀ (f) (S : rf_St), S.2.2.1 ≤ (rf_i2z f S).2.2.2.1 := fun f S => by unfold rf_i2z; split <;> exact Nat.le_refl _
  have l2 : ∀ (f) (S : rf_St), S.2.2.1 ≤ (rf_l2 f S).2.2.2.1 := fun f S => by unfold rf_l2; split <;> exact Nat.le_refl _
  have l2z : ∀ (f) (S : rf_St), S.2.2.1 ≤ (rf_l2z f S).2.2.2.1 := fun f S => by unfold rf_l2z; split <;> exact Nat.le_refl _
  have lsh : ∀ (f) (S : rf_St), S.2.2.1 ≤ (rf_lsh f S).2.2.2.1 := fun f S => by unfold rf_lsh; split <;> exact Nat.le_refl _
  have a1 : ∀ (S : rf_St), S.2.2.1 ≤ (rf_i2l S).2.2.2.1 := fun S => by unfold rf_i2l; split <;> exact Nat.le_refl _
  have a2 : ∀ (S : rf_St), S.2.2.1 ≤ (rf_l2i S).2.2.2.1 := fun S => by unfold rf_l2i; split <;> exact Nat.le_refl _
  have a3 : ∀ (S : rf_St), S.2.2.1 ≤ (rf_lcmp S).2.2.2.1 := fun S => by unfold rf_lcmp; split <;> exact Nat.le_refl _
  have a4 : ∀ (S : rf_St), S.2.2.1 ≤ (rf_dup S).2.2.2.1 := fun S => by unfold rf_dup; split <;> exact Nat.le_refl _
  have a5 : ∀ (S : rf_St), S.2.2.1 ≤ (rf_dup2 S).2.2.2.1 := fun S => by unfold rf_dup2; split <;> exact Nat.le_refl _
  have a6 : ∀ (S : rf_St), S.2.2.1 ≤ (rf_pop S).2.2.2.1 := fun S => by unfold rf_pop; split <;> exact Nat.le_refl _
  have b1 : ∀ (x) (S : rf_St), S.2.2.1 ≤ (rf_ild x S).2.2.2.1 := fun x S => by unfold rf_ild; simp only; split <;> exact Nat.le_refl _
  have b2 : ∀ (x) (S : rf_St), S.2.2.1 ≤ (rf_lld x S).2.2.2.1 := fun x S => by unfold rf_lld; simp only; split <;> exact Nat.le_refl _
  have b3 : ∀ (x) (S : rf_St), S.2.2.1 ≤ (rf_ald x S).2.2.2.1 := fun x S => by unfold rf_ald; simp only; split <;> exact Nat.le_refl _
  have b4 : ∀ (x) (S : rf_St), S.2.2.1 ≤ (rf_ist x S).2.2.2.1 := fun x S => by unfold rf_ist; simp only [Bool.cond_eq_ite]; (repeat' split) <;> exact Nat.le_refl _
  have b5 : ∀ (x) (S : rf_St), S.2.2.1 ≤ (rf_ast x S).2.2.2.1 := fun x S => by unfold rf_ast; simp only [Bool.cond_eq_ite]; (repeat' split) <;> exact Nat.le_refl _
  have b6 : ∀ (x) (S : rf_St), S.2.2.1 ≤ (rf_lst x S).2.2.2.1 := fun x S => by unfold rf_lst; simp only [Bool.cond_eq_ite]; (repeat' split) <;> exact Nat.le_refl _
  have b7 : ∀ (x v) (S : rf_St), S.2.2.1 ≤ (rf_inc x v S).2.2.2.1 := fun x v S => by unfold rf_inc; simp only [Bool.cond_eq_ite]; (repeat' split) <;> exact Nat.le_refl _
  have c1 : ∀ (x y v) (S : rf_St), S.2.2.1 ≤ (rf_get T x y v S).2.2.2.1 := fun x y v S => by unfold rf_get; simp only [Bool.cond_eq_ite]; (repeat' split) <;> exact Nat.le_refl _
  have c2 : ∀ (x y) (S : rf_St), S.2.2.1 ≤ (rf_put T x y S).2.2.2.1 := fun x y S => by unfold rf_put; simp only [Bool.cond_eq_ite]; (repeat' split) <;> exact Nat.le_refl _
  have c3 : ∀ (x) (S : rf_St), S.2.2.1 ≤ (rf_eld T x S).2.2.2.1 := fun x S => by unfold rf_eld; simp only [Bool.cond_eq_ite]; (repeat' split) <;> exact Nat.le_refl _
  have c4 : ∀ (x) (S : rf_St), S.2.2.1 ≤ (rf_est T x S).2.2.2.1 := fun x S => by unfold rf_est; simp only [Bool.cond_eq_ite]; (repeat' split) <;> exact Nat.le_refl _
  have c5 : ∀ (S : rf_St), S.2.2.1 ≤ (rf_aald T S).2.2.2.1 := fun S => by unfold rf_aald; simp only [Bool.cond_eq_ite]; (repeat' split) <;> exact Nat.le_refl _
  have c6 : ∀ (S : rf_St), S.2.2.1 ≤ (rf_alen T S).2.2.2.1 := fun S => by unfold rf_alen; simp only [Bool.cond_eq_ite]; (repeat' split) <;> exact Nat.le_refl _
  have c7 : ∀ (x) (S : rf_St), S.2.2.1 ≤ (rf_newo T x S).2.2.2.1 := fun x S => by unfold rf_newo; simp only [Bool.cond_eq_ite]; (repeat' split) <;> first | exact Nat.le_refl _ | exact Nat.le_succ _
  have c8 : ∀ (x y) (S : rf_St), S.2.2.1 ≤ (rf_newr T x y S).2.2.2.1 := fun x y S => by unfold rf_newr; simp only [Bool.cond_eq_ite]; (repeat' split) <;> first | exact Nat.le_refl _ | exact Nat.le_succ _
  have c9 : ∀ (S : rf_St), S.2.2.1 ≤ (rf_new2 T S).2.2.2.1 := fun S => by unfold rf_new2; simp only [Bool.cond_eq_ite]; (repeat' split) <;> first | exact Nat.le_refl _ | exact Nat.le_add_right _ _
  have d1 : ∀ (S : rf_St), S.2.2.1 ≤ (rf_oinit S).2.2.2.1 := fun S => by unfold rf_oinit; simp only [Bool.cond_eq_ite]; (repeat' split) <;> exact Nat.le_refl _
  have d2 : ∀ (f) (S : rf_St), S.2.2.1 ≤ (rf_mm f S).2.2.2.1 := fun f S => by unfold rf_mm; simp only [Bool.cond_eq_ite]; (repeat' split) <;> exact Nat.le_refl _
  have d3 : ∀ (S : rf_St), S.2.2.1 ≤ (rf_copy T S).2.2.2.1 := fun S => by unfold rf_copy; simp only [Bool.cond_eq_ite]; (repeat' split) <;> exact Nat.le_refl _
  have d4 : ∀ (f) (S : rf_St), S.2.2.1 ≤ (rf_sget f S).2.2.2.1 := fun f S => by unfold rf_sget; simp only [Bool.cond_eq_ite]; (repeat' split) <;> exact Nat.le_refl _
  obtain ⟨op, len, x, y, z, v, w⟩ := i
  unfold rf_ex1
  simp only
  split
  all_goals first
    | exact Nat.le_refl _ | exact i1 _ _ | exact i2 _ _ | exact i2z _ _ | exact l2 _ _ | exact l2z _ _ | exact lsh _ _ | exact a1 _ | exact a2 _ | exact a3 _ | exact a4 _ | exact a5 _ | exact a6 _ | exact b1 _ _ | exact b2 _ _ | exact b3 _ _ | exact b4 _ _ | exact b5 _ _ | exact b6 _ _ | exact b7 _ _ _ | exact c2 _ _ _ | exact c3 _ _ | exact c4 _ _ | exact c5 _ | exact c6 _ | exact c7 _ _ | exact c8 _ _ _ | exact c9 _ | exact d1 _
    | (split <;> first | exact d2 _ _ | exact d3 _)
    | (simp only [Bool.cond_eq_ite]; split <;> first | exact Nat.le_refl _ | exact c1 _ _ _ _ | exact d4 _ _)
theorem rf_ex_mono (T : rf_Tb) : ∀ (is : List rf_I) (S : rf_St), S.2.2.1 ≤ (rf_ex T is S).2.2.2.1
  | [], S => Nat.le_refl _
  | i :: is, S => Nat.le_trans (rf_ex1_mono T i S) (rf_ex_mono T is (rf_ex1 T i S).2)
theorem rf_ex_ok {T : rf_Tb} {M : rf_M} {p : Program} {l : Launch} {e : Env} {R : Room} {s : State} {m : MethodId} {args : Array Value} {below : List Frame} {meth : Method} {c : Code} {lo : Nat} {D : va_G} {ad0 : Nat → Nat} {n0 n' : Nat} {Q : State → Prop} {d : Nat} (hd1 : 1 ≤ d) (hC : rf_Cx M p s m args meth c) (hR : rf_Rm T.1 R d n0 n') (hE : rf_Ex T.2 lo ad0 s) :
    ∀ (is : List rf_I) (pc : Nat) (S : rf_St), rf_ck M pc is = true → rf_all (rf_ex T is S).1 → (rf_ex T is S).2.2.2.1 ≤ n' → rf_Ht T M p l e R s m args below meth c lo D ad0 n0 n' Q (rf_end pc is) (rf_ex T is S).2 → rf_Ht T M p l e R s m args below meth c lo D ad0 n0 n' Q pc S
  | [], pc, S, _, _, _, k => k
  | i :: is, pc, S, hck, hps, hn, k => by
    have hck : (rf_ck1 M pc i && rf_ck M (pc + i.2.1) is) = true := hck
    rw [Bool.and_eq_true] at hck
    have h1 := rf_all_app (show rf_all ((rf_ex1 T i S).1 ++ (rf_ex T is (rf_ex1 T i S).2).1) from hps)
    have k1 := rf_ex_ok hd1 hC hR hE is (pc + i.2.1) (rf_ex1 T i S).2 hck.2 h1.2 hn k
    exact rf_ex1_ok hd1 hC hR hE i hck.1 rfl h1.1 (Nat.le_trans (rf_ex_mono T is _) hn) k1
section RFW
variable {T : rf_Tb} {M : rf_M} {d pc pc' : Nat} {S S' : rf_St} {r : Option Value} {n' : Nat} {σ' : rf_Mem} {ps : List Bool} {is : List rf_I}
/-- a block of straight steps -/
theorem rf_step (hck : rf_ck M pc is = true) (hpc : rf_end pc is = pc') (hex : rf_ex T is S = (ps, S')) (hps : rf_all ps) (hn : S.2.2.1 ≤ n' → S'.2.2.1 ≤ n') (k : rf_At T M (d + 1) pc' S' r n' σ') : rf_At T M (d + 1) pc S r n' σ' := by
  subst hpc
  intro p l e R s m args below meth c lo D ad0 n0 Q hC hR hE hf ad cid H locs ls a1 a2 a3 a4 a5 a6
  refine rf_ex_ok (by omega) hC hR hE is pc S hck (by rw [hex]; exact hps) (by rw [hex]; exact hn a3) ?_ ad cid H locs ls a1 a2 a3 a4 a5 a6
  rw [hex]
  exact k p l e R s m args below meth c lo D ad0 n0 Q hC hR hE hf
variable {L : List (Option Value)} {st : List Value} {n : Nat} {σ : rf_Mem}
/-- what a branch's bytes are -/
def rf_ckb (M : rf_M) (pc : Nat) (op : Instr) (off : Int) (tgt : Nat) : Bool := decide (decode M.2.1 pc = .ok (op, 3)) && decide ((pc : Int) + off = (tgt : Int))
theorem rf_ckb_s {op : Instr} {off : Int} {tgt : Nat} (h : rf_ckb M pc op off tgt = true) : decode M.2.1 pc = .ok (op, 3) ∧ (pc : Int) + off = (tgt : Int) := by
  simpa [rf_ckb] using h
theorem rf_icmp_eq {x y : Int32} {off : Int} {tgt : Nat} (hck : rf_ckb M pc (.if_icmp .eq off) off tgt = true) (kt : x = y → rf_At T M d tgt (L, st, n, σ) r n' σ') (kf : ¬ x = y → rf_At T M d (pc + 3) (L, st, n, σ) r n' σ') : rf_At T M d pc (L, .int y :: .int x :: st, n, σ) r n' σ' := by
  intro p l e R s m args below meth c lo D ad0 n0 Q hC hR hE hf ad cid H locs ls a1 a2 a3 a4 a5 a6
  exact lv_icmp_eq hC.1 hC.2.1 (rf_ckb_s hck).1 (rf_ckb_s hck).2 (fun h => kt h p l e R s m args below meth c lo D ad0 n0 Q hC hR hE hf ad cid H locs ls a1 a2 a3 a4 a5 a6) (fun h => kf h p l e R s m args below meth c lo D ad0 n0 Q hC hR hE hf ad cid H locs ls a1 a2 a3 a4 a5 a6)
theorem rf_if_eq {x : Int32} {off : Int} {tgt : Nat} (hck : rf_ckb M pc (.ifCond .eq off) off tgt = true) (kt : x = 0 → rf_At T M d tgt (L, st, n, σ) r n' σ') (kf : ¬ x = 0 → rf_At T M d (pc + 3) (L, st, n, σ) r n' σ') : rf_At T M d pc (L, .int x :: st, n, σ) r n' σ' := by
  intro p l e R s m args below meth c lo D ad0 n0 Q hC hR hE hf ad cid H locs ls a1 a2 a3 a4 a5 a6
  exact lv_if_eq hC.1 hC.2.1 (rf_ckb_s hck).1 (rf_ckb_s hck).2 (fun h => kt h p l e R s m args below meth c lo D ad0 n0 Q hC hR hE hf ad cid H locs ls a1 a2 a3 a4 a5 a6) (fun h => kf h p l e R s m args below meth c lo D ad0 n0 Q hC hR hE hf ad cid H locs ls a1 a2 a3 a4 a5 a6)
theorem rf_icmp_ne {x y : Int32} {off : Int} {tgt : Nat} (hck : rf_ckb M pc (.if_icmp .ne off) off tgt = true) (kt : ¬ x = y → rf_At T M d tgt (L, st, n, σ) r n' σ') (kf : x = y → rf_At T M d (pc + 3) (L, st, n, σ) r n' σ') : rf_At T M d pc (L, .int y :: .int x :: st, n, σ) r n' σ' := by
  intro p l e R s m args below meth c lo D ad0 n0 Q hC hR hE hf ad cid H locs ls a1 a2 a3 a4 a5 a6
  exact lv_icmp_ne hC.1 hC.2.1 (rf_ckb_s hck).1 (rf_ckb_s hck).2 (fun h => kt h p l e R s m args below meth c lo D ad0 n0 Q hC hR hE hf ad cid H locs ls a1 a2 a3 a4 a5 a6) (fun h => kf h p l e R s m args below meth c lo D ad0 n0 Q hC hR hE hf ad cid H locs ls a1 a2 a3 a4 a5 a6)
theorem rf_if_ne {x : Int32} {off : Int} {tgt : Nat} (hck : rf_ckb M pc (.ifCond .ne off) off tgt = true) (kt : ¬ x = 0 → rf_At T M d tgt (L, st, n, σ) r n' σ') (kf : x = 0 → rf_At T M d (pc + 3) (L, st, n, σ) r n' σ') : rf_At T M d pc (L, .int x :: st, n, σ) r n' σ' := by
  intro p l e R s m args below meth c lo D ad0 n0 Q hC hR hE hf ad cid H locs ls a1 a2 a3 a4 a5 a6
  exact lv_if_ne hC.1 hC.2.1 (rf_ckb_s hck).1 (rf_ckb_s hck).2 (fun h => kt h p l e R s m args below meth c lo D ad0 n0 Q hC hR hE hf ad cid H locs ls a1 a2 a3 a4 a5 a6) (fun h => kf h p l e R s m args below meth c lo D ad0 n0 Q hC hR hE hf ad cid H locs ls a1 a2 a3 a4 a5 a6)
theorem rf_icmp_lt {x y : Int32} {off : Int} {tgt : Nat} (hck : rf_ckb M pc (.if_icmp .lt off) off tgt = true) (kt : x < y → rf_At T M d tgt (L, st, n, σ) r n' σ') (kf : ¬ x < y → rf_At T M d (pc + 3) (L, st, n, σ) r n' σ') : rf_At T M d pc (L, .int y :: .int x :: st, n, σ) r n' σ' := by
  intro p l e R s m args below meth c lo D ad0 n0 Q hC hR hE hf ad cid H locs ls a1 a2 a3 a4 a5 a6
  exact lv_icmp_lt hC.1 hC.2.1 (rf_ckb_s hck).1 (rf_ckb_s hck).2 (fun h => kt h p l e R s m args below meth c lo D ad0 n0 Q hC hR hE hf ad cid H locs ls a1 a2 a3 a4 a5 a6) (fun h => kf h p l e R s m args below meth c lo D ad0 n0 Q hC hR hE hf ad cid H locs ls a1 a2 a3 a4 a5 a6)
theorem rf_if_lt {x : Int32} {off : Int} {tgt : Nat} (hck : rf_ckb M pc (.ifCond .lt off) off tgt = true) (kt : x < 0 → rf_At T M d tgt (L, st, n, σ) r n' σ') (kf : ¬ x < 0 → rf_At T M d (pc + 3) (L, st, n, σ) r n' σ') : rf_At T M d pc (L, .int x :: st, n, σ) r n' σ' := by
  intro p l e R s m args below meth c lo D ad0 n0 Q hC hR hE hf ad cid H locs ls a1 a2 a3 a4 a5 a6
  exact lv_if_lt hC.1 hC.2.1 (rf_ckb_s hck).1 (rf_ckb_s hck).2 (fun h => kt h p l e R s m args below meth c lo D ad0 n0 Q hC hR hE hf ad cid H locs ls a1 a2 a3 a4 a5 a6) (fun h => kf h p l e R s m args below meth c lo D ad0 n0 Q hC hR hE hf ad cid H locs ls a1 a2 a3 a4 a5 a6)
theorem rf_icmp_ge {x y : Int32} {off : Int} {tgt : Nat} (hck : rf_ckb M pc (.if_icmp .ge off) off tgt = true) (kt : y ≤ x → rf_At T M d tgt (L, st, n, σ) r n' σ') (kf : ¬ y ≤ x → rf_At T M d (pc + 3) (L, st, n, σ) r n' σ') : rf_At T M d pc (L, .int y :: .int x :: st, n, σ) r n' σ' := by
  intro p l e R s m args below meth c lo D ad0 n0 Q hC hR hE hf ad cid H locs ls a1 a2 a3 a4 a5 a6
  exact lv_icmp_ge hC.1 hC.2.1 (rf_ckb_s hck).1 (rf_ckb_s hck).2 (fun h => kt h p l e R s m args below meth c lo D ad0 n0 Q hC hR hE hf ad cid H locs ls a1 a2 a3 a4 a5 a6) (fun h => kf h p l e R s m args below meth c lo D ad0 n0 Q hC hR hE hf ad cid H locs ls a1 a2 a3 a4 a5 a6)
theorem rf_if_ge {x : Int32} {off : Int} {tgt : Nat} (hck : rf_ckb M pc (.ifCond .ge off) off tgt = true) (kt : 0 ≤ x → rf_At T M d tgt (L, st, n, σ) r n' σ') (kf : ¬ 0 ≤ x → rf_At T M d (pc + 3) (L, st, n, σ) r n' σ') : rf_At T M d pc (L, .int x :: st, n, σ) r n' σ' := by
  intro p l e R s m args below meth c lo D ad0 n0 Q hC hR hE hf ad cid H locs ls a1 a2 a3 a4 a5 a6
  exact lv_if_ge hC.1 hC.2.1 (rf_ckb_s hck).1 (rf_ckb_s hck).2 (fun h => kt h p l e R s m args below meth c lo D ad0 n0 Q hC hR hE hf ad cid H locs ls a1 a2 a3 a4 a5 a6) (fun h => kf h p l e R s m args below meth c lo D ad0 n0 Q hC hR hE hf ad cid H locs ls a1 a2 a3 a4 a5 a6)
theorem rf_icmp_gt {x y : Int32} {off : Int} {tgt : Nat} (hck : rf_ckb M pc (.if_icmp .gt off) off tgt = true) (kt : y < x → rf_At T M d tgt (L, st, n, σ) r n' σ') (kf : ¬ y < x → rf_At T M d (pc + 3) (L, st, n, σ) r n' σ') : rf_At T M d pc (L, .int y :: .int x :: st, n, σ) r n' σ' := by
  intro p l e R s m args below meth c lo D ad0 n0 Q hC hR hE hf ad cid H locs ls a1 a2 a3 a4 a5 a6
  exact lv_icmp_gt hC.1 hC.2.1 (rf_ckb_s hck).1 (rf_ckb_s hck).2 (fun h => kt h p l e R s m args below meth c lo D ad0 n0 Q hC hR hE hf ad cid H locs ls a1 a2 a3 a4 a5 a6) (fun h => kf h p l e R s m args below meth c lo D ad0 n0 Q hC hR hE hf ad cid H locs ls a1 a2 a3 a4 a5 a6)
theorem rf_if_gt {x : Int32} {off : Int} {tgt : Nat} (hck : rf_ckb M pc (.ifCond .gt off) off tgt = true) (kt : 0 < x → rf_At T M d tgt (L, st, n, σ) r n' σ') (kf : ¬ 0 < x → rf_At T M d (pc + 3) (L, st, n, σ) r n' σ') : rf_At T M d pc (L, .int x :: st, n, σ) r n' σ' := by
  intro p l e R s m args below meth c lo D ad0 n0 Q hC hR hE hf ad cid H locs ls a1 a2 a3 a4 a5 a6
  exact lv_if_gt hC.1 hC.2.1 (rf_ckb_s hck).1 (rf_ckb_s hck).2 (fun h => kt h p l e R s m args below meth c lo D ad0 n0 Q hC hR hE hf ad cid H locs ls a1 a2 a3 a4 a5 a6) (fun h => kf h p l e R s m args below meth c lo D ad0 n0 Q hC hR hE hf ad cid H locs ls a1 a2 a3 a4 a5 a6)
theorem rf_icmp_le {x y : Int32} {off : Int} {tgt : Nat} (hck : rf_ckb M pc (.if_icmp .le off) off tgt = true) (kt : x ≤ y → rf_At T M d tgt (L, st, n, σ) r n' σ') (kf : ¬ x ≤ y → rf_At T M d (pc + 3) (L, st, n, σ) r n' σ') : rf_At T M d pc (L, .int y :: .int x :: st, n, σ) r n' σ' := by
  intro p l e R s m args below meth c lo D ad0 n0 Q hC hR hE hf ad cid H locs ls a1 a2 a3 a4 a5 a6
  exact lv_icmp_le hC.1 hC.2.1 (rf_ckb_s hck).1 (rf_ckb_s hck).2 (fun h => kt h p l e R s m args below meth c lo D ad0 n0 Q hC hR hE hf ad cid H locs ls a1 a2 a3 a4 a5 a6) (fun h => kf h p l e R s m args below meth c lo D ad0 n0 Q hC hR hE hf ad cid H locs ls a1 a2 a3 a4 a5 a6)
theorem rf_if_le {x : Int32} {off : Int} {tgt : Nat} (hck : rf_ckb M pc (.ifCond .le off) off tgt = true) (kt : x ≤ 0 → rf_At T M d tgt (L, st, n, σ) r n' σ') (kf : ¬ x ≤ 0 → rf_At T M d (pc + 3) (L, st, n, σ) r n' σ') : rf_At T M d pc (L, .int x :: st, n, σ) r n' σ' := by
  intro p l e R s m args below meth c lo D ad0 n0 Q hC hR hE hf ad cid H locs ls a1 a2 a3 a4 a5 a6
  exact lv_if_le hC.1 hC.2.1 (rf_ckb_s hck).1 (rf_ckb_s hck).2 (fun h => kt h p l e R s m args below meth c lo D ad0 n0 Q hC hR hE hf ad cid H locs ls a1 a2 a3 a4 a5 a6) (fun h => kf h p l e R s m args below meth c lo D ad0 n0 Q hC hR hE hf ad cid H locs ls a1 a2 a3 a4 a5 a6)
theorem rf_goto {off : Int} {tgt : Nat} (hck : rf_ckb M pc (.goto off) off tgt = true) (k : rf_At T M d tgt (L, st, n, σ) r n' σ') : rf_At T M d pc (L, st, n, σ) r n' σ' := by
  intro p l e R s m args below meth c lo D ad0 n0 Q hC hR hE hf ad cid H locs ls a1 a2 a3 a4 a5 a6
  exact lv_goto hC.1 hC.2.1 (rf_ckb_s hck).1 (rf_ckb_s hck).2 (k p l e R s m args below meth c lo D ad0 n0 Q hC hR hE hf ad cid H locs ls a1 a2 a3 a4 a5 a6)
theorem rf_ifnull {a : Nat} {off : Int} {tgt : Nat} (hck : rf_ckb M pc (.ifnull off) off tgt = true) (k : rf_At T M d (pc + 3) (L, st, n, σ) r n' σ') : rf_At T M d pc (L, .ref a :: st, n, σ) r n' σ' := by
  intro p l e R s m args below meth c lo D ad0 n0 Q hC hR hE hf ad cid H locs ls a1 a2 a3 a4 a5 a6
  exact lv_ifnull hC.1 hC.2.1 (rf_ckb_s hck).1 (k p l e R s m args below meth c lo D ad0 n0 Q hC hR hE hf ad cid H locs ls a1 a2 a3 a4 a5 a6)
/-- a tableswitch: the place for x -/
def rf_ckt (M : rf_M) (pc : Nat) (dflt lo hi : Int) (offs : List Int) (tgts : List Nat) (dt : Nat) : Bool :=
  (match decode M.2.1 pc with | .ok (.tableswitch d2 l2 h2 o2, _) => decide (d2 = dflt) && decide (l2 = lo) && decide (h2 = hi) && decide (o2.toList = offs) | _ => false) && decide ((pc : Int) + dflt = (dt : Int)) && decide (offs.map (fun o => (pc : Int) + o) = tgts.map (fun t : Nat => (t : Int))) && decide (lo + offs.length = hi + 1)
theorem rf_table {x : Int32} {dflt lo hi : Int} {offs : List Int} {tgts : List Nat} {dt : Nat} (hck : rf_ckt M pc dflt lo hi offs tgts dt = true) (kd : x.toInt < lo ∨ hi < x.toInt → rf_At T M d dt (L, st, n, σ) r n' σ')
    (kt : ∀ (i t : Nat), tgts[i]? = some t → x.toInt = lo + i → rf_At T M d t (L, st, n, σ) r n' σ') : rf_At T M d pc (L, .int x :: st, n, σ) r n' σ' := by
  simp only [rf_ckt, Bool.and_eq_true, decide_eq_true_eq] at hck
  obtain ⟨⟨⟨h1, h2⟩, h3⟩, h4⟩ := hck
  split at h1
  · rename_i d2 l2 h2' o2 len hdec
    simp only [Bool.and_eq_true, decide_eq_true_eq] at h1
    obtain ⟨⟨⟨rfl, rfl⟩, rfl⟩, ho⟩ := h1
    intro p l e R s m args below meth c lo D ad0 n0 Q hC hR hE hf ad cid H locs ls a1 a2 a3 a4 a5 a6
    by_cases hlo : x.toInt < l2
    · exact lv_tableOut hC.1 hC.2.1 hdec (Or.inl hlo) h2 (kd (Or.inl hlo) p l e R s m args below meth c lo D ad0 n0 Q hC hR hE hf ad cid H locs ls a1 a2 a3 a4 a5 a6)
    · by_cases hhi : h2' < x.toInt
      · exact lv_tableOut hC.1 hC.2.1 hdec (Or.inr hhi) h2 (kd (Or.inr hhi) p l e R s m args below meth c lo D ad0 n0 Q hC hR hE hf ad cid H locs ls a1 a2 a3 a4 a5 a6)
      · have hlt : (x.toInt - l2).toNat < offs.length := by omega
        have hlen : tgts.length = offs.length := by
          have := congrArg List.length h3
          simpa using this.symm
        have hget : (offs.map (fun o => (pc : Int) + o))[(x.toInt - l2).toNat]? = (tgts.map (fun t : Nat => (t : Int)))[(x.toInt - l2).toNat]? := by rw [h3]
        rw [List.getElem?_map, List.getElem?_map, List.getElem?_eq_getElem hlt, List.getElem?_eq_getElem (by omega)] at hget
        simp only [Option.map_some, Option.some.injEq] at hget
        refine lv_tableIn hC.1 hC.2.1 hdec hlo hhi (off := offs[(x.toInt - l2).toNat]) ?_ hget (kt (x.toInt - l2).toNat _ (List.getElem?_eq_getElem (by omega)) (by omega) p l e R s m args below meth c lo D ad0 n0 Q hC hR hE hf ad cid H locs ls a1 a2 a3 a4 a5 a6)
        rw [← Array.getElem?_toList, ho, List.getElem?_eq_getElem hlt]
  · cases h1
/-- a lookupswitch: key by key -/
def rf_ckl (M : rf_M) (pc : Nat) (dflt : Int) (prs : List (Int × Int)) (dt : Nat) : Bool :=
  (match decode M.2.1 pc with | .ok (.lookupswitch d2 p2, _) => decide (d2 = dflt) && decide (p2.toList = prs) | _ => false) && decide ((pc : Int) + dflt = (dt : Int)) && (prs.zip (prs.drop 1)).all (fun (a, next) => a.1 < next.1) && prs.all (fun q => decide (0 ≤ (pc : Int) + q.2))
theorem rf_lookup_at (dflt : Int) (v : Int) : ∀ (prs : List (Int × Int)), (∃ q ∈ prs, q.1 = v ∧ Op.lookupswitch.offset prs dflt v = q.2) ∨ ((∀ q ∈ prs, ¬ q.1 = v) ∧ Op.lookupswitch.offset prs dflt v = dflt)
  | [] => Or.inr ⟨fun _ h => absurd h List.not_mem_nil, rfl⟩
  | (a, o) :: prs => by
    rw [Op.lookupswitch.offset_cons]
    by_cases e : a = v
    · exact Or.inl ⟨(a, o), List.mem_cons_self, e, by rw [if_pos e]⟩
    · rw [if_neg e]
      rcases rf_lookup_at dflt v prs with ⟨q, h1, h2, h3⟩ | ⟨h1, h2⟩
      · exact Or.inl ⟨q, List.mem_cons_of_mem _ h1, h2, h3⟩
      · refine Or.inr ⟨fun q hq => ?_, h2⟩
        rcases List.mem_cons.mp hq with rfl | hq
        · exact e
        · exact h1 q hq
theorem rf_lookup {x : Int32} {dflt : Int} {prs : List (Int × Int)} {dt : Nat} (hck : rf_ckl M pc dflt prs dt = true) (kd : (∀ q ∈ prs, ¬ q.1 = x.toInt) → rf_At T M d dt (L, st, n, σ) r n' σ')
    (kt : ∀ (q : Int × Int) (t : Nat), q ∈ prs → q.1 = x.toInt → (pc : Int) + q.2 = (t : Int) → rf_At T M d t (L, st, n, σ) r n' σ') : rf_At T M d pc (L, .int x :: st, n, σ) r n' σ' := by
  simp only [rf_ckl, Bool.and_eq_true, decide_eq_true_eq] at hck
  obtain ⟨⟨⟨h1, h2⟩, h3⟩, h4⟩ := hck
  split at h1
  · rename_i d2 p2 len hdec
    simp only [Bool.and_eq_true, decide_eq_true_eq] at h1
    obtain ⟨rfl, ho⟩ := h1
    intro p l e R s m args below meth c lo D ad0 n0 Q hC hR hE hf ad cid H locs ls a1 a2 a3 a4 a5 a6
    rcases rf_lookup_at d2 x.toInt prs with ⟨q, q1, q2, q3⟩ | ⟨q1, q2⟩
    · have q5 := List.all_eq_true.mp h4 q q1
      simp only [decide_eq_true_eq] at q5
      have q4 : (pc : Int) + q.2 = ((((pc : Int) + q.2).toNat : Nat) : Int) := by omega
      exact lv_lookup hC.1 hC.2.1 hdec (by rw [ho]; exact h3) (by rw [ho]; exact q3) q4 (kt q _ q1 q2 q4 p l e R s m args below meth c lo D ad0 n0 Q hC hR hE hf ad cid H locs ls a1 a2 a3 a4 a5 a6)
    · exact lv_lookup hC.1 hC.2.1 hdec (by rw [ho]; exact h3) (by rw [ho]; exact q2) h2 (kd q1 p l e R s m args below meth c lo D ad0 n0 Q hC hR hE hf ad cid H locs ls a1 a2 a3 a4 a5 a6)
  · cases h1
def rf_cki (M : rf_M) (pc : Nat) (op : Instr) : Bool := decide (decode M.2.1 pc = .ok (op, 1))
theorem rf_ret {v : Value} (hck : decode M.2.1 pc = .ok (rf_ri (some v), 1)) (hn : rf_nar M.2.2.2 (some v)) : rf_At T M d pc (L, [v], n, σ) (some v) n σ := by
  intro p l e R s m args below meth c lo D ad0 n0 Q hC hR hE hf ad cid H locs ls a1 a2 a3 a4 a5 a6
  exact hf ad cid H locs ls pc a1 a2 a4 a5 hck hn
theorem rf_reti {v : Int32} (hck : rf_cki M pc .ireturn = true) (hr : M.2.2.2 = some .int) : rf_At T M d pc (L, [.int v], n, σ) (some (.int v)) n σ := rf_ret (show decode M.2.1 pc = .ok (.ireturn, 1) by simpa [rf_cki] using hck) ⟨.int, hr, rfl⟩
theorem rf_retz {v : Int32} (hck : rf_cki M pc .ireturn = true) (hr : M.2.2.2 = some .boolean) (hv : v = 0 ∨ v = 1) : rf_At T M d pc (L, [.int v], n, σ) (some (.int v)) n σ := rf_ret (show decode M.2.1 pc = .ok (.ireturn, 1) by simpa [rf_cki] using hck) ⟨.boolean, hr, by rcases hv with rfl | rfl <;> rfl⟩
theorem rf_retl {v : Int64} (hck : rf_cki M pc .lreturn = true) (hr : M.2.2.2 = some .long) : rf_At T M d pc (L, [.long v], n, σ) (some (.long v)) n σ := rf_ret (show decode M.2.1 pc = .ok (.lreturn, 1) by simpa [rf_cki] using hck) hr
theorem rf_reta {v : Nat} {C : String} (hck : rf_cki M pc .areturn = true) (hr : M.2.2.2 = some (.object C)) : rf_At T M d pc (L, [.ref v], n, σ) (some (.ref v)) n σ := rf_ret (show decode M.2.1 pc = .ok (.areturn, 1) by simpa [rf_cki] using hck) ⟨C, hr⟩
theorem rf_retv (hck : rf_cki M pc .return_ = true) (hr : M.2.2.2 = none) : rf_At T M d pc (L, [], n, σ) none n σ := by
  intro p l e R s m args below meth c lo D ad0 n0 Q hC hR hE hf ad cid H locs ls a1 a2 a3 a4 a5 a6
  exact hf ad cid H locs ls pc a1 a2 a4 a5 (show decode M.2.1 pc = .ok (.return_, 1) by simpa [rf_cki] using hck) hr
/-- another name for what comes -/
theorem rf_to {r2 : Option Value} {σ2 : rf_Mem} (k : rf_At T M d pc S r2 n' σ2) (h1 : r2 = r) (h2 : σ2 = σ') : rf_At T M d pc S r n' σ' := by
  subst h1
  subst h2
  exact k
/-- more room -/
theorem rf_more {d2 : Nat} (h : d ≤ d2) (k : rf_At T M d pc S r n' σ') : rf_At T M d2 pc S r n' σ' := fun p l e R s m args below meth c lo D ad0 n0 Q hC hR hE hf => k p l e R s m args below meth c lo D ad0 n0 Q hC ⟨Nat.le_trans h hR.1, Nat.le_trans (by omega) hR.2.1, hR.2.2⟩ hE hf
end RFW
