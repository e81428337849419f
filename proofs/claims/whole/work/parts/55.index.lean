abbrev MJ0_coder_7d493 : rf_M := (yJ0_coder_7d493, cJ0_coder_7d493, 1, (some (.byte)))
theorem mkJ0_coder_7d493 : rf_mk MJ0_coder_7d493 0 0 757 87 755 756 = true := by decide +kernel
def cJ0_coder_7d493_0 : List rf_I := [(.getstatic 38, 3, 0, 0, 748, 0, 0)]
theorem kJ0_coder_7d493_0 : rf_ck MJ0_coder_7d493 0 cJ0_coder_7d493_0 = true := by decide +kernel
theorem bJ0_coder_7d493_3 : rf_ckb MJ0_coder_7d493 3 (.ifCond .eq 10) 10 13 = true := by decide +kernel
def cJ0_coder_7d493_6 : List rf_I := [(.aload_n 0, 1, 0, 0, 0, 0, 0), (.getfield 15, 3, 100, 1, 1691, 0, 0)]
theorem kJ0_coder_7d493_6 : rf_ck MJ0_coder_7d493 6 cJ0_coder_7d493_6 = true := by decide +kernel
theorem bJ0_coder_7d493_10 : rf_ckb MJ0_coder_7d493 10 (.goto 4) 4 14 = true := by decide +kernel
def cJ0_coder_7d493_13 : List rf_I := [(.iconst 1, 1, 0, 0, 0, nI 1, 0)]
theorem kJ0_coder_7d493_13 : rf_ck MJ0_coder_7d493 13 cJ0_coder_7d493_13 = true := by decide +kernel
theorem eJ0_coder_7d493_14 : rf_cki MJ0_coder_7d493 14 .ireturn = true := by decide +kernel
abbrev MJ0_isLatin1_aae02 : rf_M := (yJ0_isLatin1_aae02, cJ0_isLatin1_aae02, 1, (some (.boolean)))
theorem mkJ0_isLatin1_aae02 : rf_mk MJ0_isLatin1_aae02 0 0 747 87 745 746 = true := by decide +kernel
def cJ0_isLatin1_aae02_0 : List rf_I := [(.getstatic 38, 3, 0, 0, 748, 0, 0)]
theorem kJ0_isLatin1_aae02_0 : rf_ck MJ0_isLatin1_aae02 0 cJ0_isLatin1_aae02_0 = true := by decide +kernel
theorem bJ0_isLatin1_aae02_3 : rf_ckb MJ0_isLatin1_aae02 3 (.ifCond .eq 14) 14 17 = true := by decide +kernel
def cJ0_isLatin1_aae02_6 : List rf_I := [(.aload_n 0, 1, 0, 0, 0, 0, 0), (.getfield 15, 3, 100, 1, 1691, 0, 0)]
theorem kJ0_isLatin1_aae02_6 : rf_ck MJ0_isLatin1_aae02 6 cJ0_isLatin1_aae02_6 = true := by decide +kernel
theorem bJ0_isLatin1_aae02_10 : rf_ckb MJ0_isLatin1_aae02 10 (.ifCond .ne 7) 7 17 = true := by decide +kernel
def cJ0_isLatin1_aae02_13 : List rf_I := [(.iconst 1, 1, 0, 0, 0, nI 1, 0)]
theorem kJ0_isLatin1_aae02_13 : rf_ck MJ0_isLatin1_aae02 13 cJ0_isLatin1_aae02_13 = true := by decide +kernel
theorem bJ0_isLatin1_aae02_14 : rf_ckb MJ0_isLatin1_aae02 14 (.goto 4) 4 18 = true := by decide +kernel
def cJ0_isLatin1_aae02_17 : List rf_I := [(.iconst 0, 1, 0, 0, 0, nI 0, 0)]
theorem kJ0_isLatin1_aae02_17 : rf_ck MJ0_isLatin1_aae02 17 cJ0_isLatin1_aae02_17 = true := by decide +kernel
theorem eJ0_isLatin1_aae02_18 : rf_cki MJ0_isLatin1_aae02 18 .ireturn = true := by decide +kernel
abbrev MJ0_length_8abf5 : rf_M := (yJ0_length_8abf5, cJ0_length_8abf5, 1, (some (.int)))
theorem mkJ0_length_8abf5 : rf_mk MJ0_length_8abf5 0 0 753 87 751 752 = true := by decide +kernel
def cJ0_length_8abf5_0 : List rf_I := [(.aload_n 0, 1, 0, 0, 0, 0, 0), (.getfield 9, 3, 100, 0, 1692, 0, 0), (.arraylength, 1, 0, 0, 0, 0, 0), (.aload_n 0, 1, 0, 0, 0, 0, 0)]
theorem kJ0_length_8abf5_0 : rf_ck MJ0_length_8abf5 0 cJ0_length_8abf5_0 = true := by decide +kernel
theorem qJ0_length_8abf5_6 : rf_kc MJ0_length_8abf5 6 335 754 yJ0_coder_7d493 0 = true := by decide +kernel
def cJ0_length_8abf5_9 : List rf_I := [(.ishr, 1, 0, 0, 0, 0, 0)]
theorem kJ0_length_8abf5_9 : rf_ck MJ0_length_8abf5 9 cJ0_length_8abf5_9 = true := by decide +kernel
theorem eJ0_length_8abf5_10 : rf_cki MJ0_length_8abf5 10 .ireturn = true := by decide +kernel
abbrev MJ1_canEncode_9a6ad : rf_M := (yJ1_canEncode_9a6ad, cJ1_canEncode_9a6ad, 1, (some (.boolean)))
theorem mkJ1_canEncode_9a6ad : rf_mk MJ1_canEncode_9a6ad 1 1 763 88 762 0 = true := by decide +kernel
def cJ1_canEncode_9a6ad_0 : List rf_I := [(.iload_n 0, 1, 0, 0, 0, 0, 0)]
theorem kJ1_canEncode_9a6ad_0 : rf_ck MJ1_canEncode_9a6ad 0 cJ1_canEncode_9a6ad_0 = true := by decide +kernel
theorem bJ1_canEncode_9a6ad_1 : rf_ckb MJ1_canEncode_9a6ad 1 (.ifCond .lt 14) 14 15 = true := by decide +kernel
def cJ1_canEncode_9a6ad_4 : List rf_I := [(.iload_n 0, 1, 0, 0, 0, 0, 0), (.sipush 255, 3, 0, 0, 0, nI 255, 0)]
theorem kJ1_canEncode_9a6ad_4 : rf_ck MJ1_canEncode_9a6ad 4 cJ1_canEncode_9a6ad_4 = true := by decide +kernel
theorem bJ1_canEncode_9a6ad_8 : rf_ckb MJ1_canEncode_9a6ad 8 (.if_icmp .gt 7) 7 15 = true := by decide +kernel
def cJ1_canEncode_9a6ad_11 : List rf_I := [(.iconst 1, 1, 0, 0, 0, nI 1, 0)]
theorem kJ1_canEncode_9a6ad_11 : rf_ck MJ1_canEncode_9a6ad 11 cJ1_canEncode_9a6ad_11 = true := by decide +kernel
theorem bJ1_canEncode_9a6ad_12 : rf_ckb MJ1_canEncode_9a6ad 12 (.goto 4) 4 16 = true := by decide +kernel
def cJ1_canEncode_9a6ad_15 : List rf_I := [(.iconst 0, 1, 0, 0, 0, nI 0, 0)]
theorem kJ1_canEncode_9a6ad_15 : rf_ck MJ1_canEncode_9a6ad 15 cJ1_canEncode_9a6ad_15 = true := by decide +kernel
theorem eJ1_canEncode_9a6ad_16 : rf_cki MJ1_canEncode_9a6ad 16 .ireturn = true := by decide +kernel
abbrev MJ1_indexOfChar_4cfef : rf_M := (yJ1_indexOfChar_4cfef, cJ1_indexOfChar_4cfef, 6, (some (.int)))
theorem mkJ1_indexOfChar_4cfef : rf_mk MJ1_indexOfChar_4cfef 1 4 770 88 769 0 = true := by decide +kernel
def cJ1_indexOfChar_4cfef_0 : List rf_I := [(.iload_n 1, 1, 1, 0, 0, 0, 0), (.i2b, 1, 0, 0, 0, 0, 0), (.istore 4, 2, 4, 0, 0, 0, 0), (.iload_n 2, 1, 2, 0, 0, 0, 0), (.istore 5, 2, 5, 0, 0, 0, 0)]
theorem kJ1_indexOfChar_4cfef_0 : rf_ck MJ1_indexOfChar_4cfef 0 cJ1_indexOfChar_4cfef_0 = true := by decide +kernel
def cJ1_indexOfChar_4cfef_7 : List rf_I := [(.iload 5, 2, 5, 0, 0, 0, 0), (.iload_n 3, 1, 3, 0, 0, 0, 0)]
theorem kJ1_indexOfChar_4cfef_7 : rf_ck MJ1_indexOfChar_4cfef 7 cJ1_indexOfChar_4cfef_7 = true := by decide +kernel
theorem bJ1_indexOfChar_4cfef_10 : rf_ckb MJ1_indexOfChar_4cfef 10 (.if_icmp .ge 21) 21 31 = true := by decide +kernel
def cJ1_indexOfChar_4cfef_13 : List rf_I := [(.aload_n 0, 1, 0, 0, 0, 0, 0), (.iload 5, 2, 5, 0, 0, 0, 0), (.baload, 1, 0, 0, 0, 0, 0), (.iload 4, 2, 4, 0, 0, 0, 0)]
theorem kJ1_indexOfChar_4cfef_13 : rf_ck MJ1_indexOfChar_4cfef 13 cJ1_indexOfChar_4cfef_13 = true := by decide +kernel
theorem bJ1_indexOfChar_4cfef_19 : rf_ckb MJ1_indexOfChar_4cfef 19 (.if_icmp .ne 6) 6 25 = true := by decide +kernel
def cJ1_indexOfChar_4cfef_22 : List rf_I := [(.iload 5, 2, 5, 0, 0, 0, 0)]
theorem kJ1_indexOfChar_4cfef_22 : rf_ck MJ1_indexOfChar_4cfef 22 cJ1_indexOfChar_4cfef_22 = true := by decide +kernel
theorem eJ1_indexOfChar_4cfef_24 : rf_cki MJ1_indexOfChar_4cfef 24 .ireturn = true := by decide +kernel
def cJ1_indexOfChar_4cfef_25 : List rf_I := [(.iinc 5 1, 3, 5, 0, 0, nI 1, 0)]
theorem kJ1_indexOfChar_4cfef_25 : rf_ck MJ1_indexOfChar_4cfef 25 cJ1_indexOfChar_4cfef_25 = true := by decide +kernel
theorem bJ1_indexOfChar_4cfef_28 : rf_ckb MJ1_indexOfChar_4cfef 28 (.goto (-21)) (-21) 7 = true := by decide +kernel
def cJ1_indexOfChar_4cfef_31 : List rf_I := [(.iconst (-1), 1, 0, 0, 0, (-1), 0)]
theorem kJ1_indexOfChar_4cfef_31 : rf_ck MJ1_indexOfChar_4cfef 31 cJ1_indexOfChar_4cfef_31 = true := by decide +kernel
theorem eJ1_indexOfChar_4cfef_32 : rf_cki MJ1_indexOfChar_4cfef 32 .ireturn = true := by decide +kernel
abbrev MJ1_indexOf_4cfef : rf_M := (yJ1_indexOf_4cfef, cJ1_indexOf_4cfef, 4, (some (.int)))
theorem mkJ1_indexOf_4cfef : rf_mk MJ1_indexOf_4cfef 1 4 760 88 759 0 = true := by decide +kernel
def cJ1_indexOf_4cfef_0 : List rf_I := [(.iload_n 1, 1, 1, 0, 0, 0, 0)]
theorem kJ1_indexOf_4cfef_0 : rf_ck MJ1_indexOf_4cfef 0 cJ1_indexOf_4cfef_0 = true := by decide +kernel
theorem qJ1_indexOf_4cfef_1 : rf_kc MJ1_indexOf_4cfef 1 88 761 yJ1_canEncode_9a6ad 1 = true := by decide +kernel
theorem bJ1_indexOf_4cfef_4 : rf_ckb MJ1_indexOf_4cfef 4 (.ifCond .ne 5) 5 9 = true := by decide +kernel
def cJ1_indexOf_4cfef_7 : List rf_I := [(.iconst (-1), 1, 0, 0, 0, (-1), 0)]
theorem kJ1_indexOf_4cfef_7 : rf_ck MJ1_indexOf_4cfef 7 cJ1_indexOf_4cfef_7 = true := by decide +kernel
theorem eJ1_indexOf_4cfef_8 : rf_cki MJ1_indexOf_4cfef 8 .ireturn = true := by decide +kernel
def cJ1_indexOf_4cfef_9 : List rf_I := [(.iload_n 2, 1, 2, 0, 0, 0, 0), (.iconst 0, 1, 0, 0, 0, nI 0, 0), (.invokestatic 92, 3, 0, 0, 764, 0, 0), (.istore_n 2, 1, 2, 0, 0, 0, 0), (.iload_n 3, 1, 3, 0, 0, 0, 0), (.aload_n 0, 1, 0, 0, 0, 0, 0), (.arraylength, 1, 0, 0, 0, 0, 0), (.invokestatic 38, 3, 1, 0, 765, 0, 0), (.istore_n 3, 1, 3, 0, 0, 0, 0), (.iload_n 2, 1, 2, 0, 0, 0, 0), (.iload_n 3, 1, 3, 0, 0, 0, 0)]
theorem kJ1_indexOf_4cfef_9 : rf_ck MJ1_indexOf_4cfef 9 cJ1_indexOf_4cfef_9 = true := by decide +kernel
theorem bJ1_indexOf_4cfef_24 : rf_ckb MJ1_indexOf_4cfef 24 (.if_icmp .lt 5) 5 29 = true := by decide +kernel
def cJ1_indexOf_4cfef_27 : List rf_I := [(.iconst (-1), 1, 0, 0, 0, (-1), 0)]
theorem kJ1_indexOf_4cfef_27 : rf_ck MJ1_indexOf_4cfef 27 cJ1_indexOf_4cfef_27 = true := by decide +kernel
theorem eJ1_indexOf_4cfef_28 : rf_cki MJ1_indexOf_4cfef 28 .ireturn = true := by decide +kernel
def cJ1_indexOf_4cfef_29 : List rf_I := [(.aload_n 0, 1, 0, 0, 0, 0, 0), (.iload_n 1, 1, 1, 0, 0, 0, 0), (.iload_n 2, 1, 2, 0, 0, 0, 0), (.iload_n 3, 1, 3, 0, 0, 0, 0)]
theorem kJ1_indexOf_4cfef_29 : rf_ck MJ1_indexOf_4cfef 29 cJ1_indexOf_4cfef_29 = true := by decide +kernel
theorem qJ1_indexOf_4cfef_33 : rf_kc MJ1_indexOf_4cfef 33 95 768 yJ1_indexOfChar_4cfef 1 = true := by decide +kernel
theorem eJ1_indexOf_4cfef_36 : rf_cki MJ1_indexOf_4cfef 36 .ireturn = true := by decide +kernel
abbrev MJ0_indexOf_7cf53 : rf_M := (yJ0_indexOf_7cf53, cJ0_indexOf_7cf53, 3, (some (.int)))
theorem mkJ0_indexOf_7cf53 : rf_mk MJ0_indexOf_7cf53 0 2 743 87 741 742 = true := by decide +kernel
def cJ0_indexOf_7cf53_0 : List rf_I := [(.aload_n 0, 1, 0, 0, 0, 0, 0)]
theorem kJ0_indexOf_7cf53_0 : rf_ck MJ0_indexOf_7cf53 0 cJ0_indexOf_7cf53_0 = true := by decide +kernel
theorem qJ0_indexOf_7cf53_1 : rf_kc MJ0_indexOf_7cf53 1 492 744 yJ0_isLatin1_aae02 0 = true := by decide +kernel
theorem bJ0_indexOf_7cf53_4 : rf_ckb MJ0_indexOf_7cf53 4 (.ifCond .eq 19) 19 23 = true := by decide +kernel
def cJ0_indexOf_7cf53_7 : List rf_I := [(.aload_n 0, 1, 0, 0, 0, 0, 0), (.getfield 9, 3, 100, 0, 1692, 0, 0), (.iload_n 1, 1, 1, 0, 0, 0, 0), (.iload_n 2, 1, 2, 0, 0, 0, 0), (.aload_n 0, 1, 0, 0, 0, 0, 0)]
theorem kJ0_indexOf_7cf53_7 : rf_ck MJ0_indexOf_7cf53 7 cJ0_indexOf_7cf53_7 = true := by decide +kernel
theorem qJ0_indexOf_7cf53_14 : rf_kc MJ0_indexOf_7cf53 14 505 750 yJ0_length_8abf5 0 = true := by decide +kernel
theorem qJ0_indexOf_7cf53_17 : rf_kc MJ0_indexOf_7cf53 17 637 758 yJ1_indexOf_4cfef 1 = true := by decide +kernel
theorem bJ0_indexOf_7cf53_20 : rf_ckb MJ0_indexOf_7cf53 20 (.goto 16) 16 36 = true := by decide +kernel
def cJ0_indexOf_7cf53_23 : List rf_I := [(.aload_n 0, 1, 0, 0, 0, 0, 0), (.getfield 9, 3, 100, 0, 1692, 0, 0), (.iload_n 1, 1, 1, 0, 0, 0, 0), (.iload_n 2, 1, 2, 0, 0, 0, 0), (.aload_n 0, 1, 0, 0, 0, 0, 0)]
theorem kJ0_indexOf_7cf53_23 : rf_ck MJ0_indexOf_7cf53 23 cJ0_indexOf_7cf53_23 = true := by decide +kernel
theorem qJ0_indexOf_7cf53_30 : rf_kc MJ0_indexOf_7cf53 30 505 750 yJ0_length_8abf5 0 = true := by decide +kernel
theorem qJ0_indexOf_7cf53_33 : rf_kc MJ0_indexOf_7cf53 33 640 771 yJ2_indexOf_4cfef 1 = true := by decide +kernel
theorem eJ0_indexOf_7cf53_36 : rf_cki MJ0_indexOf_7cf53 36 .ireturn = true := by decide +kernel
abbrev MJ0_indexOf_0f7a4 : rf_M := (yJ0_indexOf_0f7a4, cJ0_indexOf_0f7a4, 2, (some (.int)))
theorem mkJ0_indexOf_0f7a4 : rf_mk MJ0_indexOf_0f7a4 0 1 739 87 737 738 = true := by decide +kernel
def cJ0_indexOf_0f7a4_0 : List rf_I := [(.aload_n 0, 1, 0, 0, 0, 0, 0), (.iload_n 1, 1, 1, 0, 0, 0, 0), (.iconst 0, 1, 0, 0, 0, nI 0, 0)]
theorem kJ0_indexOf_0f7a4_0 : rf_ck MJ0_indexOf_0f7a4 0 cJ0_indexOf_0f7a4_0 = true := by decide +kernel
theorem qJ0_indexOf_0f7a4_3 : rf_kc MJ0_indexOf_0f7a4 3 633 740 yJ0_indexOf_7cf53 0 = true := by decide +kernel
theorem eJ0_indexOf_0f7a4_6 : rf_cki MJ0_indexOf_0f7a4 6 .ireturn = true := by decide +kernel
theorem i8_lo : ∀ c, c < 128 → (nI c).toInt8.toInt32 = nI c := by decide
theorem i8_eq : ∀ b, b ≤ 255 → ∀ c, c < 128 → ((nI b).toInt8.toInt32 = nI c ↔ b = c) := by
  intro b hb c hc
  refine ⟨fun e => ?_, fun e => ?_⟩
  · have h := congrArg (fun x : Int32 => x &&& 255) e
    simp only [sc_k8 b (by omega)] at h
    rw [show (nI c &&& 255 : Int32) = nI (c % 2 ^ 8) from pk_andN (by omega) 8 (by decide), Nat.mod_eq_of_lt (by omega)] at h
    exact nI_inj h (by omega) (by omega)
  · subst e
    exact i8_lo b hc
theorem ok_retb {T : rf_Tb} {M : rf_M} {d pc : Nat} {L : List (Option Value)} {σ : rf_Mem} {Q : Option Value → rf_Mem → Prop} (hck : rf_cki M pc .ireturn = true) (hr : M.2.2.2 = some .byte) (hq : Q (some (.int (nI 0))) σ) : rf_Ok T M d pc L [.int (nI 0)] σ Q := ⟨_, _, rf_ret (show decode M.2.1 pc = .ok (.ireturn, 1) by simpa [rf_cki] using hck) ⟨.byte, hr, rfl⟩, hq⟩
section H55
variable {Ln : Nat} {xs : Nat → Int32} {α μ : Nat → Nat → Int32}
theorem j_coder0   : rf_At (rf_T Ln xs) MJ0_coder_7d493 1 0 ([some (.ref 1005)], [], 108, (α, μ)) (some (.int (nI 0))) 108 (α, μ) := by
  refine rf_pa ?_
  refine ok_step (ps := []) (L' := [some (.ref 1005)]) (st' := [.int (nI 1)]) (σ' := (α, μ)) (pc' := 3) kJ0_coder_7d493_0 rfl rfl rf_a0 ?_
  refine ok_if_eq bJ0_coder_7d493_3 (fun h3 => absurd h3 ((by decide))) (fun _ => ?_)
  refine ok_step (ps := []) (L' := [some (.ref 1005)]) (st' := [.int (nI 0)]) (σ' := (α, μ)) (pc' := 10) kJ0_coder_7d493_6 rfl rfl rf_a0 ?_
  refine ok_goto bJ0_coder_7d493_10 ?_
  refine ok_retb eJ0_coder_7d493_14 rfl ?_
  exact ⟨rfl, rfl⟩
theorem j_lat0   : rf_At (rf_T Ln xs) MJ0_isLatin1_aae02 1 0 ([some (.ref 1005)], [], 108, (α, μ)) (some (.int (nI 1))) 108 (α, μ) := by
  refine rf_pa ?_
  refine ok_step (ps := []) (L' := [some (.ref 1005)]) (st' := [.int (nI 1)]) (σ' := (α, μ)) (pc' := 3) kJ0_isLatin1_aae02_0 rfl rfl rf_a0 ?_
  refine ok_if_eq bJ0_isLatin1_aae02_3 (fun h3 => absurd h3 ((by decide))) (fun _ => ?_)
  refine ok_step (ps := []) (L' := [some (.ref 1005)]) (st' := [.int (nI 0)]) (σ' := (α, μ)) (pc' := 10) kJ0_isLatin1_aae02_6 rfl rfl rf_a0 ?_
  refine ok_if_ne bJ0_isLatin1_aae02_10 (fun h10 => absurd ((by decide)) h10) (fun _ => ?_)
  refine ok_step (ps := []) (L' := [some (.ref 1005)]) (st' := [.int (nI 1)]) (σ' := (α, μ)) (pc' := 14) kJ0_isLatin1_aae02_13 rfl rfl rf_a0 ?_
  refine ok_goto bJ0_isLatin1_aae02_14 ?_
  refine ok_retz eJ0_isLatin1_aae02_18 rfl (Or.inr rfl) ?_
  exact ⟨rfl, rfl⟩
theorem j_len0   : rf_At (rf_T Ln xs) MJ0_length_8abf5 2 0 ([some (.ref 1005)], [], 108, (α, μ)) (some (.int (nI 5))) 108 (α, μ) := by
  refine rf_pa ?_
  refine ok_step (ps := []) (L' := [some (.ref 1005)]) (st' := [.ref 1005, .int (nI 5)]) (σ' := (α, μ)) (pc' := 6) kJ0_length_8abf5_0 rfl rfl rf_a0 ?_
  refine ok_V (As := []) (b := 1005) (st := [.int (nI 5)]) mkJ0_coder_7d493 qJ0_length_8abf5_6 rfl (rfl) rfl rfl rfl rfl (Nat.le_of_ble_eq_true rfl) (j_coder0) ?_
  refine ok_step (ps := []) (L' := [some (.ref 1005)]) (st' := [.int ((nI 5) >>> ((nI 0) &&& 31))]) (σ' := (α, μ)) (pc' := 10) kJ0_length_8abf5_9 rfl rfl rf_a0 ?_
  refine ok_reti eJ0_length_8abf5_10 rfl ?_
  exact ⟨rfl, rfl⟩
theorem j_idc0 {b : Nat} (hb : b ≤ 255) : rf_At (rf_T Ln xs) MJ1_indexOfChar_4cfef 1 0 ([some (.ref 1003), some (.int (nI b)), some (.int (nI 0)), some (.int (nI 5)), none, none], [], 108, (α, μ)) (some (.int (nmi 0 (nI b)))) 108 (α, μ) := by
  refine rf_pa ?_
  have i102 := i8_eq b hb 102 (by decide)
  have i103 := i8_eq b hb 103 (by decide)
  have i112 := i8_eq b hb 112 (by decide)
  have i113 := i8_eq b hb 113 (by decide)
  have i110 := i8_eq b hb 110 (by decide)
  by_cases h102 : b = 102
  · refine ok_step (ps := []) (L' := [some (.ref 1003), some (.int (nI b)), some (.int (nI 0)), some (.int (nI 5)), some (.int ((nI b).toInt8.toInt32)), some (.int (nI 0))]) (st' := []) (σ' := (α, μ)) (pc' := 7) kJ1_indexOfChar_4cfef_0 rfl rfl rf_a0 ?_
    refine ok_step (ps := []) (L' := [some (.ref 1003), some (.int (nI b)), some (.int (nI 0)), some (.int (nI 5)), some (.int ((nI b).toInt8.toInt32)), some (.int (nI 0))]) (st' := [.int (nI 5), .int (nI 0)]) (σ' := (α, μ)) (pc' := 10) kJ1_indexOfChar_4cfef_7 rfl rfl rf_a0 ?_
    refine ok_icmp_ge bJ1_indexOfChar_4cfef_10 (fun h10 => absurd h10 ((by decide))) (fun _ => ?_)
    refine ok_step (ps := [rf_in (nI 0) 5]) (L' := [some (.ref 1003), some (.int (nI b)), some (.int (nI 0)), some (.int (nI 5)), some (.int ((nI b).toInt8.toInt32)), some (.int (nI 0))]) (st' := [.int ((nI b).toInt8.toInt32), .int (nI 102)]) (σ' := (α, μ)) (pc' := 19) kJ1_indexOfChar_4cfef_13 rfl rfl (rf_a1 (rf_in_n (a := 0) rfl (by omega)) rf_a0) ?_
    try rw [(show (nI 0).toNatClampNeg = 0 from rf_cl_n rfl (by omega))]
    refine ok_icmp_ne bJ1_indexOfChar_4cfef_19 (fun h19 => absurd ((i102.mpr h102).symm) h19) (fun _ => ?_)
    refine ok_step (ps := []) (L' := [some (.ref 1003), some (.int (nI b)), some (.int (nI 0)), some (.int (nI 5)), some (.int ((nI b).toInt8.toInt32)), some (.int (nI 0))]) (st' := [.int (nI 0)]) (σ' := (α, μ)) (pc' := 24) kJ1_indexOfChar_4cfef_22 rfl rfl rf_a0 ?_
    refine ok_reti eJ1_indexOfChar_4cfef_24 rfl ?_
    exact ⟨by unfold nmi; rw [if_pos rfl, if_pos (show nI b = 102 from congrArg nI h102)]; rfl, rfl⟩
  · have n102 : ¬ b = 102 := h102
    by_cases h103 : b = 103
    · refine ok_step (ps := []) (L' := [some (.ref 1003), some (.int (nI b)), some (.int (nI 0)), some (.int (nI 5)), some (.int ((nI b).toInt8.toInt32)), some (.int (nI 0))]) (st' := []) (σ' := (α, μ)) (pc' := 7) kJ1_indexOfChar_4cfef_0 rfl rfl rf_a0 ?_
      refine ok_step (ps := []) (L' := [some (.ref 1003), some (.int (nI b)), some (.int (nI 0)), some (.int (nI 5)), some (.int ((nI b).toInt8.toInt32)), some (.int (nI 0))]) (st' := [.int (nI 5), .int (nI 0)]) (σ' := (α, μ)) (pc' := 10) kJ1_indexOfChar_4cfef_7 rfl rfl rf_a0 ?_
      refine ok_icmp_ge bJ1_indexOfChar_4cfef_10 (fun h10 => absurd h10 ((by decide))) (fun _ => ?_)
      refine ok_step (ps := [rf_in (nI 0) 5]) (L' := [some (.ref 1003), some (.int (nI b)), some (.int (nI 0)), some (.int (nI 5)), some (.int ((nI b).toInt8.toInt32)), some (.int (nI 0))]) (st' := [.int ((nI b).toInt8.toInt32), .int (nI 102)]) (σ' := (α, μ)) (pc' := 19) kJ1_indexOfChar_4cfef_13 rfl rfl (rf_a1 (rf_in_n (a := 0) rfl (by omega)) rf_a0) ?_
      try rw [(show (nI 0).toNatClampNeg = 0 from rf_cl_n rfl (by omega))]
      refine ok_icmp_ne bJ1_indexOfChar_4cfef_19 (fun _ => ?_) (fun h19 => absurd h19 ((fun e => n102 (i102.mp e.symm))))
      refine ok_step (ps := []) (L' := [some (.ref 1003), some (.int (nI b)), some (.int (nI 0)), some (.int (nI 5)), some (.int ((nI b).toInt8.toInt32)), some (.int ((nI 0) + (nI 1)))]) (st' := []) (σ' := (α, μ)) (pc' := 28) kJ1_indexOfChar_4cfef_25 rfl rfl rf_a0 ?_
      try rw [(show ((nI 0) + (nI 1)) = nI 1 from rf_eq (rf_nadd (x := nI 0) (y := nI 1) rfl rfl) (by omega))]
      refine ok_goto bJ1_indexOfChar_4cfef_28 ?_
      refine ok_step (ps := []) (L' := [some (.ref 1003), some (.int (nI b)), some (.int (nI 0)), some (.int (nI 5)), some (.int ((nI b).toInt8.toInt32)), some (.int (nI 1))]) (st' := [.int (nI 5), .int (nI 1)]) (σ' := (α, μ)) (pc' := 10) kJ1_indexOfChar_4cfef_7 rfl rfl rf_a0 ?_
      refine ok_icmp_ge bJ1_indexOfChar_4cfef_10 (fun h10 => absurd h10 ((by decide))) (fun _ => ?_)
      refine ok_step (ps := [rf_in (nI 1) 5]) (L' := [some (.ref 1003), some (.int (nI b)), some (.int (nI 0)), some (.int (nI 5)), some (.int ((nI b).toInt8.toInt32)), some (.int (nI 1))]) (st' := [.int ((nI b).toInt8.toInt32), .int (nI 103)]) (σ' := (α, μ)) (pc' := 19) kJ1_indexOfChar_4cfef_13 rfl rfl (rf_a1 (rf_in_n (a := 1) rfl (by omega)) rf_a0) ?_
      try rw [(show (nI 1).toNatClampNeg = 1 from rf_cl_n rfl (by omega))]
      refine ok_icmp_ne bJ1_indexOfChar_4cfef_19 (fun h19 => absurd ((i103.mpr h103).symm) h19) (fun _ => ?_)
      refine ok_step (ps := []) (L' := [some (.ref 1003), some (.int (nI b)), some (.int (nI 0)), some (.int (nI 5)), some (.int ((nI b).toInt8.toInt32)), some (.int (nI 1))]) (st' := [.int (nI 1)]) (σ' := (α, μ)) (pc' := 24) kJ1_indexOfChar_4cfef_22 rfl rfl rf_a0 ?_
      refine ok_reti eJ1_indexOfChar_4cfef_24 rfl ?_
      exact ⟨by unfold nmi; rw [if_pos rfl, if_neg (show ¬ nI b = 102 from fun e => n102 (nI_inj (b := 102) e (by omega) (by decide))), if_pos (show nI b = 103 from congrArg nI h103)]; rfl, rfl⟩
    · have n103 : ¬ b = 103 := h103
      by_cases h112 : b = 112
      · refine ok_step (ps := []) (L' := [some (.ref 1003), some (.int (nI b)), some (.int (nI 0)), some (.int (nI 5)), some (.int ((nI b).toInt8.toInt32)), some (.int (nI 0))]) (st' := []) (σ' := (α, μ)) (pc' := 7) kJ1_indexOfChar_4cfef_0 rfl rfl rf_a0 ?_
        refine ok_step (ps := []) (L' := [some (.ref 1003), some (.int (nI b)), some (.int (nI 0)), some (.int (nI 5)), some (.int ((nI b).toInt8.toInt32)), some (.int (nI 0))]) (st' := [.int (nI 5), .int (nI 0)]) (σ' := (α, μ)) (pc' := 10) kJ1_indexOfChar_4cfef_7 rfl rfl rf_a0 ?_
        refine ok_icmp_ge bJ1_indexOfChar_4cfef_10 (fun h10 => absurd h10 ((by decide))) (fun _ => ?_)
        refine ok_step (ps := [rf_in (nI 0) 5]) (L' := [some (.ref 1003), some (.int (nI b)), some (.int (nI 0)), some (.int (nI 5)), some (.int ((nI b).toInt8.toInt32)), some (.int (nI 0))]) (st' := [.int ((nI b).toInt8.toInt32), .int (nI 102)]) (σ' := (α, μ)) (pc' := 19) kJ1_indexOfChar_4cfef_13 rfl rfl (rf_a1 (rf_in_n (a := 0) rfl (by omega)) rf_a0) ?_
        try rw [(show (nI 0).toNatClampNeg = 0 from rf_cl_n rfl (by omega))]
        refine ok_icmp_ne bJ1_indexOfChar_4cfef_19 (fun _ => ?_) (fun h19 => absurd h19 ((fun e => n102 (i102.mp e.symm))))
        refine ok_step (ps := []) (L' := [some (.ref 1003), some (.int (nI b)), some (.int (nI 0)), some (.int (nI 5)), some (.int ((nI b).toInt8.toInt32)), some (.int ((nI 0) + (nI 1)))]) (st' := []) (σ' := (α, μ)) (pc' := 28) kJ1_indexOfChar_4cfef_25 rfl rfl rf_a0 ?_
        try rw [(show ((nI 0) + (nI 1)) = nI 1 from rf_eq (rf_nadd (x := nI 0) (y := nI 1) rfl rfl) (by omega))]
        refine ok_goto bJ1_indexOfChar_4cfef_28 ?_
        refine ok_step (ps := []) (L' := [some (.ref 1003), some (.int (nI b)), some (.int (nI 0)), some (.int (nI 5)), some (.int ((nI b).toInt8.toInt32)), some (.int (nI 1))]) (st' := [.int (nI 5), .int (nI 1)]) (σ' := (α, μ)) (pc' := 10) kJ1_indexOfChar_4cfef_7 rfl rfl rf_a0 ?_
        refine ok_icmp_ge bJ1_indexOfChar_4cfef_10 (fun h10 => absurd h10 ((by decide))) (fun _ => ?_)
        refine ok_step (ps := [rf_in (nI 1) 5]) (L' := [some (.ref 1003), some (.int (nI b)), some (.int (nI 0)), some (.int (nI 5)), some (.int ((nI b).toInt8.toInt32)), some (.int (nI 1))]) (st' := [.int ((nI b).toInt8.toInt32), .int (nI 103)]) (σ' := (α, μ)) (pc' := 19) kJ1_indexOfChar_4cfef_13 rfl rfl (rf_a1 (rf_in_n (a := 1) rfl (by omega)) rf_a0) ?_
        try rw [(show (nI 1).toNatClampNeg = 1 from rf_cl_n rfl (by omega))]
        refine ok_icmp_ne bJ1_indexOfChar_4cfef_19 (fun _ => ?_) (fun h19 => absurd h19 ((fun e => n103 (i103.mp e.symm))))
        refine ok_step (ps := []) (L' := [some (.ref 1003), some (.int (nI b)), some (.int (nI 0)), some (.int (nI 5)), some (.int ((nI b).toInt8.toInt32)), some (.int ((nI 1) + (nI 1)))]) (st' := []) (σ' := (α, μ)) (pc' := 28) kJ1_indexOfChar_4cfef_25 rfl rfl rf_a0 ?_
        try rw [(show ((nI 1) + (nI 1)) = nI 2 from rf_eq (rf_nadd (x := nI 1) (y := nI 1) rfl rfl) (by omega))]
        refine ok_goto bJ1_indexOfChar_4cfef_28 ?_
        refine ok_step (ps := []) (L' := [some (.ref 1003), some (.int (nI b)), some (.int (nI 0)), some (.int (nI 5)), some (.int ((nI b).toInt8.toInt32)), some (.int (nI 2))]) (st' := [.int (nI 5), .int (nI 2)]) (σ' := (α, μ)) (pc' := 10) kJ1_indexOfChar_4cfef_7 rfl rfl rf_a0 ?_
        refine ok_icmp_ge bJ1_indexOfChar_4cfef_10 (fun h10 => absurd h10 ((by decide))) (fun _ => ?_)
        refine ok_step (ps := [rf_in (nI 2) 5]) (L' := [some (.ref 1003), some (.int (nI b)), some (.int (nI 0)), some (.int (nI 5)), some (.int ((nI b).toInt8.toInt32)), some (.int (nI 2))]) (st' := [.int ((nI b).toInt8.toInt32), .int (nI 112)]) (σ' := (α, μ)) (pc' := 19) kJ1_indexOfChar_4cfef_13 rfl rfl (rf_a1 (rf_in_n (a := 2) rfl (by omega)) rf_a0) ?_
        try rw [(show (nI 2).toNatClampNeg = 2 from rf_cl_n rfl (by omega))]
        refine ok_icmp_ne bJ1_indexOfChar_4cfef_19 (fun h19 => absurd ((i112.mpr h112).symm) h19) (fun _ => ?_)
        refine ok_step (ps := []) (L' := [some (.ref 1003), some (.int (nI b)), some (.int (nI 0)), some (.int (nI 5)), some (.int ((nI b).toInt8.toInt32)), some (.int (nI 2))]) (st' := [.int (nI 2)]) (σ' := (α, μ)) (pc' := 24) kJ1_indexOfChar_4cfef_22 rfl rfl rf_a0 ?_
        refine ok_reti eJ1_indexOfChar_4cfef_24 rfl ?_
        exact ⟨by unfold nmi; rw [if_pos rfl, if_neg (show ¬ nI b = 102 from fun e => n102 (nI_inj (b := 102) e (by omega) (by decide))), if_neg (show ¬ nI b = 103 from fun e => n103 (nI_inj (b := 103) e (by omega) (by decide))), if_pos (show nI b = 112 from congrArg nI h112)]; rfl, rfl⟩
      · have n112 : ¬ b = 112 := h112
        by_cases h113 : b = 113
        · refine ok_step (ps := []) (L' := [some (.ref 1003), some (.int (nI b)), some (.int (nI 0)), some (.int (nI 5)), some (.int ((nI b).toInt8.toInt32)), some (.int (nI 0))]) (st' := []) (σ' := (α, μ)) (pc' := 7) kJ1_indexOfChar_4cfef_0 rfl rfl rf_a0 ?_
          refine ok_step (ps := []) (L' := [some (.ref 1003), some (.int (nI b)), some (.int (nI 0)), some (.int (nI 5)), some (.int ((nI b).toInt8.toInt32)), some (.int (nI 0))]) (st' := [.int (nI 5), .int (nI 0)]) (σ' := (α, μ)) (pc' := 10) kJ1_indexOfChar_4cfef_7 rfl rfl rf_a0 ?_
          refine ok_icmp_ge bJ1_indexOfChar_4cfef_10 (fun h10 => absurd h10 ((by decide))) (fun _ => ?_)
          refine ok_step (ps := [rf_in (nI 0) 5]) (L' := [some (.ref 1003), some (.int (nI b)), some (.int (nI 0)), some (.int (nI 5)), some (.int ((nI b).toInt8.toInt32)), some (.int (nI 0))]) (st' := [.int ((nI b).toInt8.toInt32), .int (nI 102)]) (σ' := (α, μ)) (pc' := 19) kJ1_indexOfChar_4cfef_13 rfl rfl (rf_a1 (rf_in_n (a := 0) rfl (by omega)) rf_a0) ?_
          try rw [(show (nI 0).toNatClampNeg = 0 from rf_cl_n rfl (by omega))]
          refine ok_icmp_ne bJ1_indexOfChar_4cfef_19 (fun _ => ?_) (fun h19 => absurd h19 ((fun e => n102 (i102.mp e.symm))))
          refine ok_step (ps := []) (L' := [some (.ref 1003), some (.int (nI b)), some (.int (nI 0)), some (.int (nI 5)), some (.int ((nI b).toInt8.toInt32)), some (.int ((nI 0) + (nI 1)))]) (st' := []) (σ' := (α, μ)) (pc' := 28) kJ1_indexOfChar_4cfef_25 rfl rfl rf_a0 ?_
          try rw [(show ((nI 0) + (nI 1)) = nI 1 from rf_eq (rf_nadd (x := nI 0) (y := nI 1) rfl rfl) (by omega))]
          refine ok_goto bJ1_indexOfChar_4cfef_28 ?_
          refine ok_step (ps := []) (L' := [some (.ref 1003), some (.int (nI b)), some (.int (nI 0)), some (.int (nI 5)), some (.int ((nI b).toInt8.toInt32)), some (.int (nI 1))]) (st' := [.int (nI 5), .int (nI 1)]) (σ' := (α, μ)) (pc' := 10) kJ1_indexOfChar_4cfef_7 rfl rfl rf_a0 ?_
          refine ok_icmp_ge bJ1_indexOfChar_4cfef_10 (fun h10 => absurd h10 ((by decide))) (fun _ => ?_)
          refine ok_step (ps := [rf_in (nI 1) 5]) (L' := [some (.ref 1003), some (.int (nI b)), some (.int (nI 0)), some (.int (nI 5)), some (.int ((nI b).toInt8.toInt32)), some (.int (nI 1))]) (st' := [.int ((nI b).toInt8.toInt32), .int (nI 103)]) (σ' := (α, μ)) (pc' := 19) kJ1_indexOfChar_4cfef_13 rfl rfl (rf_a1 (rf_in_n (a := 1) rfl (by omega)) rf_a0) ?_
          try rw [(show (nI 1).toNatClampNeg = 1 from rf_cl_n rfl (by omega))]
          refine ok_icmp_ne bJ1_indexOfChar_4cfef_19 (fun _ => ?_) (fun h19 => absurd h19 ((fun e => n103 (i103.mp e.symm))))
          refine ok_step (ps := []) (L' := [some (.ref 1003), some (.int (nI b)), some (.int (nI 0)), some (.int (nI 5)), some (.int ((nI b).toInt8.toInt32)), some (.int ((nI 1) + (nI 1)))]) (st' := []) (σ' := (α, μ)) (pc' := 28) kJ1_indexOfChar_4cfef_25 rfl rfl rf_a0 ?_
          try rw [(show ((nI 1) + (nI 1)) = nI 2 from rf_eq (rf_nadd (x := nI 1) (y := nI 1) rfl rfl) (by omega))]
          refine ok_goto bJ1_indexOfChar_4cfef_28 ?_
          refine ok_step (ps := []) (L' := [some (.ref 1003), some (.int (nI b)), some (.int (nI 0)), some (.int (nI 5)), some (.int ((nI b).toInt8.toInt32)), some (.int (nI 2))]) (st' := [.int (nI 5), .int (nI 2)]) (σ' := (α, μ)) (pc' := 10) kJ1_indexOfChar_4cfef_7 rfl rfl rf_a0 ?_
          refine ok_icmp_ge bJ1_indexOfChar_4cfef_10 (fun h10 => absurd h10 ((by decide))) (fun _ => ?_)
          refine ok_step (ps := [rf_in (nI 2) 5]) (L' := [some (.ref 1003), some (.int (nI b)), some (.int (nI 0)), some (.int (nI 5)), some (.int ((nI b).toInt8.toInt32)), some (.int (nI 2))]) (st' := [.int ((nI b).toInt8.toInt32), .int (nI 112)]) (σ' := (α, μ)) (pc' := 19) kJ1_indexOfChar_4cfef_13 rfl rfl (rf_a1 (rf_in_n (a := 2) rfl (by omega)) rf_a0) ?_
          try rw [(show (nI 2).toNatClampNeg = 2 from rf_cl_n rfl (by omega))]
          refine ok_icmp_ne bJ1_indexOfChar_4cfef_19 (fun _ => ?_) (fun h19 => absurd h19 ((fun e => n112 (i112.mp e.symm))))
          refine ok_step (ps := []) (L' := [some (.ref 1003), some (.int (nI b)), some (.int (nI 0)), some (.int (nI 5)), some (.int ((nI b).toInt8.toInt32)), some (.int ((nI 2) + (nI 1)))]) (st' := []) (σ' := (α, μ)) (pc' := 28) kJ1_indexOfChar_4cfef_25 rfl rfl rf_a0 ?_
          try rw [(show ((nI 2) + (nI 1)) = nI 3 from rf_eq (rf_nadd (x := nI 2) (y := nI 1) rfl rfl) (by omega))]
          refine ok_goto bJ1_indexOfChar_4cfef_28 ?_
          refine ok_step (ps := []) (L' := [some (.ref 1003), some (.int (nI b)), some (.int (nI 0)), some (.int (nI 5)), some (.int ((nI b).toInt8.toInt32)), some (.int (nI 3))]) (st' := [.int (nI 5), .int (nI 3)]) (σ' := (α, μ)) (pc' := 10) kJ1_indexOfChar_4cfef_7 rfl rfl rf_a0 ?_
          refine ok_icmp_ge bJ1_indexOfChar_4cfef_10 (fun h10 => absurd h10 ((by decide))) (fun _ => ?_)
          refine ok_step (ps := [rf_in (nI 3) 5]) (L' := [some (.ref 1003), some (.int (nI b)), some (.int (nI 0)), some (.int (nI 5)), some (.int ((nI b).toInt8.toInt32)), some (.int (nI 3))]) (st' := [.int ((nI b).toInt8.toInt32), .int (nI 113)]) (σ' := (α, μ)) (pc' := 19) kJ1_indexOfChar_4cfef_13 rfl rfl (rf_a1 (rf_in_n (a := 3) rfl (by omega)) rf_a0) ?_
          try rw [(show (nI 3).toNatClampNeg = 3 from rf_cl_n rfl (by omega))]
          refine ok_icmp_ne bJ1_indexOfChar_4cfef_19 (fun h19 => absurd ((i113.mpr h113).symm) h19) (fun _ => ?_)
          refine ok_step (ps := []) (L' := [some (.ref 1003), some (.int (nI b)), some (.int (nI 0)), some (.int (nI 5)), some (.int ((nI b).toInt8.toInt32)), some (.int (nI 3))]) (st' := [.int (nI 3)]) (σ' := (α, μ)) (pc' := 24) kJ1_indexOfChar_4cfef_22 rfl rfl rf_a0 ?_
          refine ok_reti eJ1_indexOfChar_4cfef_24 rfl ?_
          exact ⟨by unfold nmi; rw [if_pos rfl, if_neg (show ¬ nI b = 102 from fun e => n102 (nI_inj (b := 102) e (by omega) (by decide))), if_neg (show ¬ nI b = 103 from fun e => n103 (nI_inj (b := 103) e (by omega) (by decide))), if_neg (show ¬ nI b = 112 from fun e => n112 (nI_inj (b := 112) e (by omega) (by decide))), if_pos (show nI b = 113 from congrArg nI h113)]; rfl, rfl⟩
        · have n113 : ¬ b = 113 := h113
          by_cases h110 : b = 110
          · refine ok_step (ps := []) (L' := [some (.ref 1003), some (.int (nI b)), some (.int (nI 0)), some (.int (nI 5)), some (.int ((nI b).toInt8.toInt32)), some (.int (nI 0))]) (st' := []) (σ' := (α, μ)) (pc' := 7) kJ1_indexOfChar_4cfef_0 rfl rfl rf_a0 ?_
            refine ok_step (ps := []) (L' := [some (.ref 1003), some (.int (nI b)), some (.int (nI 0)), some (.int (nI 5)), some (.int ((nI b).toInt8.toInt32)), some (.int (nI 0))]) (st' := [.int (nI 5), .int (nI 0)]) (σ' := (α, μ)) (pc' := 10) kJ1_indexOfChar_4cfef_7 rfl rfl rf_a0 ?_
            refine ok_icmp_ge bJ1_indexOfChar_4cfef_10 (fun h10 => absurd h10 ((by decide))) (fun _ => ?_)
            refine ok_step (ps := [rf_in (nI 0) 5]) (L' := [some (.ref 1003), some (.int (nI b)), some (.int (nI 0)), some (.int (nI 5)), some (.int ((nI b).toInt8.toInt32)), some (.int (nI 0))]) (st' := [.int ((nI b).toInt8.toInt32), .int (nI 102)]) (σ' := (α, μ)) (pc' := 19) kJ1_indexOfChar_4cfef_13 rfl rfl (rf_a1 (rf_in_n (a := 0) rfl (by omega)) rf_a0) ?_
            try rw [(show (nI 0).toNatClampNeg = 0 from rf_cl_n rfl (by omega))]
            refine ok_icmp_ne bJ1_indexOfChar_4cfef_19 (fun _ => ?_) (fun h19 => absurd h19 ((fun e => n102 (i102.mp e.symm))))
            refine ok_step (ps := []) (L' := [some (.ref 1003), some (.int (nI b)), some (.int (nI 0)), some (.int (nI 5)), some (.int ((nI b).toInt8.toInt32)), some (.int ((nI 0) + (nI 1)))]) (st' := []) (σ' := (α, μ)) (pc' := 28) kJ1_indexOfChar_4cfef_25 rfl rfl rf_a0 ?_
            try rw [(show ((nI 0) + (nI 1)) = nI 1 from rf_eq (rf_nadd (x := nI 0) (y := nI 1) rfl rfl) (by omega))]
            refine ok_goto bJ1_indexOfChar_4cfef_28 ?_
            refine ok_step (ps := []) (L' := [some (.ref 1003), some (.int (nI b)), some (.int (nI 0)), some (.int (nI 5)), some (.int ((nI b).toInt8.toInt32)), some (.int (nI 1))]) (st' := [.int (nI 5), .int (nI 1)]) (σ' := (α, μ)) (pc' := 10) kJ1_indexOfChar_4cfef_7 rfl rfl rf_a0 ?_
            refine ok_icmp_ge bJ1_indexOfChar_4cfef_10 (fun h10 => absurd h10 ((by decide))) (fun _ => ?_)
            refine ok_step (ps := [rf_in (nI 1) 5]) (L' := [some (.ref 1003), some (.int (nI b)), some (.int (nI 0)), some (.int (nI 5)), some (.int ((nI b).toInt8.toInt32)), some (.int (nI 1))]) (st' := [.int ((nI b).toInt8.toInt32), .int (nI 103)]) (σ' := (α, μ)) (pc' := 19) kJ1_indexOfChar_4cfef_13 rfl rfl (rf_a1 (rf_in_n (a := 1) rfl (by omega)) rf_a0) ?_
            try rw [(show (nI 1).toNatClampNeg = 1 from rf_cl_n rfl (by omega))]
            refine ok_icmp_ne bJ1_indexOfChar_4cfef_19 (fun _ => ?_) (fun h19 => absurd h19 ((fun e => n103 (i103.mp e.symm))))
            refine ok_step (ps := []) (L' := [some (.ref 1003), some (.int (nI b)), some (.int (nI 0)), some (.int (nI 5)), some (.int ((nI b).toInt8.toInt32)), some (.int ((nI 1) + (nI 1)))]) (st' := []) (σ' := (α, μ)) (pc' := 28) kJ1_indexOfChar_4cfef_25 rfl rfl rf_a0 ?_
            try rw [(show ((nI 1) + (nI 1)) = nI 2 from rf_eq (rf_nadd (x := nI 1) (y := nI 1) rfl rfl) (by omega))]
            refine ok_goto bJ1_indexOfChar_4cfef_28 ?_
            refine ok_step (ps := []) (L' := [some (.ref 1003), some (.int (nI b)), some (.int (nI 0)), some (.int (nI 5)), some (.int ((nI b).toInt8.toInt32)), some (.int (nI 2))]) (st' := [.int (nI 5), .int (nI 2)]) (σ' := (α, μ)) (pc' := 10) kJ1_indexOfChar_4cfef_7 rfl rfl rf_a0 ?_
            refine ok_icmp_ge bJ1_indexOfChar_4cfef_10 (fun h10 => absurd h10 ((by decide))) (fun _ => ?_)
            refine ok_step (ps := [rf_in (nI 2) 5]) (L' := [some (.ref 1003), some (.int (nI b)), some (.int (nI 0)), some (.int (nI 5)), some (.int ((nI b).toInt8.toInt32)), some (.int (nI 2))]) (st' := [.int ((nI b).toInt8.toInt32), .int (nI 112)]) (σ' := (α, μ)) (pc' := 19) kJ1_indexOfChar_4cfef_13 rfl rfl (rf_a1 (rf_in_n (a := 2) rfl (by omega)) rf_a0) ?_
            try rw [(show (nI 2).toNatClampNeg = 2 from rf_cl_n rfl (by omega))]
            refine ok_icmp_ne bJ1_indexOfChar_4cfef_19 (fun _ => ?_) (fun h19 => absurd h19 ((fun e => n112 (i112.mp e.symm))))
            refine ok_step (ps := []) (L' := [some (.ref 1003), some (.int (nI b)), some (.int (nI 0)), some (.int (nI 5)), some (.int ((nI b).toInt8.toInt32)), some (.int ((nI 2) + (nI 1)))]) (st' := []) (σ' := (α, μ)) (pc' := 28) kJ1_indexOfChar_4cfef_25 rfl rfl rf_a0 ?_
            try rw [(show ((nI 2) + (nI 1)) = nI 3 from rf_eq (rf_nadd (x := nI 2) (y := nI 1) rfl rfl) (by omega))]
            refine ok_goto bJ1_indexOfChar_4cfef_28 ?_
            refine ok_step (ps := []) (L' := [some (.ref 1003), some (.int (nI b)), some (.int (nI 0)), some (.int (nI 5)), some (.int ((nI b).toInt8.toInt32)), some (.int (nI 3))]) (st' := [.int (nI 5), .int (nI 3)]) (σ' := (α, μ)) (pc' := 10) kJ1_indexOfChar_4cfef_7 rfl rfl rf_a0 ?_
            refine ok_icmp_ge bJ1_indexOfChar_4cfef_10 (fun h10 => absurd h10 ((by decide))) (fun _ => ?_)
            refine ok_step (ps := [rf_in (nI 3) 5]) (L' := [some (.ref 1003), some (.int (nI b)), some (.int (nI 0)), some (.int (nI 5)), some (.int ((nI b).toInt8.toInt32)), some (.int (nI 3))]) (st' := [.int ((nI b).toInt8.toInt32), .int (nI 113)]) (σ' := (α, μ)) (pc' := 19) kJ1_indexOfChar_4cfef_13 rfl rfl (rf_a1 (rf_in_n (a := 3) rfl (by omega)) rf_a0) ?_
            try rw [(show (nI 3).toNatClampNeg = 3 from rf_cl_n rfl (by omega))]
            refine ok_icmp_ne bJ1_indexOfChar_4cfef_19 (fun _ => ?_) (fun h19 => absurd h19 ((fun e => n113 (i113.mp e.symm))))
            refine ok_step (ps := []) (L' := [some (.ref 1003), some (.int (nI b)), some (.int (nI 0)), some (.int (nI 5)), some (.int ((nI b).toInt8.toInt32)), some (.int ((nI 3) + (nI 1)))]) (st' := []) (σ' := (α, μ)) (pc' := 28) kJ1_indexOfChar_4cfef_25 rfl rfl rf_a0 ?_
            try rw [(show ((nI 3) + (nI 1)) = nI 4 from rf_eq (rf_nadd (x := nI 3) (y := nI 1) rfl rfl) (by omega))]
            refine ok_goto bJ1_indexOfChar_4cfef_28 ?_
            refine ok_step (ps := []) (L' := [some (.ref 1003), some (.int (nI b)), some (.int (nI 0)), some (.int (nI 5)), some (.int ((nI b).toInt8.toInt32)), some (.int (nI 4))]) (st' := [.int (nI 5), .int (nI 4)]) (σ' := (α, μ)) (pc' := 10) kJ1_indexOfChar_4cfef_7 rfl rfl rf_a0 ?_
            refine ok_icmp_ge bJ1_indexOfChar_4cfef_10 (fun h10 => absurd h10 ((by decide))) (fun _ => ?_)
            refine ok_step (ps := [rf_in (nI 4) 5]) (L' := [some (.ref 1003), some (.int (nI b)), some (.int (nI 0)), some (.int (nI 5)), some (.int ((nI b).toInt8.toInt32)), some (.int (nI 4))]) (st' := [.int ((nI b).toInt8.toInt32), .int (nI 110)]) (σ' := (α, μ)) (pc' := 19) kJ1_indexOfChar_4cfef_13 rfl rfl (rf_a1 (rf_in_n (a := 4) rfl (by omega)) rf_a0) ?_
            try rw [(show (nI 4).toNatClampNeg = 4 from rf_cl_n rfl (by omega))]
            refine ok_icmp_ne bJ1_indexOfChar_4cfef_19 (fun h19 => absurd ((i110.mpr h110).symm) h19) (fun _ => ?_)
            refine ok_step (ps := []) (L' := [some (.ref 1003), some (.int (nI b)), some (.int (nI 0)), some (.int (nI 5)), some (.int ((nI b).toInt8.toInt32)), some (.int (nI 4))]) (st' := [.int (nI 4)]) (σ' := (α, μ)) (pc' := 24) kJ1_indexOfChar_4cfef_22 rfl rfl rf_a0 ?_
            refine ok_reti eJ1_indexOfChar_4cfef_24 rfl ?_
            exact ⟨by unfold nmi; rw [if_pos rfl, if_neg (show ¬ nI b = 102 from fun e => n102 (nI_inj (b := 102) e (by omega) (by decide))), if_neg (show ¬ nI b = 103 from fun e => n103 (nI_inj (b := 103) e (by omega) (by decide))), if_neg (show ¬ nI b = 112 from fun e => n112 (nI_inj (b := 112) e (by omega) (by decide))), if_neg (show ¬ nI b = 113 from fun e => n113 (nI_inj (b := 113) e (by omega) (by decide))), if_pos (show nI b = 110 from congrArg nI h110)]; rfl, rfl⟩
          · have n110 : ¬ b = 110 := h110
            refine ok_step (ps := []) (L' := [some (.ref 1003), some (.int (nI b)), some (.int (nI 0)), some (.int (nI 5)), some (.int ((nI b).toInt8.toInt32)), some (.int (nI 0))]) (st' := []) (σ' := (α, μ)) (pc' := 7) kJ1_indexOfChar_4cfef_0 rfl rfl rf_a0 ?_
            refine ok_step (ps := []) (L' := [some (.ref 1003), some (.int (nI b)), some (.int (nI 0)), some (.int (nI 5)), some (.int ((nI b).toInt8.toInt32)), some (.int (nI 0))]) (st' := [.int (nI 5), .int (nI 0)]) (σ' := (α, μ)) (pc' := 10) kJ1_indexOfChar_4cfef_7 rfl rfl rf_a0 ?_
            refine ok_icmp_ge bJ1_indexOfChar_4cfef_10 (fun h10 => absurd h10 ((by decide))) (fun _ => ?_)
            refine ok_step (ps := [rf_in (nI 0) 5]) (L' := [some (.ref 1003), some (.int (nI b)), some (.int (nI 0)), some (.int (nI 5)), some (.int ((nI b).toInt8.toInt32)), some (.int (nI 0))]) (st' := [.int ((nI b).toInt8.toInt32), .int (nI 102)]) (σ' := (α, μ)) (pc' := 19) kJ1_indexOfChar_4cfef_13 rfl rfl (rf_a1 (rf_in_n (a := 0) rfl (by omega)) rf_a0) ?_
            try rw [(show (nI 0).toNatClampNeg = 0 from rf_cl_n rfl (by omega))]
            refine ok_icmp_ne bJ1_indexOfChar_4cfef_19 (fun _ => ?_) (fun h19 => absurd h19 ((fun e => n102 (i102.mp e.symm))))
            refine ok_step (ps := []) (L' := [some (.ref 1003), some (.int (nI b)), some (.int (nI 0)), some (.int (nI 5)), some (.int ((nI b).toInt8.toInt32)), some (.int ((nI 0) + (nI 1)))]) (st' := []) (σ' := (α, μ)) (pc' := 28) kJ1_indexOfChar_4cfef_25 rfl rfl rf_a0 ?_
            try rw [(show ((nI 0) + (nI 1)) = nI 1 from rf_eq (rf_nadd (x := nI 0) (y := nI 1) rfl rfl) (by omega))]
            refine ok_goto bJ1_indexOfChar_4cfef_28 ?_
            refine ok_step (ps := []) (L' := [some (.ref 1003), some (.int (nI b)), some (.int (nI 0)), some (.int (nI 5)), some (.int ((nI b).toInt8.toInt32)), some (.int (nI 1))]) (st' := [.int (nI 5), .int (nI 1)]) (σ' := (α, μ)) (pc' := 10) kJ1_indexOfChar_4cfef_7 rfl rfl rf_a0 ?_
            refine ok_icmp_ge bJ1_indexOfChar_4cfef_10 (fun h10 => absurd h10 ((by decide))) (fun _ => ?_)
            refine ok_step (ps := [rf_in (nI 1) 5]) (L' := [some (.ref 1003), some (.int (nI b)), some (.int (nI 0)), some (.int (nI 5)), some (.int ((nI b).toInt8.toInt32)), some (.int (nI 1))]) (st' := [.int ((nI b).toInt8.toInt32), .int (nI 103)]) (σ' := (α, μ)) (pc' := 19) kJ1_indexOfChar_4cfef_13 rfl rfl (rf_a1 (rf_in_n (a := 1) rfl (by omega)) rf_a0) ?_
            try rw [(show (nI 1).toNatClampNeg = 1 from rf_cl_n rfl (by omega))]
            refine ok_icmp_ne bJ1_indexOfChar_4cfef_19 (fun _ => ?_) (fun h19 => absurd h19 ((fun e => n103 (i103.mp e.symm))))
            refine ok_step (ps := []) (L' := [some (.ref 1003), some (.int (nI b)), some (.int (nI 0)), some (.int (nI 5)), some (.int ((nI b).toInt8.toInt32)), some (.int ((nI 1) + (nI 1)))]) (st' := []) (σ' := (α, μ)) (pc' := 28) kJ1_indexOfChar_4cfef_25 rfl rfl rf_a0 ?_
            try rw [(show ((nI 1) + (nI 1)) = nI 2 from rf_eq (rf_nadd (x := nI 1) (y := nI 1) rfl rfl) (by omega))]
            refine ok_goto bJ1_indexOfChar_4cfef_28 ?_
            refine ok_step (ps := []) (L' := [some (.ref 1003), some (.int (nI b)), some (.int (nI 0)), some (.int (nI 5)), some (.int ((nI b).toInt8.toInt32)), some (.int (nI 2))]) (st' := [.int (nI 5), .int (nI 2)]) (σ' := (α, μ)) (pc' := 10) kJ1_indexOfChar_4cfef_7 rfl rfl rf_a0 ?_
            refine ok_icmp_ge bJ1_indexOfChar_4cfef_10 (fun h10 => absurd h10 ((by decide))) (fun _ => ?_)
            refine ok_step (ps := [rf_in (nI 2) 5]) (L' := [some (.ref 1003), some (.int (nI b)), some (.int (nI 0)), some (.int (nI 5)), some (.int ((nI b).toInt8.toInt32)), some (.int (nI 2))]) (st' := [.int ((nI b).toInt8.toInt32), .int (nI 112)]) (σ' := (α, μ)) (pc' := 19) kJ1_indexOfChar_4cfef_13 rfl rfl (rf_a1 (rf_in_n (a := 2) rfl (by omega)) rf_a0) ?_
            try rw [(show (nI 2).toNatClampNeg = 2 from rf_cl_n rfl (by omega))]
            refine ok_icmp_ne bJ1_indexOfChar_4cfef_19 (fun _ => ?_) (fun h19 => absurd h19 ((fun e => n112 (i112.mp e.symm))))
            refine ok_step (ps := []) (L' := [some (.ref 1003), some (.int (nI b)), some (.int (nI 0)), some (.int (nI 5)), some (.int ((nI b).toInt8.toInt32)), some (.int ((nI 2) + (nI 1)))]) (st' := []) (σ' := (α, μ)) (pc' := 28) kJ1_indexOfChar_4cfef_25 rfl rfl rf_a0 ?_
            try rw [(show ((nI 2) + (nI 1)) = nI 3 from rf_eq (rf_nadd (x := nI 2) (y := nI 1) rfl rfl) (by omega))]
            refine ok_goto bJ1_indexOfChar_4cfef_28 ?_
            refine ok_step (ps := []) (L' := [some (.ref 1003), some (.int (nI b)), some (.int (nI 0)), some (.int (nI 5)), some (.int ((nI b).toInt8.toInt32)), some (.int (nI 3))]) (st' := [.int (nI 5), .int (nI 3)]) (σ' := (α, μ)) (pc' := 10) kJ1_indexOfChar_4cfef_7 rfl rfl rf_a0 ?_
            refine ok_icmp_ge bJ1_indexOfChar_4cfef_10 (fun h10 => absurd h10 ((by decide))) (fun _ => ?_)
            refine ok_step (ps := [rf_in (nI 3) 5]) (L' := [some (.ref 1003), some (.int (nI b)), some (.int (nI 0)), some (.int (nI 5)), some (.int ((nI b).toInt8.toInt32)), some (.int (nI 3))]) (st' := [.int ((nI b).toInt8.toInt32), .int (nI 113)]) (σ' := (α, μ)) (pc' := 19) kJ1_indexOfChar_4cfef_13 rfl rfl (rf_a1 (rf_in_n (a := 3) rfl (by omega)) rf_a0) ?_
            try rw [(show (nI 3).toNatClampNeg = 3 from rf_cl_n rfl (by omega))]
            refine ok_icmp_ne bJ1_indexOfChar_4cfef_19 (fun _ => ?_) (fun h19 => absurd h19 ((fun e => n113 (i113.mp e.symm))))
            refine ok_step (ps := []) (L' := [some (.ref 1003), some (.int (nI b)), some (.int (nI 0)), some (.int (nI 5)), some (.int ((nI b).toInt8.toInt32)), some (.int ((nI 3) + (nI 1)))]) (st' := []) (σ' := (α, μ)) (pc' := 28) kJ1_indexOfChar_4cfef_25 rfl rfl rf_a0 ?_
            try rw [(show ((nI 3) + (nI 1)) = nI 4 from rf_eq (rf_nadd (x := nI 3) (y := nI 1) rfl rfl) (by omega))]
            refine ok_goto bJ1_indexOfChar_4cfef_28 ?_
            refine ok_step (ps := []) (L' := [some (.ref 1003), some (.int (nI b)), some (.int (nI 0)), some (.int (nI 5)), some (.int ((nI b).toInt8.toInt32)), some (.int (nI 4))]) (st' := [.int (nI 5), .int (nI 4)]) (σ' := (α, μ)) (pc' := 10) kJ1_indexOfChar_4cfef_7 rfl rfl rf_a0 ?_
            refine ok_icmp_ge bJ1_indexOfChar_4cfef_10 (fun h10 => absurd h10 ((by decide))) (fun _ => ?_)
            refine ok_step (ps := [rf_in (nI 4) 5]) (L' := [some (.ref 1003), some (.int (nI b)), some (.int (nI 0)), some (.int (nI 5)), some (.int ((nI b).toInt8.toInt32)), some (.int (nI 4))]) (st' := [.int ((nI b).toInt8.toInt32), .int (nI 110)]) (σ' := (α, μ)) (pc' := 19) kJ1_indexOfChar_4cfef_13 rfl rfl (rf_a1 (rf_in_n (a := 4) rfl (by omega)) rf_a0) ?_
            try rw [(show (nI 4).toNatClampNeg = 4 from rf_cl_n rfl (by omega))]
            refine ok_icmp_ne bJ1_indexOfChar_4cfef_19 (fun _ => ?_) (fun h19 => absurd h19 ((fun e => n110 (i110.mp e.symm))))
            refine ok_step (ps := []) (L' := [some (.ref 1003), some (.int (nI b)), some (.int (nI 0)), some (.int (nI 5)), some (.int ((nI b).toInt8.toInt32)), some (.int ((nI 4) + (nI 1)))]) (st' := []) (σ' := (α, μ)) (pc' := 28) kJ1_indexOfChar_4cfef_25 rfl rfl rf_a0 ?_
            try rw [(show ((nI 4) + (nI 1)) = nI 5 from rf_eq (rf_nadd (x := nI 4) (y := nI 1) rfl rfl) (by omega))]
            refine ok_goto bJ1_indexOfChar_4cfef_28 ?_
            refine ok_step (ps := []) (L' := [some (.ref 1003), some (.int (nI b)), some (.int (nI 0)), some (.int (nI 5)), some (.int ((nI b).toInt8.toInt32)), some (.int (nI 5))]) (st' := [.int (nI 5), .int (nI 5)]) (σ' := (α, μ)) (pc' := 10) kJ1_indexOfChar_4cfef_7 rfl rfl rf_a0 ?_
            refine ok_icmp_ge bJ1_indexOfChar_4cfef_10 (fun _ => ?_) (fun h10 => absurd ((by decide)) h10)
            refine ok_step (ps := []) (L' := [some (.ref 1003), some (.int (nI b)), some (.int (nI 0)), some (.int (nI 5)), some (.int ((nI b).toInt8.toInt32)), some (.int (nI 5))]) (st' := [.int (-1)]) (σ' := (α, μ)) (pc' := 32) kJ1_indexOfChar_4cfef_31 rfl rfl rf_a0 ?_
            refine ok_reti eJ1_indexOfChar_4cfef_32 rfl ?_
            exact ⟨by unfold nmi; rw [if_pos rfl, if_neg (show ¬ nI b = 102 from fun e => n102 (nI_inj (b := 102) e (by omega) (by decide))), if_neg (show ¬ nI b = 103 from fun e => n103 (nI_inj (b := 103) e (by omega) (by decide))), if_neg (show ¬ nI b = 112 from fun e => n112 (nI_inj (b := 112) e (by omega) (by decide))), if_neg (show ¬ nI b = 113 from fun e => n113 (nI_inj (b := 113) e (by omega) (by decide))), if_neg (show ¬ nI b = 110 from fun e => n110 (nI_inj (b := 110) e (by omega) (by decide)))], rfl⟩
theorem j_can {b : Nat} (hb : b ≤ 255) : rf_At (rf_T Ln xs) MJ1_canEncode_9a6ad 1 0 ([some (.int (nI b))], [], 108, (α, μ)) (some (.int (nI 1))) 108 (α, μ) := by
  refine rf_pa ?_
  refine ok_step (ps := []) (L' := [some (.int (nI b))]) (st' := [.int (nI b)]) (σ' := (α, μ)) (pc' := 1) kJ1_canEncode_9a6ad_0 rfl rfl rf_a0 ?_
  refine ok_if_lt bJ1_canEncode_9a6ad_1 (fun h1 => absurd h1 (nI_pos (by omega))) (fun _ => ?_)
  refine ok_step (ps := []) (L' := [some (.int (nI b))]) (st' := [.int (nI 255), .int (nI b)]) (σ' := (α, μ)) (pc' := 8) kJ1_canEncode_9a6ad_4 rfl rfl rf_a0 ?_
  refine ok_icmp_gt bJ1_canEncode_9a6ad_8 (fun h8 => absurd h8 (nI_nlt (by omega) (by omega))) (fun _ => ?_)
  refine ok_step (ps := []) (L' := [some (.int (nI b))]) (st' := [.int (nI 1)]) (σ' := (α, μ)) (pc' := 12) kJ1_canEncode_9a6ad_11 rfl rfl rf_a0 ?_
  refine ok_goto bJ1_canEncode_9a6ad_12 ?_
  refine ok_retz eJ1_canEncode_9a6ad_16 rfl (Or.inr rfl) ?_
  exact ⟨rfl, rfl⟩
theorem j_idx0 {b : Nat} (hb : b ≤ 255) : rf_At (rf_T Ln xs) MJ1_indexOf_4cfef 2 0 ([some (.ref 1003), some (.int (nI b)), some (.int (nI 0)), some (.int (nI 5))], [], 108, (α, μ)) (some (.int (nmi 0 (nI b)))) 108 (α, μ) := by
  refine rf_pa ?_
  refine ok_step (ps := []) (L' := [some (.ref 1003), some (.int (nI b)), some (.int (nI 0)), some (.int (nI 5))]) (st' := [.int (nI b)]) (σ' := (α, μ)) (pc' := 1) kJ1_indexOf_4cfef_0 rfl rfl rf_a0 ?_
  refine ok_S (As := [.int (nI b)]) (st := []) mkJ1_canEncode_9a6ad qJ1_indexOf_4cfef_1 rfl rfl rfl rfl rfl (Nat.le_of_ble_eq_true rfl) (j_can hb) ?_
  refine ok_if_ne bJ1_indexOf_4cfef_4 (fun _ => ?_) (fun h4 => absurd h4 ((by decide)))
  refine ok_step (ps := []) (L' := [some (.ref 1003), some (.int (nI b)), some (.int (rf_max (nI 0) (nI 0))), some (.int (rf_min (nI 5) (nI 5)))]) (st' := [.int (rf_min (nI 5) (nI 5)), .int (rf_max (nI 0) (nI 0))]) (σ' := (α, μ)) (pc' := 24) kJ1_indexOf_4cfef_9 rfl rfl rf_a0 ?_
  try rw [(show (rf_max (nI 0) (nI 0)) = nI 0 from rfl)]
  try rw [(show (rf_min (nI 5) (nI 5)) = nI 5 from rfl)]
  refine ok_icmp_lt bJ1_indexOf_4cfef_24 (fun _ => ?_) (fun h24 => absurd ((by decide)) h24)
  refine ok_step (ps := []) (L' := [some (.ref 1003), some (.int (nI b)), some (.int (nI 0)), some (.int (nI 5))]) (st' := [.int (nI 5), .int (nI 0), .int (nI b), .ref 1003]) (σ' := (α, μ)) (pc' := 33) kJ1_indexOf_4cfef_29 rfl rfl rf_a0 ?_
  refine ok_S (As := [.ref 1003, .int (nI b), .int (nI 0), .int (nI 5)]) (st := []) mkJ1_indexOfChar_4cfef qJ1_indexOf_4cfef_33 rfl rfl rfl rfl rfl (Nat.le_of_ble_eq_true rfl) (j_idc0 hb) ?_
  refine ok_reti eJ1_indexOf_4cfef_36 rfl ?_
  exact ⟨rfl, rfl⟩
theorem j_ind0 {b : Nat} (hb : b ≤ 255) : rf_At (rf_T Ln xs) MJ0_indexOf_7cf53 3 0 ([some (.ref 1005), some (.int (nI b)), some (.int (nI 0))], [], 108, (α, μ)) (some (.int (nmi 0 (nI b)))) 108 (α, μ) := by
  refine rf_pa ?_
  refine ok_step (ps := []) (L' := [some (.ref 1005), some (.int (nI b)), some (.int (nI 0))]) (st' := [.ref 1005]) (σ' := (α, μ)) (pc' := 1) kJ0_indexOf_7cf53_0 rfl rfl rf_a0 ?_
  refine ok_V (As := []) (b := 1005) (st := []) mkJ0_isLatin1_aae02 qJ0_indexOf_7cf53_1 rfl (rfl) rfl rfl rfl rfl (Nat.le_of_ble_eq_true rfl) (j_lat0) ?_
  refine ok_if_eq bJ0_indexOf_7cf53_4 (fun h4 => absurd h4 ((by decide))) (fun _ => ?_)
  refine ok_step (ps := []) (L' := [some (.ref 1005), some (.int (nI b)), some (.int (nI 0))]) (st' := [.ref 1005, .int (nI 0), .int (nI b), .ref 1003]) (σ' := (α, μ)) (pc' := 14) kJ0_indexOf_7cf53_7 rfl rfl rf_a0 ?_
  refine ok_V (As := []) (b := 1005) (st := [.int (nI 0), .int (nI b), .ref 1003]) mkJ0_length_8abf5 qJ0_indexOf_7cf53_14 rfl (rfl) rfl rfl rfl rfl (Nat.le_of_ble_eq_true rfl) (j_len0) ?_
  refine ok_S (As := [.ref 1003, .int (nI b), .int (nI 0), .int (nI 5)]) (st := []) mkJ1_indexOf_4cfef qJ0_indexOf_7cf53_17 rfl rfl rfl rfl rfl (Nat.le_of_ble_eq_true rfl) (j_idx0 hb) ?_
  refine ok_goto bJ0_indexOf_7cf53_20 ?_
  refine ok_reti eJ0_indexOf_7cf53_36 rfl ?_
  exact ⟨rfl, rfl⟩
theorem j_of0 {b : Nat} (hb : b ≤ 255) : rf_At (rf_T Ln xs) MJ0_indexOf_0f7a4 4 0 ([some (.ref 1005), some (.int (nI b))], [], 108, (α, μ)) (some (.int (nmi 0 (nI b)))) 108 (α, μ) := by
  refine rf_pa ?_
  refine ok_step (ps := []) (L' := [some (.ref 1005), some (.int (nI b))]) (st' := [.int (nI 0), .int (nI b), .ref 1005]) (σ' := (α, μ)) (pc' := 3) kJ0_indexOf_0f7a4_0 rfl rfl rf_a0 ?_
  refine ok_V (As := [.int (nI b), .int (nI 0)]) (b := 1005) (st := []) mkJ0_indexOf_7cf53 qJ0_indexOf_0f7a4_3 rfl (rfl) rfl rfl rfl rfl (Nat.le_of_ble_eq_true rfl) (j_ind0 hb) ?_
  refine ok_reti eJ0_indexOf_0f7a4_6 rfl ?_
  exact ⟨rfl, rfl⟩
theorem j_coder1   : rf_At (rf_T Ln xs) MJ0_coder_7d493 1 0 ([some (.ref 1006)], [], 108, (α, μ)) (some (.int (nI 0))) 108 (α, μ) := by
  refine rf_pa ?_
  refine ok_step (ps := []) (L' := [some (.ref 1006)]) (st' := [.int (nI 1)]) (σ' := (α, μ)) (pc' := 3) kJ0_coder_7d493_0 rfl rfl rf_a0 ?_
  refine ok_if_eq bJ0_coder_7d493_3 (fun h3 => absurd h3 ((by decide))) (fun _ => ?_)
  refine ok_step (ps := []) (L' := [some (.ref 1006)]) (st' := [.int (nI 0)]) (σ' := (α, μ)) (pc' := 10) kJ0_coder_7d493_6 rfl rfl rf_a0 ?_
  refine ok_goto bJ0_coder_7d493_10 ?_
  refine ok_retb eJ0_coder_7d493_14 rfl ?_
  exact ⟨rfl, rfl⟩
theorem j_lat1   : rf_At (rf_T Ln xs) MJ0_isLatin1_aae02 1 0 ([some (.ref 1006)], [], 108, (α, μ)) (some (.int (nI 1))) 108 (α, μ) := by
  refine rf_pa ?_
  refine ok_step (ps := []) (L' := [some (.ref 1006)]) (st' := [.int (nI 1)]) (σ' := (α, μ)) (pc' := 3) kJ0_isLatin1_aae02_0 rfl rfl rf_a0 ?_
  refine ok_if_eq bJ0_isLatin1_aae02_3 (fun h3 => absurd h3 ((by decide))) (fun _ => ?_)
  refine ok_step (ps := []) (L' := [some (.ref 1006)]) (st' := [.int (nI 0)]) (σ' := (α, μ)) (pc' := 10) kJ0_isLatin1_aae02_6 rfl rfl rf_a0 ?_
  refine ok_if_ne bJ0_isLatin1_aae02_10 (fun h10 => absurd ((by decide)) h10) (fun _ => ?_)
  refine ok_step (ps := []) (L' := [some (.ref 1006)]) (st' := [.int (nI 1)]) (σ' := (α, μ)) (pc' := 14) kJ0_isLatin1_aae02_13 rfl rfl rf_a0 ?_
  refine ok_goto bJ0_isLatin1_aae02_14 ?_
  refine ok_retz eJ0_isLatin1_aae02_18 rfl (Or.inr rfl) ?_
  exact ⟨rfl, rfl⟩
theorem j_len1   : rf_At (rf_T Ln xs) MJ0_length_8abf5 2 0 ([some (.ref 1006)], [], 108, (α, μ)) (some (.int (nI 4))) 108 (α, μ) := by
  refine rf_pa ?_
  refine ok_step (ps := []) (L' := [some (.ref 1006)]) (st' := [.ref 1006, .int (nI 4)]) (σ' := (α, μ)) (pc' := 6) kJ0_length_8abf5_0 rfl rfl rf_a0 ?_
  refine ok_V (As := []) (b := 1006) (st := [.int (nI 4)]) mkJ0_coder_7d493 qJ0_length_8abf5_6 rfl (rfl) rfl rfl rfl rfl (Nat.le_of_ble_eq_true rfl) (j_coder1) ?_
  refine ok_step (ps := []) (L' := [some (.ref 1006)]) (st' := [.int ((nI 4) >>> ((nI 0) &&& 31))]) (σ' := (α, μ)) (pc' := 10) kJ0_length_8abf5_9 rfl rfl rf_a0 ?_
  refine ok_reti eJ0_length_8abf5_10 rfl ?_
  exact ⟨rfl, rfl⟩
theorem j_idc1 {b : Nat} (hb : b ≤ 255) : rf_At (rf_T Ln xs) MJ1_indexOfChar_4cfef 1 0 ([some (.ref 1004), some (.int (nI b)), some (.int (nI 0)), some (.int (nI 4)), none, none], [], 108, (α, μ)) (some (.int (nmi 1 (nI b)))) 108 (α, μ) := by
  refine rf_pa ?_
  have i110 := i8_eq b hb 110 (by decide)
  have i108 := i8_eq b hb 108 (by decide)
  have i103 := i8_eq b hb 103 (by decide)
  have i98 := i8_eq b hb 98 (by decide)
  by_cases h110 : b = 110
  · refine ok_step (ps := []) (L' := [some (.ref 1004), some (.int (nI b)), some (.int (nI 0)), some (.int (nI 4)), some (.int ((nI b).toInt8.toInt32)), some (.int (nI 0))]) (st' := []) (σ' := (α, μ)) (pc' := 7) kJ1_indexOfChar_4cfef_0 rfl rfl rf_a0 ?_
    refine ok_step (ps := []) (L' := [some (.ref 1004), some (.int (nI b)), some (.int (nI 0)), some (.int (nI 4)), some (.int ((nI b).toInt8.toInt32)), some (.int (nI 0))]) (st' := [.int (nI 4), .int (nI 0)]) (σ' := (α, μ)) (pc' := 10) kJ1_indexOfChar_4cfef_7 rfl rfl rf_a0 ?_
    refine ok_icmp_ge bJ1_indexOfChar_4cfef_10 (fun h10 => absurd h10 ((by decide))) (fun _ => ?_)
    refine ok_step (ps := [rf_in (nI 0) 4]) (L' := [some (.ref 1004), some (.int (nI b)), some (.int (nI 0)), some (.int (nI 4)), some (.int ((nI b).toInt8.toInt32)), some (.int (nI 0))]) (st' := [.int ((nI b).toInt8.toInt32), .int (nI 110)]) (σ' := (α, μ)) (pc' := 19) kJ1_indexOfChar_4cfef_13 rfl rfl (rf_a1 (rf_in_n (a := 0) rfl (by omega)) rf_a0) ?_
    try rw [(show (nI 0).toNatClampNeg = 0 from rf_cl_n rfl (by omega))]
    refine ok_icmp_ne bJ1_indexOfChar_4cfef_19 (fun h19 => absurd ((i110.mpr h110).symm) h19) (fun _ => ?_)
    refine ok_step (ps := []) (L' := [some (.ref 1004), some (.int (nI b)), some (.int (nI 0)), some (.int (nI 4)), some (.int ((nI b).toInt8.toInt32)), some (.int (nI 0))]) (st' := [.int (nI 0)]) (σ' := (α, μ)) (pc' := 24) kJ1_indexOfChar_4cfef_22 rfl rfl rf_a0 ?_
    refine ok_reti eJ1_indexOfChar_4cfef_24 rfl ?_
    exact ⟨by unfold nmi; rw [if_neg (by decide), if_pos (show nI b = 110 from congrArg nI h110)]; rfl, rfl⟩
  · have n110 : ¬ b = 110 := h110
    by_cases h108 : b = 108
    · refine ok_step (ps := []) (L' := [some (.ref 1004), some (.int (nI b)), some (.int (nI 0)), some (.int (nI 4)), some (.int ((nI b).toInt8.toInt32)), some (.int (nI 0))]) (st' := []) (σ' := (α, μ)) (pc' := 7) kJ1_indexOfChar_4cfef_0 rfl rfl rf_a0 ?_
      refine ok_step (ps := []) (L' := [some (.ref 1004), some (.int (nI b)), some (.int (nI 0)), some (.int (nI 4)), some (.int ((nI b).toInt8.toInt32)), some (.int (nI 0))]) (st' := [.int (nI 4), .int (nI 0)]) (σ' := (α, μ)) (pc' := 10) kJ1_indexOfChar_4cfef_7 rfl rfl rf_a0 ?_
      refine ok_icmp_ge bJ1_indexOfChar_4cfef_10 (fun h10 => absurd h10 ((by decide))) (fun _ => ?_)
      refine ok_step (ps := [rf_in (nI 0) 4]) (L' := [some (.ref 1004), some (.int (nI b)), some (.int (nI 0)), some (.int (nI 4)), some (.int ((nI b).toInt8.toInt32)), some (.int (nI 0))]) (st' := [.int ((nI b).toInt8.toInt32), .int (nI 110)]) (σ' := (α, μ)) (pc' := 19) kJ1_indexOfChar_4cfef_13 rfl rfl (rf_a1 (rf_in_n (a := 0) rfl (by omega)) rf_a0) ?_
      try rw [(show (nI 0).toNatClampNeg = 0 from rf_cl_n rfl (by omega))]
      refine ok_icmp_ne bJ1_indexOfChar_4cfef_19 (fun _ => ?_) (fun h19 => absurd h19 ((fun e => n110 (i110.mp e.symm))))
      refine ok_step (ps := []) (L' := [some (.ref 1004), some (.int (nI b)), some (.int (nI 0)), some (.int (nI 4)), some (.int ((nI b).toInt8.toInt32)), some (.int ((nI 0) + (nI 1)))]) (st' := []) (σ' := (α, μ)) (pc' := 28) kJ1_indexOfChar_4cfef_25 rfl rfl rf_a0 ?_
      try rw [(show ((nI 0) + (nI 1)) = nI 1 from rf_eq (rf_nadd (x := nI 0) (y := nI 1) rfl rfl) (by omega))]
      refine ok_goto bJ1_indexOfChar_4cfef_28 ?_
      refine ok_step (ps := []) (L' := [some (.ref 1004), some (.int (nI b)), some (.int (nI 0)), some (.int (nI 4)), some (.int ((nI b).toInt8.toInt32)), some (.int (nI 1))]) (st' := [.int (nI 4), .int (nI 1)]) (σ' := (α, μ)) (pc' := 10) kJ1_indexOfChar_4cfef_7 rfl rfl rf_a0 ?_
      refine ok_icmp_ge bJ1_indexOfChar_4cfef_10 (fun h10 => absurd h10 ((by decide))) (fun _ => ?_)
      refine ok_step (ps := [rf_in (nI 1) 4]) (L' := [some (.ref 1004), some (.int (nI b)), some (.int (nI 0)), some (.int (nI 4)), some (.int ((nI b).toInt8.toInt32)), some (.int (nI 1))]) (st' := [.int ((nI b).toInt8.toInt32), .int (nI 108)]) (σ' := (α, μ)) (pc' := 19) kJ1_indexOfChar_4cfef_13 rfl rfl (rf_a1 (rf_in_n (a := 1) rfl (by omega)) rf_a0) ?_
      try rw [(show (nI 1).toNatClampNeg = 1 from rf_cl_n rfl (by omega))]
      refine ok_icmp_ne bJ1_indexOfChar_4cfef_19 (fun h19 => absurd ((i108.mpr h108).symm) h19) (fun _ => ?_)
      refine ok_step (ps := []) (L' := [some (.ref 1004), some (.int (nI b)), some (.int (nI 0)), some (.int (nI 4)), some (.int ((nI b).toInt8.toInt32)), some (.int (nI 1))]) (st' := [.int (nI 1)]) (σ' := (α, μ)) (pc' := 24) kJ1_indexOfChar_4cfef_22 rfl rfl rf_a0 ?_
      refine ok_reti eJ1_indexOfChar_4cfef_24 rfl ?_
      exact ⟨by unfold nmi; rw [if_neg (by decide), if_neg (show ¬ nI b = 110 from fun e => n110 (nI_inj (b := 110) e (by omega) (by decide))), if_pos (show nI b = 108 from congrArg nI h108)]; rfl, rfl⟩
    · have n108 : ¬ b = 108 := h108
      by_cases h103 : b = 103
      · refine ok_step (ps := []) (L' := [some (.ref 1004), some (.int (nI b)), some (.int (nI 0)), some (.int (nI 4)), some (.int ((nI b).toInt8.toInt32)), some (.int (nI 0))]) (st' := []) (σ' := (α, μ)) (pc' := 7) kJ1_indexOfChar_4cfef_0 rfl rfl rf_a0 ?_
        refine ok_step (ps := []) (L' := [some (.ref 1004), some (.int (nI b)), some (.int (nI 0)), some (.int (nI 4)), some (.int ((nI b).toInt8.toInt32)), some (.int (nI 0))]) (st' := [.int (nI 4), .int (nI 0)]) (σ' := (α, μ)) (pc' := 10) kJ1_indexOfChar_4cfef_7 rfl rfl rf_a0 ?_
        refine ok_icmp_ge bJ1_indexOfChar_4cfef_10 (fun h10 => absurd h10 ((by decide))) (fun _ => ?_)
        refine ok_step (ps := [rf_in (nI 0) 4]) (L' := [some (.ref 1004), some (.int (nI b)), some (.int (nI 0)), some (.int (nI 4)), some (.int ((nI b).toInt8.toInt32)), some (.int (nI 0))]) (st' := [.int ((nI b).toInt8.toInt32), .int (nI 110)]) (σ' := (α, μ)) (pc' := 19) kJ1_indexOfChar_4cfef_13 rfl rfl (rf_a1 (rf_in_n (a := 0) rfl (by omega)) rf_a0) ?_
        try rw [(show (nI 0).toNatClampNeg = 0 from rf_cl_n rfl (by omega))]
        refine ok_icmp_ne bJ1_indexOfChar_4cfef_19 (fun _ => ?_) (fun h19 => absurd h19 ((fun e => n110 (i110.mp e.symm))))
        refine ok_step (ps := []) (L' := [some (.ref 1004), some (.int (nI b)), some (.int (nI 0)), some (.int (nI 4)), some (.int ((nI b).toInt8.toInt32)), some (.int ((nI 0) + (nI 1)))]) (st' := []) (σ' := (α, μ)) (pc' := 28) kJ1_indexOfChar_4cfef_25 rfl rfl rf_a0 ?_
        try rw [(show ((nI 0) + (nI 1)) = nI 1 from rf_eq (rf_nadd (x := nI 0) (y := nI 1) rfl rfl) (by omega))]
        refine ok_goto bJ1_indexOfChar_4cfef_28 ?_
        refine ok_step (ps := []) (L' := [some (.ref 1004), some (.int (nI b)), some (.int (nI 0)), some (.int (nI 4)), some (.int ((nI b).toInt8.toInt32)), some (.int (nI 1))]) (st' := [.int (nI 4), .int (nI 1)]) (σ' := (α, μ)) (pc' := 10) kJ1_indexOfChar_4cfef_7 rfl rfl rf_a0 ?_
        refine ok_icmp_ge bJ1_indexOfChar_4cfef_10 (fun h10 => absurd h10 ((by decide))) (fun _ => ?_)
        refine ok_step (ps := [rf_in (nI 1) 4]) (L' := [some (.ref 1004), some (.int (nI b)), some (.int (nI 0)), some (.int (nI 4)), some (.int ((nI b).toInt8.toInt32)), some (.int (nI 1))]) (st' := [.int ((nI b).toInt8.toInt32), .int (nI 108)]) (σ' := (α, μ)) (pc' := 19) kJ1_indexOfChar_4cfef_13 rfl rfl (rf_a1 (rf_in_n (a := 1) rfl (by omega)) rf_a0) ?_
        try rw [(show (nI 1).toNatClampNeg = 1 from rf_cl_n rfl (by omega))]
        refine ok_icmp_ne bJ1_indexOfChar_4cfef_19 (fun _ => ?_) (fun h19 => absurd h19 ((fun e => n108 (i108.mp e.symm))))
        refine ok_step (ps := []) (L' := [some (.ref 1004), some (.int (nI b)), some (.int (nI 0)), some (.int (nI 4)), some (.int ((nI b).toInt8.toInt32)), some (.int ((nI 1) + (nI 1)))]) (st' := []) (σ' := (α, μ)) (pc' := 28) kJ1_indexOfChar_4cfef_25 rfl rfl rf_a0 ?_
        try rw [(show ((nI 1) + (nI 1)) = nI 2 from rf_eq (rf_nadd (x := nI 1) (y := nI 1) rfl rfl) (by omega))]
        refine ok_goto bJ1_indexOfChar_4cfef_28 ?_
        refine ok_step (ps := []) (L' := [some (.ref 1004), some (.int (nI b)), some (.int (nI 0)), some (.int (nI 4)), some (.int ((nI b).toInt8.toInt32)), some (.int (nI 2))]) (st' := [.int (nI 4), .int (nI 2)]) (σ' := (α, μ)) (pc' := 10) kJ1_indexOfChar_4cfef_7 rfl rfl rf_a0 ?_
        refine ok_icmp_ge bJ1_indexOfChar_4cfef_10 (fun h10 => absurd h10 ((by decide))) (fun _ => ?_)
        refine ok_step (ps := [rf_in (nI 2) 4]) (L' := [some (.ref 1004), some (.int (nI b)), some (.int (nI 0)), some (.int (nI 4)), some (.int ((nI b).toInt8.toInt32)), some (.int (nI 2))]) (st' := [.int ((nI b).toInt8.toInt32), .int (nI 103)]) (σ' := (α, μ)) (pc' := 19) kJ1_indexOfChar_4cfef_13 rfl rfl (rf_a1 (rf_in_n (a := 2) rfl (by omega)) rf_a0) ?_
        try rw [(show (nI 2).toNatClampNeg = 2 from rf_cl_n rfl (by omega))]
        refine ok_icmp_ne bJ1_indexOfChar_4cfef_19 (fun h19 => absurd ((i103.mpr h103).symm) h19) (fun _ => ?_)
        refine ok_step (ps := []) (L' := [some (.ref 1004), some (.int (nI b)), some (.int (nI 0)), some (.int (nI 4)), some (.int ((nI b).toInt8.toInt32)), some (.int (nI 2))]) (st' := [.int (nI 2)]) (σ' := (α, μ)) (pc' := 24) kJ1_indexOfChar_4cfef_22 rfl rfl rf_a0 ?_
        refine ok_reti eJ1_indexOfChar_4cfef_24 rfl ?_
        exact ⟨by unfold nmi; rw [if_neg (by decide), if_neg (show ¬ nI b = 110 from fun e => n110 (nI_inj (b := 110) e (by omega) (by decide))), if_neg (show ¬ nI b = 108 from fun e => n108 (nI_inj (b := 108) e (by omega) (by decide))), if_pos (show nI b = 103 from congrArg nI h103)]; rfl, rfl⟩
      · have n103 : ¬ b = 103 := h103
        by_cases h98 : b = 98
        · refine ok_step (ps := []) (L' := [some (.ref 1004), some (.int (nI b)), some (.int (nI 0)), some (.int (nI 4)), some (.int ((nI b).toInt8.toInt32)), some (.int (nI 0))]) (st' := []) (σ' := (α, μ)) (pc' := 7) kJ1_indexOfChar_4cfef_0 rfl rfl rf_a0 ?_
          refine ok_step (ps := []) (L' := [some (.ref 1004), some (.int (nI b)), some (.int (nI 0)), some (.int (nI 4)), some (.int ((nI b).toInt8.toInt32)), some (.int (nI 0))]) (st' := [.int (nI 4), .int (nI 0)]) (σ' := (α, μ)) (pc' := 10) kJ1_indexOfChar_4cfef_7 rfl rfl rf_a0 ?_
          refine ok_icmp_ge bJ1_indexOfChar_4cfef_10 (fun h10 => absurd h10 ((by decide))) (fun _ => ?_)
          refine ok_step (ps := [rf_in (nI 0) 4]) (L' := [some (.ref 1004), some (.int (nI b)), some (.int (nI 0)), some (.int (nI 4)), some (.int ((nI b).toInt8.toInt32)), some (.int (nI 0))]) (st' := [.int ((nI b).toInt8.toInt32), .int (nI 110)]) (σ' := (α, μ)) (pc' := 19) kJ1_indexOfChar_4cfef_13 rfl rfl (rf_a1 (rf_in_n (a := 0) rfl (by omega)) rf_a0) ?_
          try rw [(show (nI 0).toNatClampNeg = 0 from rf_cl_n rfl (by omega))]
          refine ok_icmp_ne bJ1_indexOfChar_4cfef_19 (fun _ => ?_) (fun h19 => absurd h19 ((fun e => n110 (i110.mp e.symm))))
          refine ok_step (ps := []) (L' := [some (.ref 1004), some (.int (nI b)), some (.int (nI 0)), some (.int (nI 4)), some (.int ((nI b).toInt8.toInt32)), some (.int ((nI 0) + (nI 1)))]) (st' := []) (σ' := (α, μ)) (pc' := 28) kJ1_indexOfChar_4cfef_25 rfl rfl rf_a0 ?_
          try rw [(show ((nI 0) + (nI 1)) = nI 1 from rf_eq (rf_nadd (x := nI 0) (y := nI 1) rfl rfl) (by omega))]
          refine ok_goto bJ1_indexOfChar_4cfef_28 ?_
          refine ok_step (ps := []) (L' := [some (.ref 1004), some (.int (nI b)), some (.int (nI 0)), some (.int (nI 4)), some (.int ((nI b).toInt8.toInt32)), some (.int (nI 1))]) (st' := [.int (nI 4), .int (nI 1)]) (σ' := (α, μ)) (pc' := 10) kJ1_indexOfChar_4cfef_7 rfl rfl rf_a0 ?_
          refine ok_icmp_ge bJ1_indexOfChar_4cfef_10 (fun h10 => absurd h10 ((by decide))) (fun _ => ?_)
          refine ok_step (ps := [rf_in (nI 1) 4]) (L' := [some (.ref 1004), some (.int (nI b)), some (.int (nI 0)), some (.int (nI 4)), some (.int ((nI b).toInt8.toInt32)), some (.int (nI 1))]) (st' := [.int ((nI b).toInt8.toInt32), .int (nI 108)]) (σ' := (α, μ)) (pc' := 19) kJ1_indexOfChar_4cfef_13 rfl rfl (rf_a1 (rf_in_n (a := 1) rfl (by omega)) rf_a0) ?_
          try rw [(show (nI 1).toNatClampNeg = 1 from rf_cl_n rfl (by omega))]
          refine ok_icmp_ne bJ1_indexOfChar_4cfef_19 (fun _ => ?_) (fun h19 => absurd h19 ((fun e => n108 (i108.mp e.symm))))
          refine ok_step (ps := []) (L' := [some (.ref 1004), some (.int (nI b)), some (.int (nI 0)), some (.int (nI 4)), some (.int ((nI b).toInt8.toInt32)), some (.int ((nI 1) + (nI 1)))]) (st' := []) (σ' := (α, μ)) (pc' := 28) kJ1_indexOfChar_4cfef_25 rfl rfl rf_a0 ?_
          try rw [(show ((nI 1) + (nI 1)) = nI 2 from rf_eq (rf_nadd (x := nI 1) (y := nI 1) rfl rfl) (by omega))]
          refine ok_goto bJ1_indexOfChar_4cfef_28 ?_
          refine ok_step (ps := []) (L' := [some (.ref 1004), some (.int (nI b)), some (.int (nI 0)), some (.int (nI 4)), some (.int ((nI b).toInt8.toInt32)), some (.int (nI 2))]) (st' := [.int (nI 4), .int (nI 2)]) (σ' := (α, μ)) (pc' := 10) kJ1_indexOfChar_4cfef_7 rfl rfl rf_a0 ?_
          refine ok_icmp_ge bJ1_indexOfChar_4cfef_10 (fun h10 => absurd h10 ((by decide))) (fun _ => ?_)
          refine ok_step (ps := [rf_in (nI 2) 4]) (L' := [some (.ref 1004), some (.int (nI b)), some (.int (nI 0)), some (.int (nI 4)), some (.int ((nI b).toInt8.toInt32)), some (.int (nI 2))]) (st' := [.int ((nI b).toInt8.toInt32), .int (nI 103)]) (σ' := (α, μ)) (pc' := 19) kJ1_indexOfChar_4cfef_13 rfl rfl (rf_a1 (rf_in_n (a := 2) rfl (by omega)) rf_a0) ?_
          try rw [(show (nI 2).toNatClampNeg = 2 from rf_cl_n rfl (by omega))]
          refine ok_icmp_ne bJ1_indexOfChar_4cfef_19 (fun _ => ?_) (fun h19 => absurd h19 ((fun e => n103 (i103.mp e.symm))))
          refine ok_step (ps := []) (L' := [some (.ref 1004), some (.int (nI b)), some (.int (nI 0)), some (.int (nI 4)), some (.int ((nI b).toInt8.toInt32)), some (.int ((nI 2) + (nI 1)))]) (st' := []) (σ' := (α, μ)) (pc' := 28) kJ1_indexOfChar_4cfef_25 rfl rfl rf_a0 ?_
          try rw [(show ((nI 2) + (nI 1)) = nI 3 from rf_eq (rf_nadd (x := nI 2) (y := nI 1) rfl rfl) (by omega))]
          refine ok_goto bJ1_indexOfChar_4cfef_28 ?_
          refine ok_step (ps := []) (L' := [some (.ref 1004), some (.int (nI b)), some (.int (nI 0)), some (.int (nI 4)), some (.int ((nI b).toInt8.toInt32)), some (.int (nI 3))]) (st' := [.int (nI 4), .int (nI 3)]) (σ' := (α, μ)) (pc' := 10) kJ1_indexOfChar_4cfef_7 rfl rfl rf_a0 ?_
          refine ok_icmp_ge bJ1_indexOfChar_4cfef_10 (fun h10 => absurd h10 ((by decide))) (fun _ => ?_)
          refine ok_step (ps := [rf_in (nI 3) 4]) (L' := [some (.ref 1004), some (.int (nI b)), some (.int (nI 0)), some (.int (nI 4)), some (.int ((nI b).toInt8.toInt32)), some (.int (nI 3))]) (st' := [.int ((nI b).toInt8.toInt32), .int (nI 98)]) (σ' := (α, μ)) (pc' := 19) kJ1_indexOfChar_4cfef_13 rfl rfl (rf_a1 (rf_in_n (a := 3) rfl (by omega)) rf_a0) ?_
          try rw [(show (nI 3).toNatClampNeg = 3 from rf_cl_n rfl (by omega))]
          refine ok_icmp_ne bJ1_indexOfChar_4cfef_19 (fun h19 => absurd ((i98.mpr h98).symm) h19) (fun _ => ?_)
          refine ok_step (ps := []) (L' := [some (.ref 1004), some (.int (nI b)), some (.int (nI 0)), some (.int (nI 4)), some (.int ((nI b).toInt8.toInt32)), some (.int (nI 3))]) (st' := [.int (nI 3)]) (σ' := (α, μ)) (pc' := 24) kJ1_indexOfChar_4cfef_22 rfl rfl rf_a0 ?_
          refine ok_reti eJ1_indexOfChar_4cfef_24 rfl ?_
          exact ⟨by unfold nmi; rw [if_neg (by decide), if_neg (show ¬ nI b = 110 from fun e => n110 (nI_inj (b := 110) e (by omega) (by decide))), if_neg (show ¬ nI b = 108 from fun e => n108 (nI_inj (b := 108) e (by omega) (by decide))), if_neg (show ¬ nI b = 103 from fun e => n103 (nI_inj (b := 103) e (by omega) (by decide))), if_pos (show nI b = 98 from congrArg nI h98)]; rfl, rfl⟩
        · have n98 : ¬ b = 98 := h98
          refine ok_step (ps := []) (L' := [some (.ref 1004), some (.int (nI b)), some (.int (nI 0)), some (.int (nI 4)), some (.int ((nI b).toInt8.toInt32)), some (.int (nI 0))]) (st' := []) (σ' := (α, μ)) (pc' := 7) kJ1_indexOfChar_4cfef_0 rfl rfl rf_a0 ?_
          refine ok_step (ps := []) (L' := [some (.ref 1004), some (.int (nI b)), some (.int (nI 0)), some (.int (nI 4)), some (.int ((nI b).toInt8.toInt32)), some (.int (nI 0))]) (st' := [.int (nI 4), .int (nI 0)]) (σ' := (α, μ)) (pc' := 10) kJ1_indexOfChar_4cfef_7 rfl rfl rf_a0 ?_
          refine ok_icmp_ge bJ1_indexOfChar_4cfef_10 (fun h10 => absurd h10 ((by decide))) (fun _ => ?_)
          refine ok_step (ps := [rf_in (nI 0) 4]) (L' := [some (.ref 1004), some (.int (nI b)), some (.int (nI 0)), some (.int (nI 4)), some (.int ((nI b).toInt8.toInt32)), some (.int (nI 0))]) (st' := [.int ((nI b).toInt8.toInt32), .int (nI 110)]) (σ' := (α, μ)) (pc' := 19) kJ1_indexOfChar_4cfef_13 rfl rfl (rf_a1 (rf_in_n (a := 0) rfl (by omega)) rf_a0) ?_
          try rw [(show (nI 0).toNatClampNeg = 0 from rf_cl_n rfl (by omega))]
          refine ok_icmp_ne bJ1_indexOfChar_4cfef_19 (fun _ => ?_) (fun h19 => absurd h19 ((fun e => n110 (i110.mp e.symm))))
          refine ok_step (ps := []) (L' := [some (.ref 1004), some (.int (nI b)), some (.int (nI 0)), some (.int (nI 4)), some (.int ((nI b).toInt8.toInt32)), some (.int ((nI 0) + (nI 1)))]) (st' := []) (σ' := (α, μ)) (pc' := 28) kJ1_indexOfChar_4cfef_25 rfl rfl rf_a0 ?_
          try rw [(show ((nI 0) + (nI 1)) = nI 1 from rf_eq (rf_nadd (x := nI 0) (y := nI 1) rfl rfl) (by omega))]
          refine ok_goto bJ1_indexOfChar_4cfef_28 ?_
          refine ok_step (ps := []) (L' := [some (.ref 1004), some (.int (nI b)), some (.int (nI 0)), some (.int (nI 4)), some (.int ((nI b).toInt8.toInt32)), some (.int (nI 1))]) (st' := [.int (nI 4), .int (nI 1)]) (σ' := (α, μ)) (pc' := 10) kJ1_indexOfChar_4cfef_7 rfl rfl rf_a0 ?_
          refine ok_icmp_ge bJ1_indexOfChar_4cfef_10 (fun h10 => absurd h10 ((by decide))) (fun _ => ?_)
          refine ok_step (ps := [rf_in (nI 1) 4]) (L' := [some (.ref 1004), some (.int (nI b)), some (.int (nI 0)), some (.int (nI 4)), some (.int ((nI b).toInt8.toInt32)), some (.int (nI 1))]) (st' := [.int ((nI b).toInt8.toInt32), .int (nI 108)]) (σ' := (α, μ)) (pc' := 19) kJ1_indexOfChar_4cfef_13 rfl rfl (rf_a1 (rf_in_n (a := 1) rfl (by omega)) rf_a0) ?_
          try rw [(show (nI 1).toNatClampNeg = 1 from rf_cl_n rfl (by omega))]
          refine ok_icmp_ne bJ1_indexOfChar_4cfef_19 (fun _ => ?_) (fun h19 => absurd h19 ((fun e => n108 (i108.mp e.symm))))
          refine ok_step (ps := []) (L' := [some (.ref 1004), some (.int (nI b)), some (.int (nI 0)), some (.int (nI 4)), some (.int ((nI b).toInt8.toInt32)), some (.int ((nI 1) + (nI 1)))]) (st' := []) (σ' := (α, μ)) (pc' := 28) kJ1_indexOfChar_4cfef_25 rfl rfl rf_a0 ?_
          try rw [(show ((nI 1) + (nI 1)) = nI 2 from rf_eq (rf_nadd (x := nI 1) (y := nI 1) rfl rfl) (by omega))]
          refine ok_goto bJ1_indexOfChar_4cfef_28 ?_
          refine ok_step (ps := []) (L' := [some (.ref 1004), some (.int (nI b)), some (.int (nI 0)), some (.int (nI 4)), some (.int ((nI b).toInt8.toInt32)), some (.int (nI 2))]) (st' := [.int (nI 4), .int (nI 2)]) (σ' := (α, μ)) (pc' := 10) kJ1_indexOfChar_4cfef_7 rfl rfl rf_a0 ?_
          refine ok_icmp_ge bJ1_indexOfChar_4cfef_10 (fun h10 => absurd h10 ((by decide))) (fun _ => ?_)
          refine ok_step (ps := [rf_in (nI 2) 4]) (L' := [some (.ref 1004), some (.int (nI b)), some (.int (nI 0)), some (.int (nI 4)), some (.int ((nI b).toInt8.toInt32)), some (.int (nI 2))]) (st' := [.int ((nI b).toInt8.toInt32), .int (nI 103)]) (σ' := (α, μ)) (pc' := 19) kJ1_indexOfChar_4cfef_13 rfl rfl (rf_a1 (rf_in_n (a := 2) rfl (by omega)) rf_a0) ?_
          try rw [(show (nI 2).toNatClampNeg = 2 from rf_cl_n rfl (by omega))]
          refine ok_icmp_ne bJ1_indexOfChar_4cfef_19 (fun _ => ?_) (fun h19 => absurd h19 ((fun e => n103 (i103.mp e.symm))))
          refine ok_step (ps := []) (L' := [some (.ref 1004), some (.int (nI b)), some (.int (nI 0)), some (.int (nI 4)), some (.int ((nI b).toInt8.toInt32)), some (.int ((nI 2) + (nI 1)))]) (st' := []) (σ' := (α, μ)) (pc' := 28) kJ1_indexOfChar_4cfef_25 rfl rfl rf_a0 ?_
          try rw [(show ((nI 2) + (nI 1)) = nI 3 from rf_eq (rf_nadd (x := nI 2) (y := nI 1) rfl rfl) (by omega))]
          refine ok_goto bJ1_indexOfChar_4cfef_28 ?_
          refine ok_step (ps := []) (L' := [some (.ref 1004), some (.int (nI b)), some (.int (nI 0)), some (.int (nI 4)), some (.int ((nI b).toInt8.toInt32)), some (.int (nI 3))]) (st' := [.int (nI 4), .int (nI 3)]) (σ' := (α, μ)) (pc' := 10) kJ1_indexOfChar_4cfef_7 rfl rfl rf_a0 ?_
          refine ok_icmp_ge bJ1_indexOfChar_4cfef_10 (fun h10 => absurd h10 ((by decide))) (fun _ => ?_)
          refine ok_step (ps := [rf_in (nI 3) 4]) (L' := [some (.ref 1004), some (.int (nI b)), some (.int (nI 0)), some (.int (nI 4)), some (.int ((nI b).toInt8.toInt32)), some (.int (nI 3))]) (st' := [.int ((nI b).toInt8.toInt32), .int (nI 98)]) (σ' := (α, μ)) (pc' := 19) kJ1_indexOfChar_4cfef_13 rfl rfl (rf_a1 (rf_in_n (a := 3) rfl (by omega)) rf_a0) ?_
          try rw [(show (nI 3).toNatClampNeg = 3 from rf_cl_n rfl (by omega))]
          refine ok_icmp_ne bJ1_indexOfChar_4cfef_19 (fun _ => ?_) (fun h19 => absurd h19 ((fun e => n98 (i98.mp e.symm))))
          refine ok_step (ps := []) (L' := [some (.ref 1004), some (.int (nI b)), some (.int (nI 0)), some (.int (nI 4)), some (.int ((nI b).toInt8.toInt32)), some (.int ((nI 3) + (nI 1)))]) (st' := []) (σ' := (α, μ)) (pc' := 28) kJ1_indexOfChar_4cfef_25 rfl rfl rf_a0 ?_
          try rw [(show ((nI 3) + (nI 1)) = nI 4 from rf_eq (rf_nadd (x := nI 3) (y := nI 1) rfl rfl) (by omega))]
          refine ok_goto bJ1_indexOfChar_4cfef_28 ?_
          refine ok_step (ps := []) (L' := [some (.ref 1004), some (.int (nI b)), some (.int (nI 0)), some (.int (nI 4)), some (.int ((nI b).toInt8.toInt32)), some (.int (nI 4))]) (st' := [.int (nI 4), .int (nI 4)]) (σ' := (α, μ)) (pc' := 10) kJ1_indexOfChar_4cfef_7 rfl rfl rf_a0 ?_
          refine ok_icmp_ge bJ1_indexOfChar_4cfef_10 (fun _ => ?_) (fun h10 => absurd ((by decide)) h10)
          refine ok_step (ps := []) (L' := [some (.ref 1004), some (.int (nI b)), some (.int (nI 0)), some (.int (nI 4)), some (.int ((nI b).toInt8.toInt32)), some (.int (nI 4))]) (st' := [.int (-1)]) (σ' := (α, μ)) (pc' := 32) kJ1_indexOfChar_4cfef_31 rfl rfl rf_a0 ?_
          refine ok_reti eJ1_indexOfChar_4cfef_32 rfl ?_
          exact ⟨by unfold nmi; rw [if_neg (by decide), if_neg (show ¬ nI b = 110 from fun e => n110 (nI_inj (b := 110) e (by omega) (by decide))), if_neg (show ¬ nI b = 108 from fun e => n108 (nI_inj (b := 108) e (by omega) (by decide))), if_neg (show ¬ nI b = 103 from fun e => n103 (nI_inj (b := 103) e (by omega) (by decide))), if_neg (show ¬ nI b = 98 from fun e => n98 (nI_inj (b := 98) e (by omega) (by decide)))], rfl⟩
theorem j_idx1 {b : Nat} (hb : b ≤ 255) : rf_At (rf_T Ln xs) MJ1_indexOf_4cfef 2 0 ([some (.ref 1004), some (.int (nI b)), some (.int (nI 0)), some (.int (nI 4))], [], 108, (α, μ)) (some (.int (nmi 1 (nI b)))) 108 (α, μ) := by
  refine rf_pa ?_
  refine ok_step (ps := []) (L' := [some (.ref 1004), some (.int (nI b)), some (.int (nI 0)), some (.int (nI 4))]) (st' := [.int (nI b)]) (σ' := (α, μ)) (pc' := 1) kJ1_indexOf_4cfef_0 rfl rfl rf_a0 ?_
  refine ok_S (As := [.int (nI b)]) (st := []) mkJ1_canEncode_9a6ad qJ1_indexOf_4cfef_1 rfl rfl rfl rfl rfl (Nat.le_of_ble_eq_true rfl) (j_can hb) ?_
  refine ok_if_ne bJ1_indexOf_4cfef_4 (fun _ => ?_) (fun h4 => absurd h4 ((by decide)))
  refine ok_step (ps := []) (L' := [some (.ref 1004), some (.int (nI b)), some (.int (rf_max (nI 0) (nI 0))), some (.int (rf_min (nI 4) (nI 4)))]) (st' := [.int (rf_min (nI 4) (nI 4)), .int (rf_max (nI 0) (nI 0))]) (σ' := (α, μ)) (pc' := 24) kJ1_indexOf_4cfef_9 rfl rfl rf_a0 ?_
  try rw [(show (rf_max (nI 0) (nI 0)) = nI 0 from rfl)]
  try rw [(show (rf_min (nI 4) (nI 4)) = nI 4 from rfl)]
  refine ok_icmp_lt bJ1_indexOf_4cfef_24 (fun _ => ?_) (fun h24 => absurd ((by decide)) h24)
  refine ok_step (ps := []) (L' := [some (.ref 1004), some (.int (nI b)), some (.int (nI 0)), some (.int (nI 4))]) (st' := [.int (nI 4), .int (nI 0), .int (nI b), .ref 1004]) (σ' := (α, μ)) (pc' := 33) kJ1_indexOf_4cfef_29 rfl rfl rf_a0 ?_
  refine ok_S (As := [.ref 1004, .int (nI b), .int (nI 0), .int (nI 4)]) (st := []) mkJ1_indexOfChar_4cfef qJ1_indexOf_4cfef_33 rfl rfl rfl rfl rfl (Nat.le_of_ble_eq_true rfl) (j_idc1 hb) ?_
  refine ok_reti eJ1_indexOf_4cfef_36 rfl ?_
  exact ⟨rfl, rfl⟩
theorem j_ind1 {b : Nat} (hb : b ≤ 255) : rf_At (rf_T Ln xs) MJ0_indexOf_7cf53 3 0 ([some (.ref 1006), some (.int (nI b)), some (.int (nI 0))], [], 108, (α, μ)) (some (.int (nmi 1 (nI b)))) 108 (α, μ) := by
  refine rf_pa ?_
  refine ok_step (ps := []) (L' := [some (.ref 1006), some (.int (nI b)), some (.int (nI 0))]) (st' := [.ref 1006]) (σ' := (α, μ)) (pc' := 1) kJ0_indexOf_7cf53_0 rfl rfl rf_a0 ?_
  refine ok_V (As := []) (b := 1006) (st := []) mkJ0_isLatin1_aae02 qJ0_indexOf_7cf53_1 rfl (rfl) rfl rfl rfl rfl (Nat.le_of_ble_eq_true rfl) (j_lat1) ?_
  refine ok_if_eq bJ0_indexOf_7cf53_4 (fun h4 => absurd h4 ((by decide))) (fun _ => ?_)
  refine ok_step (ps := []) (L' := [some (.ref 1006), some (.int (nI b)), some (.int (nI 0))]) (st' := [.ref 1006, .int (nI 0), .int (nI b), .ref 1004]) (σ' := (α, μ)) (pc' := 14) kJ0_indexOf_7cf53_7 rfl rfl rf_a0 ?_
  refine ok_V (As := []) (b := 1006) (st := [.int (nI 0), .int (nI b), .ref 1004]) mkJ0_length_8abf5 qJ0_indexOf_7cf53_14 rfl (rfl) rfl rfl rfl rfl (Nat.le_of_ble_eq_true rfl) (j_len1) ?_
  refine ok_S (As := [.ref 1004, .int (nI b), .int (nI 0), .int (nI 4)]) (st := []) mkJ1_indexOf_4cfef qJ0_indexOf_7cf53_17 rfl rfl rfl rfl rfl (Nat.le_of_ble_eq_true rfl) (j_idx1 hb) ?_
  refine ok_goto bJ0_indexOf_7cf53_20 ?_
  refine ok_reti eJ0_indexOf_7cf53_36 rfl ?_
  exact ⟨rfl, rfl⟩
theorem j_of1 {b : Nat} (hb : b ≤ 255) : rf_At (rf_T Ln xs) MJ0_indexOf_0f7a4 4 0 ([some (.ref 1006), some (.int (nI b))], [], 108, (α, μ)) (some (.int (nmi 1 (nI b)))) 108 (α, μ) := by
  refine rf_pa ?_
  refine ok_step (ps := []) (L' := [some (.ref 1006), some (.int (nI b))]) (st' := [.int (nI 0), .int (nI b), .ref 1006]) (σ' := (α, μ)) (pc' := 3) kJ0_indexOf_0f7a4_0 rfl rfl rf_a0 ?_
  refine ok_V (As := [.int (nI b), .int (nI 0)]) (b := 1006) (st := []) mkJ0_indexOf_7cf53 qJ0_indexOf_0f7a4_3 rfl (rfl) rfl rfl rfl rfl (Nat.le_of_ble_eq_true rfl) (j_ind1 hb) ?_
  refine ok_reti eJ0_indexOf_0f7a4_6 rfl ?_
  exact ⟨rfl, rfl⟩
end H55
