theorem bd_90_ : ∀ i, i < 4 → bd (90 + 13 * i) = some 6 := by decide +kernel
theorem bd_90 {i k : Nat} (hi : i < 4) (hk : k = 90 + 13 * i) : bd k = some 6 := by
  subst hk
  exact bd_90_ i hi
theorem bd_150_ : ∀ i, i < 12 → bd (150 + 3 * i) = some 3 := by decide +kernel
theorem bd_150 {i k : Nat} (hi : i < 12) (hk : k = 150 + 3 * i) : bd k = some 3 := by
  subst hk
  exact bd_150_ i hi
theorem bd_151_ : ∀ i, i < 12 → bd (151 + 3 * i) = some 1199 := by decide +kernel
theorem bd_151 {i k : Nat} (hi : i < 12) (hk : k = 151 + 3 * i) : bd k = some 1199 := by
  subst hk
  exact bd_151_ i hi
theorem bd_152_ : ∀ i, i < 12 → bd (152 + 3 * i) = some 1 := by decide +kernel
theorem bd_152 {i k : Nat} (hi : i < 12) (hk : k = 152 + 3 * i) : bd k = some 1 := by
  subst hk
  exact bd_152_ i hi
theorem bd_190_ : ∀ i, i < 16 → bd (190 + 8 * i) = some 7 := by decide +kernel
theorem bd_190 {i k : Nat} (hi : i < 16) (hk : k = 190 + 8 * i) : bd k = some 7 := by
  subst hk
  exact bd_190_ i hi
theorem bd_191_ : ∀ i, i < 16 → bd (191 + 8 * i) = some 11 := by decide +kernel
theorem bd_191 {i k : Nat} (hi : i < 16) (hk : k = 191 + 8 * i) : bd k = some 11 := by
  subst hk
  exact bd_191_ i hi
theorem bd_192_ : ∀ i, i < 16 → bd (192 + 8 * i) = some 5 := by decide +kernel
theorem bd_192 {i k : Nat} (hi : i < 16) (hk : k = 192 + 8 * i) : bd k = some 5 := by
  subst hk
  exact bd_192_ i hi
theorem bd_193_ : ∀ i, i < 16 → bd (193 + 8 * i) = some 5 := by decide +kernel
theorem bd_193 {i k : Nat} (hi : i < 16) (hk : k = 193 + 8 * i) : bd k = some 5 := by
  subst hk
  exact bd_193_ i hi
theorem bd_194_ : ∀ i, i < 16 → bd (194 + 8 * i) = some 999 := by decide +kernel
theorem bd_194 {i k : Nat} (hi : i < 16) (hk : k = 194 + 8 * i) : bd k = some 999 := by
  subst hk
  exact bd_194_ i hi
theorem bd_195_ : ∀ i, i < 16 → bd (195 + 8 * i) = some 9 := by decide +kernel
theorem bd_195 {i k : Nat} (hi : i < 16) (hk : k = 195 + 8 * i) : bd k = some 9 := by
  subst hk
  exact bd_195_ i hi
theorem bd_196_ : ∀ i, i < 16 → bd (196 + 8 * i) = some 9 := by decide +kernel
theorem bd_196 {i k : Nat} (hi : i < 16) (hk : k = 196 + 8 * i) : bd k = some 9 := by
  subst hk
  exact bd_196_ i hi
theorem bd_197_ : ∀ i, i < 16 → bd (197 + 8 * i) = some 429 := by decide +kernel
theorem bd_197 {i k : Nat} (hi : i < 16) (hk : k = 197 + 8 * i) : bd k = some 429 := by
  subst hk
  exact bd_197_ i hi
theorem bd_320_ : ∀ i, i < 8 → bd (320 + i) = some 4095 := by decide +kernel
theorem bd_320 {i k : Nat} (hi : i < 8) (hk : k = 320 + i) : bd k = some 4095 := by
  subst hk
  exact bd_320_ i hi
theorem bd_330_ : ∀ i, i < 8 → bd (330 + i) = some 9 := by decide +kernel
theorem bd_330 {i k : Nat} (hi : i < 8) (hk : k = 330 + i) : bd k = some 9 := by
  subst hk
  exact bd_330_ i hi
theorem bd_340_ : ∀ i, i < 60 → bd (340 + 3 * i) = some 7 := by decide +kernel
theorem bd_340 {i k : Nat} (hi : i < 60) (hk : k = 340 + 3 * i) : bd k = some 7 := by
  subst hk
  exact bd_340_ i hi
theorem bd_341_ : ∀ i, i < 60 → bd (341 + 3 * i) = some 15984 := by decide +kernel
theorem bd_341 {i k : Nat} (hi : i < 60) (hk : k = 341 + 3 * i) : bd k = some 15984 := by
  subst hk
  exact bd_341_ i hi
theorem bd_342_ : ∀ i, i < 60 → bd (342 + 3 * i) = some 1150848 := by decide +kernel
theorem bd_342 {i k : Nat} (hi : i < 60) (hk : k = 342 + 3 * i) : bd k = some 1150848 := by
  subst hk
  exact bd_342_ i hi
section IVX
variable {d : Nat → Int32}
theorem Iv.atb (h : Iv d) {k b : Nat} (hk : bd k = some b) (hb : b < 2 ^ 31) : d k = nI (cn d k) := (h.1.at hk hb).2
theorem Iv.leb (h : Iv d) {k b : Nat} (hk : bd k = some b) (hb : b < 2 ^ 31) : cn d k ≤ b := (h.1.at hk hb).1
theorem Iv.at0 (h : Iv d) : d 0 = nI (cn d 0) := h.atb (b := 399) rfl (by decide)
theorem Iv.le0 (h : Iv d) : cn d 0 ≤ 399 := h.leb (b := 399) rfl (by decide)
theorem Iv.at1 (h : Iv d) : d 1 = nI (cn d 1) := h.atb (b := 8) rfl (by decide)
theorem Iv.le1 (h : Iv d) : cn d 1 ≤ 8 := h.leb (b := 8) rfl (by decide)
theorem Iv.at2 (h : Iv d) : d 2 = nI (cn d 2) := h.atb (b := 4) rfl (by decide)
theorem Iv.le2 (h : Iv d) : cn d 2 ≤ 4 := h.leb (b := 4) rfl (by decide)
theorem Iv.at3 (h : Iv d) : d 3 = nI (cn d 3) := h.atb (b := 12) rfl (by decide)
theorem Iv.le3 (h : Iv d) : cn d 3 ≤ 12 := h.leb (b := 12) rfl (by decide)
theorem Iv.at4 (h : Iv d) : d 4 = nI (cn d 4) := h.atb (b := 16) rfl (by decide)
theorem Iv.le4 (h : Iv d) : cn d 4 ≤ 16 := h.leb (b := 16) rfl (by decide)
theorem Iv.at5 (h : Iv d) : d 5 = nI (cn d 5) := h.atb (b := 8) rfl (by decide)
theorem Iv.le5 (h : Iv d) : cn d 5 ≤ 8 := h.leb (b := 8) rfl (by decide)
theorem Iv.at6 (h : Iv d) : d 6 = nI (cn d 6) := h.atb (b := 60) rfl (by decide)
theorem Iv.le6 (h : Iv d) : cn d 6 ≤ 60 := h.leb (b := 60) rfl (by decide)
theorem Iv.at7 (h : Iv d) : d 7 = nI (cn d 7) := h.atb (b := 1999999999) rfl (by decide)
theorem Iv.le7 (h : Iv d) : cn d 7 ≤ 1999999999 := h.leb (b := 1999999999) rfl (by decide)
theorem Iv.at8 (h : Iv d) : d 8 = nI (cn d 8) := h.atb (b := 99) rfl (by decide)
theorem Iv.le8 (h : Iv d) : cn d 8 ≤ 99 := h.leb (b := 99) rfl (by decide)
theorem Iv.at9 (h : Iv d) : d 9 = nI (cn d 9) := h.atb (b := 999) rfl (by decide)
theorem Iv.le9 (h : Iv d) : cn d 9 ≤ 999 := h.leb (b := 999) rfl (by decide)
theorem Iv.at11 (h : Iv d) : d 11 = nI (cn d 11) := h.atb (b := 50) rfl (by decide)
theorem Iv.le11 (h : Iv d) : cn d 11 ≤ 50 := h.leb (b := 50) rfl (by decide)
theorem Iv.at12 (h : Iv d) : d 12 = nI (cn d 12) := h.atb (b := 20) rfl (by decide)
theorem Iv.le12 (h : Iv d) : cn d 12 ≤ 20 := h.leb (b := 20) rfl (by decide)
theorem Iv.at520 (h : Iv d) : d 520 = nI (cn d 520) := h.atb (b := 50) rfl (by decide)
theorem Iv.le520 (h : Iv d) : cn d 520 ≤ 50 := h.leb (b := 50) rfl (by decide)
theorem Iv.at521 (h : Iv d) : d 521 = nI (cn d 521) := h.atb (b := 50) rfl (by decide)
theorem Iv.le521 (h : Iv d) : cn d 521 ≤ 50 := h.leb (b := 50) rfl (by decide)
end IVX
