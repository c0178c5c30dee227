/-! THE PURE SIDE. Cells by place. The class (MC): 1 Reader (2 place, 3 start, 4 sort, 5 value, 6 longestTold, 7 chairTold), 2 Text (1 size), 3 bytes, 4 draft (3 people, 4 longest, 5 chair), 5 secrets, 6 weekSizes, 7 weeks; 8 Times (2 known), 9 present (4 day, 5 chair; 10 sizes, 11 made, 12 hair, 13 swept), 14 past, 15 + 5 j its moments; 65 images, 66 and 123 Times as 8; 180 kept; 181 Clues (3 seenSize, 4 heardSize), 182 seen, 183 heardThoughts, 184 heardLayers; 185 Strand (3 fewest, 4 later, 5 hairSize, 6 wholeSize, 7 longest), 186 counts, 187 coming, 188 thoughts, 189, 190; 191 Town as 4; 195 places; 196 shares. The reference (MM): 197 (0 people, 4 longest, 8 seenMany, 10 heardMany, 14 texted, 15 cursor, 16 start, 17 token, 18 number, 19 isWrong, 20 items, 21 saidPeople, 25 saidLongest, 26 saidJar, 28 begins, 29 ends), 198 secrets, 199 weekMany, 200 weeks, 201 st, 202 images, 203 isKept, 204 seen, 205 heard, 206 text, 207 saidSecret, 208 saidMany, 209 saidWeek, 210 tried, 211 nextOnes. -/
-- numbers
theorem i_0 : (0 : Int32) = nI 0 := rfl
theorem i_1 : (1 : Int32) = nI 1 := rfl
theorem i_2 : (2 : Int32) = nI 2 := rfl
theorem i_3 : (3 : Int32) = nI 3 := rfl
theorem i_4 : (4 : Int32) = nI 4 := rfl
theorem i_5 : (5 : Int32) = nI 5 := rfl
theorem i_6 : (6 : Int32) = nI 6 := rfl
theorem i_7 : (7 : Int32) = nI 7 := rfl
theorem i_8 : (8 : Int32) = nI 8 := rfl
theorem i_9 : (9 : Int32) = nI 9 := rfl
theorem i_10 : (10 : Int32) = nI 10 := rfl
theorem i_11 : (11 : Int32) = nI 11 := rfl
theorem i_12 : (12 : Int32) = nI 12 := rfl
theorem i_35 : (35 : Int32) = nI 35 := rfl
theorem i_60 : (60 : Int32) = nI 60 := rfl
theorem i_67 : (67 : Int32) = nI 67 := rfl
theorem i_72 : (72 : Int32) = nI 72 := rfl
theorem i_99 : (99 : Int32) = nI 99 := rfl
theorem i_112 : (112 : Int32) = nI 112 := rfl
theorem i_113 : (113 : Int32) = nI 113 := rfl
theorem i_120 : (120 : Int32) = nI 120 := rfl
theorem i_255 : (255 : Int32) = nI 255 := rfl
theorem i_999 : (999 : Int32) = nI 999 := rfl
theorem i_1121 : (1121 : Int32) = nI 1121 := rfl
theorem i_1233 : (1233 : Int32) = nI 1233 := rfl
theorem ldA_n {n j : Nat} (f : Nat → Int32) (h : j < n) (hn : n < 2147483648) : ldA n f (nI j) = some (f j) := by
  have hc : (nI j).toNatClampNeg = j := nI_clamp (by omega)
  unfold ldA
  rw [if_neg (nI_in h hn), hc]
theorem stA_n {n j : Nat} (M : Mem) (o : Nat) (x : Int32) (h : j < n) (hn : n < 2147483648) : stA n M o (nI j) x = some (us M o j x) := by
  have hc : (nI j).toNatClampNeg = j := nI_clamp (by omega)
  unfold stA
  rw [if_neg (nI_in h hn), hc]
theorem stZ_n {n j : Nat} (M : Mem) (o : Nat) {x : Int32} (hx : x = 0 ∨ x = 1) (h : j < n) (hn : n < 2147483648) : stZ n M o (nI j) x = some (us M o j x) := by
  have hc : (nI j).toNatClampNeg = j := nI_clamp (by omega)
  unfold stZ
  rw [if_neg (by rw [not_or]; exact ⟨nI_in h hn, fun q => q hx⟩), hc]
theorem ldR_n {kn n j c : Nat} (f : Nat → Int32) (h : j < n) (hn : n < 2147483648) (hf : f j = nI c) (hc : c < 2147483648) (hk : (kd c).1 = kn) : ldR kn n f (nI j) = some (nI c) := by
  have h1 : (nI j).toNatClampNeg = j := nI_clamp (by omega)
  have h2 : (nI c).toNatClampNeg = c := nI_clamp hc
  unfold ldR
  rw [if_neg (nI_in h hn), h1, hf, h2, if_pos hk]
theorem zr_0 : zr 0 = some 0 := by decide
theorem zr_1 : zr 1 = some 1 := by decide
theorem nz_n {j : Nat} (h : 0 < j) (hj : j < 2147483648) : nz (nI j) = some (nI j) := if_neg (nI_ne0 h hj)
theorem us_app (M : Mem) (o i : Nat) (v : Int32) (a j : Nat) : us M o i v a j = if a = o ∧ j = i then v else M a j := by
  by_cases h : a = o
  · subst h
    rw [us_at]
    by_cases h2 : j = i
    · subst h2; rw [pk_us, if_pos ⟨rfl, rfl⟩]
    · rw [pk_un h2, if_neg (fun q => h2 q.2)]
  · rw [us_ne _ _ _ h, if_neg (fun q => h q.1)]
theorem nI_inj {a b : Nat} (ha : a < 2147483648) (hb : b < 2147483648) (h : nI a = nI b) : a = b := (nI_eq ha hb).mp h
theorem lt_nn (x : Int32) : (0 ≤ x) ↔ ¬ x < 0 := by rw [Int32.not_lt]
theorem rng {x : Int32} {n : Nat} (hn : n < 2147483648) : (¬ x < nI 0 ∧ ¬ nI n - nI 1 < x) ↔ ∃ p, p < n ∧ x = nI p := by
  constructor
  · rintro ⟨h1, h2⟩
    obtain ⟨j, hj, rfl⟩ := nI_of (show ¬ x < 0 from h1)
    refine ⟨j, ?_, rfl⟩
    rcases Nat.eq_zero_or_pos n with rfl | hp
    · exfalso
      apply h2
      rw [Int32.lt_iff_toInt_lt, nI_toInt hj]
      have : (nI 0 - nI 1).toInt = -1 := by decide
      rw [this]; omega
    · have e : nI n - nI 1 = nI (n - 1) := pk_sub hp
      rw [e] at h2
      rcases Nat.lt_or_ge j n with q | q
      · exact q
      · exact absurd (nI_lt (a := n - 1) (b := j) (by omega) (by omega)) h2
  · rintro ⟨p, hp, rfl⟩
    refine ⟨nI_pos (by omega), ?_⟩
    have e : nI n - nI 1 = nI (n - 1) := pk_sub (by omega)
    rw [e]
    exact nI_nlt (by omega) (by omega)
theorem rng2 {x : Int32} {n : Nat} (hn : n + 1 < 2147483648) : (¬ x < nI 0 ∧ ¬ nI n < x) ↔ ∃ p, p ≤ n ∧ x = nI p := by
  constructor
  · rintro ⟨h1, h2⟩
    obtain ⟨j, hj, rfl⟩ := nI_of (show ¬ x < 0 from h1)
    refine ⟨j, ?_, rfl⟩
    rcases Nat.lt_or_ge n j with q | q
    · exact absurd (nI_lt q (by omega)) h2
    · exact q
  · rintro ⟨p, hp, rfl⟩
    exact ⟨nI_pos (by omega), nI_nlt hp (by omega)⟩
theorem rng3 {x : Int32} {a n : Nat} (ha : a < 2147483648) (hn : n + 1 < 2147483648) : (¬ x < nI a ∧ ¬ nI n < x) ↔ ∃ p, a ≤ p ∧ p ≤ n ∧ x = nI p := by
  constructor
  · rintro ⟨h1, h2⟩
    have h0 : ¬ x < 0 := fun q => h1 (by
      rw [Int32.lt_iff_toInt_lt] at q ⊢
      rw [nI_toInt ha]
      have : (0 : Int32).toInt = 0 := by decide
      omega)
    obtain ⟨j, hj, rfl⟩ := nI_of h0
    refine ⟨j, ?_, ?_, rfl⟩
    · rcases Nat.lt_or_ge j a with q | q
      · exact absurd (nI_lt q ha) h1
      · exact q
    · rcases Nat.lt_or_ge n j with q | q
      · exact absurd (nI_lt q (by omega)) h2
      · exact q
  · rintro ⟨p, h1, hp, rfl⟩
    exact ⟨nI_nlt h1 (by omega), nI_nlt hp (by omega)⟩
theorem within_t {x a b : Int32} (h : ¬ x < a ∧ ¬ b < x) : gX7_within x a b = some 1 := by
  rw [gX7_within, if_neg h.1, if_neg h.2, gX7_within_15, zr_1]; rfl
theorem within_f {x a b : Int32} (h : ¬ (¬ x < a ∧ ¬ b < x)) : gX7_within x a b = some 0 := by
  rw [gX7_within]
  by_cases h1 : x < a
  · rw [if_pos h1, gX7_within_15, zr_0]; rfl
  · rw [if_neg h1, if_pos (Decidable.not_not.mp fun q => h ⟨h1, q⟩), gX7_within_15, zr_0]; rfl
theorem in_t {x a b : Int32} (h : ¬ x < a ∧ ¬ b < x) : gX8_in x a b = some 1 := by
  rw [gX8_in, if_neg h.1, if_neg h.2, gX8_in_15, zr_1]; rfl
theorem in_f {x a b : Int32} (h : ¬ (¬ x < a ∧ ¬ b < x)) : gX8_in x a b = some 0 := by
  rw [gX8_in]
  by_cases h1 : x < a
  · rw [if_pos h1, gX8_in_15, zr_0]; rfl
  · rw [if_neg h1, if_pos (Decidable.not_not.mp fun q => h ⟨h1, q⟩), gX8_in_15, zr_0]; rfl
/-- a number within 0 .. n, or not: what both sides' tests say -/
theorem wi (x : Int32) (n : Nat) (hn : n + 1 < 2147483648) : (∃ p, p ≤ n ∧ x = nI p ∧ gX7_within x (nI 0) (nI n) = some 1 ∧ gX8_in x (nI 0) (nI n) = some 1) ∨ (gX7_within x (nI 0) (nI n) = some 0 ∧ gX8_in x (nI 0) (nI n) = some 0) := by
  by_cases h : ∃ p, p ≤ n ∧ x = nI p
  · have h2 := (rng2 hn).mpr h
    obtain ⟨p, hp, e⟩ := h
    exact Or.inl ⟨p, hp, e, within_t h2, in_t h2⟩
  · have h2 : ¬ (¬ x < nI 0 ∧ ¬ nI n < x) := fun q => h ((rng2 hn).mp q)
    exact Or.inr ⟨within_f h2, in_f h2⟩
theorem wi3 (x : Int32) (a n : Nat) (ha : a < 2147483648) (hn : n + 1 < 2147483648) : (∃ p, a ≤ p ∧ p ≤ n ∧ x = nI p ∧ gX7_within x (nI a) (nI n) = some 1 ∧ gX8_in x (nI a) (nI n) = some 1) ∨ (gX7_within x (nI a) (nI n) = some 0 ∧ gX8_in x (nI a) (nI n) = some 0) := by
  by_cases h : ∃ p, a ≤ p ∧ p ≤ n ∧ x = nI p
  · have h2 := (rng3 ha hn).mpr h
    obtain ⟨p, h1, hp, e⟩ := h
    exact Or.inl ⟨p, h1, hp, e, within_t h2, in_t h2⟩
  · have h2 : ¬ (¬ x < nI a ∧ ¬ nI n < x) := fun q => h ((rng3 ha hn).mp q)
    exact Or.inr ⟨within_f h2, in_f h2⟩
theorem isTh (x : Int32) : (∃ p, p < 10 ∧ x = nI p ∧ gX7_isThought x = some 1 ∧ gX8_isThought x = some 1) ∨ (gX7_isThought x = some 0 ∧ gX8_isThought x = some 0) := by
  rcases wi x 9 (by decide) with ⟨p, hp, e, h1, h2⟩ | ⟨h1, h2⟩
  · refine Or.inl ⟨p, by omega, e, ?_, ?_⟩
    · rw [gX7_isThought, i_0, i_9, h1]; rfl
    · rw [gX8_isThought, i_0, i_9, h2]; rfl
  · refine Or.inr ⟨?_, ?_⟩
    · rw [gX7_isThought, i_0, i_9, h1]; rfl
    · rw [gX8_isThought, i_0, i_9, h2]; rfl
theorem isJr (x : Int32) : (∃ p, p < 4 ∧ x = nI p ∧ gX7_isJar x = some 1 ∧ gX8_isJar x = some 1) ∨ (gX7_isJar x = some 0 ∧ gX8_isJar x = some 0) := by
  rcases wi x 3 (by decide) with ⟨p, hp, e, h1, h2⟩ | ⟨h1, h2⟩
  · refine Or.inl ⟨p, by omega, e, ?_, ?_⟩
    · rw [gX7_isJar, i_0, i_3, h1]; rfl
    · rw [gX8_isJar, i_0, i_3, h2]; rfl
  · refine Or.inr ⟨?_, ?_⟩
    · rw [gX7_isJar, i_0, i_3, h1]; rfl
    · rw [gX8_isJar, i_0, i_3, h2]; rfl
theorem isOn (x : Int32) {MC MM : Mem} {n : Nat} (hn : n < 1000) (hC : MC 191 3 = nI n) (hM : MM 197 0 = nI n) : (∃ p, p < n ∧ x = nI p ∧ gX7_isOne x MC = some 1 ∧ gX8_isOne x MM = some 1) ∨ (gX7_isOne x MC = some 0 ∧ gX8_isOne x MM = some 0) := by
  by_cases h : ∃ p, p < n ∧ x = nI p
  · have h2 := (rng (x := x) (n := n) (by omega)).mpr h
    obtain ⟨p, hp, e⟩ := h
    refine Or.inl ⟨p, hp, e, ?_, ?_⟩
    · rw [gX7_isOne, hC, i_0, i_1, within_t h2]; rfl
    · rw [gX8_isOne, hM, i_0, i_1, in_t h2]; rfl
  · have h2 : ¬ (¬ x < nI 0 ∧ ¬ nI n - nI 1 < x) := fun q => h ((rng (by omega)).mp q)
    refine Or.inr ⟨?_, ?_⟩
    · rw [gX7_isOne, hC, i_0, i_1, within_f h2]; rfl
    · rw [gX8_isOne, hM, i_0, i_1, in_f h2]; rfl
-- the state, as numbers
abbrev Blk : Type := Nat × Nat × (Nat → Nat) × (Nat → Nat) × (Nat → Nat → Nat) × (Nat → Nat → Nat)
def bD (B : Blk) : Nat := B.1
def bC (B : Blk) : Nat := B.2.1
def bS (B : Blk) : Nat → Nat := B.2.2.1
def bM (B : Blk) : Nat → Nat := B.2.2.2.1
def bH (B : Blk) : Nat → Nat → Nat := B.2.2.2.2.1
def bJ (B : Blk) : Nat → Nat → Nat := B.2.2.2.2.2
def mi (m : Nat) : Int32 := if m = 0 then -9 else nI (m - 1)
def MoC (M : Mem) (o pe : Nat) (B : Blk) : Prop := M o 4 = nI (bD B) ∧ M o 5 = nI (bC B) ∧ (∀ p, p < pe → M (o + 1) p = nI (bS B p)) ∧ (∀ p, p < pe → M (o + 2) p = mi (bM B p)) ∧ (∀ p, p < pe → ∀ k, k < bS B p → M (o + 3) (12 * p + k) = nI (bH B p k)) ∧ ∀ j, j < 4 → ∀ t, t < 10 → M (o + 4) (10 * j + t) = nI (bJ B j t)
def MoM (f : Nat → Int32) (q pe : Nat) (B : Blk) : Prop := f q = nI (bD B) ∧ f (q + 1) = nI (bC B) ∧ (∀ p, p < pe → f (q + (2 + p)) = nI (bS B p)) ∧ (∀ p, p < pe → f (q + (67 + p)) = mi (bM B p)) ∧ (∀ p, p < pe → ∀ k, k < bS B p → f (q + (7 + 12 * p + k)) = nI (bH B p k)) ∧ ∀ j, j < 4 → ∀ t, t < 10 → f (q + (72 + 10 * j + t)) = nI (bJ B j t)
def WfB (pe lg : Nat) (B : Blk) : Prop := bD B ≤ 999 ∧ bC B < 4 ∧ (∀ p, p < pe → bS B p ≤ lg) ∧ (∀ p, p < pe → bM B p ≤ 10) ∧ (∀ p, p < pe → ∀ k, k < bS B p → bH B p k < 10) ∧ ∀ j, j < 4 → ∀ t, t < 10 → bJ B j t ≤ 99
abbrev Twn : Type := Nat × Nat × (Nat → Nat) × (Nat → Nat) × (Nat → Nat → Nat)
def tP (W : Twn) : Nat := W.1
def tL (W : Twn) : Nat := W.2.1
def tS (W : Twn) : Nat → Nat := W.2.2.1
def tW (W : Twn) : Nat → Nat := W.2.2.2.1
def tK (W : Twn) : Nat → Nat → Nat := W.2.2.2.2
def ToC (M : Mem) (W : Twn) : Prop := M 191 3 = nI (tP W) ∧ M 191 4 = nI (tL W) ∧ (∀ p, p < tP W → M 192 p = nI (tS W p)) ∧ (∀ p, p < tP W → M 193 p = nI (tW W p)) ∧ ∀ p, p < tP W → ∀ k, k < tW W p → M 194 (7 * p + k) = nI (tK W p k)
def ToM (M : Mem) (W : Twn) : Prop := M 197 0 = nI (tP W) ∧ M 197 4 = nI (tL W) ∧ (∀ p, p < tP W → M 198 p = nI (tS W p)) ∧ (∀ p, p < tP W → M 199 p = nI (tW W p)) ∧ ∀ p, p < tP W → ∀ k, k < tW W p → M 200 (7 * p + k) = nI (tK W p k)
def WfT (W : Twn) : Prop := tP W ≤ 5 ∧ 1 ≤ tL W ∧ tL W ≤ 12 ∧ (∀ p, p < tP W → tS W p < 10) ∧ (∀ p, p < tP W → 1 ≤ tW W p ∧ tW W p ≤ 7) ∧ ∀ p, p < tP W → ∀ k, k < tW W p → tK W p k < 10
abbrev Tms : Type := Nat × Blk × (Nat → Blk)
def mK (X : Tms) : Nat := X.1
def mB (X : Tms) : Blk := X.2.1
def mP (X : Tms) : Nat → Blk := X.2.2
def Prm (M : Mem) (t : Nat) (σ : Nat → Nat) : Prop := (∀ i, i < 10 → σ i < 10 ∧ M (t + 6) i = nI (t + 7 + 5 * σ i)) ∧ ∀ i j, i < 10 → j < 10 → σ i = σ j → i = j
def TmC (M : Mem) (t pe : Nat) (X : Tms) (σ : Nat → Nat) : Prop := M t 2 = nI (mK X) ∧ MoC M (t + 1) pe (mB X) ∧ ∀ i, i < mK X → MoC M (t + 7 + 5 * σ i) pe (mP X i)
def TmM (f : Nat → Int32) (q pe : Nat) (X : Tms) : Prop := f (q + 112) = nI (mK X) ∧ MoM f q pe (mB X) ∧ ∀ i, i < mK X → MoM f (q + (113 + 112 * i)) pe (mP X i)
def WfM (pe lg : Nat) (X : Tms) : Prop := mK X ≤ 10 ∧ WfB pe lg (mB X) ∧ ∀ i, i < mK X → WfB pe lg (mP X i)
abbrev St : Type := (Nat × (Nat → Nat)) × Twn × Tms × ((Nat → Bool) × (Nat → Tms)) × (Nat × (Nat → Nat)) × (Nat × (Nat → Nat) × (Nat → Nat))
def aX (A : St) : Nat × (Nat → Nat) := A.1
def aW (A : St) : Twn := A.2.1
def aT (A : St) : Tms := A.2.2.1
def aI (A : St) : (Nat → Bool) × (Nat → Tms) := A.2.2.2.1
def aS (A : St) : Nat × (Nat → Nat) := A.2.2.2.2.1
def aH (A : St) : Nat × (Nat → Nat) × (Nat → Nat) := A.2.2.2.2.2
def TxC (M : Mem) (x : Nat × (Nat → Nat)) : Prop := M 2 1 = nI x.1 ∧ ∀ i, i < x.1 → M 3 i = nI (x.2 i)
def TxM (M : Mem) (x : Nat × (Nat → Nat)) : Prop := M 197 14 = nI x.1 ∧ ∀ i, i < x.1 → M 206 i = nI (x.2 i)
def SeC (M : Mem) (x : Nat × (Nat → Nat)) : Prop := M 181 3 = nI x.1 ∧ ∀ i, i < x.1 → M 182 i = nI (x.2 i)
def SeM (M : Mem) (x : Nat × (Nat → Nat)) : Prop := M 197 8 = nI x.1 ∧ ∀ i, i < x.1 → M 204 i = nI (x.2 i)
def HeC (M : Mem) (x : Nat × (Nat → Nat) × (Nat → Nat)) : Prop := M 181 4 = nI x.1 ∧ (∀ i, i < x.1 → M 183 i = nI (x.2.1 i)) ∧ ∀ i, i < x.1 → M 184 i = nI (x.2.2 i)
def HeM (M : Mem) (x : Nat × (Nat → Nat) × (Nat → Nat)) : Prop := M 197 10 = nI x.1 ∧ (∀ i, i < x.1 → M 205 (2 * i) = nI (x.2.1 i)) ∧ ∀ i, i < x.1 → M 205 (2 * i + 1) = nI (x.2.2 i)
def bZ (b : Bool) : Int32 := if b then 1 else 0
def ImC (M : Mem) (pe : Nat) (x : (Nat → Bool) × (Nat → Tms)) : Prop := (∀ i, i < 2 → M 65 i = nI (66 + 57 * i)) ∧ (∀ i, i < 2 → M 180 i = bZ (x.1 i)) ∧ ∀ i, i < 2 → ∃ σ, Prm M (66 + 57 * i) σ ∧ (x.1 i = true → TmC M (66 + 57 * i) pe (x.2 i) σ)
def ImM (M : Mem) (pe : Nat) (x : (Nat → Bool) × (Nat → Tms)) : Prop := (∀ i, i < 2 → M 203 i = bZ (x.1 i)) ∧ ∀ i, i < 2 → x.1 i = true → TmM (M 202) (1233 * i) pe (x.2 i)
def SrC (M : Mem) : Prop := (M 185 3 = nI 189 ∧ M 185 4 = nI 190) ∨ (M 185 3 = nI 190 ∧ M 185 4 = nI 189)
def RC (A : St) (M : Mem) : Prop := TxC M (aX A) ∧ ToC M (aW A) ∧ (∃ σ, Prm M 8 σ ∧ TmC M 8 (tP (aW A)) (aT A) σ) ∧ ImC M (tP (aW A)) (aI A) ∧ SeC M (aS A) ∧ HeC M (aH A) ∧ SrC M
def RM (A : St) (M : Mem) : Prop := TxM M (aX A) ∧ ToM M (aW A) ∧ TmM (M 201) 0 (tP (aW A)) (aT A) ∧ ImM M (tP (aW A)) (aI A) ∧ SeM M (aS A) ∧ HeM M (aH A)
def Wf (A : St) : Prop := ((aX A).1 ≤ 120 ∧ ∀ i, i < (aX A).1 → (aX A).2 i < 256) ∧ WfT (aW A) ∧ WfM (tP (aW A)) (tL (aW A)) (aT A) ∧ (∀ i, i < 2 → (aI A).1 i = true → WfM (tP (aW A)) (tL (aW A)) ((aI A).2 i)) ∧ ((aS A).1 ≤ 4 ∧ ∀ i, i < (aS A).1 → (aS A).2 i < 10) ∧ ((aH A).1 ≤ 4 ∧ (∀ i, i < (aH A).1 → (aH A).2.1 i < 10) ∧ ∀ i, i < (aH A).1 → (aH A).2.2 i ≤ 60)
def II (MC : Mem) (TC : Int64) (MM : Mem) (TM : Int64) : Prop := TC = TM ∧ ∃ A, Wf A ∧ RC A MC ∧ RM A MM
-- what doesn't touch a thing's cells leaves it
theorem MoC.cg {M M' : Mem} {o pe : Nat} {B : Blk} (h : MoC M o pe B) (hq : ∀ a, o ≤ a → a < o + 5 → M' a = M a) : MoC M' o pe B := by
  obtain ⟨h1, h2, h3, h4, h5, h6⟩ := h
  exact ⟨by rw [hq o (by omega) (by omega)]; exact h1, by rw [hq o (by omega) (by omega)]; exact h2, fun p hp => by rw [hq _ (by omega) (by omega)]; exact h3 p hp, fun p hp => by rw [hq _ (by omega) (by omega)]; exact h4 p hp, fun p hp k hk => by rw [hq _ (by omega) (by omega)]; exact h5 p hp k hk, fun j hj t ht => by rw [hq _ (by omega) (by omega)]; exact h6 j hj t ht⟩
theorem Prm.cg {M M' : Mem} {t : Nat} {σ : Nat → Nat} (h : Prm M t σ) (hq : M' (t + 6) = M (t + 6)) : Prm M' t σ := ⟨fun i hi => ⟨(h.1 i hi).1, by rw [hq]; exact (h.1 i hi).2⟩, h.2⟩
theorem TmC.cg {M M' : Mem} {t pe : Nat} {X : Tms} {σ : Nat → Nat} (hk : mK X ≤ 10) (hP : Prm M t σ) (h : TmC M t pe X σ) (hq : ∀ a, t ≤ a → a < t + 57 → M' a = M a) : TmC M' t pe X σ := by
  refine ⟨by rw [hq t (by omega) (by omega)]; exact h.1, h.2.1.cg (fun a h1 h2 => hq a (by omega) (by omega)), fun i hi => (h.2.2 i hi).cg (fun a h1 h2 => ?_)⟩
  have := (hP.1 i (by omega)).1
  exact hq a (by omega) (by omega)
theorem ImC.cg {M M' : Mem} {pe lg : Nat} {x : (Nat → Bool) × (Nat → Tms)} (hW : ∀ i, i < 2 → x.1 i = true → WfM pe lg (x.2 i)) (h : ImC M pe x) (h65 : M' 65 = M 65) (h180 : M' 180 = M 180) (hq : ∀ a, 66 ≤ a → a < 180 → M' a = M a) : ImC M' pe x := by
  refine ⟨fun i hi => by rw [h65]; exact h.1 i hi, fun i hi => by rw [h180]; exact h.2.1 i hi, fun i hi => ?_⟩
  obtain ⟨σ, hs, ht⟩ := h.2.2 i hi
  exact ⟨σ, hs.cg (hq _ (by omega) (by omega)), fun hx => (ht hx).cg (hW i hi hx).1 hs (fun a h1 h2 => hq a (by omega) (by omega))⟩
theorem MoM.cg {f f' : Nat → Int32} {q q' pe : Nat} {B : Blk} (hpe : pe ≤ 5) (hS : ∀ p, p < pe → bS B p ≤ 12) (h : MoM f q pe B) (hq : ∀ i, i < 112 → f' (q' + i) = f (q + i)) : MoM f' q' pe B := by
  obtain ⟨h1, h2, h3, h4, h5, h6⟩ := h
  refine ⟨?_, ?_, fun p hp => ?_, fun p hp => ?_, fun p hp k hk => ?_, fun j hj t ht => ?_⟩
  · have := hq 0 (by omega); rw [Nat.add_zero, Nat.add_zero] at this; rw [this]; exact h1
  · rw [hq 1 (by omega)]; exact h2
  · rw [hq _ (by omega)]; exact h3 p hp
  · rw [hq _ (by omega)]; exact h4 p hp
  · have := hS p hp
    rw [hq _ (by omega)]; exact h5 p hp k hk
  · rw [hq _ (by omega)]; exact h6 j hj t ht
