def spN (row : Nat → Nat) (sec w g e f : Nat) : Nat → (Nat → Nat) → Nat → Nat
  | 0, u => u
  | k + 1, u => if k < g ∧ row (e - k - 1) = sec then u else spN row sec w g e f k (if k ≤ w then (fun j => if j = k then min (u k) (f + (if k < g then 1 else 0)) else u j) else u)
def spc (row : Nat → Nat) (sec w g e k j : Nat) : Prop := j < k ∧ j ≤ w ∧ ∀ i, j ≤ i → i < k → ¬ (i < g ∧ row (e - i - 1) = sec)
theorem spN_out {row : Nat → Nat} {sec w g e f : Nat} : ∀ k u j, ¬ spc row sec w g e k j → spN row sec w g e f k u j = u j
  | 0, u, j, _ => rfl
  | k + 1, u, j, h => by
    rw [spN]
    by_cases hs : k < g ∧ row (e - k - 1) = sec
    · rw [if_pos hs]
    · rw [if_neg hs]
      have h2 : ¬ spc row sec w g e k j := by
        rintro ⟨q1, q2, q3⟩
        exact h ⟨by omega, q2, fun i z1 z2 => by
          by_cases hik : i = k
          · rw [hik]; exact hs
          · exact q3 i z1 (by omega)⟩
      rw [spN_out k _ j h2]
      by_cases hkw : k ≤ w
      · rw [if_pos hkw]
        by_cases hjk : j = k
        · exact absurd ⟨by omega, by omega, fun i z1 z2 => by rw [show i = k by omega]; exact hs⟩ h
        · rw [if_neg hjk]
      · rw [if_neg hkw]
theorem spN_in {row : Nat → Nat} {sec w g e f : Nat} : ∀ k u j, spc row sec w g e k j → spN row sec w g e f k u j = min (u j) (f + (if j < g then 1 else 0))
  | 0, u, j, h => absurd h.1 (Nat.not_lt_zero j)
  | k + 1, u, j, h => by
    obtain ⟨h1, h2, h3⟩ := h
    rw [spN, if_neg (h3 k (by omega) (by omega))]
    by_cases hjk : j = k
    · subst hjk
      rw [spN_out j _ j (fun z => absurd z.1 (Nat.lt_irrefl j)), if_pos h2]
      rw [if_pos rfl]
    · rw [spN_in k _ j ⟨by omega, h2, fun i z1 z2 => h3 i z1 (by omega)⟩]
      by_cases hkw : k ≤ w
      · rw [if_pos hkw, if_neg hjk]
      · rw [if_neg hkw]
def rch (row : Nat → Nat) (sec w g e j : Nat) : Prop := j ≤ g ∧ j ≤ w ∧ ∀ q, e - g ≤ q → q < e - j → row q ≠ sec
theorem spc_rch {row : Nat → Nat} {sec w g e j : Nat} (hg : g ≤ e) : spc row sec w g e (g + 1) j ↔ rch row sec w g e j := by
  constructor
  · rintro ⟨h1, h2, h3⟩
    refine ⟨by omega, h2, fun q q1 q2 hq => h3 (e - 1 - q) (by omega) (by omega) ⟨by omega, ?_⟩⟩
    rw [show e - (e - 1 - q) - 1 = q by omega]; exact hq
  · rintro ⟨h1, h2, h3⟩
    refine ⟨by omega, h2, fun i i1 i2 hi => h3 (e - i - 1) (by omega) (by omega) hi.2⟩
theorem spN_le {row : Nat → Nat} {sec w g e f : Nat} (k : Nat) (u : Nat → Nat) (j : Nat) : spN row sec w g e f k u j ≤ u j := by
  by_cases h : spc row sec w g e k j
  · rw [spN_in k u j h]; omega
  · rw [spN_out k u j h]; omega
def ltr (row : Nat → Nat) (sec w lg e : Nat) (v : Nat → Nat) : Nat → Nat → Nat
  | 0 => fun _ => 1000
  | i + 1 => if v i < 1000 then spN row sec w (min (i + 1) lg) e (v i) (min (i + 1) lg + 1) (ltr row sec w lg e v i) else ltr row sec w lg e v i
theorem ltr_le {row : Nat → Nat} {sec w lg e : Nat} {v : Nat → Nat} (j : Nat) : ∀ i, ltr row sec w lg e v i j ≤ 1000
  | 0 => Nat.le_refl _
  | i + 1 => by
    rw [ltr]
    by_cases h : v i < 1000
    · rw [if_pos h]; exact Nat.le_trans (spN_le _ _ j) (ltr_le j i)
    · rw [if_neg h]; exact ltr_le j i
theorem ltr_a {row : Nat → Nat} {sec w lg e : Nat} {v : Nat → Nat} (j : Nat) : ∀ i, (∀ l, l < i → v l < 1000 → l < e) → ltr row sec w lg e v i j < 1000 → ∃ l, l < i ∧ v l < 1000 ∧ rch row sec w (min (l + 1) lg) e j ∧ ltr row sec w lg e v i j = v l + (if j < min (l + 1) lg then 1 else 0)
  | 0, _, h => absurd h (Nat.lt_irrefl 1000)
  | i + 1, hl, h => by
    rw [ltr] at h ⊢
    by_cases hv : v i < 1000
    · rw [if_pos hv] at h ⊢
      have hi := hl i (by omega) hv
      by_cases hs : spc row sec w (min (i + 1) lg) e (min (i + 1) lg + 1) j
      · rw [spN_in _ _ j hs] at h ⊢
        by_cases hm : ltr row sec w lg e v i j ≤ v i + (if j < min (i + 1) lg then 1 else 0)
        · rw [Nat.min_eq_left hm] at h ⊢
          obtain ⟨l, q1, q2, q3, q4⟩ := ltr_a j i (fun l z1 z2 => hl l (by omega) z2) h
          exact ⟨l, by omega, q2, q3, q4⟩
        · rw [Nat.min_eq_right (by omega)]
          exact ⟨i, by omega, hv, (spc_rch (by omega)).mp hs, rfl⟩
      · rw [spN_out _ _ j hs] at h ⊢
        obtain ⟨l, q1, q2, q3, q4⟩ := ltr_a j i (fun l z1 z2 => hl l (by omega) z2) h
        exact ⟨l, by omega, q2, q3, q4⟩
    · rw [if_neg hv] at h ⊢
      obtain ⟨l, q1, q2, q3, q4⟩ := ltr_a j i (fun l z1 z2 => hl l (by omega) z2) h
      exact ⟨l, by omega, q2, q3, q4⟩
theorem ltr_b {row : Nat → Nat} {sec w lg e : Nat} {v : Nat → Nat} {l j : Nat} (hv : v l < 1000) (he : l < e) (hr : rch row sec w (min (l + 1) lg) e j) : ∀ i, l < i → ltr row sec w lg e v i j ≤ v l + (if j < min (l + 1) lg then 1 else 0)
  | 0, h => absurd h (Nat.not_lt_zero l)
  | i + 1, h => by
    rw [ltr]
    by_cases hli : l = i
    · subst hli
      rw [if_pos hv, spN_in _ _ j ((spc_rch (by omega)).mpr hr)]
      exact Nat.min_le_right _ _
    · have := ltr_b hv he hr i (by omega)
      by_cases hvi : v i < 1000
      · rw [if_pos hvi]; exact Nat.le_trans (spN_le _ _ j) this
      · rw [if_neg hvi]; exact this
def fsq (row : Nat → Nat) (sec e : Nat) : Nat → Nat → Nat
  | 0, b => b
  | n + 1, b => if e ≤ b then b else if row b = sec then b else fsq row sec e n (b + 1)
theorem fsq_s {row : Nat → Nat} {sec e : Nat} : ∀ n b, e - b ≤ n → b ≤ e → b ≤ fsq row sec e n b ∧ fsq row sec e n b ≤ e ∧ (∀ q, b ≤ q → q < fsq row sec e n b → row q ≠ sec) ∧ (fsq row sec e n b < e → row (fsq row sec e n b) = sec)
  | 0, b, h, hb => ⟨Nat.le_refl _, hb, fun q q1 q2 => absurd q2 (show ¬ q < b by omega), fun z => absurd z (show ¬ b < e by omega)⟩
  | n + 1, b, h, hb => by
    rw [fsq]
    by_cases h1 : e ≤ b
    · rw [if_pos h1]
      exact ⟨Nat.le_refl _, hb, fun q q1 q2 => absurd q2 (by omega), fun z => absurd z (by omega)⟩
    · rw [if_neg h1]
      by_cases h2 : row b = sec
      · rw [if_pos h2]
        exact ⟨Nat.le_refl _, hb, fun q q1 q2 => absurd q2 (by omega), fun _ => h2⟩
      · rw [if_neg h2]
        obtain ⟨q1, q2, q3, q4⟩ := fsq_s (row := row) (sec := sec) (e := e) n (b + 1) (by omega) (by omega)
        exact ⟨by omega, q2, fun q z1 z2 => by
          by_cases hq : q = b
          · rw [hq]; exact h2
          · exact q3 q (by omega) z2, q4⟩
def PI (row : Nat → Nat) (sec lg e d G c : Nat) (v : Nat → Nat) : Prop := G ≤ lg ∧ G ≤ e ∧ v G = c ∧ c ≤ d ∧ ∀ l, l < 13 → v l < 1000 → l ≤ lg ∧ l ≤ e ∧ c ≤ v l ∧ v l ≤ d ∧ (v l = c → G ≤ l) ∧ ∀ q, e - G ≤ q → q < e - l → row q ≠ sec
theorem PI_step {row : Nat → Nat} {sec lg e d G c w n : Nat} {v : Nat → Nat} (hlg : lg ≤ 12) (hlg1 : 1 ≤ lg) (hd : d < 900) (hn : e + 1 ≤ n) (h : PI row sec lg e d G c v) : (min (G + 1) lg ≤ w → PI row sec lg (e + 1) (d + 1) (min (G + 1) lg) c (ltr row sec w lg (e + 1) v 13)) ∧ (w < min (G + 1) lg → (e + 1 - fsq row sec (e + 1) n (e + 1 - min (G + 1) lg) ≤ w → PI row sec lg (e + 1) (d + 1) (e + 1 - fsq row sec (e + 1) n (e + 1 - min (G + 1) lg)) (c + 1) (ltr row sec w lg (e + 1) v 13)) ∧ (w < e + 1 - fsq row sec (e + 1) n (e + 1 - min (G + 1) lg) → ∀ j, j < 13 → ltr row sec w lg (e + 1) v 13 j = 1000)) := by
  obtain ⟨h1, h2, h3, h4, h5⟩ := h
  have hle : ∀ l, l < 13 → v l < 1000 → l < e + 1 := fun l z1 z2 => by have := (h5 l z1 z2).2.1; omega
  -- what every reachable number of layers keeps
  have key : ∀ j, j < 13 → ltr row sec w lg (e + 1) v 13 j < 1000 → ∃ l, l < 13 ∧ v l < 1000 ∧ j ≤ min (l + 1) lg ∧ j ≤ w ∧ c ≤ v l ∧ v l ≤ d ∧ (v l = c → G ≤ l) ∧ l ≤ e ∧ l ≤ lg ∧ ltr row sec w lg (e + 1) v 13 j = v l + (if j < min (l + 1) lg then 1 else 0) ∧ ∀ q, e + 1 - min (G + 1) lg ≤ q → q < e + 1 - j → row q ≠ sec := by
    intro j hj hu
    obtain ⟨l, l1, l2, l3, l4⟩ := ltr_a j 13 hle hu
    obtain ⟨k1, k2, k3, k4, k5, k6⟩ := h5 l l1 l2
    refine ⟨l, l1, l2, l3.1, l3.2.1, k3, k4, k5, k2, k1, l4, fun q q1 q2 => ?_⟩
    by_cases hq : e + 1 - min (l + 1) lg ≤ q
    · exact l3.2.2 q hq q2
    · exact k6 q (by omega) (by omega)
  have h0 := h5 G (by omega) (by omega)
  refine ⟨fun hw => ⟨by omega, by omega, ?_, by omega, fun j hj hu => ?_⟩, fun hw => ?_⟩
  · have hb := ltr_b (row := row) (sec := sec) (w := w) (lg := lg) (e := e + 1) (v := v) (l := G) (j := min (G + 1) lg) (by omega) (by omega) ⟨Nat.le_refl _, hw, fun q q1 q2 => absurd q2 (by omega)⟩ 13 (by omega)
    rw [if_neg (Nat.lt_irrefl _)] at hb
    obtain ⟨l, l1, l2, l3, l4, l5, l6, l7, l8, l9, l10, l11⟩ := key (min (G + 1) lg) (by omega) (by omega)
    omega
  · obtain ⟨l, l1, l2, l3, l4, l5, l6, l7, l8, l9, l10, l11⟩ := key j hj hu
    rw [l10]
    refine ⟨by omega, by omega, by omega, ?_, fun z => ?_, l11⟩
    · split <;> omega
    · by_cases hjg : j < min (l + 1) lg
      · rw [if_pos hjg] at z; omega
      · have := l7 (by rw [if_neg hjg] at z; omega)
        omega
  · obtain ⟨f1, f2, f3, f4⟩ := fsq_s (row := row) (sec := sec) (e := e + 1) n (e + 1 - min (G + 1) lg) (by omega) (by omega)
    generalize fsq row sec (e + 1) n (e + 1 - min (G + 1) lg) = F at f1 f2 f3 f4 ⊢
    have key2 : ∀ j, j < 13 → ltr row sec w lg (e + 1) v 13 j < 1000 → e + 1 - F ≤ j := by
      intro j hj hu
      obtain ⟨l, l1, l2, l3, l4, l5, l6, l7, l8, l9, l10, l11⟩ := key j hj hu
      rcases Nat.lt_or_ge F (e + 1 - j) with q | q
      · exact absurd (f4 (by omega)) (l11 F f1 q)
      · omega
    have key3 : ∀ j, j < 13 → ltr row sec w lg (e + 1) v 13 j < 1000 → c + 1 ≤ ltr row sec w lg (e + 1) v 13 j ∧ ltr row sec w lg (e + 1) v 13 j ≤ d + 1 ∧ j ≤ lg ∧ j ≤ e + 1 := by
      intro j hj hu
      obtain ⟨l, l1, l2, l3, l4, l5, l6, l7, l8, l9, l10, l11⟩ := key j hj hu
      rw [l10]
      by_cases hjg : j < min (l + 1) lg
      · rw [if_pos hjg]; exact ⟨by omega, by omega, by omega, by omega⟩
      · rw [if_neg hjg]
        by_cases hc : v l = c
        · have := l7 hc; omega
        · exact ⟨by omega, by omega, by omega, by omega⟩
    refine ⟨fun hw2 => ⟨by omega, by omega, ?_, by omega, fun j hj hu => ?_⟩, fun hw2 j hj => ?_⟩
    · have hb := ltr_b (row := row) (sec := sec) (w := w) (lg := lg) (e := e + 1) (v := v) (l := G) (j := e + 1 - F) (by omega) (by omega) ⟨by omega, hw2, fun q q1 q2 => f3 q q1 (by omega)⟩ 13 (by omega)
      have hb2 : ltr row sec w lg (e + 1) v 13 (e + 1 - F) ≤ c + 1 := by
        refine Nat.le_trans hb ?_
        split <;> omega
      have := (key3 (e + 1 - F) (by omega) (by omega)).1
      omega
    · obtain ⟨a1, a2, a3, a4⟩ := key3 j hj hu
      have a5 := key2 j hj hu
      exact ⟨a3, a4, a1, a2, fun _ => a5, fun q q1 q2 => absurd q2 (by omega)⟩
    · have := ltr_le (row := row) (sec := sec) (w := w) (lg := lg) (e := e + 1) (v := v) j 13
      by_cases hu : ltr row sec w lg (e + 1) v 13 j < 1000
      · have := key2 j hj hu
        obtain ⟨l, l1, l2, l3, l4, l5⟩ := key j hj hu
        omega
      · omega
def mnv (v : Nat → Nat) : Nat → Nat
  | 0 => 1000
  | n + 1 => min (mnv v n) (v n)
theorem mnv_le {v : Nat → Nat} {l : Nat} : ∀ n, l < n → mnv v n ≤ v l
  | 0, h => absurd h (Nat.not_lt_zero l)
  | n + 1, h => by
    rw [mnv]
    by_cases q : l = n
    · rw [q]; omega
    · have := mnv_le n (show l < n by omega) (v := v); omega
theorem mnv_ge {v : Nat → Nat} {c : Nat} (hc : c ≤ 1000) : ∀ n, (∀ l, l < n → c ≤ v l) → c ≤ mnv v n
  | 0, _ => hc
  | n + 1, h => by
    have h1 := mnv_ge hc n (fun l hl => h l (by omega))
    have h2 := h n (by omega)
    rw [mnv]; omega
theorem mnv_1000 (v : Nat → Nat) : ∀ n, mnv v n ≤ 1000
  | 0 => Nat.le_refl _
  | n + 1 => by
    have := mnv_1000 v n
    rw [mnv]; omega
theorem PI_min {row : Nat → Nat} {sec lg e d G c : Nat} {v : Nat → Nat} (hlg : lg ≤ 12) (hd : d < 900) (h : PI row sec lg e d G c v) : mnv v 13 = c := by
  obtain ⟨h1, h2, h3, h4, h5⟩ := h
  have a1 := mnv_le (v := v) 13 (show G < 13 by omega)
  have a2 := mnv_ge (v := v) (c := c) (by omega) 13 (fun l hl => by
    by_cases q : v l < 1000
    · exact (h5 l hl q).2.2.1
    · omega)
  omega
theorem PI_0 {row : Nat → Nat} {sec lg s : Nat} (hs : s ≤ lg) : PI row sec lg s 0 s 0 (fun l => if l = s then 0 else 1000) := by
  refine ⟨hs, Nat.le_refl _, if_pos rfl, Nat.le_refl _, fun l hl hv => ?_⟩
  have hls : l = s := by
    by_cases q : l = s
    · exact q
    · have hv : (if l = s then 0 else 1000) < 1000 := hv
      rw [if_neg q] at hv; omega
  subst hls
  refine ⟨hs, Nat.le_refl _, Nat.zero_le _, ?_, fun _ => Nat.le_refl _, fun q q1 q2 => absurd q2 (by omega)⟩
  show (if l = l then 0 else 1000) ≤ 0
  rw [if_pos rfl]; exact Nat.le_refl _
