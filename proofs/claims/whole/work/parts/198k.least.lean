theorem cA_0 {row : Nat → Nat} {b x : Nat} : cA row b b x = 0 := smN_zero b (fun i hi => if_neg (fun z => by omega))
theorem cB_0 {row : Nat → Nat} {s b x : Nat} : cB row s b b x = 0 := smN_zero b (fun i hi => if_neg (fun z => by omega))
theorem cA_s {row : Nat → Nat} {b e x : Nat} (h : b ≤ e) : cA row b (e + 1) x = cA row b e x + (if row e = x then 1 else 0) := by
  unfold cA
  rw [smN]
  by_cases q : row e = x
  · rw [if_pos q, if_pos ⟨h, q⟩]
  · rw [if_neg q, if_neg (fun z => q z.2)]
theorem cB_s {row : Nat → Nat} {s b e x : Nat} (h : b ≤ e) : cB row s b (e + 1) x = cB row s b e x + (if s ≤ e ∧ row e = x then 1 else 0) := by
  unfold cB
  rw [smN]
  by_cases q : s ≤ e ∧ row e = x
  · rw [if_pos q, if_pos ⟨h, q⟩]
  · rw [if_neg q, if_neg (fun z => q z.2)]
theorem cA_le {row : Nat → Nat} {b e x : Nat} : cA row b e x ≤ e := by
  have := smN_le (f := fun i => if b ≤ i ∧ row i = x then 1 else 0) (c := 1) e (fun k _ => by split <;> omega)
  unfold cA; omega
theorem cB_le {row : Nat → Nat} {s b e x : Nat} : cB row s b e x ≤ e := by
  have := smN_le (f := fun i => if b ≤ i ∧ s ≤ i ∧ row i = x then 1 else 0) (c := 1) e (fun k _ => by split <;> omega)
  unfold cB; omega
-- the class
theorem c_cw33 {row : Nat → Nat} {s b e : Nat} (hrow : ∀ i, row i < 10) (he : e ≤ 32) (hs : s ≤ e) : ∀ fu i, b ≤ i → i ≤ e → e - i < fu → ∀ (M : Mem), M 185 6 = nI e → M 185 5 = nI s → (∀ j, j < e → M 188 j = nI (row j)) → (∀ x, x < 10 → M 186 x = nI (cA row b i x)) → (∀ x, x < 10 → M 187 x = nI (cB row s b i x)) → ∃ M', gX3_countWhatIsLeft_33 fu (nI i) M = some M' ∧ (∀ x, x < 10 → M' 186 x = nI (cA row b e x)) ∧ (∀ x, x < 10 → M' 187 x = nI (cB row s b e x)) ∧ ∀ a, a ≠ 186 → a ≠ 187 → M' a = M a := by
  intro fu
  induction fu with
  | zero => intro i _ _ h2; omega
  | succ fu ih =>
    intro i h0 h1 h2 M h6 h5 hr hA hB
    rw [gX3_countWhatIsLeft_33, h6]
    by_cases hi : e ≤ i
    · have hi2 : i = e := by omega
      subst hi2
      exact ⟨M, by rw [if_pos (nI_le hi (by omega))], hA, hB, fun a _ _ => rfl⟩
    · have hri := hrow i
      have hA1 : ∀ x, x < 10 → us M 186 (row i) (nI (cA row b i (row i) + 1)) 186 x = nI (cA row b (i + 1) x) := fun x hx => by
        rw [us_app, cA_s h0]
        by_cases q : x = row i
        · rw [if_pos ⟨rfl, q⟩, if_pos q.symm, q]
        · rw [if_neg (fun z => q z.2), if_neg (fun z => q z.symm)]; exact hA x hx
      have g5 : us M 186 (row i) (nI (cA row b i (row i) + 1)) 185 5 = nI s := by rw [us_ne _ _ _ (by decide)]; exact h5
      have g188 : ldA 32 (us M 186 (row i) (nI (cA row b i (row i) + 1)) 188) (nI i) = some (nI (row i)) := by rw [us_ne _ _ _ (by decide), ldA_n _ (by omega) (by decide), hr i (by omega)]
      rw [if_neg (nI_ge (by omega) (by omega)), ldA_n _ (by omega) (by decide), hr i (by omega), obs, ldA_n _ hri (by decide), hA _ hri, obs, nI_1, stA_n _ _ _ hri (by decide), obs, g5]
      by_cases hsi : i < s
      · obtain ⟨M', e1, e2, e3, e4⟩ := ih (i + 1) (by omega) (by omega) (by omega) (us M 186 (row i) (nI (cA row b i (row i) + 1))) (by rw [us_ne _ _ _ (by decide)]; exact h6) g5 (fun j hj => by rw [us_ne _ _ _ (by decide)]; exact hr j hj) hA1 (fun x hx => by
          rw [us_ne _ _ _ (by decide), cB_s h0, if_neg (fun z => by omega)]; exact hB x hx)
        refine ⟨M', ?_, e2, e3, fun a z1 z2 => by rw [e4 a z1 z2, us_ne _ _ _ z1]⟩
        rw [if_pos (nI_lt hsi (by omega)), gX3_countWhatIsLeft_79, nI_1, obs]
        exact e1
      · obtain ⟨M', e1, e2, e3, e4⟩ := ih (i + 1) (by omega) (by omega) (by omega) (us (us M 186 (row i) (nI (cA row b i (row i) + 1))) 187 (row i) (nI (cB row s b i (row i) + 1))) (by rw [us_ne _ _ _ (by decide), us_ne _ _ _ (by decide)]; exact h6) (by rw [us_ne _ _ _ (by decide)]; exact g5) (fun j hj => by rw [us_ne _ _ _ (by decide), us_ne _ _ _ (by decide)]; exact hr j hj) (fun x hx => by rw [us_ne _ _ _ (by decide)]; exact hA1 x hx) (fun x hx => by
          rw [us_app, cB_s h0]
          by_cases q : x = row i
          · rw [if_pos ⟨rfl, q⟩, if_pos ⟨by omega, q.symm⟩, q]
          · rw [if_neg (fun z => q z.2), if_neg (fun z => q z.2.symm), us_ne _ _ _ (by decide)]; exact hB x hx)
        refine ⟨M', ?_, e2, e3, fun a z1 z2 => by rw [e4 a z1 z2, us_ne _ _ _ z2, us_ne _ _ _ z1]⟩
        have g187 : ldA 10 (us M 186 (row i) (nI (cA row b i (row i) + 1)) 187) (nI (row i)) = some (nI (cB row s b i (row i))) := by rw [us_ne _ _ _ (by decide), ldA_n _ hri (by decide), hB _ hri]
        rw [if_neg (nI_nlt (by omega) (by omega)), g188, obs, g187, obs, nI_1, stA_n _ _ _ hri (by decide), obs, gX3_countWhatIsLeft_79, nI_1, obs]
        exact e1
theorem c_cw {M : Mem} {row : Nat → Nat} {s e lg : Nat} (hrow : ∀ i, row i < 10) (he : e ≤ 32) (hs : s ≤ e) (hlg : lg ≤ 12) (h6 : M 185 6 = nI e) (h5 : M 185 5 = nI s) (h7 : M 185 7 = nI lg) (hr : ∀ j, j < e → M 188 j = nI (row j)) : ∃ M', gX3_countWhatIsLeft M = some M' ∧ (∀ x, x < 10 → M' 186 x = nI (cA row (e - min e lg) e x)) ∧ (∀ x, x < 10 → M' 187 x = nI (cB row s (e - min e lg) e x)) ∧ ∀ a, a ≠ 186 → a ≠ 187 → M' a = M a := by
  obtain ⟨M1, a1, a2, a3, a4⟩ := c_fill (o := 186) (n0 := 10) (x := 0) (by decide) M
  obtain ⟨M2, b1, b2, b3, b4⟩ := c_fill (o := 187) (n0 := 10) (x := 0) (by decide) M1
  have q6 : M2 185 6 = nI e := by rw [b2 _ (by decide), a2 _ (by decide)]; exact h6
  have q7 : M2 185 7 = nI lg := by rw [b2 _ (by decide), a2 _ (by decide)]; exact h7
  obtain ⟨M3, c1, c2, c3, c4⟩ := c_cw33 (b := e - min e lg) hrow he hs FU (e - min e lg) (Nat.le_refl _) (by omega) (by unfold FU; omega) M2 q6 (by rw [b2 _ (by decide), a2 _ (by decide)]; exact h5) (fun j hj => by rw [b2 _ (by decide), a2 _ (by decide)]; exact hr j hj) (fun x hx => by rw [b2 _ (by decide), a4 x hx, cA_0]; rfl) (fun x hx => by rw [b4 x hx, cB_0]; rfl)
  refine ⟨M3, ?_, c2, c3, fun a z1 z2 => by rw [c4 a z1 z2, b2 a z2, a2 a z1]⟩
  rw [gX3_countWhatIsLeft, a1, obs, b1, obs, q6, q7, mn_n (by omega) (by omega), obs, pk_sub (by omega), obs]
  exact c1
theorem mx_over {c R : Nat} (hc : c < 1000) (hR : R < 1000) : mx 0 ((nI c - nI R) + 1) = nI (c + 1 - R) := by
  have e : (nI c - nI R) + 1 = nI (c + 1) - nI R := by
    rw [← nI_1, Int32.sub_eq_add_neg, Int32.sub_eq_add_neg, Int32.add_assoc, Int32.add_assoc, Int32.add_comm 1]
  rw [e]
  unfold mx
  by_cases h : R ≤ c + 1
  · rw [pk_sub h]
    by_cases h0 : c + 1 - R = 0
    · rw [h0]; rfl
    · rw [if_pos (show (0 : Int32) < nI _ from nI_lt (a := 0) (by omega) (by omega))]
  · have := pk_sneg (a := c + 1) (b := R) (by omega) (by omega)
    rw [if_neg (fun z => by rw [Int32.lt_iff_toInt_lt] at z this; omega), show c + 1 - R = 0 by omega]; rfl
theorem c_su18 {M : Mem} {row : Nat → Nat} {t s b e k : Nat} (he : e ≤ 32) (ht : t < 10) (hk : k < 100) (hA : ∀ x, x < 10 → M 186 x = nI (cA row b e x)) (hB : ∀ x, x < 10 → M 187 x = nI (cB row s b e x)) : ∀ fu i, i ≤ 10 → 10 - i < fu → (∀ x, x < i → loV row t b e k x ≤ hiV row t s b e x) → gX3_suffices_18 fu (nI t) (nI k) (nI (cA row b e t + k)) (nI (smN (loV row t b e k) i)) (nI (smN (hiV row t s b e) i)) (nI i) M = some (if sufP row t s b e k then 1 else 0) := by
  have hlo : ∀ x, loV row t b e k x ≤ 33 := fun x => by
    have := cA_le (row := row) (b := b) (e := e) (x := x)
    unfold loV; split <;> omega
  have hhi : ∀ x, hiV row t s b e x ≤ 32 := fun x => by
    have := cB_le (row := row) (s := s) (b := b) (e := e) (x := x)
    unfold hiV; split <;> omega
  intro fu
  induction fu with
  | zero => intro i _ h2; omega
  | succ fu ih =>
    intro i h1 h2 hp
    have hl1 := smN_le (f := loV row t b e k) i (fun x _ => hlo x)
    have hh1 := smN_le (f := hiV row t s b e) i (fun x _ => hhi x)
    rw [gX3_suffices_18]
    by_cases hi : 10 ≤ i
    · have hi2 : i = 10 := by omega
      subst hi2
      rw [if_pos (show (10 : Int32) ≤ nI 10 from nI_le (a := 10) (by omega) (by omega))]
      by_cases q1 : smN (loV row t b e k) 10 ≤ k
      · rw [if_neg (nI_nlt q1 (by omega))]
        by_cases q2 : k ≤ smN (hiV row t s b e) 10
        · rw [if_neg (nI_nlt q2 (by omega)), if_pos (show sufP row t s b e k from ⟨hp, q1, q2⟩), gX3_suffices_104, zr_1, obs]
        · rw [if_pos (nI_lt (by omega) (by omega)), if_neg (fun z => q2 z.2.2), gX3_suffices_104, zr_0, obs]
      · rw [if_pos (nI_lt (by omega) (by omega)), if_neg (fun z => q1 z.2.1), gX3_suffices_104, zr_0, obs]
    · rw [if_neg (show ¬ (10 : Int32) ≤ nI i from nI_ge (b := 10) (by omega) (by omega))]
      by_cases hit : i = t
      · have e0 := ih (i + 1) (by omega) (by omega) (fun x hx => by
          by_cases q : x = i
          · unfold loV; rw [if_pos (by omega)]; exact Nat.zero_le _
          · exact hp x (by omega))
        rw [smN, smN, show loV row t b e k i = 0 by unfold loV; rw [if_pos hit], show hiV row t s b e i = 0 by unfold hiV; rw [if_pos hit], Nat.add_zero, Nat.add_zero] at e0
        rw [if_pos (congrArg nI hit), gX3_suffices_81, nI_1, obs]
        exact e0
      · have hAi := cA_le (row := row) (b := b) (e := e) (x := i)
        have hAt := cA_le (row := row) (b := b) (e := e) (x := t)
        have hBi := cB_le (row := row) (s := s) (b := b) (e := e) (x := i)
        have l1 : loV row t b e k i = cA row b e i + 1 - (cA row b e t + k) := by unfold loV; rw [if_neg hit]
        have l2 : hiV row t s b e i = cB row s b e i := by unfold hiV; rw [if_neg hit]
        rw [if_neg (fun z => hit (nI_inj (by omega) (by omega) z)), ldA_n _ (by omega) (by decide), hA i (by omega), obs, mx_over (by omega) (by omega), obs, ldA_n _ (by omega) (by decide), hB i (by omega), obs]
        by_cases hq : cA row b e i + 1 - (cA row b e t + k) ≤ cB row s b e i
        · have e0 := ih (i + 1) (by omega) (by omega) (fun x hx => by
            by_cases q : x = i
            · rw [q, l1, l2]; exact hq
            · exact hp x (by omega))
          rw [smN, smN, l1, l2] at e0
          rw [if_pos (nI_le hq (by omega)), nI_add, obs, obs, nI_add, obs, gX3_suffices_81, nI_1, obs]
          exact e0
        · rw [if_neg (nI_ge (by omega) (by omega)), if_neg (fun z => hq (by have := z.1 i (by omega); rw [l1, l2] at this; exact this))]
theorem c_su {M : Mem} {row : Nat → Nat} {t s b e k : Nat} (he : e ≤ 32) (ht : t < 10) (hk : k < 100) (hA : ∀ x, x < 10 → M 186 x = nI (cA row b e x)) (hB : ∀ x, x < 10 → M 187 x = nI (cB row s b e x)) : gX3_suffices (nI t) (nI k) M = some (if sufP row t s b e k then 1 else 0) := by
  rw [gX3_suffices, ldA_n _ ht (by decide), hA t ht, obs, nI_add, obs]
  exact c_su18 he ht hk hA hB FU 0 (by omega) (by unfold FU; omega) (fun x hx => absurd hx (Nat.not_lt_zero x))
theorem c_fd6 {M : Mem} {row : Nat → Nat} {t s b n : Nat} (he : s + n ≤ 32) (ht : t < 10) (h6 : M 185 6 = nI (s + n)) (h5 : M 185 5 = nI s) (hA : ∀ x, x < 10 → M 186 x = nI (cA row b (s + n) x)) (hB : ∀ x, x < 10 → M 187 x = nI (cB row s b (s + n) x)) : ∀ fu k, k ≤ n + 1 → n + 1 - k < fu → (∀ j, j < k → ¬ sufP row t s b (s + n) j) → ∃ r, gX3_fewestDays_6 fu (nI t) (nI k) M = some (mi r, M) ∧ ((r = 0 ∧ ∀ k, k ≤ n → ¬ sufP row t s b (s + n) k) ∨ (∃ k, r = k + 1 ∧ k ≤ n ∧ sufP row t s b (s + n) k ∧ ∀ j, j < k → ¬ sufP row t s b (s + n) j)) := by
  intro fu
  induction fu with
  | zero => intro i _ h2; omega
  | succ fu ih =>
    intro k h1 h2 hj
    rw [gX3_fewestDays_6, h6, h5, pk_sub (by omega), show s + n - s = n by omega]
    by_cases hk : n < k
    · exact ⟨0, by rw [if_pos (nI_lt hk (by omega))]; rfl, Or.inl ⟨rfl, fun j q => hj j (by omega)⟩⟩
    · rw [if_neg (nI_nlt (by omega) (by omega)), c_su he ht (by omega) hA hB, obs]
      by_cases hq : sufP row t s b (s + n) k
      · refine ⟨k + 1, ?_, Or.inr ⟨k, rfl, by omega, hq, hj⟩⟩
        rw [if_pos hq, if_neg (by decide)]
        unfold mi
        rw [if_neg (by omega), Nat.add_sub_cancel]
      · rw [if_neg hq, if_pos rfl, nI_1, obs]
        exact ih (k + 1) (by omega) (by omega) (fun j q => by
          by_cases z : j = k
          · rw [z]; exact hq
          · exact hj j (by omega))
-- the reference
theorem m_is68 {M : Mem} {g : Nat → Nat} {x1 : Nat} {own : Nat} {b e x : Nat} {x3 : Int32} (hg : ∀ i, g i < 10) (he : e ≤ 32) (hx1 : x1 < 10) (hx : x < 10) (ho : own ≤ 32) (h29 : M 197 29 = nI e) (hr : ∀ j, j < e → M 210 j = nI (g j)) (k52 : Int32 → Int32 → Int32 → Int32 → Mem → Option Int32) : ∀ fu i, b ≤ i → i ≤ e → e - i < fu → gX8_isMost_68 k52 fu (nI x1) (nI own) x3 (nI x) (nI (cA g b i x)) (nI i) M = k52 (nI x1) (nI own) (if x3 ≠ 0 ∧ (x = x1 ∨ cA g b e x < own) then 1 else 0) (nI (x + 1)) M := by
  intro fu
  induction fu with
  | zero => intro i _ _ h2; omega
  | succ fu ih =>
    intro i h0 h1 h2
    rw [gX8_isMost_68, h29]
    by_cases hi : e ≤ i
    · have hi2 : i = e := by omega
      subst hi2
      have hle := cA_le (row := g) (b := b) (e := i) (x := x)
      rw [if_pos (nI_le hi (by omega))]
      by_cases z0 : x3 = 0
      · rw [if_pos z0, if_neg (fun z => z.1 z0), gX8_isMost_125, gX8_isMost_126, nI_1, obs]
      · rw [if_neg z0]
        by_cases z1 : x = x1
        · rw [if_pos (congrArg nI z1), if_pos ⟨z0, Or.inl z1⟩, gX8_isMost_121, gX8_isMost_126, nI_1, obs]
        · rw [if_neg (fun z => z1 (nI_inj (by omega) (by omega) z))]
          by_cases z2 : own ≤ cA g b i x
          · rw [if_pos (nI_le z2 (by omega)), if_neg (fun z => by rcases z.2 with q | q <;> omega), gX8_isMost_125, gX8_isMost_126, nI_1, obs]
          · rw [if_neg (nI_ge (by omega) (by omega)), if_pos ⟨z0, Or.inr (by omega)⟩, gX8_isMost_121, gX8_isMost_126, nI_1, obs]
    · have hgi := hg i
      have e0 := ih (i + 1) (by omega) (by omega) (by omega)
      rw [cA_s h0] at e0
      rw [if_neg (nI_ge (by omega) (by omega)), ldA_n _ (by omega) (by decide), hr i (by omega), obs]
      by_cases hq : g i = x
      · rw [if_pos hq] at e0
        rw [if_pos (congrArg nI hq), gX8_isMost_96, nI_1, obs, nI_1, obs]
        exact e0
      · rw [if_neg hq] at e0
        rw [if_neg (fun z => hq (nI_inj (by omega) (by omega) z)), gX8_isMost_96, i_0, nI_add, obs, nI_1, obs]
        exact e0
abbrev mfl (g : Nat → Nat) (t b e i : Nat) : Prop := 0 < cA g b e t ∧ ∀ x, x < i → x = t ∨ cA g b e x < cA g b e t
theorem mfl_s {g : Nat → Nat} {t b e i : Nat} : mfl g t b e (i + 1) ↔ mfl g t b e i ∧ (i = t ∨ cA g b e i < cA g b e t) := by
  constructor
  · exact fun h => ⟨⟨h.1, fun k hk => h.2 k (by omega)⟩, h.2 i (by omega)⟩
  · rintro ⟨⟨h0, h1⟩, h2⟩
    refine ⟨h0, fun k hk => ?_⟩
    by_cases q : k = i
    · rw [q]; exact h2
    · exact h1 k (by omega)
theorem m_is52 {M : Mem} {g : Nat → Nat} {t b e : Nat} (hg : ∀ i, g i < 10) (hb : b ≤ e) (he : e ≤ 32) (ht : t < 10) (h28 : M 197 28 = nI b) (h29 : M 197 29 = nI e) (hr : ∀ j, j < e → M 210 j = nI (g j)) : ∀ fu i, i ≤ 10 → 10 - i < fu → gX8_isMost_52 fu (nI t) (nI (cA g b e t)) (if mfl g t b e i then 1 else 0) (nI i) M = some (if mfl g t b e 10 then 1 else 0) := by
  intro fu
  induction fu with
  | zero => intro i _ h2; omega
  | succ fu ih =>
    intro i h1 h2
    rw [gX8_isMost_52]
    by_cases hi : 10 ≤ i
    · have hi2 : i = 10 := by omega
      subst hi2
      rw [if_pos (show (10 : Int32) ≤ nI 10 from nI_le (a := 10) (by omega) (by omega))]
      by_cases q : mfl g t b e 10
      · rw [if_pos q, zr_1, obs]
      · rw [if_neg q, zr_0, obs]
    · rw [if_neg (show ¬ (10 : Int32) ≤ nI i from nI_ge (b := 10) (by omega) (by omega)), h28, obs]
      have hle := cA_le (row := g) (b := b) (e := e) (x := t)
      have e0 := m_is68 (x1 := t) (own := cA g b e t) (b := b) (x := i) (x3 := if mfl g t b e i then 1 else 0) hg he ht (by omega) (by omega) h29 hr (gX8_isMost_52 fu) FU b (Nat.le_refl _) hb (by unfold FU; omega)
      rw [cA_0] at e0
      have e1 : (if (if mfl g t b e i then (1 : Int32) else 0) ≠ 0 ∧ (i = t ∨ cA g b e i < cA g b e t) then (1 : Int32) else 0) = if mfl g t b e (i + 1) then 1 else 0 := by
        by_cases q : mfl g t b e i
        · rw [if_pos q]
          by_cases q2 : i = t ∨ cA g b e i < cA g b e t
          · rw [if_pos ⟨by decide, q2⟩, if_pos (mfl_s.mpr ⟨q, q2⟩)]
          · rw [if_neg (fun z => q2 z.2), if_neg (fun z => q2 (mfl_s.mp z).2)]
        · rw [if_neg q, if_neg (fun z => z.1 rfl), if_neg (fun z => q (mfl_s.mp z).1)]
      rw [e1] at e0
      exact e0.trans (ih (i + 1) (by omega) (by omega))
theorem m_is7 {M : Mem} {g : Nat → Nat} {t b e : Nat} (hg : ∀ i, g i < 10) (hb : b ≤ e) (he : e ≤ 32) (ht : t < 10) (h28 : M 197 28 = nI b) (h29 : M 197 29 = nI e) (hr : ∀ j, j < e → M 210 j = nI (g j)) : ∀ fu i, b ≤ i → i ≤ e → e - i < fu → gX8_isMost_7 fu (nI t) (nI (cA g b i t)) (nI i) M = some (if mfl g t b e 10 then 1 else 0) := by
  intro fu
  induction fu with
  | zero => intro i _ _ h2; omega
  | succ fu ih =>
    intro i h0 h1 h2
    rw [gX8_isMost_7, h29]
    by_cases hi : e ≤ i
    · have hi2 : i = e := by omega
      subst hi2
      have hle := cA_le (row := g) (b := b) (e := i) (x := t)
      have e0 := m_is52 hg hb he ht h28 h29 hr FU 0 (by omega) (by unfold FU; omega)
      rw [if_pos (nI_le hi (by omega))]
      by_cases q : cA g b i t = 0
      · rw [if_neg (fun z => by have := z.1; omega)] at e0
        rw [if_pos (show nI (cA g b i t) ≤ 0 by rw [q]; decide), gX8_isMost_48]
        exact e0
      · rw [if_pos ⟨by omega, fun x hx => absurd hx (Nat.not_lt_zero x)⟩] at e0
        rw [if_neg (nI_nle (by omega) (by omega)), gX8_isMost_48]
        exact e0
    · have hgi := hg i
      have e0 := ih (i + 1) (by omega) (by omega) (by omega)
      rw [cA_s h0] at e0
      rw [if_neg (nI_ge (by omega) (by omega)), ldA_n _ (by omega) (by decide), hr i (by omega), obs]
      by_cases hq : g i = t
      · rw [if_pos hq] at e0
        rw [if_pos (congrArg nI hq), gX8_isMost_31, nI_1, obs, nI_1, obs]
        exact e0
      · rw [if_neg hq] at e0
        rw [if_neg (fun z => hq (nI_inj (by omega) (by omega) z)), gX8_isMost_31, i_0, nI_add, obs, nI_1, obs]
        exact e0
theorem m_is {M : Mem} {row : Nat → Nat} {t s b e S : Nat} (hrow : ∀ i, row i < 10) (hb : b ≤ e) (he : e ≤ 32) (ht : t < 10) (h28 : M 197 28 = nI b) (h29 : M 197 29 = nI e) (hr : ∀ j, j < e → M 210 j = nI (rS row t s S j)) : gX8_isMost (nI t) M = some (if mostP row t s b e S then 1 else 0) := by
  have hg : ∀ i, rS row t s S i < 10 := fun i => by
    unfold rS
    by_cases q : s ≤ i ∧ bt S (i - s)
    · rw [if_pos q]; exact ht
    · rw [if_neg q]; exact hrow i
  have e0 := m_is7 hg hb he ht h28 h29 hr FU b (Nat.le_refl _) hb (by unfold FU; omega)
  rw [cA_0] at e0
  rw [gX8_isMost, h28, obs]
  refine e0.trans ?_
  have hiff : mfl (rS row t s S) t b e 10 ↔ mostP row t s b e S := by
    constructor
    · exact fun h => h.2
    · intro h
      refine ⟨?_, h⟩
      by_cases q : t = 0
      · have := (h 1 (by omega)).resolve_left (by omega)
        have : cA (rS row t s S) b e 1 < cA (rS row t s S) b e t := this
        omega
      · have := (h 0 (by omega)).resolve_left (by omega)
        have : cA (rS row t s S) b e 0 < cA (rS row t s S) b e t := this
        omega
  by_cases q : mostP row t s b e S
  · rw [if_pos q, if_pos (hiff.mpr q)]
  · rw [if_neg q, if_neg (fun z => q (hiff.mp z))]
theorem m_le50 {W : Twn} {B : Blk} {p n t S w : Nat} (hWT : WfT W) (hW : WfB (tP W) (tL W) B) (hp : p < tP W) (hn : n ≤ 8) (ht : t < 10) (hS : S < 256) (hw : w ≤ 11) (k34 : Int32 → Int32 → Int32 → Int32 → Int32 → Mem → Option (Int32 × Mem)) : ∀ fu d, d ≤ n → n - d < fu → ∀ (M : Mem), ToM M W → MoM (M 201) 0 (tP W) B → M 197 28 = nI (bS B p + d - min (bS B p + d) (tL W)) → M 197 29 = nI (bS B p + d) → (∀ i, i < bS B p + d → M 210 i = nI (rS (hrw W B p) t (bS B p) S i)) → ∃ M', gX8_least_50 k34 fu (nI p) (nI t) (nI n) (mi w) (nI S) (nI d) M = k34 (nI p) (nI t) (nI n) (mi (if mostP (hrw W B p) t (bS B p) (bS B p + n - min (bS B p + n) (tL W)) (bS B p + n) S ∧ (w = 0 ∨ pc S 10 < w - 1) then pc S 10 + 1 else w)) (nI (S + 1)) M' ∧ (∀ j, j ≠ 28 → j ≠ 29 → M' 197 j = M 197 j) ∧ ∀ a, a ≠ 197 → a ≠ 210 → M' a = M a := by
  have hs := hW.2.2.1 p hp
  have hlg := hWT.2.2.1
  have hpc := pc_le S 10
  intro fu
  induction fu with
  | zero => intro i _ h2; omega
  | succ fu ih =>
    intro d h1 h2 M hT h h28 h29 hr
    rw [gX8_least_50]
    by_cases hd : n ≤ d
    · have hd2 : d = n := by omega
      subst hd2
      refine ⟨M, ?_, fun j _ _ => rfl, fun a _ _ => rfl⟩
      rw [if_pos (nI_le hd (by omega)), m_is (fun i => hrw_lt hWT hW hp i) (by omega) (by omega) ht h28 h29 hr, obs]
      by_cases q : mostP (hrw W B p) t (bS B p) (bS B p + d - min (bS B p + d) (tL W)) (bS B p + d) S
      · rw [if_pos q, if_neg (by decide)]
        by_cases w0 : w = 0
        · rw [if_pos (show mi w < 0 by rw [w0]; decide), gX8_least_110, gX8_least_115, if_neg (show ¬ (1 : Int32) = 0 by decide), m_bits (by omega), obs, gX8_least_132, nI_1, obs, if_pos (show mostP (hrw W B p) t (bS B p) (bS B p + d - min (bS B p + d) (tL W)) (bS B p + d) S ∧ (w = 0 ∨ pc S 10 < w - 1) from ⟨q, Or.inl w0⟩)]
          unfold mi
          rw [if_neg (show ¬ pc S 10 + 1 = 0 by omega), Nat.add_sub_cancel]
        · have hmi : mi w = nI (w - 1) := by unfold mi; rw [if_neg w0]
          rw [hmi, if_neg (nI_pos (by omega)), m_bits (by omega), obs]
          by_cases w1 : w - 1 ≤ pc S 10
          · rw [if_pos (nI_le w1 (by omega)), gX8_least_114, gX8_least_115, if_pos (show (0 : Int32) = 0 from rfl), gX8_least_132, nI_1, obs, if_neg (show ¬ (mostP (hrw W B p) t (bS B p) (bS B p + d - min (bS B p + d) (tL W)) (bS B p + d) S ∧ (w = 0 ∨ pc S 10 < w - 1)) from fun z => by rcases z.2 with y | y <;> omega), hmi]
          · rw [if_neg (nI_ge (by omega) (by omega)), gX8_least_110, gX8_least_115, if_neg (show ¬ (1 : Int32) = 0 by decide), m_bits (by omega), obs, gX8_least_132, nI_1, obs, if_pos (show mostP (hrw W B p) t (bS B p) (bS B p + d - min (bS B p + d) (tL W)) (bS B p + d) S ∧ (w = 0 ∨ pc S 10 < w - 1) from ⟨q, Or.inr (by omega)⟩)]
            unfold mi
            rw [if_neg (show ¬ pc S 10 + 1 = 0 by omega), Nat.add_sub_cancel]
      · rw [if_neg q, if_pos (show (0 : Int32) = 0 from rfl), gX8_least_114, gX8_least_115, if_pos (show (0 : Int32) = 0 from rfl), gX8_least_132, nI_1, obs, if_neg (show ¬ (mostP (hrw W B p) t (bS B p) (bS B p + d - min (bS B p + d) (tL W)) (bS B p + d) S ∧ (w = 0 ∨ pc S 10 < w - 1)) from fun z => q z.1)]
    · have key : ∀ y, y = rS (hrw W B p) t (bS B p) S (bS B p + d) → ∃ M', gX8_least_78 k34 (gX8_least_50 k34 fu) (nI p) (nI t) (nI n) (mi w) (nI S) (nI d) (nI y) M = k34 (nI p) (nI t) (nI n) (mi (if mostP (hrw W B p) t (bS B p) (bS B p + n - min (bS B p + n) (tL W)) (bS B p + n) S ∧ (w = 0 ∨ pc S 10 < w - 1) then pc S 10 + 1 else w)) (nI (S + 1)) M' ∧ (∀ j, j ≠ 28 → j ≠ 29 → M' 197 j = M 197 j) ∧ ∀ a, a ≠ 197 → a ≠ 210 → M' a = M a := by
        intro y hy
        obtain ⟨M1, e1, e2, e3, e4, e5, e6, e7⟩ := m_gt (t := y) h28 h29 hT.2.1 (by omega) (by omega) hlg
        have hb1 : (if bS B p + d - (bS B p + d - min (bS B p + d) (tL W)) = tL W then bS B p + d - min (bS B p + d) (tL W) + 1 else bS B p + d - min (bS B p + d) (tL W)) = bS B p + (d + 1) - min (bS B p + (d + 1)) (tL W) := by
          by_cases q : bS B p + d - (bS B p + d - min (bS B p + d) (tL W)) = tL W
          · rw [if_pos q]; omega
          · rw [if_neg q]; omega
        rw [hb1] at e2
        obtain ⟨M2, f1, f2, f3⟩ := ih (d + 1) (by omega) (by omega) M1 (hT.cg (e6 _ (by decide) (by decide)) (e6 _ (by decide) (by decide)) (fun a z1 z2 => e7 a (by omega) (by omega))) (by rw [e7 _ (by decide) (by decide)]; exact h) e2 e3 (fun i hi => by
          by_cases q : i = bS B p + d
          · rw [q, e4, hy]
          · rw [e5 i q]; exact hr i (by omega))
        refine ⟨M2, ?_, fun j z1 z2 => by rw [f2 j z1 z2, e6 j z1 z2], fun a z1 z2 => by rw [f3 a z1 z2, e7 a z1 z2]⟩
        rw [gX8_least_78, e1, obs, nI_1, obs]
        exact f1
      rw [if_neg (nI_ge (by omega) (by omega)), m_has (by omega) (by omega), obs]
      by_cases hb : bt S d
      · rw [if_pos hb, if_neg (by decide)]
        exact key t (by unfold rS; rw [if_pos ⟨by omega, by rw [show bS B p + d - bS B p = d by omega]; exact hb⟩])
      · rw [if_neg hb, if_pos rfl, m_th hWT hT hW h hp (by omega), obs]
        exact key _ (by
          unfold rS
          rw [if_neg (fun z => hb (by have := z.2; rwa [show bS B p + d - bS B p = d by omega] at this))]
          unfold hrw
          rw [if_neg (by omega), show bS B p + d - bS B p = d by omega])
theorem m_le34 {W : Twn} {B : Blk} {p n t : Nat} (hWT : WfT W) (hW : WfB (tP W) (tL W) B) (hp : p < tP W) (hn : n ≤ 8) (ht : t < 10) : ∀ fu S, S ≤ 2 ^ n → 2 ^ n - S < fu → ∀ (M : Mem), ToM M W → MoM (M 201) 0 (tP W) B → ∃ M', gX8_least_34 fu (nI p) (nI t) (nI n) (mi (wls (fun S => mostP (hrw W B p) t (bS B p) (bS B p + n - min (bS B p + n) (tL W)) (bS B p + n) S) S)) (nI S) M = some (mi (wls (fun S => mostP (hrw W B p) t (bS B p) (bS B p + n - min (bS B p + n) (tL W)) (bS B p + n) S) (2 ^ n)), M') ∧ (∀ j, j ≠ 28 → j ≠ 29 → M' 197 j = M 197 j) ∧ ∀ a, a ≠ 197 → a ≠ 210 → M' a = M a := by
  have hs := hW.2.2.1 p hp
  have hlg := hWT.2.2.1
  have h2n : 2 ^ n ≤ 256 := Nat.pow_le_pow_right (by decide) hn
  intro fu
  induction fu with
  | zero => intro i _ h2; omega
  | succ fu ih =>
    intro S h1 h2 M hT h
    rw [gX8_least_34, shl1 (by omega)]
    by_cases hS : 2 ^ n ≤ S
    · exact ⟨M, by rw [if_pos (nI_le hS (by omega)), show S = 2 ^ n by omega], fun j _ _ => rfl, fun a _ _ => rfl⟩
    · obtain ⟨P1, d1, d2, d3, d4, d5, d6⟩ := m_as hWT.1 hlg hW hp h
      have hT1 : ToM P1 W := hT.cg (d5 _ (by decide) (by decide)) (d5 _ (by decide) (by decide)) (fun a z1 z2 => d6 a (by omega) (by omega))
      have hB1 : MoM (P1 201) 0 (tP W) B := by rw [d6 _ (by decide) (by decide)]; exact h
      obtain ⟨P2, f1, f2, f3⟩ := m_le50 (t := t) (S := S) hWT hW hp hn ht (by omega) (wls_le (fun S => mostP (hrw W B p) t (bS B p) (bS B p + n - min (bS B p + n) (tL W)) (bS B p + n) S) S) (gX8_least_34 fu) FU 0 (by omega) (by unfold FU; omega) P1 hT1 hB1 (by rw [d2]; congr 1; omega) d3 (fun i hi => by
        have hi : i < bS B p := hi
        rw [d4 i hi]
        unfold rS hrw
        rw [if_neg (fun z => by omega), if_pos hi])
      obtain ⟨P3, g1, g2, g3⟩ := ih (S + 1) (by omega) (by omega) P2 (hT1.cg (f2 _ (by decide) (by decide)) (f2 _ (by decide) (by decide)) (fun a z1 z2 => f3 a (by omega) (by omega))) (by rw [f3 _ (by decide) (by decide)]; exact hB1)
      refine ⟨P3, ?_, fun j z1 z2 => by rw [g2 j z1 z2, f2 j z1 z2, d5 j z1 z2], fun a z1 z2 => by rw [g3 a z1 z2, f3 a z1 z2, d6 a z1 z2]⟩
      rw [wls] at g1
      rw [if_neg (nI_ge (by omega) (by omega)), d1, obs, i_0]
      exact f1.trans g1
theorem sim_least : Sim_least II := by
  intro MC TC MM TM hI a1 a2 a3
  obtain ⟨rfl, A, hW, hC, hM⟩ := hI
  obtain ⟨σ, hs, ht⟩ := id hC.2.2.1
  have hWB := hW.2.2.1.2.1
  have hpe := hW.2.1.1
  have hlg := hW.2.1.2.2.1
  have bad : ∀ (x y : Option (Int32 × Mem)), x = some (-1, MC) → y = some (-1, MM) → ∃ (u v : Int32 × Mem), x = some u ∧ y = some v ∧ u.1 = v.1 ∧ II u.2 TC v.2 TC := fun x y hx hy => ⟨_, _, hx, hy, rfl, rfl, A, hW, hC, hM⟩
  rcases isOn a1 (by omega) hC.2.1.1 hM.2.1.1 with ⟨p, hp, rfl, k1, k2⟩ | ⟨k1, k2⟩
  · have hsz := hWB.2.2.1 p hp
    rcases isTh a2 with ⟨t, ht2, rfl, k3, k4⟩ | ⟨k3, k4⟩
    · rcases wi3 a3 1 8 (by decide) (by decide) with ⟨n, hn1, hn2, rfl, k5, k6⟩ | ⟨k5, k6⟩
      · replace k5 : gX7_within (nI n) 1 8 = some 1 := k5
        replace k6 : gX8_in (nI n) 1 8 = some 1 := k6
        obtain ⟨N1, a1, a2, a3, a4, a5, a6, a7, a8⟩ := c_gr hW.2.1 hWB hp (show n ≤ 20 by omega) hC.2.1 ht.2.1
        obtain ⟨N2, b1, b2, b3, b4⟩ := c_cw (fun i => hrw_lt hW.2.1 hWB hp i) (by omega) (by omega) hlg a3 a2 a4 a7
        obtain ⟨r, c1, c2⟩ := c_fd6 (t := t) (by omega) ht2 (by rw [b4 _ (by decide) (by decide)]; exact a3) (by rw [b4 _ (by decide) (by decide)]; exact a2) b2 b3 FU 0 (by omega) (by unfold FU; omega) (fun j hj => absurd hj (Nat.not_lt_zero j))
        obtain ⟨P1, d1, d2, d3⟩ := m_le34 (t := t) hW.2.1 hWB hp hn2 ht2 FU 0 (Nat.zero_le _) (by have : 2 ^ n ≤ 2 ^ 8 := Nat.pow_le_pow_right (by decide) hn2; unfold FU; omega) MM hM.2.1 hM.2.2.1.2.1
        rw [least_eq (fun i => hrw_lt hW.2.1 hWB hp i) rfl (by omega) c2] at d1
        have hCN : RC A N2 := hC.cg hW (by rw [b4 _ (by decide) (by decide), a8 _ (by decide) (by decide)]) (by rw [b4 _ (by decide) (by decide), a8 _ (by decide) (by decide)]) (fun a z1 z2 => by rw [b4 a (by omega) (by omega), a8 a (by omega) (by omega)]) (by rw [b4 _ (by decide) (by decide), a5]) (by rw [b4 _ (by decide) (by decide), a6]) (fun a z1 z2 => by rw [b4 a (by omega) (by omega), a8 a (by omega) (by omega)])
        have hMN : RM A P1 := hM.cg (fun i hi => d2 i (by omega) (by omega)) (fun a z1 z2 => d3 a (by omega) (by omega))
        refine ⟨(mi r, N2), (mi r, P1), ?_, ?_, rfl, rfl, A, hW, hCN, hMN⟩
        · rw [gX7_least, k1, obs, if_neg (by decide), k3, obs, if_neg (by decide), k5, obs, if_neg (by decide), a1, obs, gX3_fewestDays, b1, obs, show gX3_fewestDays_6 FU (nI t) 0 N2 = some (mi r, N2) by rw [i_0]; exact c1, obs]
        · rw [gX8_least, k2, obs, if_neg (by decide), k4, obs, if_neg (by decide), k6, obs, if_neg (by decide)]
          exact d1
      · replace k5 : gX7_within a3 1 8 = some 0 := k5
        replace k6 : gX8_in a3 1 8 = some 0 := k6
        refine bad _ _ ?_ ?_
        · rw [gX7_least, k1, obs, if_neg (by decide), k3, obs, if_neg (by decide), k5, obs, if_pos rfl]
        · rw [gX8_least, k2, obs, if_neg (by decide), k4, obs, if_neg (by decide), k6, obs, if_pos rfl]
    · refine bad _ _ ?_ ?_
      · rw [gX7_least, k1, obs, if_neg (by decide), k3, obs, if_pos rfl]
      · rw [gX8_least, k2, obs, if_neg (by decide), k4, obs, if_pos rfl]
  · refine bad _ _ ?_ ?_
    · rw [gX7_least, k1, obs, if_pos rfl]
    · rw [gX8_least, k2, obs, if_pos rfl]
