theorem cl_n {c : Nat} (h : c = 189 ∨ c = 190) : (nI c).toNatClampNeg = c := nI_clamp (by omega)
theorem gA_n {c : Nat} (h : c = 189 ∨ c = 190) : gA 13 (nI c) = some (nI c) := by
  unfold gA
  rw [cl_n h, if_pos]
  rcases h with rfl | rfl
  · exact kdv_189
  · exact kdv_190
theorem mn_n {a b : Nat} (ha : a < 2147483648) (hb : b < 2147483648) : mn (nI a) (nI b) = nI (min a b) := by
  unfold mn
  by_cases h : b < a
  · rw [if_pos (nI_lt h ha), Nat.min_eq_right (by omega)]
  · rw [if_neg (nI_nlt (by omega) (by omega)), Nat.min_eq_left (by omega)]
def lf (k : Nat) : Int32 := if k = 0 then -1 else nI (k - 1)
theorem lf_s (k : Nat) : lf (k + 1) = nI k := by unfold lf; rw [if_neg (by omega), Nat.add_sub_cancel]
theorem lf_dec : ∀ k, nI k + (-1) = lf k
  | 0 => by decide
  | k + 1 => by rw [pk_m1, lf_s]
theorem c_few_l {M : Mem} {Fc : Nat} {v : Nat → Nat} (hF : Fc = 189 ∨ Fc = 190) (h3 : M 185 3 = nI Fc) (hv : ∀ l, l < 13 → M Fc l = nI (v l)) (hb : ∀ l, l < 13 → v l ≤ 1000) : ∀ n i, i ≤ 13 → 13 - i < n → gX3_fewestCuts_6 n (nI (mnv v i)) (nI i) M = some (if 1000 ≤ mnv v 13 then -9 else nI (mnv v 13)) := by
  intro n
  induction n with
  | zero => intro i _ h2; omega
  | succ n ih =>
    intro i h1 h2
    have hm := mnv_1000 v i
    rw [gX3_fewestCuts_6]
    by_cases hi : 12 < i
    · have hi2 : i = 13 := by omega
      subst hi2
      rw [if_pos (show (12 : Int32) < nI 13 from nI_lt (a := 12) (by omega) (by omega))]
      by_cases hq : 1000 ≤ mnv v 13
      · rw [if_pos hq, if_pos (show (1000 : Int32) ≤ _ from nI_le (a := 1000) hq (by omega)), gX3_fewestCuts_42]
      · rw [if_neg hq, if_neg (show ¬ (1000 : Int32) ≤ _ from nI_ge (b := 1000) (by omega) (by omega)), gX3_fewestCuts_42]
    · have := hb i (by omega)
      rw [if_neg (show ¬ (12 : Int32) < nI i from nI_nlt (a := 12) (by omega) (by omega)), h3, gA_n hF, Option.bind_some, cl_n hF, ldA_n _ (by omega) (by decide), hv i (by omega), Option.bind_some, mn_n (by omega) (by omega), Option.bind_some, nI_1, Option.bind_some]
      exact ih (i + 1) (by omega) (by omega)
theorem c_few {M : Mem} {Fc : Nat} {v : Nat → Nat} (hF : Fc = 189 ∨ Fc = 190) (h3 : M 185 3 = nI Fc) (hv : ∀ l, l < 13 → M Fc l = nI (v l)) (hb : ∀ l, l < 13 → v l ≤ 1000) : gX3_fewestCuts M = some (if 1000 ≤ mnv v 13 then -9 else nI (mnv v 13)) := c_few_l hF h3 hv hb FU 0 (by omega) (by unfold FU; omega)
abbrev FL (Fc Lc : Nat) : Prop := (Fc = 189 ∧ Lc = 190) ∨ (Fc = 190 ∧ Lc = 189)
theorem c_sp53 {M : Mem} {sec w g e f l k Fc Lc : Nat} {u : Nat → Nat} (hFL : FL Fc Lc) (h3 : M 185 3 = nI Fc) (h4 : M 185 4 = nI Lc) (hg : g ≤ 12) (hw : w ≤ 12) (hl : l < 13) (hk : k < 13) (hf : M Fc l = nI f) (hf2 : f ≤ 900) (hu : u k ≤ 1000) (hL : M Lc k = nI (u k)) (k24 : Int32 → Int32 → Int32 → Int32 → Int32 → Int32 → Mem → Option Mem) : gX3_spend_53 k24 (nI l) (nI sec) (nI w) (nI g) (nI e) (nI k) M = k24 (nI l) (nI sec) (nI w) (nI g) (nI e) (lf k) (if k ≤ w then us M Lc k (nI (min (u k) (f + (if k < g then 1 else 0)))) else M) := by
  have h72 : ∀ (y : Nat), y ≤ 1 → gX3_spend_72 k24 (nI l) (nI sec) (nI w) (nI g) (nI e) (nI k) (nI y) M = k24 (nI l) (nI sec) (nI w) (nI g) (nI e) (lf k) (us M Lc k (nI (min (u k) (f + y)))) := by
    intro y hy
    rw [gX3_spend_72, h3, h4, gA_n (c := Lc) (by omega), Option.bind_some, Option.bind_some, cl_n (c := Lc) (by omega), ldA_n _ hk (by decide), hL, Option.bind_some, gA_n (c := Fc) (by omega), Option.bind_some, cl_n (c := Fc) (by omega), ldA_n _ hl (by decide), hf, Option.bind_some, nI_add, mn_n (by omega) (by omega), Option.bind_some, stA_n _ _ _ hk (by decide), Option.bind_some, gX3_spend_100, lf_dec, Option.bind_some]
  rw [gX3_spend_53]
  by_cases hkw : k ≤ w
  · rw [if_neg (nI_nlt hkw (by omega)), if_pos hkw]
    by_cases hkg : g ≤ k
    · rw [if_pos (nI_le hkg (by omega)), if_neg (show ¬ k < g by omega)]
      exact h72 0 (by omega)
    · rw [if_neg (nI_ge (by omega) (by omega)), if_pos (show k < g by omega)]
      exact h72 1 (by omega)
  · rw [if_pos (nI_lt (by omega) (by omega)), if_neg hkw, gX3_spend_100, lf_dec, Option.bind_some]
theorem c_sp {row : Nat → Nat} {sec w g e f l Fc Lc : Nat} (hFL : FL Fc Lc) (hg : g ≤ 12) (hge : g ≤ e) (he : e ≤ 32) (hw : w ≤ 12) (hsec : sec < 10) (hrow : ∀ i, row i < 10) (hf2 : f ≤ 900) (hl : l < 13) : ∀ k fu, k < fu → k ≤ g + 1 → ∀ (u : Nat → Nat) (M : Mem), M 185 3 = nI Fc → M 185 4 = nI Lc → M Fc l = nI f → (∀ i, i < e → M 188 i = nI (row i)) → (∀ j, j < 13 → u j ≤ 1000) → (∀ j, j < 13 → M Lc j = nI (u j)) → ∃ M', gX3_spend_24 fu (nI l) (nI sec) (nI w) (nI g) (nI e) (lf k) M = some M' ∧ (∀ j, j < 13 → M' Lc j = nI (spN row sec w g e f k u j)) ∧ ∀ a, a ≠ Lc → M' a = M a := by
  intro k
  induction k with
  | zero =>
    intro fu h1 _ u M h3 h4 hf hr hu hL
    obtain ⟨fu, rfl⟩ : ∃ z, fu = z + 1 := ⟨fu - 1, by omega⟩
    exact ⟨M, by rw [gX3_spend_24, if_pos (show lf 0 < 0 by decide)], hL, fun a _ => rfl⟩
  | succ k ih =>
    intro fu h1 h2 u M h3 h4 hf hr hu hL
    obtain ⟨fu, rfl⟩ : ∃ z, fu = z + 1 := ⟨fu - 1, by omega⟩
    have go : ¬ (k < g ∧ row (e - k - 1) = sec) → ∃ M', gX3_spend_53 (gX3_spend_24 fu) (nI l) (nI sec) (nI w) (nI g) (nI e) (nI k) M = some M' ∧ (∀ j, j < 13 → M' Lc j = nI (spN row sec w g e f (k + 1) u j)) ∧ ∀ a, a ≠ Lc → M' a = M a := by
      intro hns
      rw [c_sp53 hFL h3 h4 hg hw hl (by omega) hf hf2 (hu k (by omega)) (hL k (by omega)), spN, if_neg hns]
      by_cases hkw : k ≤ w
      · rw [if_pos hkw, if_pos hkw]
        obtain ⟨M', e1, e2, e3⟩ := ih fu (by omega) (by omega) (fun j => if j = k then min (u k) (f + (if k < g then 1 else 0)) else u j) (us M Lc k (nI (min (u k) (f + (if k < g then 1 else 0))))) (by rw [us_ne _ _ _ (by omega)]; exact h3) (by rw [us_ne _ _ _ (by omega)]; exact h4) (by rw [us_ne _ _ _ (by omega)]; exact hf) (fun i hi => by rw [us_ne _ _ _ (by omega)]; exact hr i hi) (fun j hj => by
          have := hu j hj
          have := hu k (by omega)
          split <;> omega) (fun j hj => by
          rw [us_app]
          by_cases hjk : j = k
          · rw [if_pos ⟨rfl, hjk⟩, if_pos hjk]
          · rw [if_neg (fun z => hjk z.2), if_neg hjk]; exact hL j hj)
        exact ⟨M', e1, e2, fun a ha => by rw [e3 a ha, us_ne _ _ _ ha]⟩
      · rw [if_neg hkw, if_neg hkw]
        exact ih fu (by omega) (by omega) u M h3 h4 hf hr hu hL
    rw [lf_s, gX3_spend_24, if_neg (nI_pos (by omega))]
    by_cases hkg : g ≤ k
    · rw [if_pos (nI_le hkg (by omega))]
      exact go (fun z => by omega)
    · have hrk := hrow (e - k - 1)
      rw [if_neg (nI_ge (by omega) (by omega)), pk_sub (by omega), i_1, pk_sub (by omega), ldA_n _ (by omega) (by decide), hr _ (by omega), Option.bind_some]
      by_cases hq : row (e - k - 1) = sec
      · refine ⟨M, by rw [if_pos (congrArg nI hq)], fun j hj => ?_, fun a _ => rfl⟩
        rw [spN, if_pos ⟨by omega, hq⟩]; exact hL j hj
      · rw [if_neg (fun z => hq (nI_inj (by omega) (by omega) z))]
        exact go (fun z => hq z.2)
theorem c_ev42 {row v : Nat → Nat} {sec w lg s n ev Fc Lc : Nat} (hFL : FL Fc Lc) (hlg : lg ≤ 12) (hw : w ≤ 12) (hse : s + ev ≤ 32) (hsec : sec < 10) (hrow : ∀ i, row i < 10) (hv : ∀ l, l < 13 → v l ≤ 1000) (hv2 : ∀ l, l < 13 → v l < 1000 → l < s + ev ∧ v l ≤ 900) (k23 : Int32 → Int32 → Int32 → Int32 → Mem → Option (Int32 × Mem)) : ∀ fu i, i ≤ 13 → 13 - i < fu → ∀ (M : Mem), M 185 3 = nI Fc → M 185 4 = nI Lc → M 185 5 = nI s → M 185 7 = nI lg → (∀ i, i < s + ev → M 188 i = nI (row i)) → (∀ l, l < 13 → M Fc l = nI (v l)) → (∀ j, j < 13 → M Lc j = nI (ltr row sec w lg (s + ev) v i j)) → ∃ M', gX3_firstFailingEvening_42 k23 fu (nI sec) (nI n) (nI w) (nI ev) (nI i) M = (if 1000 ≤ mnv (ltr row sec w lg (s + ev) v 13) 13 then some (nI ev, M') else k23 (nI sec) (nI n) (nI w) (nI (ev + 1)) M') ∧ M' 185 3 = nI Lc ∧ M' 185 4 = nI Fc ∧ (∀ j, j < 13 → M' Lc j = nI (ltr row sec w lg (s + ev) v 13 j)) ∧ (∀ i, i ≠ 3 → i ≠ 4 → M' 185 i = M 185 i) ∧ ∀ a, a ≠ 185 → a ≠ 189 → a ≠ 190 → M' a = M a := by
  intro fu
  induction fu with
  | zero => intro i _ h2; omega
  | succ fu ih =>
    intro i h1 h2 M h3 h4 h5 h7 hr hF hL
    rw [gX3_firstFailingEvening_42]
    by_cases hi : 12 < i
    · have hi2 : i = 13 := by omega
      subst hi2
      have g3 : us (us M 185 3 (nI Lc)) 185 4 (nI Fc) 185 3 = nI Lc := by rw [us_app, if_neg (by decide), us_app, if_pos ⟨rfl, rfl⟩]
      have gL : ∀ j, j < 13 → us (us M 185 3 (nI Lc)) 185 4 (nI Fc) Lc j = nI (ltr row sec w lg (s + ev) v 13 j) := fun j hj => by
        rw [us_ne _ _ _ (by omega), us_ne _ _ _ (by omega)]; exact hL j hj
      have hfe := c_few (Fc := Lc) (by omega) g3 gL (fun l _ => ltr_le l 13)
      have hm := mnv_1000 (ltr row sec w lg (s + ev) v 13) 13
      refine ⟨us (us M 185 3 (nI Lc)) 185 4 (nI Fc), ?_, g3, by rw [us_app, if_pos ⟨rfl, rfl⟩], gL, fun i z1 z2 => by rw [us_app, if_neg (fun q => z2 q.2), us_app, if_neg (fun q => z1 q.2)], fun a z1 _ _ => by rw [us_ne _ _ _ z1, us_ne _ _ _ z1]⟩
      rw [if_pos (show (12 : Int32) < nI 13 from nI_lt (a := 12) (by omega) (by omega)), h3, h4, gA_n (c := Fc) (by omega), Option.bind_some, gA_n (c := Lc) (by omega), Option.bind_some, Option.bind_some, Option.bind_some, hfe, Option.bind_some]
      by_cases hq : 1000 ≤ mnv (ltr row sec w lg (s + ev) v 13) 13
      · rw [if_pos hq, if_pos hq, if_pos rfl]
      · rw [if_neg hq, if_neg hq, if_neg (fun z => by
          have := nI_pos (n := mnv (ltr row sec w lg (s + ev) v 13) 13) (by omega)
          rw [z] at this
          exact this (by decide)), nI_1, Option.bind_some]
    · have hvi := hv i (by omega)
      rw [if_neg (show ¬ (12 : Int32) < nI i from nI_nlt (a := 12) (by omega) (by omega)), h3, gA_n (c := Fc) (by omega), Option.bind_some, cl_n (c := Fc) (by omega), ldA_n _ (by omega) (by decide), hF i (by omega), Option.bind_some]
      by_cases hq : v i < 1000
      · obtain ⟨hv3, hv4⟩ := hv2 i (by omega) hq
        obtain ⟨M1, e1, e2, e3⟩ := c_sp (l := i) (g := min (i + 1) lg) (e := s + ev) (f := v i) hFL (by omega) (by omega) hse hw hsec hrow hv4 (by omega) (min (i + 1) lg + 1) FU (by unfold FU; omega) (by omega) (ltr row sec w lg (s + ev) v i) M h3 h4 (hF i (by omega)) hr (fun j _ => ltr_le j i) hL
        obtain ⟨M2, f1, f2, f3, f4, f5, f6⟩ := ih (i + 1) (by omega) (by omega) M1 (by rw [e3 _ (by omega)]; exact h3) (by rw [e3 _ (by omega)]; exact h4) (by rw [e3 _ (by omega)]; exact h5) (by rw [e3 _ (by omega)]; exact h7) (fun j hj => by rw [e3 _ (by omega)]; exact hr j hj) (fun l hl => by rw [e3 _ (by omega)]; exact hF l hl) (fun j hj => by rw [ltr, if_pos hq]; exact e2 j hj)
        refine ⟨M2, ?_, f2, f3, f4, fun j z1 z2 => by rw [f5 j z1 z2, e3 _ (by omega)], fun a z1 z2 z3 => by rw [f6 a z1 z2 z3, e3 a (by omega)]⟩
        rw [lf_s] at e1
        rw [if_neg (show ¬ (1000 : Int32) ≤ _ from nI_ge (b := 1000) (by omega) (by omega)), gX3_spend, h7, nI_1, mn_n (by omega) (by omega), obs, h5, nI_add, obs, e1, obs, gX3_firstFailingEvening_72, nI_1, obs]
        exact f1
      · obtain ⟨M2, f1, f2, f3, f4, f5, f6⟩ := ih (i + 1) (by omega) (by omega) M h3 h4 h5 h7 hr hF (fun j hj => by rw [ltr, if_neg hq]; exact hL j hj)
        refine ⟨M2, ?_, f2, f3, f4, f5, f6⟩
        rw [if_pos (show (1000 : Int32) ≤ _ from nI_le (a := 1000) (by omega) (by omega)), gX3_firstFailingEvening_72, nI_1, obs]
        exact f1
theorem c_ev {row v : Nat → Nat} {sec w lg s n ev Fc Lc : Nat} {M : Mem} (hFL : FL Fc Lc) (hlg : lg ≤ 12) (hw : w ≤ 12) (hse : s + ev ≤ 32) (hen : ev ≤ n) (hn : n ≤ 20) (hsec : sec < 10) (hrow : ∀ i, row i < 10) (hv : ∀ l, l < 13 → v l ≤ 1000) (hv2 : ∀ l, l < 13 → v l < 1000 → l < s + ev ∧ v l ≤ 900) (fu : Nat) (h3 : M 185 3 = nI Fc) (h4 : M 185 4 = nI Lc) (h5 : M 185 5 = nI s) (h7 : M 185 7 = nI lg) (hr : ∀ i, i < s + ev → M 188 i = nI (row i)) (hF : ∀ l, l < 13 → M Fc l = nI (v l)) : ∃ M', gX3_firstFailingEvening_23 (fu + 1) (nI sec) (nI n) (nI w) (nI ev) M = (if 1000 ≤ mnv (ltr row sec w lg (s + ev) v 13) 13 then some (nI ev, M') else gX3_firstFailingEvening_23 fu (nI sec) (nI n) (nI w) (nI (ev + 1)) M') ∧ M' 185 3 = nI Lc ∧ M' 185 4 = nI Fc ∧ (∀ j, j < 13 → M' Lc j = nI (ltr row sec w lg (s + ev) v 13 j)) ∧ (∀ i, i ≠ 3 → i ≠ 4 → M' 185 i = M 185 i) ∧ ∀ a, a ≠ 185 → a ≠ 189 → a ≠ 190 → M' a = M a := by
  obtain ⟨M1, e1, e2, e3, e4⟩ := c_fill (o := Lc) (n0 := 13) (x := 1000) (by decide) M
  obtain ⟨M2, f1, f2, f3, f4, f5, f6⟩ := c_ev42 (n := n) hFL hlg hw hse hsec hrow hv hv2 (gX3_firstFailingEvening_23 fu) FU 0 (by omega) (by unfold FU; omega) M1 (by rw [e2 _ (by omega)]; exact h3) (by rw [e2 _ (by omega)]; exact h4) (by rw [e2 _ (by omega)]; exact h5) (by rw [e2 _ (by omega)]; exact h7) (fun j hj => by rw [e2 _ (by omega)]; exact hr j hj) (fun l hl => by rw [e2 _ (by omega)]; exact hF l hl) (fun j hj => e4 j hj)
  refine ⟨M2, ?_, f2, f3, f4, fun j z1 z2 => by rw [f5 j z1 z2, e2 _ (by omega)], fun a z1 z2 z3 => by rw [f6 a z1 z2 z3, e2 a (by omega)]⟩
  rw [gX3_firstFailingEvening_23, if_neg (nI_nlt hen (by omega)), h4, gA_n (c := Lc) (by omega), obs, cl_n (c := Lc) (by omega), e1, obs, i_0]
  exact f1
-- the reference's day
theorem m_pl81 {W : Twn} {row : Nat → Nat} {p sec e : Nat} {x2 x3 x4 x6 : Int32} {c : Nat} (hpe : tP W ≤ 5) (hp : p < tP W) (he : e < 40) (hsec : tS W p = sec) (hs10 : sec < 10) (hrow : ∀ i, row i < 10) (k51 : Int32 → Int32 → Int32 → Int32 → Int32 → Int32 → Mem → Option (Int32 × Mem)) : ∀ k fu b, e - b ≤ k → b ≤ e → k < fu → ∀ (M : Mem), ToM M W → M 197 28 = nI b → M 197 29 = nI e → (∀ i, i < e → M 210 i = nI (row i)) → ∃ M', gX8_plan_81 k51 fu (nI p) x2 x3 x4 (nI c) x6 M = gX8_plan_126 k51 (nI p) x2 x3 x4 (nI (c + 1)) x6 M' ∧ M' 197 28 = nI (fsq row sec e k b) ∧ (∀ j, j ≠ 28 → M' 197 j = M 197 j) ∧ ∀ a, a ≠ 197 → M' a = M a := by
  intro k
  induction k with
  | zero =>
    intro fu b h1 h2 h3 M hT h28 h29 hr
    obtain ⟨fu, rfl⟩ : ∃ z, fu = z + 1 := ⟨fu - 1, by omega⟩
    refine ⟨M, ?_, h28, fun j _ => rfl, fun a _ => rfl⟩
    rw [gX8_plan_81, h28, h29, if_pos (nI_le (by omega) (by omega)), gX8_plan_123, nI_1, obs]
  | succ k ih =>
    intro fu b h1 h2 h3 M hT h28 h29 hr
    obtain ⟨fu, rfl⟩ : ∃ z, fu = z + 1 := ⟨fu - 1, by omega⟩
    rw [gX8_plan_81, h28, h29, fsq]
    by_cases hb : e ≤ b
    · refine ⟨M, ?_, by rw [if_pos hb]; exact h28, fun j _ => rfl, fun a _ => rfl⟩
      rw [if_pos (nI_le hb (by omega)), gX8_plan_123, nI_1, obs]
    · have hrb := hrow b
      rw [if_neg (nI_ge (by omega) (by omega)), ldA_n _ (by omega) (by decide), hr b (by omega), obs, ldA_n _ (by omega) (by decide), hT.2.2.1 p hp, obs, hsec, if_neg hb]
      by_cases hq : row b = sec
      · refine ⟨M, ?_, by rw [if_pos hq]; exact h28, fun j _ => rfl, fun a _ => rfl⟩
        rw [if_pos (congrArg nI hq), gX8_plan_123, nI_1, obs]
      · rw [if_neg (fun z => hq (nI_inj (by omega) (by omega) z)), nI_1, obs, if_neg hq]
        obtain ⟨M', e1, e2, e3, e4⟩ := ih fu (b + 1) (by omega) (by omega) (by omega) (us M 197 28 (nI (b + 1))) (hT.cg (by rw [us_app, if_neg (by decide)]) (by rw [us_app, if_neg (by decide)]) (fun a z1 z2 => us_ne _ _ _ (by omega))) (by rw [us_app, if_pos ⟨rfl, rfl⟩]) (by rw [us_app, if_neg (by decide)]; exact h29) (fun i hi => by rw [us_ne _ _ _ (by decide)]; exact hr i hi)
        exact ⟨M', e1, e2, fun j hj => by rw [e3 j hj, us_app, if_neg (fun z => hj z.2)], fun a ha => by rw [e4 a ha, us_ne _ _ _ ha]⟩
theorem m_day {W : Twn} {B : Blk} {p n w d G c : Nat} {x4 : Int32} {M : Mem} (hWT : WfT W) (hW : WfB (tP W) (tL W) B) (hp : p < tP W) (hn : n ≤ 20) (hd : d < n) (hw : w ≤ 12) (hG : G ≤ tL W) (hGe : G ≤ bS B p + d) (hT : ToM M W) (h : MoM (M 201) 0 (tP W) B) (h28 : M 197 28 = nI (bS B p + d - G)) (h29 : M 197 29 = nI (bS B p + d)) (hr : ∀ i, i < bS B p + d → M 210 i = nI (hrw W B p i)) (fu : Nat) : ∃ M', (gX8_plan_51 (fu + 1) (nI p) (nI n) (nI w) x4 (nI c) (nI d) M = if min (G + 1) (tL W) ≤ w then gX8_plan_51 fu (nI p) (nI n) (nI w) x4 (nI c) (nI (d + 1)) M' else if bS B p + d + 1 - fsq (hrw W B p) (tS W p) (bS B p + d + 1) 40 (bS B p + d + 1 - min (G + 1) (tL W)) ≤ w then gX8_plan_51 fu (nI p) (nI n) (nI w) x4 (nI (c + 1)) (nI (d + 1)) M' else some (if x4 = 0 then -9 else nI (d + 1), M')) ∧ M' 197 28 = nI (bS B p + d + 1 - (if min (G + 1) (tL W) ≤ w then min (G + 1) (tL W) else bS B p + d + 1 - fsq (hrw W B p) (tS W p) (bS B p + d + 1) 40 (bS B p + d + 1 - min (G + 1) (tL W)))) ∧ M' 197 29 = nI (bS B p + d + 1) ∧ (∀ i, i < bS B p + d + 1 → M' 210 i = nI (hrw W B p i)) ∧ (∀ j, j ≠ 28 → j ≠ 29 → M' 197 j = M 197 j) ∧ ∀ a, a ≠ 197 → a ≠ 210 → M' a = M a := by
  have hs := hW.2.2.1 p hp
  have hlg := hWT.2.2.1
  have hlg1 := hWT.2.1
  obtain ⟨M1, e1, e2, e3, e4, e5, e6, e7⟩ := m_gt (t := th W B p d) h28 h29 hT.2.1 (by omega) (by omega) hlg
  have hb1 : (if bS B p + d - (bS B p + d - G) = tL W then bS B p + d - G + 1 else bS B p + d - G) = bS B p + d + 1 - min (G + 1) (tL W) := by
    by_cases q : bS B p + d - (bS B p + d - G) = tL W
    · rw [if_pos q]; omega
    · rw [if_neg q]; omega
  rw [hb1] at e2
  have hrow1 : ∀ i, i < bS B p + d + 1 → M1 210 i = nI (hrw W B p i) := fun i hi => by
    by_cases q : i = bS B p + d
    · rw [q, e4]; unfold hrw; rw [if_neg (by omega), show bS B p + d - bS B p = d by omega]
    · rw [e5 i q]; exact hr i (by omega)
  rw [gX8_plan_51, if_neg (nI_ge hd (by omega)), m_th hWT hT hW h hp (by omega), obs, e1, obs, e2, e3, pk_sub (by omega), show bS B p + d + 1 - (bS B p + d + 1 - min (G + 1) (tL W)) = min (G + 1) (tL W) by omega]
  by_cases hgw : min (G + 1) (tL W) ≤ w
  · refine ⟨M1, ?_, by rw [if_pos hgw]; exact e2, e3, hrow1, e6, e7⟩
    rw [if_pos (nI_le hgw (by omega)), if_pos hgw, gX8_plan_126, e2, e3, pk_sub (by omega), show bS B p + d + 1 - (bS B p + d + 1 - min (G + 1) (tL W)) = min (G + 1) (tL W) by omega, if_pos (nI_le hgw (by omega)), nI_1, obs]
  · obtain ⟨M2, f1, f2, f3, f4⟩ := m_pl81 (x2 := nI n) (x3 := nI w) (x4 := x4) (x6 := nI d) (c := c) hWT.1 hp (show bS B p + d + 1 < 40 by omega) rfl (hWT.2.2.2.1 p hp) (fun i => hrw_lt hWT hW hp i) (gX8_plan_51 fu) 40 FU (bS B p + d + 1 - min (G + 1) (tL W)) (by omega) (by omega) (by unfold FU; omega) M1 (hT.cg (e6 _ (by decide) (by decide)) (e6 _ (by decide) (by decide)) (fun a z1 z2 => e7 a (by omega) (by omega))) e2 e3 hrow1
    obtain ⟨k1, k2, k3, k4⟩ := fsq_s (row := hrw W B p) (sec := tS W p) (e := bS B p + d + 1) 40 (bS B p + d + 1 - min (G + 1) (tL W)) (by omega) (by omega)
    have g29 : M2 197 29 = nI (bS B p + d + 1) := by rw [f3 _ (by decide)]; exact e3
    refine ⟨M2, ?_, ?_, g29, fun i hi => by rw [f4 _ (by decide)]; exact hrow1 i hi, fun j z1 z2 => by rw [f3 j z1, e6 j z1 z2], fun a z1 z2 => by rw [f4 a z1, e7 a z1 z2]⟩
    · rw [if_neg (nI_ge (by omega) (by omega)), if_neg hgw, f1, gX8_plan_126, f2, g29, pk_sub k2]
      by_cases hq : bS B p + d + 1 - fsq (hrw W B p) (tS W p) (bS B p + d + 1) 40 (bS B p + d + 1 - min (G + 1) (tL W)) ≤ w
      · rw [if_pos (nI_le hq (by omega)), if_pos hq, nI_1, obs]
      · rw [if_neg (nI_ge (by omega) (by omega)), if_neg hq]
        by_cases hz : x4 = 0
        · rw [if_pos hz, if_pos hz, gX8_plan_153]
        · rw [if_neg hz, if_neg hz, nI_1, gX8_plan_153]
    · rw [if_neg hgw, f2]
      congr 1; omega
theorem both_plan {W : Twn} {B : Blk} {p n w : Nat} {x4 : Int32} (hWT : WfT W) (hW : WfB (tP W) (tL W) B) (hp : p < tP W) (hn : n ≤ 20) (hw : w ≤ 12) : ∀ m d G c v Fc Lc fu1 fu2 (MC MM : Mem), n - d = m → d ≤ n → m < fu1 → m < fu2 → FL Fc Lc → PI (hrw W B p) (tS W p) (tL W) (bS B p + d) d G c v → (∀ l, l < 13 → v l ≤ 1000) → MC 185 3 = nI Fc → MC 185 4 = nI Lc → MC 185 5 = nI (bS B p) → MC 185 7 = nI (tL W) → (∀ i, i < bS B p + n → MC 188 i = nI (hrw W B p i)) → (∀ l, l < 13 → MC Fc l = nI (v l)) → ToM MM W → MoM (MM 201) 0 (tP W) B → MM 197 28 = nI (bS B p + d - G) → MM 197 29 = nI (bS B p + d) → (∀ i, i < bS B p + d → MM 210 i = nI (hrw W B p i)) → ∃ fr MC' rr MM', gX3_firstFailingEvening_23 fu1 (nI (tS W p)) (nI n) (nI w) (nI (d + 1)) MC = some (fr, MC') ∧ gX8_plan_51 fu2 (nI p) (nI n) (nI w) x4 (nI c) (nI d) MM = some (rr, MM') ∧ ((fr = -9 ∧ ∃ cc, gX3_fewestCuts MC' = some cc ∧ rr = if x4 = 0 then cc else -9) ∨ (fr ≠ -9 ∧ rr = if x4 = 0 then -9 else fr)) ∧ SrC MC' ∧ (∀ a, a ≠ 185 → a ≠ 189 → a ≠ 190 → MC' a = MC a) ∧ (∀ j, j ≠ 28 → j ≠ 29 → MM' 197 j = MM 197 j) ∧ ∀ a, a ≠ 197 → a ≠ 210 → MM' a = MM a := by
  have hs := hW.2.2.1 p hp
  have hlg := hWT.2.2.1
  have hlg1 := hWT.2.1
  intro m
  induction m with
  | zero =>
    intro d G c v Fc Lc fu1 fu2 MC MM h1 h2 hf1 hf2 hFL hPI hv c3 c4 c5 c7 cr cF mT mB m28 m29 mr
    obtain ⟨fu1, rfl⟩ : ∃ z, fu1 = z + 1 := ⟨fu1 - 1, by omega⟩
    obtain ⟨fu2, rfl⟩ : ∃ z, fu2 = z + 1 := ⟨fu2 - 1, by omega⟩
    have hd : d = n := by omega
    subst hd
    have hmin := PI_min hlg (by omega) hPI
    have hc := hPI.2.2.2.1
    refine ⟨-9, MC, if x4 = 0 then nI c else -9, MM, ?_, ?_, Or.inl ⟨rfl, nI c, ?_, rfl⟩, ?_, fun a _ _ _ => rfl, fun j _ _ => rfl, fun a _ _ => rfl⟩
    · rw [gX3_firstFailingEvening_23, if_pos (nI_lt (by omega) (by omega))]
    · rw [gX8_plan_51, if_pos (nI_le (Nat.le_refl d) (by omega))]
      by_cases hz : x4 = 0
      · rw [if_pos hz, if_pos hz, gX8_plan_172]
      · rw [if_neg hz, if_neg hz, gX8_plan_172]
    · rw [c_few (Fc := Fc) (by omega) c3 cF hv, hmin, if_neg (by omega)]
    · unfold SrC
      rw [c3, c4]
      rcases hFL with ⟨q1, q2⟩ | ⟨q1, q2⟩
      · rw [q1, q2]; exact Or.inl ⟨rfl, rfl⟩
      · rw [q1, q2]; exact Or.inr ⟨rfl, rfl⟩
  | succ m ih =>
    intro d G c v Fc Lc fu1 fu2 MC MM h1 h2 hf1 hf2 hFL hPI hv c3 c4 c5 c7 cr cF mT mB m28 m29 mr
    obtain ⟨fu1, rfl⟩ : ∃ z, fu1 = z + 1 := ⟨fu1 - 1, by omega⟩
    obtain ⟨fu2, rfl⟩ : ∃ z, fu2 = z + 1 := ⟨fu2 - 1, by omega⟩
    obtain ⟨N1, e1, e2, e3, e4, e5, e6⟩ := c_ev (row := hrw W B p) (sec := tS W p) (w := w) (lg := tL W) (s := bS B p) (n := n) (ev := d + 1) hFL hlg hw (by omega) (by omega) hn (hWT.2.2.2.1 p hp) (fun i => hrw_lt hWT hW hp i) hv (fun l z1 z2 => by have := hPI.2.2.2.2 l z1 z2; omega) fu1 c3 c4 c5 c7 (fun i hi => cr i (by omega)) cF
    obtain ⟨N2, f1, f2, f3, f4, f5, f6⟩ := m_day (x4 := x4) (c := c) hWT hW hp hn (show d < n by omega) hw hPI.1 hPI.2.1 mT mB m28 m29 mr fu2
    obtain ⟨p1, p2⟩ := PI_step (w := w) (n := 40) hlg hlg1 (by omega) (by omega) hPI
    have hu : ∀ l, l < 13 → ltr (hrw W B p) (tS W p) w (tL W) (bS B p + (d + 1)) v 13 l ≤ 1000 := fun l _ => ltr_le l 13
    have goOn : ∀ G' c', PI (hrw W B p) (tS W p) (tL W) (bS B p + (d + 1)) (d + 1) G' c' (ltr (hrw W B p) (tS W p) w (tL W) (bS B p + (d + 1)) v 13) → N2 197 28 = nI (bS B p + (d + 1) - G') → gX8_plan_51 (fu2 + 1) (nI p) (nI n) (nI w) x4 (nI c) (nI d) MM = gX8_plan_51 fu2 (nI p) (nI n) (nI w) x4 (nI c') (nI (d + 1)) N2 → ∃ fr MC' rr MM', gX3_firstFailingEvening_23 (fu1 + 1) (nI (tS W p)) (nI n) (nI w) (nI (d + 1)) MC = some (fr, MC') ∧ gX8_plan_51 (fu2 + 1) (nI p) (nI n) (nI w) x4 (nI c) (nI d) MM = some (rr, MM') ∧ ((fr = -9 ∧ ∃ cc, gX3_fewestCuts MC' = some cc ∧ rr = if x4 = 0 then cc else -9) ∨ (fr ≠ -9 ∧ rr = if x4 = 0 then -9 else fr)) ∧ SrC MC' ∧ (∀ a, a ≠ 185 → a ≠ 189 → a ≠ 190 → MC' a = MC a) ∧ (∀ j, j ≠ 28 → j ≠ 29 → MM' 197 j = MM 197 j) ∧ ∀ a, a ≠ 197 → a ≠ 210 → MM' a = MM a := by
      intro G' c' hP h28' hstep
      have hmin := PI_min hlg (by omega) hP
      have hc' := hP.2.2.2.1
      rw [if_neg (by rw [hmin]; omega)] at e1
      obtain ⟨fr, MC', rr, MM', r1, r2, r3, r4, r5, r6, r7⟩ := ih (d + 1) G' c' _ Lc Fc fu1 fu2 N1 N2 (by omega) (by omega) (by omega) (by omega) (by omega) hP hu e2 e3 (by rw [e5 _ (by decide) (by decide)]; exact c5) (by rw [e5 _ (by decide) (by decide)]; exact c7) (fun i hi => by rw [e6 _ (by decide) (by decide) (by decide)]; exact cr i hi) e4 (mT.cg (f5 _ (by decide) (by decide)) (f5 _ (by decide) (by decide)) (fun a z1 z2 => f6 a (by omega) (by omega))) (by rw [f6 _ (by decide) (by decide)]; exact mB) h28' f3 f4
      exact ⟨fr, MC', rr, MM', e1.trans r1, hstep.trans r2, r3, r4, fun a z1 z2 z3 => by rw [r5 a z1 z2 z3, e6 a z1 z2 z3], fun j z1 z2 => by rw [r6 j z1 z2, f5 j z1 z2], fun a z1 z2 => by rw [r7 a z1 z2, f6 a z1 z2]⟩
    by_cases hgw : min (G + 1) (tL W) ≤ w
    · rw [if_pos hgw] at f1 f2
      exact goOn _ _ (p1 hgw) f2 f1
    · rw [if_neg hgw] at f1 f2
      obtain ⟨p3, p4⟩ := p2 (by omega)
      by_cases hq : bS B p + d + 1 - fsq (hrw W B p) (tS W p) (bS B p + d + 1) 40 (bS B p + d + 1 - min (G + 1) (tL W)) ≤ w
      · rw [if_pos hq] at f1
        exact goOn _ _ (p3 hq) f2 f1
      · rw [if_neg hq] at f1
        have hall := p4 (by omega)
        have hmin : 1000 ≤ mnv (ltr (hrw W B p) (tS W p) w (tL W) (bS B p + (d + 1)) v 13) 13 := mnv_ge (by omega) 13 (fun l hl => Nat.le_of_eq (hall l hl).symm)
        rw [if_pos hmin] at e1
        have hne : nI (d + 1) ≠ -9 := fun z => by
          have := nI_pos (n := d + 1) (by omega)
          rw [z] at this
          exact this (by decide)
        refine ⟨_, N1, _, N2, e1, f1, Or.inr ⟨hne, rfl⟩, ?_, e6, f5, f6⟩
        unfold SrC
        rw [e2, e3]
        rcases hFL with ⟨q1, q2⟩ | ⟨q1, q2⟩
        · rw [q1, q2]; exact Or.inr ⟨rfl, rfl⟩
        · rw [q1, q2]; exact Or.inl ⟨rfl, rfl⟩
