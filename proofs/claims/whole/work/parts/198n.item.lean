abbrev ScC (M M' : Mem) : Prop := ∀ a, (a = 0 ∨ a = 2 ∨ a = 3 ∨ 8 ≤ a) → M' a = M a
abbrev ScM (M M' : Mem) : Prop := (∀ i, i < 15 → M' 197 i = M 197 i) ∧ ∀ a, a ≠ 197 → (a < 207 ∨ 209 < a) → M' a = M a
theorem ScC.tr {M M1 M2 : Mem} (h : ScC M M1) (h' : ScC M1 M2) : ScC M M2 := fun a ha => (h' a ha).trans (h a ha)
theorem ScM.tr {M M1 M2 : Mem} (h : ScM M M1) (h' : ScM M1 M2) : ScM M M2 := ⟨fun i hi => (h'.1 i hi).trans (h.1 i hi), fun a ha hb => (h'.2 a ha hb).trans (h.2 a ha hb)⟩
theorem FrC.sc {M M' : Mem} (h : FrC M M') : ScC M M' := fun a ha => h.2 a (by omega)
theorem FrM.sc {M M' : Mem} (h : FrM M M') : ScM M M' := ⟨fun i hi => h.1 i (by omega), fun a ha _ => h.2 a ha⟩
theorem TxC.sc {M M' : Mem} {x : Nat × (Nat → Nat)} (h : TxC M x) (hs : ScC M M') : TxC M' x := h.cg (hs _ (by decide)) (hs _ (by decide))
theorem TxM.sc {M M' : Mem} {x : Nat × (Nat → Nat)} (h : TxM M x) (hs : ScM M M') : TxM M' x := h.cg (hs.1 _ (by decide)) (hs.2 _ (by decide) (by decide))
theorem us_scC (M : Mem) {o : Nat} (i : Nat) (v : Int32) (h : o = 1 ∨ 4 ≤ o) (h2 : o < 8) : ScC M (us M o i v) := fun a ha => us_ne _ _ _ (by omega)
theorem us_scM (M : Mem) {i : Nat} (v : Int32) (h : 15 ≤ i) : ScM M (us M 197 i v) := ⟨fun j hj => by rw [us_app, if_neg (fun z => by omega)], fun a ha _ => us_ne _ _ _ ha⟩
theorem us_scM2 (M : Mem) {o : Nat} (i : Nat) (v : Int32) (h : 207 ≤ o) (h2 : o ≤ 209) : ScM M (us M o i v) := ⟨fun j hj => by rw [us_ne _ _ _ (by omega)], fun a ha hb => us_ne _ _ _ (by omega)⟩
theorem TR.cgC {x : Nat × (Nat → Nat)} {MC MC' MM : Mem} {st kind val nx : Nat} (h : TR x MC MM st kind val nx) (hq : ∀ i, 2 ≤ i → i ≤ 5 → MC' 1 i = MC 1 i) : TR x MC' MM st kind val nx := by
  obtain ⟨h1, h2, h3, h4, h5, h6, h7, h8, h9⟩ := h
  exact ⟨(hq 3 (by decide) (by decide)).trans h1, (hq 4 (by decide) (by decide)).trans h2, h3, h4, h5, fun z => ⟨(h6 z).1, (h6 z).2.1, (hq 2 (by decide) (by decide)).trans (h6 z).2.2.1, (h6 z).2.2.2⟩, fun z => ⟨(hq 5 (by decide) (by decide)).trans (h7 z).1, (h7 z).2⟩, h8, h9⟩
theorem TR.cgM {x : Nat × (Nat → Nat)} {MC MM MM' : Mem} {st kind val nx : Nat} (h : TR x MC MM st kind val nx) (hq : ∀ i, 15 ≤ i → i ≤ 18 → MM' 197 i = MM 197 i) : TR x MC MM' st kind val nx := by
  obtain ⟨h1, h2, h3, h4, h5, h6, h7, h8, h9⟩ := h
  refine ⟨h1, h2, (hq 16 (by decide) (by decide)).trans h3, h4, h5, fun z => ⟨(h6 z).1, (h6 z).2.1, (h6 z).2.2.1, (hq 15 (by decide) (by decide)).trans (h6 z).2.2.2⟩, fun z => ⟨(h7 z).1, (hq 18 (by decide) (by decide)).trans (h7 z).2.1, (h7 z).2.2⟩, fun z => (hq 17 (by decide) (by decide)).trans (h8 z), fun z => ?_⟩
  rw [hq 17 (by decide) (by decide), hq 18 (by decide) (by decide)]
  exact h9 z
theorem pfZ_0 (M : Mem) (o k : Nat) : pfZ M o k 0 = some (us M o k 0) := if_pos (Or.inl rfl)
theorem pfZ_1 (M : Mem) (o k : Nat) : pfZ M o k 1 = some (us M o k 1) := if_pos (Or.inr rfl)
theorem nI_ne {a b : Nat} (ha : a < 2147483648) (hb : b < 2147483648) (h : a ≠ b) : ¬ nI a = nI b := fun z => h (nI_inj ha hb z)
theorem both_take {x : Nat × (Nat → Nat)} {MC MM : Mem} {st kind val nx lo hi : Nat} (hT : TR x MC MM st kind val nx) (h19 : MM 197 19 = 0) (hlo : lo < 1000) (hhi : hi < 1000) : (¬ (kind = 2 ∧ lo ≤ val ∧ val ≤ hi) ∧ gX2_isNumber (nI lo) (nI hi) MC = some 0 ∧ gX8_takesNumber (nI lo) (nI hi) MM = some (0, us MM 197 19 1)) ∨ (kind = 2 ∧ lo ≤ val ∧ val ≤ hi ∧ gX2_isNumber (nI lo) (nI hi) MC = some 1 ∧ gX8_takesNumber (nI lo) (nI hi) MM = (gX8_next (us MM 197 19 0)).bind fun u => some (nI val, u)) := by
  obtain ⟨h1, h2, h3, h4, h5, h6, h7, h8, h9⟩ := hT
  have bad : gX8_takesNumber_31 MM = some (0, us MM 197 19 1) := by
    rw [gX8_takesNumber_31, gX8_takesNumber_32, if_pos (show (0 : Int32) = 0 from rfl), gX8_takesNumber_43, pfZ_1, obs, obs, if_pos (show (0 : Int32) = 0 from rfl), gX8_takesNumber_60, if_pos (show (0 : Int32) = 0 from rfl), gX8_takesNumber_70]
  by_cases hk : kind = 2
  · subst hk
    obtain ⟨v1, v2, v3⟩ := h7 (Or.inr rfl)
    have t2 := h8 (by decide)
    by_cases hr : lo ≤ val ∧ val ≤ hi
    · right
      refine ⟨rfl, hr.1, hr.2, ?_, ?_⟩
      · rw [gX2_isNumber, h2, if_pos (show nI 2 = 2 from rfl), v1, within_t ⟨nI_nlt hr.1 (by omega), nI_nlt hr.2 (by omega)⟩, obs, if_neg (by decide), gX2_isNumber_25, zr_1, obs]
      · have v18 : us MM 197 19 0 197 18 = nI val := by rw [us_app, if_neg (by decide)]; exact v2
        rw [gX8_takesNumber, if_pos h19, t2, if_pos (show nI 2 = 2 from rfl), v2, in_t ⟨nI_nlt hr.1 (by omega), nI_nlt hr.2 (by omega)⟩, obs, if_neg (by decide), gX8_takesNumber_32, if_neg (by decide), gX8_takesNumber_43, pfZ_0, obs, v18, obs, if_neg (by decide)]
        cases gX8_next (us MM 197 19 0) with
        | none => rfl
        | some u => rw [obs, obs, gX8_takesNumber_60, if_neg (by decide), gX8_takesNumber_70]
    · left
      have hr2 : ¬ (¬ nI val < nI lo ∧ ¬ nI hi < nI val) := by
        rintro ⟨z1, z2⟩
        exact hr ⟨by rcases Nat.lt_or_ge val lo with q | q; exact absurd (nI_lt q (by omega)) z1; exact q, by rcases Nat.lt_or_ge hi val with q | q; exact absurd (nI_lt q (by omega)) z2; exact q⟩
      refine ⟨fun z => hr z.2, ?_, ?_⟩
      · rw [gX2_isNumber, h2, if_pos (show nI 2 = 2 from rfl), v1, within_f hr2, obs, if_pos rfl, gX2_isNumber_25, zr_0, obs]
      · rw [gX8_takesNumber, if_pos h19, t2, if_pos (show nI 2 = 2 from rfl), v2, in_f hr2, obs, if_pos rfl]
        exact bad
  · left
    refine ⟨fun z => hk z.1, ?_, ?_⟩
    · rw [gX2_isNumber, h2, if_neg (show ¬ nI kind = 2 from nI_ne (b := 2) (by omega) (by omega) hk), gX2_isNumber_25, zr_0, obs]
    · rw [gX8_takesNumber, if_pos h19, if_neg (show ¬ MM 197 17 = 2 from fun z => by
        by_cases h4k : kind = 4
        · rcases h9 h4k with q | ⟨q, _⟩
          · rw [q] at z; exact absurd z (by decide)
          · rw [q] at z; exact absurd z (by decide)
        · rw [h8 h4k] at z; exact nI_ne (b := 2) (by omega) (by omega) hk z)]
      exact bad
-- a week
theorem both_week {x : Nat × (Nat → Nat)} (hX : WfX x) {pe : Nat} (hpe : pe < 5) : ∀ (m n fu1 fu2 : Nat) (wk : Nat → Nat) (MC MM : Mem) (st kind val nx : Nat), 7 - n = m → n ≤ 7 → m < fu1 → m + 1 < fu2 → TxC MC x → TxM MM x → TR x MC MM st kind val nx → MM 197 19 = 0 → MC 4 3 = nI pe → MM 197 21 = nI pe → (∀ k, k < n → wk k < 10 ∧ MC 7 (7 * pe + k) = nI (wk k) ∧ MM 209 (7 * pe + k) = nI (wk k)) → (∃ (MC' MM' : Mem) (n' : Nat) (wk' : Nat → Nat) (st' kind' val' nx' : Nat), gX2_tellOne_31 fu1 (nI pe) (nI n) MC = some (1, MC') ∧ gX8_readOne_20 fu2 (nI pe) (nI n) MM = some MM' ∧ 1 ≤ n' ∧ n' ≤ 7 ∧ (∀ k, k < n' → wk' k < 10 ∧ MC' 7 (7 * pe + k) = nI (wk' k) ∧ MM' 209 (7 * pe + k) = nI (wk' k)) ∧ TR x MC' MM' st' kind' val' nx' ∧ st ≤ st' ∧ MC' 6 pe = nI n' ∧ MM' 208 pe = nI n' ∧ MC' 4 3 = nI (pe + 1) ∧ MM' 197 21 = nI (pe + 1) ∧ MM' 197 19 = 0 ∧ ScC MC MC' ∧ ScM MM MM' ∧ (∀ q, q ≠ pe → MC' 6 q = MC 6 q) ∧ (∀ q, q ≠ pe → MM' 208 q = MM 208 q) ∧ (∀ q, q < 7 * pe → MC' 7 q = MC 7 q) ∧ (∀ q, q < 7 * pe → MM' 209 q = MM 209 q) ∧ MC' 5 = MC 5 ∧ MM' 207 = MM 207 ∧ (∀ i, i ≠ 3 → MC' 4 i = MC 4 i) ∧ (∀ i, 5 < i → MC' 1 i = MC 1 i) ∧ (∀ i, (i = 20 ∨ 21 < i) → MM' 197 i = MM 197 i)) ∨ (∃ (r : Int32) (MC' MM' : Mem) (st' : Nat), gX2_tellOne_31 fu1 (nI pe) (nI n) MC = some (r, MC') ∧ (r = 0 ∨ (r = 1 ∧ ¬ MC' 1 4 = 3)) ∧ MC' 1 3 = nI st' ∧ st' ≤ x.1 ∧ gX8_readOne_20 fu2 (nI pe) (nI n) MM = some MM' ∧ MM' 197 19 = 1 ∧ MM' 197 16 = nI st' ∧ ScC MC MC' ∧ ScM MM MM') := by
  have hN := hX.1
  -- the class's end of a week
  have fC : ∀ n (MC : Mem), n ≤ 7 → MC 4 3 = nI pe → gX2_tellOne_75 (nI pe) (nI n) MC = some (if n = 0 then 0 else 1, us (us MC 6 pe (nI n)) 4 3 (nI (pe + 1))) := by
    intro n MC hn h43
    rw [gX2_tellOne_75, stA_n _ _ _ hpe (by decide), obs, us_ne _ _ _ (by decide), h43, nI_1, obs]
    by_cases q : n = 0
    · rw [q, if_pos (show nI 0 ≤ 0 by decide), gX2_tellOne_107, zr_0, obs, if_pos rfl]
    · rw [if_neg (nI_nle (by omega) (by omega)), gX2_tellOne_107, zr_1, obs, if_neg q]
  have fM : ∀ n (MM : Mem), n ≤ 9 → MM 197 21 = nI pe → gX8_readOne_69 (nI pe) (nI n) MM = some (us (us MM 208 pe (nI n)) 197 21 (nI (pe + 1))) := by
    intro n MM hn h21
    rw [gX8_readOne_69, stA_n _ _ _ hpe (by decide), obs, us_ne _ _ _ (by decide), h21, nI_1, obs]
  intro m
  induction m with
  | zero =>
    intro n fu1 fu2 wk MC MM st kind val nx h1 h2 hf1 hf2 hC hM hT h19 h43 h21 hwk
    obtain ⟨fu1, rfl⟩ : ∃ z, fu1 = z + 1 := ⟨fu1 - 1, by omega⟩
    obtain ⟨fu2, rfl⟩ : ∃ z, fu2 = z + 1 := ⟨fu2 - 1, by omega⟩
    have hn : n = 7 := by omega
    subst hn
    left
    refine ⟨us (us MC 6 pe (nI 7)) 4 3 (nI (pe + 1)), us (us MM 208 pe (nI 7)) 197 21 (nI (pe + 1)), 7, wk, st, kind, val, nx, ?_, ?_, by omega, by omega, fun k hk => ⟨(hwk k hk).1, by rw [us_ne _ _ _ (by decide), us_ne _ _ _ (by decide)]; exact (hwk k hk).2.1, by rw [us_ne _ _ _ (by decide), us_ne _ _ _ (by decide)]; exact (hwk k hk).2.2⟩, (hT.cgC (fun i _ _ => by rw [us_ne _ _ _ (by decide), us_ne _ _ _ (by decide)])).cgM (fun i z1 z2 => by rw [us_app, if_neg (fun z => by omega), us_ne _ _ _ (by decide)]), Nat.le_refl _, ?_, ?_, ?_, ?_, ?_, (us_scC MC pe _ (by decide) (by decide)).tr (us_scC _ 3 _ (by decide) (by decide)), (us_scM2 MM pe _ (by decide) (by decide)).tr (us_scM _ _ (by decide)), fun q hq => ?_, fun q hq => ?_, fun q hq => ?_, fun q hq => ?_, ?_, ?_, fun i hi => ?_, fun i hi => ?_, fun i hi => ?_⟩
    · rw [gX2_tellOne_31, if_pos (show (7 : Int32) ≤ nI 7 by decide), fC 7 MC (by omega) h43]; rfl
    · rw [gX8_readOne_20, if_pos h19, if_neg (show ¬ nI 7 < 7 by decide), gX8_readOne_41, if_neg (show ¬ nI 7 = 0 by decide), fM 7 MM (by omega) h21, ite_self]
    · rw [us_ne _ _ _ (by decide), us_app, if_pos ⟨rfl, rfl⟩]
    · rw [us_ne _ _ _ (by decide), us_app, if_pos ⟨rfl, rfl⟩]
    · rw [us_app, if_pos ⟨rfl, rfl⟩]
    · rw [us_app, if_pos ⟨rfl, rfl⟩]
    · rw [us_app, if_neg (by decide), us_ne _ _ _ (by decide)]; exact h19
    · rw [us_ne _ _ _ (by decide), us_app, if_neg (fun z => hq z.2)]
    · rw [us_ne _ _ _ (by decide), us_app, if_neg (fun z => hq z.2)]
    · rw [us_ne _ _ _ (by decide), us_ne _ _ _ (by decide)]
    · rw [us_ne _ _ _ (by decide), us_ne _ _ _ (by decide)]
    · rw [us_ne _ _ _ (by decide), us_ne _ _ _ (by decide)]
    · rw [us_ne _ _ _ (by decide), us_ne _ _ _ (by decide)]
    · rw [us_app, if_neg (fun z => hi z.2), us_ne _ _ _ (by decide)]
    · rw [us_ne _ _ _ (by decide), us_ne _ _ _ (by decide)]
    · rw [us_app, if_neg (fun z => by omega), us_ne _ _ _ (by decide)]
  | succ m ih =>
    intro n fu1 fu2 wk MC MM st kind val nx h1 h2 hf1 hf2 hC hM hT h19 h43 h21 hwk
    obtain ⟨fu1, rfl⟩ : ∃ z, fu1 = z + 1 := ⟨fu1 - 1, by omega⟩
    obtain ⟨fu2, rfl⟩ : ∃ z, fu2 = z + 1 + 1 := ⟨fu2 - 2, by omega⟩
    have hn7 : ¬ (7 : Int32) ≤ nI n := nI_ge (b := 7) (by omega) (by omega)
    have hn7' : nI n < 7 := nI_lt (b := 7) (by omega) (by omega)
    rcases both_take (lo := 0) (hi := 9) hT h19 (by omega) (by omega) with ⟨b1, b2, b3⟩ | ⟨b1, b2, b3, b4, b5⟩
    · -- no more numbers that may be thoughts
      have eC : gX2_tellOne_31 (fu1 + 1) (nI pe) (nI n) MC = some (if n = 0 then 0 else 1, us (us MC 6 pe (nI n)) 4 3 (nI (pe + 1))) := by
        rw [gX2_tellOne_31, if_neg hn7, show (9 : Int32) = nI 9 from rfl, show gX2_isNumber 0 (nI 9) MC = some 0 from b2, obs, if_pos (show (0 : Int32) = 0 from rfl), fC n MC (by omega) h43]
      have sC : ScC MC (us (us MC 6 pe (nI n)) 4 3 (nI (pe + 1))) := (us_scC MC pe _ (by decide) (by decide)).tr (us_scC _ 3 _ (by decide) (by decide))
      by_cases hk2 : kind = 2 ∨ n = 0
      · -- it fails: a number too great, or none at all
        right
        have e45 : gX8_readOne_20 (fu2 + 1 + 1) (nI pe) (nI n) MM = gX8_readOne_45 (gX8_readOne_20 (fu2 + 1)) (nI pe) (nI n) MM := by
          rw [gX8_readOne_20, if_pos h19]
          rcases hk2 with q | q
          · subst q
            rw [hT.2.2.2.2.2.2.2.1 (by decide), if_pos (show nI 2 = 2 from rfl), if_pos hn7']
          · rw [if_pos hn7', gX8_readOne_41, if_pos (show nI n = 0 by rw [q]; rfl), ite_self]
        refine ⟨if n = 0 then 0 else 1, _, us (us (us (us MM 197 19 1) 209 (7 * pe + n) 0) 208 pe (nI (n + 1))) 197 21 (nI (pe + 1)), st, eC, ?_, ?_, hT.2.2.2.1, ?_, ?_, ?_, sC, (((us_scM MM _ (by decide)).tr (us_scM2 _ _ _ (by decide) (by decide))).tr (us_scM2 _ _ _ (by decide) (by decide))).tr (us_scM _ _ (by decide))⟩
        · by_cases q : n = 0
          · exact Or.inl (if_pos q)
          · have hk := hk2.resolve_right q
            refine Or.inr ⟨if_neg q, ?_⟩
            rw [us_ne _ _ _ (by decide), us_ne _ _ _ (by decide), hT.2.1, hk]; decide
        · rw [us_ne _ _ _ (by decide), us_ne _ _ _ (by decide)]; exact hT.1
        · have g19 : us (us MM 197 19 1) 209 (7 * pe + n) 0 197 19 = 1 := by rw [us_ne _ _ _ (by decide), us_app, if_pos ⟨rfl, rfl⟩]
          rw [e45, gX8_readOne_45, show (9 : Int32) = nI 9 from rfl, show gX8_takesNumber 0 (nI 9) MM = some (0, us MM 197 19 1) from b3, obs, i_7, pk_mul, nI_add, stA_n _ _ _ (by omega) (by decide), obs, nI_1, obs, gX8_readOne_20, if_neg (by rw [g19]; decide)]
          exact fM (n + 1) (us (us MM 197 19 1) 209 (7 * pe + n) 0) (by omega) (by rw [us_ne _ _ _ (by decide), us_app, if_neg (by decide)]; exact h21)
        · rw [us_app, if_neg (by decide), us_ne _ _ _ (by decide), us_ne _ _ _ (by decide), us_app, if_pos ⟨rfl, rfl⟩]
        · rw [us_app, if_neg (by decide), us_ne _ _ _ (by decide), us_ne _ _ _ (by decide), us_app, if_neg (by decide)]; exact hT.2.2.1
      · -- the week is told
        left
        have hk : kind ≠ 2 := fun z => hk2 (Or.inl z)
        have hn0 : n ≠ 0 := fun z => hk2 (Or.inr z)
        have ht2 : ¬ MM 197 17 = 2 := fun z => by
          by_cases h4k : kind = 4
          · rcases hT.2.2.2.2.2.2.2.2 h4k with q | ⟨q, _⟩
            · rw [q] at z; exact absurd z (by decide)
            · rw [q] at z; exact absurd z (by decide)
          · have h5 := hT.2.2.2.2.1
            rw [hT.2.2.2.2.2.2.2.1 h4k] at z; exact nI_ne (b := 2) (by omega) (by omega) hk z
        rw [if_neg hn0] at eC
        refine ⟨_, us (us MM 208 pe (nI n)) 197 21 (nI (pe + 1)), n, wk, st, kind, val, nx, eC, ?_, by omega, by omega, fun k hk => ⟨(hwk k hk).1, by rw [us_ne _ _ _ (by decide), us_ne _ _ _ (by decide)]; exact (hwk k hk).2.1, by rw [us_ne _ _ _ (by decide), us_ne _ _ _ (by decide)]; exact (hwk k hk).2.2⟩, (hT.cgC (fun i _ _ => by rw [us_ne _ _ _ (by decide), us_ne _ _ _ (by decide)])).cgM (fun i z1 z2 => by rw [us_app, if_neg (fun z => by omega), us_ne _ _ _ (by decide)]), Nat.le_refl _, ?_, ?_, ?_, ?_, ?_, sC, (us_scM2 MM pe _ (by decide) (by decide)).tr (us_scM _ _ (by decide)), fun q hq => ?_, fun q hq => ?_, fun q hq => ?_, fun q hq => ?_, ?_, ?_, fun i hi => ?_, fun i hi => ?_, fun i hi => ?_⟩
        · rw [gX8_readOne_20, if_pos h19, if_neg ht2, gX8_readOne_41, if_neg (nI_ne0 (by omega) (by omega)), fM n MM (by omega) h21]
        · rw [us_ne _ _ _ (by decide), us_app, if_pos ⟨rfl, rfl⟩]
        · rw [us_ne _ _ _ (by decide), us_app, if_pos ⟨rfl, rfl⟩]
        · rw [us_app, if_pos ⟨rfl, rfl⟩]
        · rw [us_app, if_pos ⟨rfl, rfl⟩]
        · rw [us_app, if_neg (by decide), us_ne _ _ _ (by decide)]; exact h19
        · rw [us_ne _ _ _ (by decide), us_app, if_neg (fun z => hq z.2)]
        · rw [us_ne _ _ _ (by decide), us_app, if_neg (fun z => hq z.2)]
        · rw [us_ne _ _ _ (by decide), us_ne _ _ _ (by decide)]
        · rw [us_ne _ _ _ (by decide), us_ne _ _ _ (by decide)]
        · rw [us_ne _ _ _ (by decide), us_ne _ _ _ (by decide)]
        · rw [us_ne _ _ _ (by decide), us_ne _ _ _ (by decide)]
        · rw [us_app, if_neg (fun z => hi z.2), us_ne _ _ _ (by decide)]
        · rw [us_ne _ _ _ (by decide), us_ne _ _ _ (by decide)]
        · rw [us_app, if_neg (fun z => by omega), us_ne _ _ _ (by decide)]
    · -- one thought more
      subst b1
      obtain ⟨p1, p2, p3, p4⟩ := hT.2.2.2.2.2.1 (Or.inr (Or.inl rfl))
      obtain ⟨v1, v2, v3⟩ := hT.2.2.2.2.2.2.1 (Or.inr rfl)
      obtain ⟨C1, M1, st1, kind1, val1, nx1, a1, a2, a3, a4, a5, a6⟩ := both_adv hX p2 (hC.sc (us_scC MC (7 * pe + n) (nI val) (o := 7) (by decide) (by decide))) (hM.sc (us_scM MM (i := 19) 0 (by decide))) (by rw [us_ne _ _ _ (by decide)]; exact p3) (by rw [us_app, if_neg (by decide)]; exact p4)
      have sC1 : ScC MC C1 := (us_scC MC (7 * pe + n) (nI val) (o := 7) (by decide) (by decide)).tr a5.sc
      have sM1 : ScM MM (us M1 209 (7 * pe + n) (nI val)) := ((us_scM MM (i := 19) 0 (by decide)).tr a6.sc).tr (us_scM2 _ _ _ (by decide) (by decide))
      have eC : gX2_tellOne_31 (fu1 + 1) (nI pe) (nI n) MC = gX2_tellOne_31 fu1 (nI pe) (nI (n + 1)) C1 := by
        rw [gX2_tellOne_31, if_neg hn7, show (9 : Int32) = nI 9 from rfl, show gX2_isNumber 0 (nI 9) MC = some 1 from b4, obs, if_neg (by decide), i_7, pk_mul, nI_add, v1, show pe * 7 + n = 7 * pe + n by omega, stA_n _ _ _ (by omega) (by decide), obs, nI_1, obs, a1, obs]
      have eM : gX8_readOne_20 (fu2 + 1 + 1) (nI pe) (nI n) MM = gX8_readOne_20 (fu2 + 1) (nI pe) (nI (n + 1)) (us M1 209 (7 * pe + n) (nI val)) := by
        rw [gX8_readOne_20, if_pos h19, hT.2.2.2.2.2.2.2.1 (by decide), if_pos (show nI 2 = 2 from rfl), if_pos hn7', gX8_readOne_45, show (9 : Int32) = nI 9 from rfl, show gX8_takesNumber 0 (nI 9) MM = (gX8_next (us MM 197 19 0)).bind fun u => some (nI val, u) from b5, a2, obs, obs, i_7, pk_mul, nI_add, stA_n _ _ _ (by omega) (by decide), obs, nI_1, obs]
      have w7 : ∀ q, C1 7 q = us MC 7 (7 * pe + n) (nI val) 7 q := fun q => by rw [a5.2 7 (by decide)]
      have hrec := ih (n + 1) fu1 (fu2 + 1) (fun k => if k = n then val else wk k) C1 (us M1 209 (7 * pe + n) (nI val)) st1 kind1 val1 nx1 (by omega) (by omega) (by omega) (by omega) (hC.sc sC1) (hM.sc sM1) (a3.cgM (fun i _ _ => by rw [us_ne _ _ _ (by decide)])) (by rw [us_ne _ _ _ (by decide), a6.1 19 (by decide), us_app, if_pos ⟨rfl, rfl⟩]) (by rw [a5.2 4 (by decide), us_ne _ _ _ (by decide)]; exact h43) (by rw [us_ne _ _ _ (by decide), a6.1 21 (by decide), us_app, if_neg (by decide)]; exact h21) (fun k hk => by
        rw [w7, us_app, us_app]
        by_cases q : k = n
        · rw [if_pos q, if_pos ⟨rfl, by omega⟩, if_pos ⟨rfl, by omega⟩]; exact ⟨by omega, rfl, rfl⟩
        · rw [if_neg q, if_neg (fun z => by omega), if_neg (fun z => by omega), a6.2 209 (by decide), us_ne _ _ _ (by decide)]; exact hwk k (by omega))
      rw [eC, eM]
      rcases hrec with ⟨MC', MM', n', wk', st', kind', val', nx', r1, r2, r3, r4, r5, r6, r7, r8, r9, r10, r11, r12, r13, r14, r15, r16, r17, r18, r19, r20, r21, r22, r23⟩ | ⟨r, MC', MM', st', r1, r2, r3, r4, r5, r6, r7, r8, r9⟩
      · left
        refine ⟨MC', MM', n', wk', st', kind', val', nx', r1, r2, r3, r4, r5, r6, by omega, r8, r9, r10, r11, r12, sC1.tr r13, sM1.tr r14, fun q hq => ?_, fun q hq => ?_, fun q hq => ?_, fun q hq => ?_, ?_, ?_, fun i hi => ?_, fun i hi => ?_, fun i hi => ?_⟩
        · rw [r15 q hq, a5.2 6 (by decide), us_ne _ _ _ (by decide)]
        · rw [r16 q hq, us_ne _ _ _ (by decide), a6.2 208 (by decide), us_ne _ _ _ (by decide)]
        · rw [r17 q hq, w7, us_app, if_neg (fun z => by omega)]
        · rw [r18 q hq, us_app, if_neg (fun z => by omega), a6.2 209 (by decide), us_ne _ _ _ (by decide)]
        · rw [r19, a5.2 5 (by decide), us_ne _ _ _ (by decide)]
        · rw [r20, us_ne _ _ _ (by decide), a6.2 207 (by decide), us_ne _ _ _ (by decide)]
        · rw [r21 i hi, a5.2 4 (by decide), us_ne _ _ _ (by decide)]
        · rw [r22 i hi, a5.1 i (by omega), us_ne _ _ _ (by decide)]
        · rw [r23 i hi, us_ne _ _ _ (by decide), a6.1 i (by omega), us_app, if_neg (fun z => by omega)]
      · right
        exact ⟨r, MC', MM', st', r1, r2, r3, r4, r5, r6, r7, sC1.tr r8, sM1.tr r9⟩
