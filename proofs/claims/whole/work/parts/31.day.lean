theorem i_lt {a b : Int32} : a < b ↔ a.toInt < b.toInt := Int32.lt_iff_toInt_lt
theorem i_le {a b : Int32} : a ≤ b ↔ a.toInt ≤ b.toInt := Int32.le_iff_toInt_le
/-- the word known best of all but one, and how well, among the first i -/
def bsS (kn : Nat → Int32) (but : Int32) : Nat → Int32 × Int32
  | 0 => (-9, 0)
  | i + 1 => if nI i = but then bsS kn but i else if kn i ≤ (bsS kn but i).2 then bsS kn but i else (nI i, kn i)
def bB (kn : Nat → Int32) (but : Int32) : Int32 := (bsS kn but 8).1
theorem bsS_inv (kn : Nat → Int32) (but : Int32) : ∀ i, (bsS kn but i = (-9, 0)) ∨ ∃ w, w < i ∧ bsS kn but i = (nI w, kn w) ∧ 0 < kn w
  | 0 => Or.inl rfl
  | i + 1 => by
    have ih := bsS_inv kn but i
    unfold bsS
    by_cases h1 : nI i = but
    · rw [if_pos h1]
      rcases ih with h | ⟨w, hw, h⟩
      · exact Or.inl h
      · exact Or.inr ⟨w, by omega, h⟩
    · rw [if_neg h1]
      by_cases h2 : kn i ≤ (bsS kn but i).2
      · rw [if_pos h2]
        rcases ih with h | ⟨w, hw, h⟩
        · exact Or.inl h
        · exact Or.inr ⟨w, by omega, h⟩
      · rw [if_neg h2]
        refine Or.inr ⟨i, by omega, rfl, ?_⟩
        rcases ih with h | ⟨w, hw, h, h3⟩
        · rw [h] at h2
          exact Int32.not_le.mp h2
        · rw [h] at h2
          have h2 : ¬ kn i ≤ kn w := h2
          rw [i_lt] at h3 ⊢
          rw [i_le] at h2
          omega
theorem bB_or (kn : Nat → Int32) (but : Int32) : bB kn but = -9 ∨ ∃ w, w < 8 ∧ bB kn but = nI w := by
  rcases bsS_inv kn but 8 with h | ⟨w, hw, h, -⟩
  · exact Or.inl (by unfold bB; rw [h])
  · exact Or.inr ⟨w, hw, by unfold bB; rw [h]⟩
theorem best_c (kn : Nat → Int32) (but : Int32) : f_X0_bestBut kn but = some (bB kn but) := by
  unfold f_X0_bestBut
  rw [lp_for (fun i => ((bsS kn but i).1, (bsS kn but i).2, nI i)) 8 (b := bB kn but) ?_ ?_ (by decide) (by rfl)]
  · rfl
  · intro i hi
    show f_X0_bestBut_L8 but kn (bsS kn but i).1 (bsS kn but i).2 (nI i) = _
    unfold f_X0_bestBut_L8
    rw [if_neg (show ¬ (8 : Int32) ≤ nI i from gL 8 hi), gu_t (inB_n hi), cl_n (by omega), gu_t (inB_n hi), nI_1]
    show _ = some (Sum.inl ((if nI i = but then bsS kn but i else if kn i ≤ (bsS kn but i).2 then bsS kn but i else (nI i, kn i)).1, (if nI i = but then bsS kn but i else if kn i ≤ (bsS kn but i).2 then bsS kn but i else (nI i, kn i)).2, nI (i + 1)))
    by_cases h1 : nI i = but
    · rw [if_pos h1, if_pos h1]
    · rw [if_neg h1, if_neg h1]
      by_cases h2 : kn i ≤ (bsS kn but i).2
      · rw [if_pos h2, if_pos h2]
      · rw [if_neg h2, if_neg h2]
  · show f_X0_bestBut_L8 but kn (bsS kn but 8).1 (bsS kn but 8).2 (nI 8) = _
    unfold f_X0_bestBut_L8
    rw [if_pos (show (8 : Int32) ≤ nI 8 from lL 8 (Nat.le_refl 8))]
    rfl
theorem best_m (kn : Nat → Int32) (but : Int32) : f_X4_bestBut kn but = some (bB kn but) := by
  unfold f_X4_bestBut
  rw [lp_for (fun i => ((bsS kn but i).1, nI i)) 8 (b := bB kn but) ?_ ?_ (by decide) (by rfl)]
  · rfl
  · intro i hi
    show f_X4_bestBut_L5 but kn (bsS kn but i).1 (nI i) = _
    unfold f_X4_bestBut_L5 f_X4_bestBut_J44
    rw [if_neg (show ¬ (8 : Int32) ≤ nI i from gL 8 hi), gu_t (inB_n hi), cl_n (by omega), nI_1]
    show _ = some (Sum.inl ((if nI i = but then bsS kn but i else if kn i ≤ (bsS kn but i).2 then bsS kn but i else (nI i, kn i)).1, nI (i + 1)))
    by_cases h1 : nI i = but
    · rw [if_pos h1, if_pos h1]
    · rw [if_neg h1, if_neg h1]
      rcases bsS_inv kn but i with h | ⟨w, hw, h, h3⟩
      · rw [h]
        by_cases h2 : kn i ≤ 0
        · rw [if_pos h2, if_pos h2]
        · rw [if_neg h2, if_neg h2, if_pos (show ((-9 : Int32)) < 0 by decide)]
      · rw [h]
        by_cases h2 : kn i ≤ kn w
        · rw [if_pos h2]
          by_cases h4 : kn i ≤ 0
          · rw [if_pos h4]
          · rw [if_neg h4, if_neg (nI_pos (by omega)), gu_t (inB_n hi), gu_t (inB_n (by omega)), cl_n (by omega), if_pos h2]
        · rw [if_neg h2, if_neg (show ¬ kn i ≤ 0 by rw [i_le] at h2 ⊢; rw [i_lt] at h3; have : (0 : Int32).toInt = 0 := rfl; omega), if_neg (nI_pos (by omega)), gu_t (inB_n hi), gu_t (inB_n (by omega)), cl_n (by omega), if_neg h2]
  · show f_X4_bestBut_L5 but kn (bsS kn but 8).1 (nI 8) = _
    unfold f_X4_bestBut_L5
    rw [if_pos (show (8 : Int32) ≤ nI 8 from lL 8 (Nat.le_refl 8))]
    rfl
def smS (kn : Nat → Int32) : Nat → Int32
  | 0 => 0
  | i + 1 => smS kn i + kn i
theorem sum_c (kn : Nat → Int32) : f_X0_allKnown kn = some (smS kn 8) := by
  unfold f_X0_allKnown
  rw [lp_for (fun i => (smS kn i, nI i)) 8 (b := smS kn 8) ?_ ?_ (by decide) (by rfl)]
  · rfl
  · intro i hi
    show f_X0_allKnown_L4 kn (smS kn i) (nI i) = _
    unfold f_X0_allKnown_L4
    rw [if_neg (show ¬ (8 : Int32) ≤ nI i from gL 8 hi), gu_t (inB_n hi), cl_n (by omega), nI_1]
    rfl
  · show f_X0_allKnown_L4 kn (smS kn 8) (nI 8) = _
    unfold f_X0_allKnown_L4
    rw [if_pos (show (8 : Int32) ≤ nI 8 from lL 8 (Nat.le_refl 8))]
theorem sum_m (kn : Nat → Int32) : f_X4_sum kn = some (smS kn 8) := by
  unfold f_X4_sum
  rw [lp_for (fun i => (smS kn i, nI i)) 8 (b := smS kn 8) ?_ ?_ (by decide) (by rfl)]
  · rfl
  · intro i hi
    show f_X4_sum_L4 kn (smS kn i) (nI i) = _
    unfold f_X4_sum_L4
    rw [if_neg (show ¬ (8 : Int32) ≤ nI i from gL 8 hi), gu_t (inB_n hi), cl_n (by omega), nI_1]
    rfl
  · show f_X4_sum_L4 kn (smS kn 8) (nI 8) = _
    unfold f_X4_sum_L4
    rw [if_pos (show (8 : Int32) ≤ nI 8 from lL 8 (Nat.le_refl 8))]
theorem silent_m (tu hu pa : Int32) : f_X4_isSilent (st3 tu hu pa) = f_X0_isSilent hu pa := rfl
/-- what is so of the callers -/
def OkF (n : Nat) (kd fg tn wd hr : Nat → Int32) : Prop :=
  n ≤ 7 ∧ ∀ c, c < n → ∃ k f t w h, k < 6 ∧ f < 10 ∧ t < 10 ∧ w < 8 ∧ h < 24 ∧ kd c = nI k ∧ fg c = nI f ∧ tn c = nI t ∧ wd c = nI w ∧ hr c = nI h
def OkT (tu : Int32) : Prop := ∃ u, u < 10 ∧ tu = nI u
theorem abs_eq : ∀ t : Fin 10, ∀ u : Fin 10, (if nI u.val ≤ nI t.val then nI t.val - nI u.val else nI u.val - nI t.val) = (if 0 ≤ nI t.val - nI u.val then nI t.val - nI u.val else 0 - (nI t.val - nI u.val)) := by decide +kernel
theorem reach_eq : ∀ k : Fin 6, (if nI k.val = (1 : Int32) then (4 : Int32) else if nI k.val = (3 : Int32) then (-1 : Int32) else if nI k.val = (4 : Int32) then (0 : Int32) else if nI k.val = (5 : Int32) then (9 : Int32) else (2 : Int32)) = f_at 6 (tv 0) (nI k.val) := by decide +kernel
theorem hurts_eq : ∀ k : Fin 6, ∀ f : Fin 10, (if nI k.val = (1 : Int32) then (2 : Int32) else if nI k.val = (2 : Int32) then (1 : Int32) else if nI k.val = (3 : Int32) then -(nI f.val) else if nI k.val = (5 : Int32) then nI f.val else (0 : Int32)) = f_at 6 (tv 2) (nI k.val) + f_at 6 (tv 3) (nI k.val) * nI f.val := by decide +kernel
theorem teach_eq : ∀ k : Fin 6, (if (2 : Int32) ≤ nI k.val then (if nI k.val = (4 : Int32) then (2 : Int32) else (0 : Int32)) else (1 : Int32)) = f_at 6 (tv 1) (nI k.val) := by decide +kernel
theorem man_eq : ∀ k : Fin 6, f_at 6 (tv 4) (nI k.val) = (if nI k.val = (5 : Int32) then (2 : Int32) else if nI k.val = (2 : Int32) then (1 : Int32) else (0 : Int32)) := by decide +kernel
theorem if_some {α : Type} {c : Prop} [Decidable c] {a b : α} : (if c then some a else some b) = some (if c then a else b) := by by_cases h : c <;> simp [h]
theorem reach_m {kd : Nat → Int32} {c k : Nat} (hc : c < 7) (hk : k < 6) (h : kd c = nI k) : f_X4_reach kd (nI c) = some (f_at 6 (tv 0) (nI k)) := by
  unfold f_X4_reach
  rw [gu_t (inB_n hc), cl_n (by omega), h, ← reach_eq ⟨k, hk⟩]
  simp only [if_some]
theorem hurts_m {kd fg : Nat → Int32} {c k f : Nat} (hc : c < 7) (hk : k < 6) (hf : f < 10) (h : kd c = nI k) (h2 : fg c = nI f) : f_X4_hurts kd fg (nI c) = some (f_at 6 (tv 2) (nI k) + f_at 6 (tv 3) (nI k) * nI f) := by
  unfold f_X4_hurts
  rw [gu_t (inB_n hc), cl_n (by omega), h, h2, gu_t (inB_n hc), ← hurts_eq ⟨k, hk⟩ ⟨f, hf⟩]
  simp only [gu_t (inB_n hc), if_some]
theorem teach_m {kd : Nat → Int32} {c k : Nat} (hc : c < 7) (hk : k < 6) (h : kd c = nI k) : f_X4_teaches kd (nI c) = some (f_at 6 (tv 1) (nI k)) := by
  unfold f_X4_teaches
  rw [gu_t (inB_n hc), cl_n (by omega), h, gu_t (inB_n hc), ← teach_eq ⟨k, hk⟩]
  simp only [if_some]
theorem hurt_m (tu hu pa x : Int32) : f_X4_hurt (st3 tu hu pa) x = st3 tu (f_X0_hurtBy hu x) pa := by
  unfold f_X4_hurt f_X0_hurtBy
  rw [st3_1, st3_u1, st3_u1, st3_u1]
  generalize hu + x = y
  have e0 : (0 : Int32).toInt = 0 := rfl
  have e9 : (99 : Int32).toInt = 99 := rfl
  by_cases h1 : 0 ≤ y
  · rw [if_pos h1]
    by_cases h2 : y ≤ 99
    · rw [if_pos h2]
      by_cases h3 : y < 99
      · rw [if_pos h3]
        by_cases h4 : 0 < y
        · rw [if_pos h4]
        · rw [if_neg h4]
          have : y = 0 := Int32.toInt_inj.mp (by rw [i_le] at h1; rw [i_lt] at h4; omega)
          rw [this]
      · have : y = 99 := Int32.toInt_inj.mp (by rw [i_le] at h2; rw [i_lt] at h3; omega)
        subst this
        rfl
    · rw [if_neg h2, if_neg (show ¬ y < 99 by rw [i_le] at h2; rw [i_lt]; omega)]
      rfl
  · rw [if_neg h1, if_pos (show y < 99 by rw [i_le] at h1; rw [i_lt]; omega), if_neg (show ¬ 0 < y by rw [i_le] at h1; rw [i_lt]; omega)]
theorem ans_or (kd tn : Nat → Int32) (tu hu pa v : Int32) : f_X0_wouldAnswer kd tn tu hu pa v = 0 ∨ f_X0_wouldAnswer kd tn tu hu pa v = 1 := by
  unfold f_X0_wouldAnswer
  (repeat' split) <;> first | exact Or.inl rfl | exact Or.inr rfl
theorem ans_m {kd tn : Nat → Int32} {tu : Int32} (hu pa : Int32) {c k t u : Nat} (hc : c < 7) (hk : k < 6) (ht : t < 10) (huu : u < 10) (h : kd c = nI k) (h2 : tn c = nI t) (h3 : tu = nI u) : f_X4_isAnswered (st3 tu hu pa) kd tn (nI c) = some (f_X0_wouldAnswer kd tn tu hu pa (nI c)) := by
  unfold f_X4_isAnswered f_X4_isAnswered_J44 f_X0_wouldAnswer
  rw [gu_t (inB_n hc), gu_t (inB_n hc), gu_t (inB_n hc), cl_n (by omega), st3_0, silent_m, reach_m hc hk h, at_n hc, at_n hc, h, h2, h3, ← abs_eq ⟨t, ht⟩ ⟨u, huu⟩]
  simp only [bi_some, if_some]
  by_cases h4 : nI u ≤ nI t
  · simp only [if_pos h4]
  · simp only [if_neg h4]
/-- the word said to one of kind k with the word w -/
def wS (k w : Int32) (kn : Nat → Int32) : Int32 := if k = 5 then (w + 1) - (w + 1) / 8 * 8 else if k = 2 then w else if bB kn w = -9 then w else bB kn w
theorem word_c {kd wd : Nat → Int32} (kn : Nat → Int32) {c k : Nat} (hc : c < 7) (hk : k < 6) (h : kd c = nI k) : f_X0_wordFor kd wd kn (nI c) = some (wS (kd c) (wd c) kn) := by
  unfold f_X0_wordFor f_X0_wordFor_J51 wS
  rw [at_n hc, at_n hc, h, man_eq ⟨k, hk⟩, best_c]
  simp only [bi_some, if_some]
  by_cases h5 : nI k = (5 : Int32)
  · simp only [if_pos h5]
    rfl
  · simp only [if_neg h5]
    by_cases h2 : nI k = (2 : Int32)
    · simp only [if_pos h2]
      rfl
    · simp only [if_neg h2]
      rfl
theorem word_m {kd wd : Nat → Int32} (kn : Nat → Int32) {c : Nat} (hc : c < 7) : f_X4_wordFor kn kd wd (nI c) = some (wS (kd c) (wd c) kn) := by
  unfold f_X4_wordFor wS
  simp only [gu_t (inB_n hc), cl_n (show c < 2147483648 by omega), best_m, bi_some, if_some]
  by_cases h2 : kd c = (2 : Int32)
  · rw [if_pos h2, h2]
    rfl
  · rw [if_neg h2, if_neg h2]
    by_cases h5 : kd c = (5 : Int32)
    · rw [if_pos h5, if_pos h5]
    · rw [if_neg h5, if_neg h5]
      rcases bB_or kn (wd c) with h | ⟨w, hw, h⟩
      · rw [h]; rfl
      · rw [h, if_pos (nI_pos' (by omega)), if_neg (show ¬ nI w = -9 from fun e => by have := congrArg Int32.toInt e; rw [nI_toInt (by omega)] at this; have e9 : (-9 : Int32).toInt = -9 := rfl; omega)]

abbrev DD : Type := (Nat → Int32) × Int32 × Int32 × Int32 × Int32 × (Nat → Int32) × (Nat → Int32)
def mn20 (x : Int32) : Int32 := if x < 20 then x else 20
/-- one call: the answer (1, 0), and what is behind it -/
def cD (kd fg tn wd : Nat → Int32) (tu pa : Int32) (c : Nat) (D : DD) : Int32 × DD :=
  if f_X0_wouldAnswer kd tn tu D.2.1 pa (nI c) = 0 then (0, D.1, f_X0_hurtBy D.2.1 (f_at 6 (tv 2) (kd c) + f_at 6 (tv 3) (kd c) * fg c), D.2.2.1, D.2.2.2.1 + 1, D.2.2.2.2.1, D.2.2.2.2.2.1, D.2.2.2.2.2.2)
  else (1, upd D.1 (wd c).toNatClampNeg (mn20 (D.1 (wd c).toNatClampNeg + f_at 6 (tv 1) (kd c))), D.2.1, D.2.2.1 + 1, D.2.2.2.1, D.2.2.2.2.1 ||| ((1 : Int32) <<< (wS (kd c) (wd c) D.1 &&& 31)), upd D.2.2.2.2.2.1 c (D.2.2.2.2.2.1 c + 1), upd D.2.2.2.2.2.2 c (wS (kd c) (wd c) D.1))
theorem cD_or (kd fg tn wd : Nat → Int32) (tu pa : Int32) (c : Nat) (D : DD) : (cD kd fg tn wd tu pa c D).1 = 0 ∨ (cD kd fg tn wd tu pa c D).1 = 1 := by
  unfold cD
  split
  · exact Or.inl rfl
  · exact Or.inr rfl
theorem hear_c {n : Nat} {kd fg tn wd hr : Nat → Int32} {tu pa : Int32} (hF : OkF n kd fg tn wd hr) {c : Nat} (hc : c < n) (D : DD) : f_X0_hearCall kd fg tn wd D.1 tu D.2.1 pa D.2.2.1 D.2.2.2.1 D.2.2.2.2.1 D.2.2.2.2.2.1 D.2.2.2.2.2.2 (nI c) = some (cD kd fg tn wd tu pa c D) := by
  obtain ⟨h7, hF⟩ := hF
  obtain ⟨k, f, t, w, h, hk, hf, ht, hw, hh, e1, e2, e3, e4, e5⟩ := hF c hc
  have hc7 : c < 7 := by omega
  unfold f_X0_hearCall cD f_X1_noteAnswer
  simp only [word_c D.1 hc7 hk e1, at_n hc7, put_n hc7, bi_some]
  rcases ans_or kd tn tu D.2.1 pa (nI c) with ha | ha
  · rw [ha, if_pos rfl, if_pos rfl, gu_t isB0]
  · rw [ha, if_neg nz1, if_neg nz1, gu_t isB1, e4, put_n hw, at_n hw, cl_n (by omega)]
    rfl
def F01 (x : Int32) : Prop := x = 0 ∨ x = 1
theorem f01_or {x y : Int32} (hx : F01 x) (hy : F01 y) : isB (x ||| y) = true := by
  rcases hx with rfl | rfl <;> rcases hy with rfl | rfl <;> decide
theorem or_1 {x : Int32} (hx : F01 x) : x ||| 1 = 1 := by rcases hx with rfl | rfl <;> decide
theorem or_0 {x : Int32} (hx : F01 x) : x ||| 0 = x := by rcases hx with rfl | rfl <;> decide
theorem mn20_eq (x : Int32) : (if x ≤ 20 then x else 20) = mn20 x := by
  unfold mn20
  have e : (20 : Int32).toInt = 20 := rfl
  by_cases h : x < 20
  · rw [if_pos h, if_pos (by rw [i_lt] at h; rw [i_le]; omega)]
  · rw [if_neg h]
    by_cases h2 : x ≤ 20
    · rw [if_pos h2]
      exact Int32.toInt_inj.mp (by rw [i_lt] at h; rw [i_le] at h2; omega)
    · rw [if_neg h2]
theorem upd_tw (f : Nat → Int32) (i : Nat) (x y : Int32) : upd (upd f i x) i y = upd f i y := by
  funext j
  show (if j = i then y else if j = i then x else f j) = if j = i then y else f j
  by_cases h : j = i
  · rw [if_pos h, if_pos h]
  · rw [if_neg h, if_neg h, if_neg h]
theorem calls_m {n : Nat} {kd fg tn wd hr : Nat → Int32} {tu pa : Int32} (hF : OkF n kd fg tn wd hr) (hT : OkT tu) {c : Nat} (hc : c < n) (D : DD) {c7 a7 : Int32} (h1 : F01 c7) (h2 : F01 a7) (v : Int32) : f_X4_calls D.1 (st3 tu D.2.1 pa) kd fg tn wd D.2.2.2.2.2.1 D.2.2.2.2.2.2 D.2.2.1 D.2.2.2.1 D.2.2.2.2.1 c7 a7 (nI c) v = some ((cD kd fg tn wd tu pa c D).2.1, st3 tu (cD kd fg tn wd tu pa c D).2.2.1 pa, (cD kd fg tn wd tu pa c D).2.2.2.2.2.2.1, (cD kd fg tn wd tu pa c D).2.2.2.2.2.2.2, (cD kd fg tn wd tu pa c D).2.2.2.1, (cD kd fg tn wd tu pa c D).2.2.2.2.1, (cD kd fg tn wd tu pa c D).2.2.2.2.2.1, (if v = 7 then 1 else c7), (if v = 7 then (if (cD kd fg tn wd tu pa c D).1 = 0 then a7 else 1) else a7)) := by
  obtain ⟨h7, hF⟩ := hF
  obtain ⟨k, f, t, w, h, hk, hf, ht, hw, hh, e1, e2, e3, e4, e5⟩ := hF c hc
  obtain ⟨u, hu, e6⟩ := hT
  have hc7 : c < 7 := by omega
  have key : ∀ (s2 : Int32), F01 s2 → ∀ q : Int32, q = (if v = 7 then (1 : Int32) else 0) → f_X4_calls_J16 (nI c) v c7 s2 D.1 (st3 tu D.2.1 pa) kd fg tn wd D.2.2.2.2.2.1 D.2.2.2.2.2.2 D.2.2.1 D.2.2.2.1 D.2.2.2.2.1 a7 = some ((cD kd fg tn wd tu pa c D).2.1, st3 tu (cD kd fg tn wd tu pa c D).2.2.1 pa, (cD kd fg tn wd tu pa c D).2.2.2.2.2.2.1, (cD kd fg tn wd tu pa c D).2.2.2.2.2.2.2, (cD kd fg tn wd tu pa c D).2.2.2.1, (cD kd fg tn wd tu pa c D).2.2.2.2.1, (cD kd fg tn wd tu pa c D).2.2.2.2.2.1, c7 ||| s2, (if (cD kd fg tn wd tu pa c D).1 = 0 then a7 else a7 ||| q)) := by
    intro s2 hs2 q hq
    unfold f_X4_calls_J16
    rw [gu_t (f01_or h1 hs2), ans_m D.2.1 pa hc7 hk ht hu e1 e3 e6, bi_some, hurts_m hc7 hk hf e1 e2]
    unfold cD
    rcases ans_or kd tn tu D.2.1 pa (nI c) with ha | ha
    · rw [ha, if_pos rfl, if_pos rfl, bi_some, hurt_m, e1, e2]
      rfl
    · rw [ha, if_neg nz1, if_neg nz1]
      have key2 : ∀ q2 : Int32, F01 q2 → f_X4_calls_J64 (nI c) a7 q2 D.1 (st3 tu D.2.1 pa) kd wd D.2.2.2.2.2.1 D.2.2.2.2.2.2 D.2.2.1 D.2.2.2.1 D.2.2.2.2.1 (c7 ||| s2) = some (upd D.1 (wd c).toNatClampNeg (mn20 (D.1 (wd c).toNatClampNeg + f_at 6 (tv 1) (kd c))), st3 tu D.2.1 pa, upd D.2.2.2.2.2.1 c (D.2.2.2.2.2.1 c + 1), upd D.2.2.2.2.2.2 c (wS (kd c) (wd c) D.1), D.2.2.1 + 1, D.2.2.2.1, D.2.2.2.2.1 ||| ((1 : Int32) <<< (wS (kd c) (wd c) D.1 &&& 31)), c7 ||| s2, a7 ||| q2) := by
        intro q2 hq2
        unfold f_X4_calls_J64
        have hwb : inB (wd c) 8 = true := by rw [e4]; exact inB_n hw
        simp only [gu_t (f01_or h2 hq2), gu_t (inB_n hc7), word_m D.1 hc7, teach_m hc7 hk e1, bi_some, gu_t hwb, cl_n (show c < 2147483648 by omega), pk_us, upd_tw, if_some]
        rw [← mn20_eq, e1]
        by_cases h20 : D.1 (wd c).toNatClampNeg + f_at 6 (tv 1) (nI k) ≤ 20
        · simp only [if_pos h20]
        · simp only [if_neg h20]
      by_cases hv : v = 7
      · rw [if_pos hv] at hq ⊢
        rw [key2 1 (Or.inr rfl), hq]
        rfl
      · rw [if_neg hv] at hq ⊢
        rw [key2 0 (Or.inl rfl), hq]
        rfl
  unfold f_X4_calls
  by_cases hv : v = 7
  · rw [if_pos hv, key 1 (Or.inr rfl) 1 (by rw [if_pos hv]), or_1 h1, or_1 h2, if_pos hv, if_pos hv]
  · rw [if_neg hv, key 0 (Or.inl rfl) 0 (by rw [if_neg hv]), or_0 h1, or_0 h2, if_neg hv, if_neg hv]
    split <;> rfl
