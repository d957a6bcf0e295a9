/-- the text's letter at a place; -1 past it -/
def lA (lt : Nat → Int32) (len p : Nat) : Int32 := if p < len then lt p else -1
def LB (x : Int32) : Prop := x = -1 ∨ ∃ b, b < 256 ∧ x = nI b
theorem lA_b {len : Nat} {lt : Nat → Int32} (h : RT len lt) (p : Nat) : LB (lA lt len p) := by
  unfold lA
  split
  · rename_i hp; exact Or.inr (h.2 p hp)
  · exact Or.inl rfl
theorem lA_c {len : Nat} {lt : Nat → Int32} (h : len ≤ 96) {p : Nat} (hp : p < 10000) : f_X2_letterAt lt (nI len) (nI p) = lA lt len p := by
  unfold f_X2_letterAt lA
  by_cases hq : p < len
  · rw [if_neg (nI_ge hq (by omega)), if_pos hq, at_n (by omega)]
  · rw [if_pos (nI_le (by omega) (by omega)), if_neg hq]
theorem lA_m {len : Nat} {lt : Nat → Int32} (h : len ≤ 96) {p : Nat} (hp : p < 10000) : f_X4_next lt (nI len) (nI p) = some (lA lt len p) := by
  unfold f_X4_next lA
  by_cases hq : p < len
  · rw [if_neg (nI_ge hq (by omega)), if_pos hq, gu_t (inB_n (by omega)), cl_n (by omega)]
  · rw [if_pos (nI_le (by omega) (by omega)), if_neg hq]
/-- whether a letter fits a form's letter -/
def okc (q x : Int32) : Bool := if q = 75 then decide (0 ≤ f_X4_kindOf x) else if q = 35 then decide (¬ f_X4_isIn x 48 57 = 0) else decide (x = q)
theorem kind_all : ∀ b : Fin 256, f_X2_kindOf (nI b.val) = some (f_X4_kindOf (nI b.val)) := by decide +kernel
theorem kind_c {x : Int32} (h : LB x) : f_X2_kindOf x = some (f_X4_kindOf x) := by
  rcases h with rfl | ⟨b, hb, rfl⟩
  · decide +kernel
  · exact kind_all ⟨b, hb⟩
theorem kind_or (x : Int32) : f_X4_kindOf x = -1 ∨ ∃ k, k < 6 ∧ f_X4_kindOf x = nI k := by
  unfold f_X4_kindOf
  (repeat' split)
  · exact Or.inr ⟨0, by omega, rfl⟩
  · exact Or.inr ⟨5, by omega, rfl⟩
  · exact Or.inr ⟨1, by omega, rfl⟩
  · exact Or.inr ⟨4, by omega, rfl⟩
  · exact Or.inr ⟨2, by omega, rfl⟩
  · exact Or.inr ⟨3, by omega, rfl⟩
  · exact Or.inl rfl
theorem form_c {q x : Int32} (h : LB x) : f_X2_isOfForm q x = some (if okc q x = true then 1 else 0) := by
  unfold f_X2_isOfForm okc
  by_cases h1 : q = 75
  · rw [if_pos h1, if_pos h1, bi_s (kind_c h)]
    rcases kind_or x with e | ⟨k, hk, e⟩
    · rw [e]; rfl
    · rw [e, if_neg (nI_pos (by omega)), decide_eq_true (nI_pos' (by omega)), if_pos rfl]
  · rw [if_neg h1, if_neg h1]
    by_cases h2 : q = 35
    · rw [if_pos h2, if_pos h2]
      unfold f_X4_isIn
      by_cases a : x < 48
      · rw [if_pos a, if_pos a]; rfl
      · rw [if_neg a, if_neg a]
        by_cases b : 57 < x
        · rw [if_pos b, if_pos b]; rfl
        · rw [if_neg b, if_neg b]; rfl
    · rw [if_neg h2, if_neg h2]
      by_cases a : x = q
      · rw [if_pos a, decide_eq_true a]; rfl
      · rw [if_neg a, decide_eq_false a]; rfl
/-- the first place that doesn't fit -/
def fz (lt : Nat → Int32) (len : Nat) : List Int32 → Nat → Option Nat
  | [], _ => none
  | q :: l, p => if okc q (lA lt len p) = true then fz lt len l (p + 1) else some p
def fm (j : Nat) : List Int32 := (sByt.getD j []).drop 1
theorem len_j : ∀ j : Fin 8, f_strlen j.val = some (nI (sLen.getD j.val 0)) ∧ sLen.getD j.val 0 ≤ 8 ∧ s9 j.val = true ∧ (j.val < 7 → 3 ≤ sLen.getD j.val 0 ∧ (sByt.getD j.val []).length = sLen.getD j.val 0) := by decide +kernel
theorem chr_j : ∀ j : Fin 7, ∀ i : Fin 8, i.val < sLen.getD j.val 0 → f_charAt (nI i.val) j.val = some (sB j.val i.val) ∧ (sByt.getD j.val []).drop i.val = sB j.val i.val :: (sByt.getD j.val []).drop (i.val + 1) := by decide +kernel
theorem emp_j : ∀ j : Fin 8, f_isEmpty j.val = some (if j.val < 7 then 0 else 1) := by decide +kernel
theorem stp_c {len : Nat} {lt : Nat → Int32} (h : len ≤ 96) {a j : Nat} (ha : a < 1000) (hj : j < 7) (e : f_X2_formOf (lA lt len a) = j) : f_X2_stepFrom lt (nI len) (nI a) = some (nI (sLen.getD j 0)) := by
  unfold f_X2_stepFrom
  obtain ⟨e1, e2, e3, e4⟩ := len_j ⟨j, by omega⟩
  dsimp only at e1 e2 e3 e4
  rw [lA_c h (by omega), e, bi_s e1, gu_t e3]
/-- a step is 3 at least -/
theorem mx_j {j : Nat} (hj : j < 7) : (if (1 : Int32) < nI (sLen.getD j 0) then nI (sLen.getD j 0) else (1 : Int32)) = nI (sLen.getD j 0) := by
  obtain ⟨e1, e2, e3, e4⟩ := len_j ⟨j, by omega⟩
  dsimp only at e2 e4
  exact if_pos (nI_lt (a := 1) (by have := (e4 hj).1; omega) (by omega))
theorem fz_c {len : Nat} {lt : Nat → Int32} (h : RT len lt) {a j : Nat} (ha : a < 1000) (hj : j < 7) (e : f_X2_formOf (lA lt len a) = j) : lp (fun z : Int32 => f_X2_faultOfForm_L39 (nI a) j lt (nI len) z) 1000 1 = some (match fz lt len (fm j) (a + 1) with | none => .inl (nI (a + sLen.getD j 0)) | some p => .inr (nI p)) := by
  obtain ⟨e1, e2, e3, e4⟩ := len_j ⟨j, by omega⟩
  obtain ⟨e5, e6⟩ := e4 hj
  dsimp only at e1 e2 e3 e5 e6
  obtain ⟨b, eb, rfl⟩ := lp_hoare (f := fun z : Int32 => f_X2_faultOfForm_L39 (nI a) j lt (nI len) z) (fun i v => 1 ≤ i ∧ v = nI i ∧ fz lt len (fm j) (a + 1) = fz lt len ((sByt.getD j []).drop i) (a + i)) (fun b => b = (match fz lt len (fm j) (a + 1) with | none => .inl (nI (a + sLen.getD j 0)) | some p => .inr (nI p))) (sLen.getD j 0) (by
    rintro i _ hi ⟨h1, rfl, hz⟩
    unfold f_X2_faultOfForm_L39
    rw [bi_s e1, gu_t e3]
    by_cases hlt : i < sLen.getD j 0
    · rw [if_neg (nI_ge hlt (by omega))]
      obtain ⟨c1, c2⟩ := chr_j ⟨j, hj⟩ ⟨i, by omega⟩ hlt
      rw [c2, fz] at hz
      rw [bi_s c1, gu_t e3, show nI a + nI i = nI (a + i) from nI_add a i, lA_c h.1 (by omega), bi_s (form_c (lA_b h _))]
      dsimp only at hz ⊢
      by_cases ho : okc (sB j i) (lA lt len (a + i)) = true
      · left
        rw [if_pos ho] at hz ⊢
        rw [if_neg nz1, nI_1]
        exact ⟨hlt, _, rfl, by omega, rfl, hz⟩
      · right
        rw [if_neg ho] at hz ⊢
        rw [if_pos rfl, hz]
        exact ⟨_, rfl, rfl⟩
    · right
      have hi2 : i = sLen.getD j 0 := by omega
      have hd : (sByt.getD j []).drop i = [] := List.drop_eq_nil_of_le (by omega)
      rw [hd, fz] at hz
      rw [if_pos (nI_le (by omega) (by omega)), bi_s (stp_c h.1 ha hj e), mx_j hj, show nI a + nI (sLen.getD j 0) = nI (a + sLen.getD j 0) from nI_add a _, hz]
      exact ⟨_, rfl, rfl⟩) 1000 1 1 (by omega) (by omega) ⟨Nat.le_refl 1, rfl, rfl⟩
  exact eb
def jF (lt : Nat → Int32) (len a : Nat) : Nat := f_X2_formOf (lA lt len a)
/-- a statement's fault; where the next begins -/
def sF (lt : Nat → Int32) (len a : Nat) : Option Nat := if jF lt len a = 7 then some a else fz lt len (fm (jF lt len a)) (a + 1)
def sN (lt : Nat → Int32) (len a : Nat) : Nat := a + sLen.getD (jF lt len a) 0
theorem jF_le (lt : Nat → Int32) (len a : Nat) : jF lt len a ≤ 7 := by
  unfold jF f_X2_formOf
  (repeat' split) <;> omega
theorem L11_c {len : Nat} {lt : Nat → Int32} (h : RT len lt) {a : Nat} (ha : a < len) : f_X2_faultOfForm_L11 lt (nI len) (nI a) = some (match sF lt len a with | none => .inl (nI (sN lt len a)) | some p => .inr (nI p)) := by
  have hl := h.1
  unfold f_X2_faultOfForm_L11
  rw [if_neg (nI_ge ha (by omega)), lA_c hl (by omega)]
  have hj := jF_le lt len a
  have ej : f_X2_formOf (lA lt len a) = jF lt len a := rfl
  obtain ⟨e1, e2, e3, e4⟩ := len_j ⟨jF lt len a, by omega⟩
  rw [ej, bi_s (emp_j ⟨jF lt len a, by omega⟩), gu_t e3]
  unfold sF
  by_cases h7 : jF lt len a = 7
  · rw [if_pos h7, if_neg (show ¬ jF lt len a < 7 by omega), if_neg nz1]
  · rw [if_neg h7, if_pos (show jF lt len a < 7 by omega), if_pos rfl, fz_c h (by omega) (by omega) ej]
    rfl
theorem sN_in {lt : Nat → Int32} {len a : Nat} (h : sF lt len a = none) : a + 3 ≤ sN lt len a ∧ sN lt len a ≤ a + 8 := by
  unfold sF at h
  by_cases h7 : jF lt len a = 7
  · rw [if_pos h7] at h; exact absurd h (by simp)
  · obtain ⟨e1, e2, e3, e4⟩ := len_j ⟨jF lt len a, by have := jF_le lt len a; omega⟩
    have := (e4 (by have := jF_le lt len a; show jF lt len a < 7; omega)).1
    unfold sN
    dsimp only at this e2
    omega
/-- the places where the statements begin -/
def pS (lt : Nat → Int32) (len : Nat) : Nat → Nat
  | 0 => 0
  | i + 1 => sN lt len (pS lt len i)
/-- what reading the form comes to: the fault, or so many statements -/
def rnF (lt : Nat → Int32) (len : Nat) : Nat → Nat → Nat → Option Nat × Nat
  | 0, _, s => (none, s)
  | f + 1, a, s => if len ≤ a ∧ 0 < s then (none, s) else match sF lt len a with | some p => (some p, s) | none => rnF lt len f (sN lt len a) (s + 1)
