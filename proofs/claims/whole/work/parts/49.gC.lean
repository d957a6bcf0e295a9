def gdN (lt : Nat → Int32) (len N : Nat) : Prop := ∀ s, s < N → sF lt len (pS lt len s) = none ∧ pS lt len s < len
theorem pS_in {lt : Nat → Int32} {len N : Nat} (hl : len ≤ 96) (h : gdN lt len N) : ∀ s, s ≤ N → 3 * s ≤ pS lt len s ∧ pS lt len s ≤ 104
  | 0, _ => ⟨Nat.le_refl 0, Nat.zero_le _⟩
  | s + 1, hs => by
    have ih := pS_in hl h s (by omega)
    obtain ⟨e1, e2⟩ := h s (by omega)
    have := sN_in e1
    show 3 * (s + 1) ≤ sN lt len (pS lt len s) ∧ sN lt len (pS lt len s) ≤ 104
    omega
theorem sF_0 (lt : Nat → Int32) : sF lt 0 0 = some 0 := by
  unfold sF jF lA
  rw [if_neg (Nat.lt_irrefl 0), show f_X2_formOf (-1) = 7 by decide, if_pos rfl]
def enN (lt : Nat → Int32) (len N : Nat) : Prop := (0 < N ∧ len ≤ pS lt len N) ∨ (¬ (0 < N ∧ len ≤ pS lt len N) ∧ ∃ p, sF lt len (pS lt len N) = some p)
theorem exN {lt : Nat → Int32} {len : Nat} (hl : len ≤ 96) : ∃ N, gdN lt len N ∧ enN lt len N := by
  have key : ∀ k, (∃ N, gdN lt len N ∧ enN lt len N) ∨ gdN lt len k := by
    intro k
    induction k with
    | zero => exact Or.inr (fun s hs => absurd hs (Nat.not_lt_zero _))
    | succ k ih =>
      rcases ih with h | h
      · exact Or.inl h
      · by_cases he : 0 < k ∧ len ≤ pS lt len k
        · exact Or.inl ⟨k, h, Or.inl he⟩
        · cases hf : sF lt len (pS lt len k) with
          | some p => exact Or.inl ⟨k, h, Or.inr ⟨he, p, hf⟩⟩
          | none =>
            right
            intro s hs
            by_cases hk : s = k
            · subst hk
              refine ⟨hf, ?_⟩
              by_cases h0 : 0 < s
              · omega
              · have : s = 0 := by omega
                subst this
                show 0 < len
                by_cases hz : len = 0
                · subst hz
                  rw [show pS lt 0 0 = 0 from rfl, sF_0] at hf
                  exact absurd hf (by simp)
                · omega
            · exact h s (by omega)
  rcases key 200 with h | h
  · exact h
  · have h1 := pS_in hl h 200 (Nat.le_refl _)
    omega
theorem form_C {lt : Nat → Int32} {len N : Nat} (h : RT len lt) (hg : gdN lt len N) : ((0 < N ∧ len ≤ pS lt len N) → f_X2_faultOfForm lt (nI len) = some (-9)) ∧ (∀ p, ¬ (0 < N ∧ len ≤ pS lt len N) → sF lt len (pS lt len N) = some p → f_X2_faultOfForm lt (nI len) = some (nI p)) := by
  have hl := h.1
  have hp := pS_in hl hg
  have hN : N ≤ 40 := by have := hp N (Nat.le_refl _); omega
  have hs : ∀ i, i < N → f_X2_faultOfForm_L11 lt (nI len) (nI (pS lt len i)) = some (.inl (nI (pS lt len (i + 1)))) := by
    intro i hi
    obtain ⟨e1, e2⟩ := hg i hi
    rw [L11_c h e2, e1]
    rfl
  refine ⟨fun he => ?_, fun p he hf => ?_⟩
  · have h0 := (hg 0 he.1).2
    unfold f_X2_faultOfForm
    rw [if_neg (nI_ne0 (by omega) (by omega))]
    refine lp_for (fun i => nI (pS lt len i)) N hs ?_ (by omega) rfl
    unfold f_X2_faultOfForm_L11
    rw [if_pos (nI_le he.2 (by have := hp N (Nat.le_refl _); omega))]
  · unfold f_X2_faultOfForm
    by_cases hz : len = 0
    · subst hz
      have hN0 : N = 0 := by
        by_cases q : 0 < N
        · exact absurd (hg 0 q).2 (Nat.not_lt_zero _)
        · omega
      subst hN0
      rw [show pS lt 0 0 = 0 from rfl, sF_0] at hf
      rw [if_pos (show nI 0 = 0 by decide), ← Option.some.inj hf]
      rfl
    · rw [if_neg (nI_ne0 (by omega) (by omega))]
      refine lp_for (fun i => nI (pS lt len i)) N hs ?_ (by omega) rfl
      have hlt : pS lt len N < len := by
        by_cases q : 0 < N
        · omega
        · have : N = 0 := by omega
          subst this
          show 0 < len
          omega
      rw [L11_c h hlt, hf]
/-- the rows that the model has read -/
def RdN (lt : Nat → Int32) (len N : Nat) (l la t : Nat → Int32) : Prop := ∀ s, s < N → l s = lA lt len (pS lt len s) ∧ la s = nI (pS lt len s) ∧ TV lt len (pS lt len s) t (5 * s)
theorem TV_same {lt : Nat → Int32} {len a k : Nat} {t t' : Nat → Int32} (h : TV lt len a t k) (e : ∀ i, i < k + 5 → t' i = t i) : TV lt len a t' k := by
  obtain ⟨h1, h2, h3, h4⟩ := h
  refine ⟨fun q => ?_, fun q => ?_, fun q => ?_, fun q => ?_⟩
  · rw [e k (by omega), e (k + 1) (by omega), e (k + 2) (by omega), e (k + 3) (by omega), e (k + 4) (by omega)]; exact h1 q
  · rw [e k (by omega), e (k + 1) (by omega)]; exact h2 q
  · rw [e k (by omega)]; exact h3 q
  · rw [e k (by omega)]; exact h4 q
theorem RdN_s {lt : Nat → Int32} {len i : Nat} {l la t t' : Nat → Int32} (h : RdN lt len i l la t) (h1 : TV lt len (pS lt len i) t' (5 * i)) (h2 : ∀ j, j < 5 * i → t' j = t j) : RdN lt len (i + 1) (upd l i (lA lt len (pS lt len i))) (upd la i (nI (pS lt len i))) t' := by
  intro s hs
  by_cases e : s = i
  · subst e
    exact ⟨pk_us, pk_us, h1⟩
  · obtain ⟨q1, q2, q3⟩ := h s (by omega)
    exact ⟨(pk_un e).trans q1, (pk_un e).trans q2, TV_same q3 (fun j hj => h2 j (by omega))⟩
theorem form_M {lt letter letterAt told : Nat → Int32} {len N : Nat} (h : RT len lt) (hg : gdN lt len N) : ((0 < N ∧ len ≤ pS lt len N) → ∃ l la t, lp (fun z : Int32 × (Nat → Int32) × (Nat → Int32) × (Nat → Int32) × Int32 × Int32 => f_X4_gorge_L12 lt (nI len) z.1 z.2.1 z.2.2.1 z.2.2.2.1 z.2.2.2.2.1 z.2.2.2.2.2) 1000 (1, letter, letterAt, told, 0, 0) = some (1, l, la, t, nI (pS lt len N), nI N) ∧ RdN lt len N l la t) ∧ (∀ p, ¬ (0 < N ∧ len ≤ pS lt len N) → sF lt len (pS lt len N) = some p → ∃ l la t, lp (fun z : Int32 × (Nat → Int32) × (Nat → Int32) × (Nat → Int32) × Int32 × Int32 => f_X4_gorge_L12 lt (nI len) z.1 z.2.1 z.2.2.1 z.2.2.2.1 z.2.2.2.2.1 z.2.2.2.2.2) 1000 (1, letter, letterAt, told, 0, 0) = some (0, l, la, t, nI p, nI N)) := by
  have hl := h.1
  have hp := pS_in hl hg
  have hN : N ≤ 34 := by have := hp N (Nat.le_refl _); omega
  have hst : ∀ i l la t, i < N → RdN lt len i l la t → ∃ l' la' t', f_X4_gorge_L12 lt (nI len) 1 l la t (nI (pS lt len i)) (nI i) = some (.inl (1, l', la', t', nI (pS lt len (i + 1)), nI (i + 1))) ∧ RdN lt len (i + 1) l' la' t' := by
    intro i l la t hi hr
    obtain ⟨e1, e2⟩ := hg i hi
    unfold f_X4_gorge_L12 f_X4_gorge_J34
    rw [if_neg nz1, if_pos (nI_lt e2 (by omega))]
    rcases stat_m (letter := l) (letterAt := la) (told := t) h (show pS lt len i ≤ 96 by omega) (show i < 48 by omega) with ⟨p, _, _, _, q, _⟩ | ⟨t', _, q2, q3, q4⟩
    · rw [e1] at q; exact absurd q (by simp)
    · rw [bi_s q2]
      dsimp only
      rw [if_neg nz1, nI_1]
      exact ⟨_, _, t', rfl, RdN_s hr q3 q4⟩
  refine ⟨fun he => ?_, fun p he hf => ?_⟩
  · obtain ⟨b, e, l, la, t, rfl, hr⟩ := lp_hoare (f := fun z : Int32 × (Nat → Int32) × (Nat → Int32) × (Nat → Int32) × Int32 × Int32 => f_X4_gorge_L12 lt (nI len) z.1 z.2.1 z.2.2.1 z.2.2.2.1 z.2.2.2.2.1 z.2.2.2.2.2) (fun i a => ∃ l la t, a = (1, l, la, t, nI (pS lt len i), nI i) ∧ RdN lt len i l la t) (fun b => ∃ l la t, b = (1, l, la, t, nI (pS lt len N), nI N) ∧ RdN lt len N l la t) N (by
      rintro i _ hi ⟨l, la, t, rfl, hr⟩
      dsimp only
      by_cases hlt : i < N
      · left
        obtain ⟨l', la', t', e, hr'⟩ := hst i l la t hlt hr
        exact ⟨hlt, _, e, l', la', t', rfl, hr'⟩
      · right
        have : i = N := by omega
        subst this
        unfold f_X4_gorge_L12
        rw [if_neg nz1, if_neg (nI_nlt he.2 (by have := hp i (Nat.le_refl _); omega)), if_neg (nI_ne0 he.1 (by omega))]
        exact ⟨_, rfl, l, la, t, rfl, hr⟩) 1000 0 (1, letter, letterAt, told, 0, 0) (Nat.zero_le _) (by omega) ⟨letter, letterAt, told, rfl, fun s hs => absurd hs (Nat.not_lt_zero _)⟩
    exact ⟨l, la, t, e, hr⟩
  · obtain ⟨b, e, l, la, t, rfl⟩ := lp_hoare (f := fun z : Int32 × (Nat → Int32) × (Nat → Int32) × (Nat → Int32) × Int32 × Int32 => f_X4_gorge_L12 lt (nI len) z.1 z.2.1 z.2.2.1 z.2.2.2.1 z.2.2.2.2.1 z.2.2.2.2.2) (fun i a => (i ≤ N ∧ ∃ l la t, a = (1, l, la, t, nI (pS lt len i), nI i) ∧ RdN lt len i l la t) ∨ (i = N + 1 ∧ ∃ l la t, a = (0, l, la, t, nI p, nI N))) (fun b => ∃ l la t, b = (0, l, la, t, nI p, nI N)) (N + 1) (by
      rintro i _ hi (⟨hi2, l, la, t, rfl, hr⟩ | ⟨hi2, l, la, t, rfl⟩)
      · left
        dsimp only
        by_cases hlt : i < N
        · obtain ⟨l', la', t', e, hr'⟩ := hst i l la t hlt hr
          exact ⟨by omega, _, e, Or.inl ⟨by omega, l', la', t', rfl, hr'⟩⟩
        · have : i = N := by omega
          subst this
          have hj : f_X4_gorge_L12 lt (nI len) 1 l la t (nI (pS lt len i)) (nI i) = f_X4_gorge_J34 lt l la t (nI len) (nI (pS lt len i)) (nI i) := by
            unfold f_X4_gorge_L12
            rw [if_neg nz1]
            by_cases q : nI (pS lt len i) < nI len
            · rw [if_pos q]
            · rw [if_neg q]
              have : i = 0 := by
                by_cases q2 : 0 < i
                · exact absurd (nI_lt (show pS lt len i < len by omega) (by omega)) q
                · omega
              subst this
              rw [if_pos (show nI 0 = 0 by decide)]
          rw [hj]
          unfold f_X4_gorge_J34
          have h96 : pS lt len i ≤ 96 := by
            by_cases q2 : 0 < i
            · omega
            · have : i = 0 := by omega
              subst this
              exact Nat.zero_le _
          rcases stat_m (letter := l) (letterAt := la) (told := t) h h96 (show i < 48 by omega) with ⟨p', l', la', t', q, q2⟩ | ⟨t', q, _, _, _⟩
          · rw [hf] at q
            rw [bi_s q2, ← Option.some.inj q]
            dsimp only
            rw [if_pos rfl, Int32.add_zero]
            exact ⟨by omega, _, rfl, Or.inr ⟨rfl, l', la', t', rfl⟩⟩
          · rw [hf] at q; exact absurd q (by simp)
      · right
        dsimp only
        unfold f_X4_gorge_L12
        rw [if_pos rfl]
        exact ⟨_, rfl, l, la, t, rfl⟩) 1000 0 (1, letter, letterAt, told, 0, 0) (Nat.zero_le _) (by omega) (Or.inl ⟨Nat.zero_le _, letter, letterAt, told, rfl, fun s hs => absurd hs (Nat.not_lt_zero _)⟩)
    exact ⟨l, la, t, e⟩
