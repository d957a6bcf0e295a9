theorem cD_kh {kd fg tn wd : Nat → Int32} {tu pa : Int32} {c : Nat} {D E : DD} (h1 : D.1 = E.1) (h2 : D.2.1 = E.2.1) : (cD kd fg tn wd tu pa c D).1 = (cD kd fg tn wd tu pa c E).1 ∧ (cD kd fg tn wd tu pa c D).2.1 = (cD kd fg tn wd tu pa c E).2.1 ∧ (cD kd fg tn wd tu pa c D).2.2.1 = (cD kd fg tn wd tu pa c E).2.2.1 := by
  unfold cD
  rw [h1, h2]
  split <;> exact ⟨rfl, rfl, rfl⟩
def KH (S T : SS) : Prop := S.1 = T.1 ∧ S.2.1 = T.2.1 ∧ S.2.2.1 = T.2.2.1 ∧ S.2.2.2.1 = T.2.2.2.1
theorem stp_kh {kd fg tn wd hr : Nat → Int32} {tu pa who : Int32} {c : Nat} {S T : SS} (h : KH S T) : KH (stp kd fg tn wd hr tu pa who S c) (stp kd fg tn wd hr tu pa who T c) := by
  obtain ⟨h1, h2, h3, h4⟩ := h
  obtain ⟨e1, e2, e3⟩ := cD_kh (kd := kd) (fg := fg) (tn := tn) (wd := wd) (tu := tu) (pa := pa) (c := c) (D := S.2.2) (E := T.2.2) h3 h4
  unfold stp
  split
  · exact ⟨h1, h2, h3, h4⟩
  · split
    · refine ⟨rfl, ?_, e2, e3⟩
      show (if S.2.1 = 0 then (if (cD kd fg tn wd tu pa c S.2.2).1 = 0 then 0 else 1) else 1) = (if T.2.1 = 0 then (if (cD kd fg tn wd tu pa c T.2.2).1 = 0 then 0 else 1) else 1)
      rw [h2, e1]
    · exact ⟨h1, h2, e2, e3⟩
theorem fold_kh {kd fg tn wd hr : Nat → Int32} {tu pa who : Int32} : ∀ (l : List Nat) {S T : SS}, KH S T → KH (l.foldl (stp kd fg tn wd hr tu pa who) S) (l.foldl (stp kd fg tn wd hr tu pa who) T)
  | [], _, _, h => h
  | _ :: l, _, _, h => fold_kh l (stp_kh h)
theorem dT_kh {n : Nat} {kd fg tn wd hr : Nat → Int32} {tu pa who : Int32} {X Y : DX} (h1 : X.1 = Y.1) (h2 : X.2.1 = Y.2.1) : (dT n kd fg tn wd hr tu pa who X).1 = (dT n kd fg tn wd hr tu pa who Y).1 ∧ (dT n kd fg tn wd hr tu pa who X).2.1 = (dT n kd fg tn wd hr tu pa who Y).2.1 := by
  obtain ⟨q1, q2, q3, q4⟩ := fold_kh (kd := kd) (fg := fg) (tn := tn) (wd := wd) (hr := hr) (tu := tu) (pa := pa) (who := who) (oL n hr 24) (S := (0, 0, X.1, X.2.1, X.2.2.2.1, X.2.2.2.2.1, X.2.2.2.2.2.1, X.2.2.2.2.2.2.1, X.2.2.2.2.2.2.2)) (T := (0, 0, Y.1, Y.2.1, Y.2.2.2.1, Y.2.2.2.2.1, Y.2.2.2.2.2.1, Y.2.2.2.2.2.2.1, Y.2.2.2.2.2.2.2)) ⟨rfl, rfl, h1, h2⟩
  unfold dT dayS
  dsimp only at q1 q2 q3 q4 ⊢
  rw [q1, q2, q3, q4]
  exact ⟨rfl, rfl⟩
theorem dI_kh {n : Nat} {kd fg tn wd hr : Nat → Int32} {tu pa who : Int32} {X Y : DX} (h1 : X.1 = Y.1) (h2 : X.2.1 = Y.2.1) : ∀ k, (dI n kd fg tn wd hr tu pa who k X).1 = (dI n kd fg tn wd hr tu pa who k Y).1 ∧ (dI n kd fg tn wd hr tu pa who k X).2.1 = (dI n kd fg tn wd hr tu pa who k Y).2.1
  | 0 => ⟨h1, h2⟩
  | k + 1 => dT_kh (dI_kh h1 h2 k).1 (dI_kh h1 h2 k).2
/-- so many days it isn't silent -/
def ldB (n : Nat) (kd fg tn wd hr : Nat → Int32) (tu pa who : Int32) (kn : Nat → Int32) (hu dy : Int32) : Nat → Bool
  | 0 => true
  | i + 1 => ldB n kd fg tn wd hr tu pa who kn hu dy i && decide ((dI n kd fg tn wd hr tu pa who (i + 1) (X0 kn hu dy)).2.1 ≤ pa)
theorem ldB_f {n : Nat} {kd fg tn wd hr : Nat → Int32} {tu pa who : Int32} {kn : Nat → Int32} {hu dy : Int32} {i : Nat} (h : (ldB n kd fg tn wd hr tu pa who kn hu dy i) = false) : ∀ j, (ldB n kd fg tn wd hr tu pa who kn hu dy (i + j)) = false
  | 0 => h
  | j + 1 => by
    show ((ldB n kd fg tn wd hr tu pa who kn hu dy (i + j)) && _) = false
    rw [ldB_f h j]; rfl
theorem loud_c {n : Nat} {kd fg tn wd hr od kn : Nat → Int32} (tu hu pa dy : Int32) (hF : OkF n kd fg tn wd hr) (hO : OkO n hr od) (hz : FZ kd fg tn wd hr) (hz2 : Zr 7 od) (hz3 : Zr 8 kn) (hh : HR hu) {D : GX} (hD : DZ D) (who : Int32) {k : Nat} (hk : k < 900) : ∃ X : DX, ZX X ∧ f_X3_staysLoud D.2.1 D.2.2.1 D.2.2.2.1 D.2.2.2.2.1 D.2.2.2.2.2.1 D.2.2.2.2.2.2.1 D.2.2.2.2.2.2.2.1 D.2.2.2.2.2.2.2.2.2.2.2.2.2.2.2.1 D.2.2.2.2.2.2.2.2.2.2.2.2.2.2.2.2 (nI n) kd fg tn wd hr od kn tu hu pa dy (nI k) who = some ((if (ldB n kd fg tn wd hr tu pa who kn hu dy k) = true then 1 else 0), nI n, kd, fg, tn, wd, hr, od, X.1, tu, X.2.1, pa, X.2.2.1, X.2.2.2.1, X.2.2.2.2.1, X.2.2.2.2.2.1, X.2.2.2.2.2.2.1, X.2.2.2.2.2.2.2) := by
  have hzi := fun i => dI_z (tu := tu) (pa := pa) (who := who) hF (X0_z (hu := hu) (dy := dy) hz3) hh i
  obtain ⟨b, e, X, hX, rfl⟩ := lp_hoare (f := (fun z : Int32 × DX => f_X3_staysLoud_L6 (nI k) who (nI n) kd fg tn wd hr od tu pa z.1 z.2.1 z.2.2.1 z.2.2.2.1 z.2.2.2.2.1 z.2.2.2.2.2.1 z.2.2.2.2.2.2.1 z.2.2.2.2.2.2.2.1 z.2.2.2.2.2.2.2.2)) (fun i a => a = (nI i, (dI n kd fg tn wd hr tu pa who i (X0 kn hu dy))) ∧ (ldB n kd fg tn wd hr tu pa who kn hu dy i) = true) (fun b => ∃ X : DX, ZX X ∧ b = ((if (ldB n kd fg tn wd hr tu pa who kn hu dy k) = true then 1 else 0), nI n, kd, fg, tn, wd, hr, od, X.1, tu, X.2.1, pa, X.2.2.1, X.2.2.2.1, X.2.2.2.2.1, X.2.2.2.2.2.1, X.2.2.2.2.2.2.1, X.2.2.2.2.2.2.2)) k (by
    rintro i _ hi ⟨rfl, hld⟩
    dsimp only
    unfold f_X3_staysLoud_L6 f_X0_isSilent
    by_cases hlt : i < k
    · rw [if_neg (nI_ge hlt (by omega)), day_c hF hO who (dI n kd fg tn wd hr tu pa who i (X0 kn hu dy)), bi_some, nI_1]
      by_cases h : (dT n kd fg tn wd hr tu pa who (dI n kd fg tn wd hr tu pa who i (X0 kn hu dy))).2.1 ≤ pa
      · left
        rw [if_pos h, if_pos rfl]
        refine ⟨hlt, _, rfl, rfl, ?_⟩
        show ((ldB n kd fg tn wd hr tu pa who kn hu dy i) && decide ((dT n kd fg tn wd hr tu pa who (dI n kd fg tn wd hr tu pa who i (X0 kn hu dy))).2.1 ≤ pa)) = true
        rw [hld, decide_eq_true h]; rfl
      · right
        rw [if_neg h, if_neg nz1]
        refine ⟨_, rfl, (dI n kd fg tn wd hr tu pa who (i + 1) (X0 kn hu dy)), (hzi (i + 1)).1, ?_⟩
        have hf : (ldB n kd fg tn wd hr tu pa who kn hu dy (i + 1)) = false := by
          show ((ldB n kd fg tn wd hr tu pa who kn hu dy i) && decide ((dT n kd fg tn wd hr tu pa who (dI n kd fg tn wd hr tu pa who i (X0 kn hu dy))).2.1 ≤ pa)) = false
          rw [decide_eq_false h, Bool.and_false]
        have hk' := ldB_f hf (k - (i + 1))
        rw [show i + 1 + (k - (i + 1)) = k by omega] at hk'
        rw [hk']
        rfl
    · right
      have : i = k := by omega
      subst this
      rw [if_pos (nI_le (Nat.le_refl i) (by omega)), hld]
      exact ⟨_, rfl, (dI n kd fg tn wd hr tu pa who i (X0 kn hu dy)), (hzi i).1, rfl⟩) 1000 0 (0, X0 kn hu dy) (Nat.zero_le _) (by omega) ⟨rfl, rfl⟩
  refine ⟨X, hX, ?_⟩
  unfold f_X3_staysLoud
  rw [bi_s (think_D (nI n) tu hu pa dy hD hz hz2 hz3)]
  exact e
theorem awake_m {n : Nat} {kd fg tn wd hr kn : Nat → Int32} {tu hu : Int32} (pa dy : Int32) (hF : OkF n kd fg tn wd hr) (hT : OkT tu) (hz : FZ kd fg tn wd hr) (hz3 : Zr 8 kn) (hh : HR hu) {k0 kept am lw : Nat → Int32} (hk0 : ∀ j, j < 50 → kept j = k0 j) (ht : TZ am lw) (an un sa f1 f2 : Int32) {who aw : Int32} (hB : Bits n who aw) {k : Nat} (hk : k < 900) : ∃ (kept' : Nat → Int32) (ik' cu' : Int32) (am' lw' : Nat → Int32) (an' un' sa' f1' f2' : Int32), (∀ j, j < 50 → kept' j = k0 j) ∧ TZ am' lw' ∧ f_X4_staysAwake kn (st3 tu hu pa) kd fg tn wd hr (nI n) dy kept am lw an un sa f1 f2 aw (nI k) = some ((if (ldB n kd fg tn wd hr tu pa who kn hu dy k) = true then 1 else 0), kn, st3 tu hu pa, kd, fg, tn, wd, hr, nI n, dy, kept', ik', cu', am', lw', 0, an', un', sa', f1', f2') := by
  let Y0 : DX := (kn, hu, dy, an, un, sa, am, lw)
  have hY0 : ZX Y0 := ⟨hz3, ht.1, ht.2⟩
  have hzi := fun i => dI_z (tu := tu) (pa := pa) (who := who) hF hY0 hh i
  have hkh := fun i => dI_kh (n := n) (kd := kd) (fg := fg) (tn := tn) (wd := wd) (hr := hr) (tu := tu) (pa := pa) (who := who) (X := X0 kn hu dy) (Y := Y0) rfl rfl i
  have hl : ∃ (Y : DX) (f1' f2' : Int32), ZX Y ∧ lp (fun z : Int32 × Int32 × (Nat → Int32) × (Nat → Int32) × Int32 × (Nat → Int32) × (Nat → Int32) × Int32 × Int32 × Int32 × Int32 × Int32 => f_X4_staysAwake_L16 (nI k) kd fg tn wd hr (nI n) aw z.1 z.2.1 z.2.2.1 z.2.2.2.1 z.2.2.2.2.1 z.2.2.2.2.2.1 z.2.2.2.2.2.2.1 z.2.2.2.2.2.2.2.1 z.2.2.2.2.2.2.2.2.1 z.2.2.2.2.2.2.2.2.2.1 z.2.2.2.2.2.2.2.2.2.2.1 z.2.2.2.2.2.2.2.2.2.2.2) 1000 (1, 0, kn, st3 tu hu pa, dy, am, lw, an, un, sa, f1, f2) = some ((if (ldB n kd fg tn wd hr tu pa who kn hu dy k) = true then 1 else 0), Y.1, st3 tu Y.2.1 pa, Y.2.2.1, Y.2.2.2.2.2.2.1, Y.2.2.2.2.2.2.2, Y.2.2.2.1, Y.2.2.2.2.1, Y.2.2.2.2.2.1, f1', f2') := by
    obtain ⟨b, e, Y, f1', f2', hY, rfl⟩ := lp_hoare (f := (fun z : Int32 × Int32 × (Nat → Int32) × (Nat → Int32) × Int32 × (Nat → Int32) × (Nat → Int32) × Int32 × Int32 × Int32 × Int32 × Int32 => f_X4_staysAwake_L16 (nI k) kd fg tn wd hr (nI n) aw z.1 z.2.1 z.2.2.1 z.2.2.2.1 z.2.2.2.2.1 z.2.2.2.2.2.1 z.2.2.2.2.2.2.1 z.2.2.2.2.2.2.2.1 z.2.2.2.2.2.2.2.2.1 z.2.2.2.2.2.2.2.2.2.1 z.2.2.2.2.2.2.2.2.2.2.1 z.2.2.2.2.2.2.2.2.2.2.2)) (fun i a => ∃ (is f1 f2 : Int32), a = (is, nI i, (dI n kd fg tn wd hr tu pa who i Y0).1, st3 tu (dI n kd fg tn wd hr tu pa who i Y0).2.1 pa, (dI n kd fg tn wd hr tu pa who i Y0).2.2.1, (dI n kd fg tn wd hr tu pa who i Y0).2.2.2.2.2.2.1, (dI n kd fg tn wd hr tu pa who i Y0).2.2.2.2.2.2.2, (dI n kd fg tn wd hr tu pa who i Y0).2.2.2.1, (dI n kd fg tn wd hr tu pa who i Y0).2.2.2.2.1, (dI n kd fg tn wd hr tu pa who i Y0).2.2.2.2.2.1, f1, f2) ∧ ((is = 1 ∧ (ldB n kd fg tn wd hr tu pa who kn hu dy i) = true) ∨ (is = 0 ∧ (ldB n kd fg tn wd hr tu pa who kn hu dy i) = false))) (fun b => ∃ (Y : DX) (f1' f2' : Int32), ZX Y ∧ b = ((if (ldB n kd fg tn wd hr tu pa who kn hu dy k) = true then 1 else 0), Y.1, st3 tu Y.2.1 pa, Y.2.2.1, Y.2.2.2.2.2.2.1, Y.2.2.2.2.2.2.2, Y.2.2.2.1, Y.2.2.2.2.1, Y.2.2.2.2.2.1, f1', f2')) k (by
      rintro i _ hi ⟨is, f1, f2, rfl, hor⟩
      dsimp only
      unfold f_X4_staysAwake_L16
      by_cases hlt : i < k
      · rw [if_neg (nI_ge hlt (by omega))]
        rcases hor with ⟨rfl, hld⟩ | ⟨rfl, hld⟩
        · left
          rw [if_neg nz1, bi_s (day_m hF hT hB (dI n kd fg tn wd hr tu pa who i Y0)), nI_1]
          dsimp only
          rw [silent_m]
          unfold f_X0_isSilent
          have e1 : (dT n kd fg tn wd hr tu pa who (dI n kd fg tn wd hr tu pa who i Y0)).2.1 = (dT n kd fg tn wd hr tu pa who (dI n kd fg tn wd hr tu pa who i (X0 kn hu dy))).2.1 := (hkh (i + 1)).2.symm
          rw [e1]
          by_cases h : (dT n kd fg tn wd hr tu pa who (dI n kd fg tn wd hr tu pa who i (X0 kn hu dy))).2.1 ≤ pa
          · rw [if_pos h, if_pos rfl]
            refine ⟨hlt, _, rfl, 1, _, _, by rw [← e1]; rfl, Or.inl ⟨rfl, ?_⟩⟩
            show ((ldB n kd fg tn wd hr tu pa who kn hu dy i) && decide ((dT n kd fg tn wd hr tu pa who (dI n kd fg tn wd hr tu pa who i (X0 kn hu dy))).2.1 ≤ pa)) = true
            rw [hld, decide_eq_true h]; rfl
          · rw [if_neg h, if_neg nz1]
            refine ⟨hlt, _, rfl, 0, _, _, by rw [← e1]; rfl, Or.inr ⟨rfl, ?_⟩⟩
            show ((ldB n kd fg tn wd hr tu pa who kn hu dy i) && decide ((dT n kd fg tn wd hr tu pa who (dI n kd fg tn wd hr tu pa who i (X0 kn hu dy))).2.1 ≤ pa)) = false
            rw [decide_eq_false h, Bool.and_false]
        · right
          rw [if_pos rfl]
          have hk' := ldB_f hld (k - i)
          rw [show i + (k - i) = k by omega] at hk'
          refine ⟨_, rfl, (dI n kd fg tn wd hr tu pa who i Y0), f1, f2, (hzi i).1, ?_⟩
          rw [hk']
          rfl
      · right
        have : i = k := by omega
        subst this
        rw [if_pos (nI_le (Nat.le_refl i) (by omega))]
        refine ⟨_, rfl, (dI n kd fg tn wd hr tu pa who i Y0), f1, f2, (hzi i).1, ?_⟩
        rcases hor with ⟨rfl, hld⟩ | ⟨rfl, hld⟩
        · rw [hld]; rfl
        · rw [hld]; rfl) 1000 0 (1, 0, kn, st3 tu hu pa, dy, am, lw, an, un, sa, f1, f2) (Nat.zero_le _) (by omega) ⟨1, f1, f2, rfl, Or.inl ⟨rfl, rfl⟩⟩
    exact ⟨Y, f1', f2', hY, e⟩
  obtain ⟨Y, f1', f2', hY, e⟩ := hl
  refine ⟨kA kept 50 kn (st3 tu hu pa) kd fg tn wd hr (nI n) dy, 0, 98, Y.2.2.2.2.2.2.1, Y.2.2.2.2.2.2.2, Y.2.2.2.1, Y.2.2.2.2.1, Y.2.2.2.2.2.1, f1', f2', fun j hj => by rw [kA_out (by omega), hk0 j hj], ⟨hY.2.1, hY.2.2⟩, ?_⟩
  unfold f_X4_staysAwake f_X4_staysAwake_J49
  rw [bi_s (keep1 kn (st3 tu hu pa) kd fg tn wd hr kept (nI n) dy)]
  dsimp only
  rw [bi_s e]
  dsimp only
  rw [bi_s (back1 hY.1 (st3_z _ _ _) hz.1 hz.2.1 hz.2.2.1 hz.2.2.2.1 hz.2.2.2.2 hz3 (st3_z _ _ _) hz.1 hz.2.1 hz.2.2.1 hz.2.2.2.1 hz.2.2.2.2 kA_in), gu_t (by split <;> decide)]
theorem shl_8 : ∀ c : Fin 8, (1 : Int32) <<< (nI c.val &&& 31) = nI (2 ^ c.val) := by decide +kernel
theorem pop_le : ∀ m : Fin 8, ∀ a : Fin 128, a.val < 2 ^ m.val → pop a.val ≤ m.val := by decide +kernel
theorem bits_m : ∀ a : Fin 128, f_X4_bits (nI a.val) = some (nI (pop a.val)) := by decide +kernel
theorem pop_7 (a : Nat) : pop a ≤ 7 := by
  unfold pop
  have := List.countP_le_length (p := fun i => a.testBit i) (l := List.range 7)
  rw [List.length_range] at this
  exact this
def kb (q : Nat → Bool) : Nat → Option Nat
  | 0 => none
  | a + 1 => match kb q a with
    | none => if q a = true then some a else none
    | some b => if pop a < pop b ∧ q a = true then some a else some b
theorem kb_0 {q : Nat → Bool} : ∀ {N : Nat}, kb q N = none → ∀ a, a < N → q a = false
  | 0, _, a, h => absurd h (by omega)
  | N + 1, h, a, ha => by
    unfold kb at h
    cases hk : kb q N with
    | none =>
      rw [hk] at h
      by_cases hq : q N = true
      · rw [if_pos hq] at h; cases h
      · by_cases e : a = N
        · rw [e]; simpa using hq
        · exact kb_0 hk a (by omega)
    | some b =>
      rw [hk] at h
      dsimp only at h
      split at h <;> cases h
theorem kb_1 {q : Nat → Bool} : ∀ {N b : Nat}, kb q N = some b → b < N ∧ q b = true ∧ ∀ a, a < N → q a = true → pop b < pop a ∨ (pop b = pop a ∧ b ≤ a)
  | 0, _, h => by cases h
  | N + 1, b, h => by
    unfold kb at h
    cases hk : kb q N with
    | none =>
      rw [hk] at h
      by_cases hq : q N = true
      · rw [if_pos hq] at h
        cases h
        refine ⟨by omega, hq, fun a ha hqa => ?_⟩
        by_cases e : a = N
        · subst e; exact Or.inr ⟨rfl, Nat.le_refl _⟩
        · rw [kb_0 hk a (by omega)] at hqa; cases hqa
      · rw [if_neg hq] at h; cases h
    | some c =>
      rw [hk] at h
      obtain ⟨h1, h2, h3⟩ := kb_1 hk
      dsimp only at h
      by_cases hc : pop N < pop c ∧ q N = true
      · rw [if_pos hc] at h
        cases h
        refine ⟨by omega, hc.2, fun a ha hqa => ?_⟩
        by_cases e : a = N
        · subst e; exact Or.inr ⟨rfl, Nat.le_refl _⟩
        · rcases h3 a (by omega) hqa with h4 | ⟨h4, h5⟩
          · left; omega
          · left; omega
      · rw [if_neg hc] at h
        cases h
        refine ⟨by omega, h2, fun a ha hqa => ?_⟩
        by_cases e : a = N
        · subst e
          have : ¬ pop a < pop b := fun q => hc ⟨q, hqa⟩
          omega
        · exact h3 a (by omega) hqa
def oI : Option Nat → Int32
  | none => -9
  | some b => nI b
def oW (what : Int32) : Option Nat → Int32
  | none => -9
  | some b => if what = 0 then nI b else nI (pop b)
set_option maxHeartbeats 4000000 in
set_option maxRecDepth 4000 in
theorem sim_keepAway {n len r : Nat} {x_imageTaken : Int32} {d_callers : Int32} {d_kinds : Nat → Int32} {d_figures : Nat → Int32} {d_tones : Nat → Int32} {d_words : Nat → Int32} {d_hours : Nat → Int32} {d_order : Nat → Int32} {d_known : Nat → Int32} {d_tune : Int32} {d_hurt : Int32} {d_patience : Int32} {d_day : Int32} {d_answered : Int32} {d_unanswered : Int32} {d_said : Int32} {d_times : Nat → Int32} {d_last : Nat → Int32} {n_answered : Int32} {n_unanswered : Int32} {n_said : Int32} {n_times : Nat → Int32} {n_last : Nat → Int32} {t_letters : Nat → Int32} {x_told : Nat → Int32} {x_refusals : Nat → Int32} {k_callers : Int32} {k_kinds : Nat → Int32} {k_figures : Nat → Int32} {k_tones : Nat → Int32} {k_words : Nat → Int32} {k_hours : Nat → Int32} {k_order : Nat → Int32} {k_known : Nat → Int32} {k_tune : Int32} {k_hurt : Int32} {k_patience : Int32} {k_day : Int32} {k_answered : Int32} {k_unanswered : Int32} {k_said : Int32} {k_times : Nat → Int32} {k_last : Nat → Int32} {kd : Nat → Int32} {fg : Nat → Int32} {tn : Nat → Int32} {wd : Nat → Int32} {hr : Nat → Int32} {od : Nat → Int32} {kn : Nat → Int32} {tu : Int32} {hu : Int32} {pa : Int32} {dy : Int32} {m_refused : Nat → Int32} {m_letter : Nat → Int32} {m_letterAt : Nat → Int32} {m_told : Nat → Int32} {m_at : Int32} {m_statements : Int32} {m_kept : Nat → Int32} {m_isKeeping : Int32} {m_cursor : Int32} {m_answeredMany : Nat → Int32} {m_lastWord : Nat → Int32} {m_answered : Int32} {m_unanswered : Int32} {m_saidWords : Int32} {m_isCalledAtSeven : Int32} {m_isAnsweredAtSeven : Int32} {m_seen : Nat → Int32} {m_weekAnswers : Int32} {m_weekHurt : Int32} {m_week : Nat → Int32} {m_oneHas : Nat → Int32} {m_otherHas : Nat → Int32} (h1 : RM n kd fg tn wd hr od kn tu hu) (h2 : GZ d_kinds d_figures d_tones d_words d_hours d_order d_known) (h3 : TZ d_times d_last) (h4 : TZ n_times n_last) (h5 : GZ k_kinds k_figures k_tones k_words k_hours k_order k_known) (h6 : RI x_imageTaken m_kept k_callers k_kinds k_figures k_tones k_words k_hours k_order k_known k_tune k_hurt k_patience k_day) (h7 : RT len t_letters) (h8 : RR r x_told) (h9 : RF x_refusals m_refused) (h10 : TZ m_answeredMany m_lastWord) (v1 : Int32) (v2 : Int32) : ∃ o o', f_X3_keepAway d_callers d_kinds d_figures d_tones d_words d_hours d_order d_known d_tune d_hurt d_patience d_day d_answered d_unanswered d_said d_times d_last (nI n) kd fg tn wd hr od kn tu hu pa dy x_refusals v1 v2 = some o ∧ f_X4_keepAway m_refused kn (st3 tu hu pa) kd fg tn wd hr (nI n) dy m_kept m_isKeeping m_cursor m_answeredMany m_lastWord 0 m_answered m_unanswered m_saidWords m_isCalledAtSeven m_isAnsweredAtSeven v1 v2 = some o' ∧ o'.1 = o.1 ∧ Rel x_imageTaken (nI r) (o.2.1) (o.2.2.1) (o.2.2.2.1) (o.2.2.2.2.1) (o.2.2.2.2.2.1) (o.2.2.2.2.2.2.1) (o.2.2.2.2.2.2.2.1) (o.2.2.2.2.2.2.2.2.1) (o.2.2.2.2.2.2.2.2.2.1) (o.2.2.2.2.2.2.2.2.2.2.1) (o.2.2.2.2.2.2.2.2.2.2.2.1) (o.2.2.2.2.2.2.2.2.2.2.2.2.1) (o.2.2.2.2.2.2.2.2.2.2.2.2.2.1) (o.2.2.2.2.2.2.2.2.2.2.2.2.2.2.1) (o.2.2.2.2.2.2.2.2.2.2.2.2.2.2.2.1) (o.2.2.2.2.2.2.2.2.2.2.2.2.2.2.2.2.1) (o.2.2.2.2.2.2.2.2.2.2.2.2.2.2.2.2.2.1) (nI n) kd fg tn wd hr od kn tu hu pa dy n_answered n_unanswered n_said n_times n_last t_letters (nI len) x_told (o.2.2.2.2.2.2.2.2.2.2.2.2.2.2.2.2.2.2) k_callers k_kinds k_figures k_tones k_words k_hours k_order k_known k_tune k_hurt k_patience k_day k_answered k_unanswered k_said k_times k_last (o'.2.1) (o'.2.2.1) (o'.2.2.2.1) (o'.2.2.2.2.1) (o'.2.2.2.2.2.1) (o'.2.2.2.2.2.2.1) (o'.2.2.2.2.2.2.2.1) (o'.2.2.2.2.2.2.2.2.1) (o'.2.2.2.2.2.2.2.2.2.1) (o'.2.2.2.2.2.2.2.2.2.2.1) t_letters m_letter m_letterAt m_told (nI len) m_at m_statements (o'.2.2.2.2.2.2.2.2.2.2.2.1) x_imageTaken (o'.2.2.2.2.2.2.2.2.2.2.2.2.1) (o'.2.2.2.2.2.2.2.2.2.2.2.2.2.1) (o'.2.2.2.2.2.2.2.2.2.2.2.2.2.2.1) (o'.2.2.2.2.2.2.2.2.2.2.2.2.2.2.2.1) (o'.2.2.2.2.2.2.2.2.2.2.2.2.2.2.2.2.1) (o'.2.2.2.2.2.2.2.2.2.2.2.2.2.2.2.2.2.1) (o'.2.2.2.2.2.2.2.2.2.2.2.2.2.2.2.2.2.2.1) (o'.2.2.2.2.2.2.2.2.2.2.2.2.2.2.2.2.2.2.2.1) (o'.2.2.2.2.2.2.2.2.2.2.2.2.2.2.2.2.2.2.2.2.1) (o'.2.2.2.2.2.2.2.2.2.2.2.2.2.2.2.2.2.2.2.2.2) m_seen m_weekAnswers m_weekHurt m_week x_told (nI r) m_oneHas m_otherHas := by
  have hn7 := h1.1.1
  have h1' := h1
  obtain ⟨g1, g2, g3, g4, g5, g6, g7⟩ := h1

  have hsi : ∀ f : Int32, (f = 0 ∨ No f) → ((if f = 0 then (if f_X0_isSilent hu pa = 0 then f else -3) else f) = 0 ∨ No (if f = 0 then (if f_X0_isSilent hu pa = 0 then f else -3) else f)) := by
    intro f hf
    split
    · split
      · exact hf
      · exact Or.inr no3
    · exact hf
  have hv := hsi _ (first_or (ahead_or v1) (what_or v2 1))
  have emc : f_X3_keepAway d_callers d_kinds d_figures d_tones d_words d_hours d_order d_known d_tune d_hurt d_patience d_day d_answered d_unanswered d_said d_times d_last (nI n) kd fg tn wd hr od kn tu hu pa dy x_refusals v1 v2 = f_X3_keepAway_J30 v1 v2 (if f_X3_first (f_X3_aheadNo v1) (f_X3_whatNo v2 1) = 0 then (if f_X0_isSilent hu pa = 0 then f_X3_first (f_X3_aheadNo v1) (f_X3_whatNo v2 1) else -3) else f_X3_first (f_X3_aheadNo v1) (f_X3_whatNo v2 1)) d_callers d_kinds d_figures d_tones d_words d_hours d_order d_known d_tune d_hurt d_patience d_day d_answered d_unanswered d_said d_times d_last (nI n) kd fg tn wd hr od kn tu hu pa dy x_refusals := by
    unfold f_X3_keepAway
    generalize f_X3_first (f_X3_aheadNo v1) (f_X3_whatNo v2 1) = f
    by_cases hf : f = 0
    · rw [if_pos hf, if_pos hf]
      by_cases hab : f_X0_isSilent hu pa = 0
      · rw [if_pos hab, if_pos hab]
      · rw [if_neg hab, if_neg hab]
    · rw [if_neg hf, if_neg hf]
  rw [emc]
  have emm : ∀ w, (if f_X3_first (f_X3_aheadNo v1) (f_X3_whatNo v2 1) = 0 then (if f_X0_isSilent hu pa = 0 then f_X3_first (f_X3_aheadNo v1) (f_X3_whatNo v2 1) else -3) else f_X3_first (f_X3_aheadNo v1) (f_X3_whatNo v2 1)) = w → f_X4_keepAway m_refused kn (st3 tu hu pa) kd fg tn wd hr (nI n) dy m_kept m_isKeeping m_cursor m_answeredMany m_lastWord 0 m_answered m_unanswered m_saidWords m_isCalledAtSeven m_isAnsweredAtSeven v1 v2 = f_X4_keepAway_J37 v1 v2 w m_refused kn (st3 tu hu pa) kd fg tn wd hr (nI n) dy m_kept m_isKeeping m_cursor m_answeredMany m_lastWord 0 m_answered m_unanswered m_saidWords m_isCalledAtSeven m_isAnsweredAtSeven := by
    intro w hw
    unfold f_X3_first at hw
    rw [ahead_eq, what_eq] at hw
    subst hw
    unfold f_X4_keepAway f_X4_keepAway_J36
    rw [silent_m]
    by_cases a : f_X4_notDays v1 = 0
    · by_cases b : f_X4_isIn v2 0 1 = 0
      · simp only [if_pos a, if_pos b, n2, if_false]
      · by_cases c : f_X0_isSilent hu pa = 0
        · simp only [if_pos a, if_neg b, if_pos c, if_true]
        · simp only [if_pos a, if_neg b, if_neg c, if_true]
    · simp only [if_neg a]
  have hq0 : (if f_X3_first (f_X3_aheadNo v1) (f_X3_whatNo v2 1) = 0 then (if f_X0_isSilent hu pa = 0 then f_X3_first (f_X3_aheadNo v1) (f_X3_whatNo v2 1) else -3) else f_X3_first (f_X3_aheadNo v1) (f_X3_whatNo v2 1)) = 0 → f_X3_first (f_X3_aheadNo v1) (f_X3_whatNo v2 1) = 0 := by
    intro q
    by_cases hf : f_X3_first (f_X3_aheadNo v1) (f_X3_whatNo v2 1) = 0
    · exact hf
    · rw [if_neg hf] at q; exact q
  generalize hq : (if f_X3_first (f_X3_aheadNo v1) (f_X3_whatNo v2 1) = 0 then (if f_X0_isSilent hu pa = 0 then f_X3_first (f_X3_aheadNo v1) (f_X3_whatNo v2 1) else -3) else f_X3_first (f_X3_aheadNo v1) (f_X3_whatNo v2 1)) = w at hv hq0 ⊢
  rw [emm w hq]
  unfold f_X3_keepAway_J30 f_X4_keepAway_J37
  by_cases hw : w = 0
  · obtain ⟨ha, hb⟩ := first_0 (hq0 hw)
    obtain ⟨k, hk, rfl⟩ := ahead_nat ha
    have hN : 2 ^ n ≤ 2 ^ 7 := Nat.pow_le_pow_right (by omega) hn7
    have hsh : (1 : Int32) <<< (nI n &&& 31) = nI (2 ^ n) := shl_8 ⟨n, by omega⟩
    let q : Nat → Bool := (fun a => ldB n kd fg tn wd hr tu pa (f_X3_without (nI a)) kn hu dy k)
    have inner : ∀ (m : Nat), m ≤ n → (∀ a, a < 2 ^ n → q a = true → m ≤ pop a) → ∀ D1 : GX, DZ D1 → ∃ b, lp (fun z : Int32 × GX => f_X3_keepAway_L58 (nI k) v2 (nI m) (nI n) kd fg tn wd hr od kn tu hu pa dy x_refusals z.1 z.2.1 z.2.2.1 z.2.2.2.1 z.2.2.2.2.1 z.2.2.2.2.2.1 z.2.2.2.2.2.2.1 z.2.2.2.2.2.2.2.1 z.2.2.2.2.2.2.2.2.1 z.2.2.2.2.2.2.2.2.2.1 z.2.2.2.2.2.2.2.2.2.2.1 z.2.2.2.2.2.2.2.2.2.2.2.1 z.2.2.2.2.2.2.2.2.2.2.2.2.1 z.2.2.2.2.2.2.2.2.2.2.2.2.2.1 z.2.2.2.2.2.2.2.2.2.2.2.2.2.2.1 z.2.2.2.2.2.2.2.2.2.2.2.2.2.2.2.1 z.2.2.2.2.2.2.2.2.2.2.2.2.2.2.2.2.1 z.2.2.2.2.2.2.2.2.2.2.2.2.2.2.2.2.2) 1000 (0, D1) = some b ∧ ((∃ D : GX, DZ D ∧ b = .inl (nI (m + 1), D) ∧ ∀ a, a < 2 ^ n → q a = true → m + 1 ≤ pop a) ∨ ∃ D : GX, DZ D ∧ b = .inr (oW v2 (kb q (2 ^ n)), D.1, D.2.1, D.2.2.1, D.2.2.2.1, D.2.2.2.2.1, D.2.2.2.2.2.1, D.2.2.2.2.2.2.1, D.2.2.2.2.2.2.2.1, D.2.2.2.2.2.2.2.2.1, D.2.2.2.2.2.2.2.2.2.1, D.2.2.2.2.2.2.2.2.2.2.1, D.2.2.2.2.2.2.2.2.2.2.2.1, D.2.2.2.2.2.2.2.2.2.2.2.2.1, D.2.2.2.2.2.2.2.2.2.2.2.2.2.1, D.2.2.2.2.2.2.2.2.2.2.2.2.2.2.1, D.2.2.2.2.2.2.2.2.2.2.2.2.2.2.2.1, D.2.2.2.2.2.2.2.2.2.2.2.2.2.2.2.2, x_refusals)) := by
      intro m hm hmq D1 hD1
      refine lp_hoare (f := (fun z : Int32 × GX => f_X3_keepAway_L58 (nI k) v2 (nI m) (nI n) kd fg tn wd hr od kn tu hu pa dy x_refusals z.1 z.2.1 z.2.2.1 z.2.2.2.1 z.2.2.2.2.1 z.2.2.2.2.2.1 z.2.2.2.2.2.2.1 z.2.2.2.2.2.2.2.1 z.2.2.2.2.2.2.2.2.1 z.2.2.2.2.2.2.2.2.2.1 z.2.2.2.2.2.2.2.2.2.2.1 z.2.2.2.2.2.2.2.2.2.2.2.1 z.2.2.2.2.2.2.2.2.2.2.2.2.1 z.2.2.2.2.2.2.2.2.2.2.2.2.2.1 z.2.2.2.2.2.2.2.2.2.2.2.2.2.2.1 z.2.2.2.2.2.2.2.2.2.2.2.2.2.2.2.1 z.2.2.2.2.2.2.2.2.2.2.2.2.2.2.2.2.1 z.2.2.2.2.2.2.2.2.2.2.2.2.2.2.2.2.2)) (fun a s => ∃ D : GX, s = (nI a, D) ∧ DZ D ∧ ∀ a', a' < a → q a' = true → m + 1 ≤ pop a') (fun b => (∃ D : GX, DZ D ∧ b = .inl (nI (m + 1), D) ∧ ∀ a, a < 2 ^ n → q a = true → m + 1 ≤ pop a) ∨ ∃ D : GX, DZ D ∧ b = .inr (oW v2 (kb q (2 ^ n)), D.1, D.2.1, D.2.2.1, D.2.2.2.1, D.2.2.2.2.1, D.2.2.2.2.2.1, D.2.2.2.2.2.2.1, D.2.2.2.2.2.2.2.1, D.2.2.2.2.2.2.2.2.1, D.2.2.2.2.2.2.2.2.2.1, D.2.2.2.2.2.2.2.2.2.2.1, D.2.2.2.2.2.2.2.2.2.2.2.1, D.2.2.2.2.2.2.2.2.2.2.2.2.1, D.2.2.2.2.2.2.2.2.2.2.2.2.2.1, D.2.2.2.2.2.2.2.2.2.2.2.2.2.2.1, D.2.2.2.2.2.2.2.2.2.2.2.2.2.2.2.1, D.2.2.2.2.2.2.2.2.2.2.2.2.2.2.2.2, x_refusals)) (2 ^ n) ?_ 1000 0 (0, D1) (Nat.zero_le _) (by omega) ⟨D1, rfl, hD1, fun a' h => absurd h (by omega)⟩
      rintro a _ ha ⟨D, rfl, hD, hno⟩
      dsimp only
      unfold f_X3_keepAway_L58
      rw [hsh]
      by_cases hlt : a < 2 ^ n
      · rw [if_neg (nI_ge hlt (by omega)), pop_c ⟨a, by omega⟩, nI_1]
        by_cases hp : pop a = m
        · rw [if_pos (show nI (pop a) = nI m by rw [hp])]
          obtain ⟨X, hX, el⟩ := loud_c tu hu pa dy g1 g4 g3 g5 g6 g7 hD (f_X3_without (nI a)) (show k < 900 by omega)
          rw [bi_s el]
          dsimp only
          cases hqa : q a
          · left
            have hqa' : ldB n kd fg tn wd hr tu pa (f_X3_without (nI a)) kn hu dy k = false := hqa
            rw [hqa']
            refine ⟨hlt, (nI (a + 1), GD n kd fg tn wd hr od tu pa X), rfl, _, rfl, GD_z g3 g5 hX, fun a' ha' hq' => ?_⟩
            by_cases e : a' = a
            · rw [e, hqa] at hq'; cases hq'
            · exact hno a' (by omega) hq'
          · right
            have hqa' : ldB n kd fg tn wd hr tu pa (f_X3_without (nI a)) kn hu dy k = true := hqa
            have hb' : kb q (2 ^ n) = some a := by
              cases hkb : kb q (2 ^ n) with
              | none => have := kb_0 hkb a hlt; rw [hqa] at this; cases this
              | some b =>
                obtain ⟨h1, h2, h3⟩ := kb_1 hkb
                have hmb := hmq b h1 h2
                rcases h3 a hlt hqa with h4 | ⟨h4, h5⟩
                · omega
                · by_cases e : b = a
                  · rw [e]
                  · have := hno b (by omega) h2
                    omega
            rw [hqa', hb']
            show ∃ b, (if (1 : Int32) = 0 then _ else if v2 = 0 then _ else _) = some (Sum.inr b) ∧ _
            rw [if_neg nz1]
            unfold oW
            by_cases hv2 : v2 = 0
            · rw [if_pos hv2]
              exact ⟨_, rfl, Or.inr ⟨GD n kd fg tn wd hr od tu pa X, GD_z g3 g5 hX, by simp only [if_pos hv2]; rfl⟩⟩
            · rw [if_neg hv2]
              exact ⟨_, rfl, Or.inr ⟨GD n kd fg tn wd hr od tu pa X, GD_z g3 g5 hX, by simp only [if_neg hv2]; rw [hp]; rfl⟩⟩
        · left
          rw [if_neg (show ¬ nI (pop a) = nI m from fun e => hp ((nI_eq (by have := pop_7 a; omega) (by omega)).mp e))]
          refine ⟨hlt, (nI (a + 1), D), rfl, D, rfl, hD, fun a' ha' hq' => ?_⟩
          by_cases e : a' = a
          · have := hmq a hlt (e ▸ hq')
            rw [e]; omega
          · exact hno a' (by omega) hq'
      · right
        have : a = 2 ^ n := by omega
        rw [if_pos (nI_le (by omega) (by omega)), nI_1]
        exact ⟨_, rfl, Or.inl ⟨D, hD, rfl, fun a' h hq' => hno a' (by omega) hq'⟩⟩
    have hc : ∃ D : GX, DZ D ∧ lp (fun z : Int32 × GX => f_X3_keepAway_L43 (nI k) v2 (nI n) kd fg tn wd hr od kn tu hu pa dy x_refusals z.1 z.2.1 z.2.2.1 z.2.2.2.1 z.2.2.2.2.1 z.2.2.2.2.2.1 z.2.2.2.2.2.2.1 z.2.2.2.2.2.2.2.1 z.2.2.2.2.2.2.2.2.1 z.2.2.2.2.2.2.2.2.2.1 z.2.2.2.2.2.2.2.2.2.2.1 z.2.2.2.2.2.2.2.2.2.2.2.1 z.2.2.2.2.2.2.2.2.2.2.2.2.1 z.2.2.2.2.2.2.2.2.2.2.2.2.2.1 z.2.2.2.2.2.2.2.2.2.2.2.2.2.2.1 z.2.2.2.2.2.2.2.2.2.2.2.2.2.2.2.1 z.2.2.2.2.2.2.2.2.2.2.2.2.2.2.2.2.1 z.2.2.2.2.2.2.2.2.2.2.2.2.2.2.2.2.2) 1000 (0, (d_callers, d_kinds, d_figures, d_tones, d_words, d_hours, d_order, d_known, d_tune, d_hurt, d_patience, d_day, d_answered, d_unanswered, d_said, d_times, d_last)) = some (oW v2 (kb q (2 ^ n)), D.1, D.2.1, D.2.2.1, D.2.2.2.1, D.2.2.2.2.1, D.2.2.2.2.2.1, D.2.2.2.2.2.2.1, D.2.2.2.2.2.2.2.1, D.2.2.2.2.2.2.2.2.1, D.2.2.2.2.2.2.2.2.2.1, D.2.2.2.2.2.2.2.2.2.2.1, D.2.2.2.2.2.2.2.2.2.2.2.1, D.2.2.2.2.2.2.2.2.2.2.2.2.1, D.2.2.2.2.2.2.2.2.2.2.2.2.2.1, D.2.2.2.2.2.2.2.2.2.2.2.2.2.2.1, D.2.2.2.2.2.2.2.2.2.2.2.2.2.2.2.1, D.2.2.2.2.2.2.2.2.2.2.2.2.2.2.2.2, x_refusals) := by
      obtain ⟨b, e, D, hD, rfl⟩ := lp_hoare (f := (fun z : Int32 × GX => f_X3_keepAway_L43 (nI k) v2 (nI n) kd fg tn wd hr od kn tu hu pa dy x_refusals z.1 z.2.1 z.2.2.1 z.2.2.2.1 z.2.2.2.2.1 z.2.2.2.2.2.1 z.2.2.2.2.2.2.1 z.2.2.2.2.2.2.2.1 z.2.2.2.2.2.2.2.2.1 z.2.2.2.2.2.2.2.2.2.1 z.2.2.2.2.2.2.2.2.2.2.1 z.2.2.2.2.2.2.2.2.2.2.2.1 z.2.2.2.2.2.2.2.2.2.2.2.2.1 z.2.2.2.2.2.2.2.2.2.2.2.2.2.1 z.2.2.2.2.2.2.2.2.2.2.2.2.2.2.1 z.2.2.2.2.2.2.2.2.2.2.2.2.2.2.2.1 z.2.2.2.2.2.2.2.2.2.2.2.2.2.2.2.2.1 z.2.2.2.2.2.2.2.2.2.2.2.2.2.2.2.2.2)) (fun m s => ∃ D : GX, s = (nI m, D) ∧ DZ D ∧ ∀ a, a < 2 ^ n → q a = true → m ≤ pop a) (fun b => ∃ D : GX, DZ D ∧ b = (oW v2 (kb q (2 ^ n)), D.1, D.2.1, D.2.2.1, D.2.2.2.1, D.2.2.2.2.1, D.2.2.2.2.2.1, D.2.2.2.2.2.2.1, D.2.2.2.2.2.2.2.1, D.2.2.2.2.2.2.2.2.1, D.2.2.2.2.2.2.2.2.2.1, D.2.2.2.2.2.2.2.2.2.2.1, D.2.2.2.2.2.2.2.2.2.2.2.1, D.2.2.2.2.2.2.2.2.2.2.2.2.1, D.2.2.2.2.2.2.2.2.2.2.2.2.2.1, D.2.2.2.2.2.2.2.2.2.2.2.2.2.2.1, D.2.2.2.2.2.2.2.2.2.2.2.2.2.2.2.1, D.2.2.2.2.2.2.2.2.2.2.2.2.2.2.2.2, x_refusals)) (n + 1) (by
        rintro m _ hm ⟨D, rfl, hD, hmq⟩
        dsimp only
        unfold f_X3_keepAway_L43
        by_cases hlt : m < n + 1
        · rw [if_neg (nI_nlt (by omega) (by omega))]
          obtain ⟨b, e, hb⟩ := inner m (by omega) hmq D hD
          rcases hb with ⟨D', hD', rfl, h⟩ | ⟨D', hD', rfl⟩
          · left
            exact ⟨hlt, _, e, D', rfl, hD', h⟩
          · right
            exact ⟨_, e, D', hD', rfl⟩
        · right
          have : m = n + 1 := by omega
          subst this
          rw [if_pos (nI_lt (by omega) (by omega))]
          refine ⟨_, rfl, D, hD, ?_⟩
          have hb' : kb q (2 ^ n) = none := by
            cases hkb : kb q (2 ^ n) with
            | none => rfl
            | some b =>
              obtain ⟨h1, h2, h3⟩ := kb_1 hkb
              have := hmq b h1 h2
              have := pop_le ⟨n, by omega⟩ ⟨b, by omega⟩ h1
              dsimp only at this
              omega
          rw [hb']
          rfl) 1000 0 (0, (d_callers, d_kinds, d_figures, d_tones, d_words, d_hours, d_order, d_known, d_tune, d_hurt, d_patience, d_day, d_answered, d_unanswered, d_said, d_times, d_last)) (Nat.zero_le _) (by omega) ⟨(d_callers, d_kinds, d_figures, d_tones, d_words, d_hours, d_order, d_known, d_tune, d_hurt, d_patience, d_day, d_answered, d_unanswered, d_said, d_times, d_last), rfl, ⟨h2, h3⟩, fun _ _ _ => Nat.zero_le _⟩
      exact ⟨D, hD, e⟩
    have hm : ∃ (kept' : Nat → Int32) (ik' cu' : Int32) (am' lw' : Nat → Int32) (an' un' sa' f1' f2' : Int32), (∀ j, j < 50 → kept' j = m_kept j) ∧ TZ am' lw' ∧ lp (fun z : Int32 × Int32 × (Nat → Int32) × (Nat → Int32) × (Nat → Int32) × (Nat → Int32) × (Nat → Int32) × (Nat → Int32) × (Nat → Int32) × Int32 × Int32 × (Nat → Int32) × Int32 × Int32 × (Nat → Int32) × (Nat → Int32) × Int32 × Int32 × Int32 × Int32 × Int32 × Int32 => f_X4_keepAway_L54 (nI k) z.1 z.2.1 z.2.2.1 z.2.2.2.1 z.2.2.2.2.1 z.2.2.2.2.2.1 z.2.2.2.2.2.2.1 z.2.2.2.2.2.2.2.1 z.2.2.2.2.2.2.2.2.1 z.2.2.2.2.2.2.2.2.2.1 z.2.2.2.2.2.2.2.2.2.2.1 z.2.2.2.2.2.2.2.2.2.2.2.1 z.2.2.2.2.2.2.2.2.2.2.2.2.1 z.2.2.2.2.2.2.2.2.2.2.2.2.2.1 z.2.2.2.2.2.2.2.2.2.2.2.2.2.2.1 z.2.2.2.2.2.2.2.2.2.2.2.2.2.2.2.1 z.2.2.2.2.2.2.2.2.2.2.2.2.2.2.2.2.1 z.2.2.2.2.2.2.2.2.2.2.2.2.2.2.2.2.2.1 z.2.2.2.2.2.2.2.2.2.2.2.2.2.2.2.2.2.2.1 z.2.2.2.2.2.2.2.2.2.2.2.2.2.2.2.2.2.2.2.1 z.2.2.2.2.2.2.2.2.2.2.2.2.2.2.2.2.2.2.2.2.1 z.2.2.2.2.2.2.2.2.2.2.2.2.2.2.2.2.2.2.2.2.2) 1000 (-9, 0, kn, st3 tu hu pa, kd, fg, tn, wd, hr, nI n, dy, m_kept, m_isKeeping, m_cursor, m_answeredMany, m_lastWord, 0, m_answered, m_unanswered, m_saidWords, m_isCalledAtSeven, m_isAnsweredAtSeven) = some (oI (kb q (2 ^ n)), kn, st3 tu hu pa, kd, fg, tn, wd, hr, nI n, dy, kept', ik', cu', am', lw', 0, an', un', sa', f1', f2') := by
      obtain ⟨b, e, kept', ik', cu', am', lw', an', un', sa', f1', f2', q1, q2, rfl⟩ := lp_hoare (f := (fun z : Int32 × Int32 × (Nat → Int32) × (Nat → Int32) × (Nat → Int32) × (Nat → Int32) × (Nat → Int32) × (Nat → Int32) × (Nat → Int32) × Int32 × Int32 × (Nat → Int32) × Int32 × Int32 × (Nat → Int32) × (Nat → Int32) × Int32 × Int32 × Int32 × Int32 × Int32 × Int32 => f_X4_keepAway_L54 (nI k) z.1 z.2.1 z.2.2.1 z.2.2.2.1 z.2.2.2.2.1 z.2.2.2.2.2.1 z.2.2.2.2.2.2.1 z.2.2.2.2.2.2.2.1 z.2.2.2.2.2.2.2.2.1 z.2.2.2.2.2.2.2.2.2.1 z.2.2.2.2.2.2.2.2.2.2.1 z.2.2.2.2.2.2.2.2.2.2.2.1 z.2.2.2.2.2.2.2.2.2.2.2.2.1 z.2.2.2.2.2.2.2.2.2.2.2.2.2.1 z.2.2.2.2.2.2.2.2.2.2.2.2.2.2.1 z.2.2.2.2.2.2.2.2.2.2.2.2.2.2.2.1 z.2.2.2.2.2.2.2.2.2.2.2.2.2.2.2.2.1 z.2.2.2.2.2.2.2.2.2.2.2.2.2.2.2.2.2.1 z.2.2.2.2.2.2.2.2.2.2.2.2.2.2.2.2.2.2.1 z.2.2.2.2.2.2.2.2.2.2.2.2.2.2.2.2.2.2.2.1 z.2.2.2.2.2.2.2.2.2.2.2.2.2.2.2.2.2.2.2.2.1 z.2.2.2.2.2.2.2.2.2.2.2.2.2.2.2.2.2.2.2.2.2)) (fun a s => ∃ (kept : Nat → Int32) (ik cu : Int32) (am lw : Nat → Int32) (an un sa f1 f2 : Int32), s = (oI (kb q a), nI a, kn, st3 tu hu pa, kd, fg, tn, wd, hr, nI n, dy, kept, ik, cu, am, lw, 0, an, un, sa, f1, f2) ∧ (∀ j, j < 50 → kept j = m_kept j) ∧ TZ am lw) (fun b => ∃ (kept' : Nat → Int32) (ik' cu' : Int32) (am' lw' : Nat → Int32) (an' un' sa' f1' f2' : Int32), (∀ j, j < 50 → kept' j = m_kept j) ∧ TZ am' lw' ∧ b = (oI (kb q (2 ^ n)), kn, st3 tu hu pa, kd, fg, tn, wd, hr, nI n, dy, kept', ik', cu', am', lw', 0, an', un', sa', f1', f2')) (2 ^ n) (by
        rintro a _ ha ⟨kept, ik, cu, am, lw, an, un, sa, f1, f2, rfl, hk0, ht⟩
        dsimp only
        unfold f_X4_keepAway_L54 f_X4_keepAway_J83
        rw [hsh]
        by_cases hlt : a < 2 ^ n
        · left
          obtain ⟨kept', ik', cu', am', lw', an', un', sa', f1', f2', q1, q2, es⟩ := awake_m pa dy g1 g2 g3 g6 g7 hk0 ht an un sa f1 f2 (Bits.wo hn7 (show a < 128 by omega)) (show k < 900 by omega)
          rw [if_neg (nI_ge hlt (by omega)), bi_s es, nI_1]
          dsimp only
          refine ⟨hlt, ?_⟩
          have hqa : q a = ldB n kd fg tn wd hr tu pa (f_X3_without (nI a)) kn hu dy k := rfl
          rw [← hqa]
          have hkb : kb q (a + 1) = (match kb q a with | none => if q a = true then some a else none | some b => if pop a < pop b ∧ q a = true then some a else some b) := rfl
          cases hka : kb q a with
          | none =>
            rw [hka] at hkb
            rw [show oI none = (-9 : Int32) from rfl, if_pos (show (-9 : Int32) < 0 by decide)]
            cases hq' : q a
            · rw [hq'] at hkb
              exact ⟨_, rfl, kept', ik', cu', am', lw', an', un', sa', f1', f2', by rw [hkb]; rfl, q1, q2⟩
            · rw [hq'] at hkb
              exact ⟨_, rfl, kept', ik', cu', am', lw', an', un', sa', f1', f2', by rw [hkb]; rfl, q1, q2⟩
          | some b =>
            rw [hka] at hkb
            have hb1 := (kb_1 hka).1
            have p7a := pop_7 a
            have p7b := pop_7 b
            rw [show oI (some b) = nI b from rfl, if_neg (nI_pos (by omega)), bits_m ⟨a, by omega⟩, bits_m ⟨b, by omega⟩]
            simp only [bi_some]
            by_cases hp : pop b ≤ pop a
            · rw [if_pos (nI_le hp (by omega))]
              exact ⟨_, rfl, kept, ik, cu, am, lw, an, un, sa, f1, f2, by rw [hkb]; dsimp only; rw [if_neg (fun x => by omega)]; rfl, hk0, ht⟩
            · rw [if_neg (nI_ge (by omega) (by omega))]
              cases hq' : q a
              · rw [hq'] at hkb
                exact ⟨_, rfl, kept', ik', cu', am', lw', an', un', sa', f1', f2', by rw [hkb]; dsimp only; rw [if_neg (fun x => by cases x.2)]; rfl, q1, q2⟩
              · rw [hq'] at hkb
                exact ⟨_, rfl, kept', ik', cu', am', lw', an', un', sa', f1', f2', by rw [hkb]; dsimp only; rw [if_pos ⟨by omega, rfl⟩]; rfl, q1, q2⟩
        · right
          have : a = 2 ^ n := by omega
          rw [if_pos (nI_le (by omega) (by omega)), this]
          exact ⟨_, rfl, kept, ik, cu, am, lw, an, un, sa, f1, f2, hk0, ht, rfl⟩) 1000 0 (-9, 0, kn, st3 tu hu pa, kd, fg, tn, wd, hr, nI n, dy, m_kept, m_isKeeping, m_cursor, m_answeredMany, m_lastWord, 0, m_answered, m_unanswered, m_saidWords, m_isCalledAtSeven, m_isAnsweredAtSeven) (Nat.zero_le _) (by omega) ⟨m_kept, m_isKeeping, m_cursor, m_answeredMany, m_lastWord, m_answered, m_unanswered, m_saidWords, m_isCalledAtSeven, m_isAnsweredAtSeven, rfl, fun _ _ => rfl, h10⟩
      exact ⟨kept', ik', cu', am', lw', an', un', sa', f1', f2', q1, q2, e⟩
    obtain ⟨D, hD, ec⟩ := hc
    obtain ⟨kept', ik', cu', am', lw', an', un', sa', f1', f2', hk0, ht, em'⟩ := hm
    rw [if_pos hw, if_pos hw, ec, bi_s em']
    dsimp only
    cases hkb : kb q (2 ^ n) with
    | none =>
      rw [show oI none = (-9 : Int32) from rfl, if_neg (show ¬ (0 : Int32) ≤ -9 by decide), show oW v2 none = (-9 : Int32) from rfl]
      by_cases hv2 : v2 = 0
      · rw [if_pos hv2]
        exact ⟨_, _, rfl, rfl, rfl, mkRel h1' hD.1 hD.2 h4 h5 (h6.same hk0) h7 h8 h9 ht⟩
      · rw [if_neg hv2]
        exact ⟨_, _, rfl, rfl, rfl, mkRel h1' hD.1 hD.2 h4 h5 (h6.same hk0) h7 h8 h9 ht⟩
    | some b =>
      have hb1 := (kb_1 hkb).1
      rw [show oI (some b) = nI b from rfl, if_pos (nI_pos' (show b < 2147483648 by omega)), bits_m ⟨b, by omega⟩, bi_some, show oW v2 (some b) = (if v2 = 0 then nI b else nI (pop b)) from rfl]
      by_cases hv2 : v2 = 0
      · rw [if_pos hv2, if_pos hv2]
        exact ⟨_, _, rfl, rfl, rfl, mkRel h1' hD.1 hD.2 h4 h5 (h6.same hk0) h7 h8 h9 ht⟩
      · rw [if_neg hv2, if_neg hv2]
        exact ⟨_, _, rfl, rfl, rfl, mkRel h1' hD.1 hD.2 h4 h5 (h6.same hk0) h7 h8 h9 ht⟩
  · obtain ⟨fm, e, hf⟩ := ref_ok h9 (hv.resolve_left hw)
    rw [if_neg hw, if_neg hw, bi_s e]
    exact ⟨_, _, rfl, rfl, rfl, mkRel h1' h2 h3 h4 h5 h6 h7 h8 hf h10⟩
