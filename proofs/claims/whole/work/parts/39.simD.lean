abbrev GX : Type := Int32 × (Nat → Int32) × (Nat → Int32) × (Nat → Int32) × (Nat → Int32) × (Nat → Int32) × (Nat → Int32) × (Nat → Int32) × Int32 × Int32 × Int32 × Int32 × Int32 × Int32 × Int32 × (Nat → Int32) × (Nat → Int32)
def DZ (D : GX) : Prop := GZ D.2.1 D.2.2.1 D.2.2.2.1 D.2.2.2.2.1 D.2.2.2.2.2.1 D.2.2.2.2.2.2.1 D.2.2.2.2.2.2.2.1 ∧ TZ D.2.2.2.2.2.2.2.2.2.2.2.2.2.2.2.1 D.2.2.2.2.2.2.2.2.2.2.2.2.2.2.2.2
def GD (n : Nat) (kd fg tn wd hr od : Nat → Int32) (tu pa : Int32) (X : DX) : GX := (nI n, kd, fg, tn, wd, hr, od, X.1, tu, X.2.1, pa, X.2.2)
theorem GD_z {n : Nat} {kd fg tn wd hr od : Nat → Int32} {tu pa : Int32} {X : DX} (h3 : FZ kd fg tn wd hr) (h5 : Zr 7 od) (hX : ZX X) : DZ (GD n kd fg tn wd hr od tu pa X) := ⟨⟨h3, h5, hX.1⟩, hX.2.1, hX.2.2⟩
theorem look_D {n : Nat} {kd fg tn wd hr od kn : Nat → Int32} (tu hu pa dy : Int32) (hF : OkF n kd fg tn wd hr) (hO : OkO n hr od) (hz : FZ kd fg tn wd hr) (hz2 : Zr 7 od) (hz3 : Zr 8 kn) {D : GX} (hD : DZ D) (who : Int32) {k : Nat} (hk : k < 900) : f_X3_lookAhead D.2.1 D.2.2.1 D.2.2.2.1 D.2.2.2.2.1 D.2.2.2.2.2.1 D.2.2.2.2.2.2.1 D.2.2.2.2.2.2.2.1 D.2.2.2.2.2.2.2.2.2.2.2.2.2.2.2.1 D.2.2.2.2.2.2.2.2.2.2.2.2.2.2.2.2 (nI n) kd fg tn wd hr od kn tu hu pa dy (nI k) who = some (GD n kd fg tn wd hr od tu pa (dI n kd fg tn wd hr tu pa who k (X0 kn hu dy))) :=
  look_c tu hu pa dy hF hO hD.1.1 hD.1.2.1 hD.1.2.2 hD.2.1 hD.2.2 hz hz2 hz3 who hk
theorem think_D {kd fg tn wd hr od kn : Nat → Int32} (nn tu hu pa dy : Int32) {D : GX} (hD : DZ D) (hz : FZ kd fg tn wd hr) (hz2 : Zr 7 od) (hz3 : Zr 8 kn) : f_X3_think D.2.1 D.2.2.1 D.2.2.2.1 D.2.2.2.2.1 D.2.2.2.2.2.1 D.2.2.2.2.2.2.1 D.2.2.2.2.2.2.2.1 D.2.2.2.2.2.2.2.2.2.2.2.2.2.2.2.1 D.2.2.2.2.2.2.2.2.2.2.2.2.2.2.2.2 nn kd fg tn wd hr od kn tu hu pa dy = some (nn, kd, fg, tn, wd, hr, od, kn, tu, hu, pa, dy, 0, 0, 0, z0, l9) :=
  think_c nn tu hu pa dy hD.1.1 hD.1.2.1 hD.1.2.2 hD.2.1 hD.2.2 hz hz2 hz3
/-- the first of N numbers from i on for which it is so; -9 -/
def sr (p : Nat → Bool) : Nat → Nat → Int32
  | 0, _ => -9
  | m + 1, i => if p i = true then nI i else sr p m (i + 1)
theorem sr_s {p : Nat → Bool} {m i : Nat} (h : p i = false) : sr p (m + 1) i = sr p m (i + 1) := by
  show (if p i = true then nI i else sr p m (i + 1)) = _
  rw [h]; rfl
theorem sr_f {p : Nat → Bool} {m i : Nat} (h : p i = true) : sr p (m + 1) i = nI i := by
  show (if p i = true then nI i else sr p m (i + 1)) = _
  rw [h]; rfl
theorem sr_or (p : Nat → Bool) : ∀ m i, sr p m i = -9 ∨ ∃ j, i ≤ j ∧ j < i + m ∧ sr p m i = nI j
  | 0, _ => Or.inl rfl
  | m + 1, i => by
    by_cases h : p i = true
    · exact Or.inr ⟨i, by omega, by omega, sr_f h⟩
    · rw [sr_s (by simpa using h)]
      rcases sr_or p m (i + 1) with h | ⟨j, h1, h2, h3⟩
      · exact Or.inl h
      · exact Or.inr ⟨j, by omega, by omega, h3⟩
set_option maxHeartbeats 4000000 in
set_option maxRecDepth 4000 in
theorem sim_knows {n len r : Nat} {x_imageTaken : Int32} {d_callers : Int32} {d_kinds : Nat → Int32} {d_figures : Nat → Int32} {d_tones : Nat → Int32} {d_words : Nat → Int32} {d_hours : Nat → Int32} {d_order : Nat → Int32} {d_known : Nat → Int32} {d_tune : Int32} {d_hurt : Int32} {d_patience : Int32} {d_day : Int32} {d_answered : Int32} {d_unanswered : Int32} {d_said : Int32} {d_times : Nat → Int32} {d_last : Nat → Int32} {n_answered : Int32} {n_unanswered : Int32} {n_said : Int32} {n_times : Nat → Int32} {n_last : Nat → Int32} {t_letters : Nat → Int32} {x_told : Nat → Int32} {x_refusals : Nat → Int32} {k_callers : Int32} {k_kinds : Nat → Int32} {k_figures : Nat → Int32} {k_tones : Nat → Int32} {k_words : Nat → Int32} {k_hours : Nat → Int32} {k_order : Nat → Int32} {k_known : Nat → Int32} {k_tune : Int32} {k_hurt : Int32} {k_patience : Int32} {k_day : Int32} {k_answered : Int32} {k_unanswered : Int32} {k_said : Int32} {k_times : Nat → Int32} {k_last : Nat → Int32} {kd : Nat → Int32} {fg : Nat → Int32} {tn : Nat → Int32} {wd : Nat → Int32} {hr : Nat → Int32} {od : Nat → Int32} {kn : Nat → Int32} {tu : Int32} {hu : Int32} {pa : Int32} {dy : Int32} {m_refused : Nat → Int32} {m_letter : Nat → Int32} {m_letterAt : Nat → Int32} {m_told : Nat → Int32} {m_at : Int32} {m_statements : Int32} {m_kept : Nat → Int32} {m_isKeeping : Int32} {m_cursor : Int32} {m_answeredMany : Nat → Int32} {m_lastWord : Nat → Int32} {m_answered : Int32} {m_unanswered : Int32} {m_saidWords : Int32} {m_isCalledAtSeven : Int32} {m_isAnsweredAtSeven : Int32} {m_seen : Nat → Int32} {m_weekAnswers : Int32} {m_weekHurt : Int32} {m_week : Nat → Int32} {m_oneHas : Nat → Int32} {m_otherHas : Nat → Int32} (h1 : RM n kd fg tn wd hr od kn tu hu) (h2 : GZ d_kinds d_figures d_tones d_words d_hours d_order d_known) (h3 : TZ d_times d_last) (h4 : TZ n_times n_last) (h5 : GZ k_kinds k_figures k_tones k_words k_hours k_order k_known) (h6 : RI x_imageTaken m_kept k_callers k_kinds k_figures k_tones k_words k_hours k_order k_known k_tune k_hurt k_patience k_day) (h7 : RT len t_letters) (h8 : RR r x_told) (h9 : RF x_refusals m_refused) (h10 : TZ m_answeredMany m_lastWord) (v1 : Int32) (v2 : Int32) : ∃ o o', f_X3_knows d_callers d_kinds d_figures d_tones d_words d_hours d_order d_known d_tune d_hurt d_patience d_day d_answered d_unanswered d_said d_times d_last (nI n) kd fg tn wd hr od kn tu hu pa dy x_refusals v1 v2 = some o ∧ f_X4_knows m_refused kn (st3 tu hu pa) kd fg tn wd hr (nI n) dy m_kept m_isKeeping m_cursor m_answeredMany m_lastWord 0 m_answered m_unanswered m_saidWords m_isCalledAtSeven m_isAnsweredAtSeven m_seen v1 v2 = some o' ∧ o'.1 = o.1 ∧ Rel x_imageTaken (nI r) (o.2.1) (o.2.2.1) (o.2.2.2.1) (o.2.2.2.2.1) (o.2.2.2.2.2.1) (o.2.2.2.2.2.2.1) (o.2.2.2.2.2.2.2.1) (o.2.2.2.2.2.2.2.2.1) (o.2.2.2.2.2.2.2.2.2.1) (o.2.2.2.2.2.2.2.2.2.2.1) (o.2.2.2.2.2.2.2.2.2.2.2.1) (o.2.2.2.2.2.2.2.2.2.2.2.2.1) (o.2.2.2.2.2.2.2.2.2.2.2.2.2.1) (o.2.2.2.2.2.2.2.2.2.2.2.2.2.2.1) (o.2.2.2.2.2.2.2.2.2.2.2.2.2.2.2.1) (o.2.2.2.2.2.2.2.2.2.2.2.2.2.2.2.2.1) (o.2.2.2.2.2.2.2.2.2.2.2.2.2.2.2.2.2.1) (nI n) kd fg tn wd hr od kn tu hu pa dy n_answered n_unanswered n_said n_times n_last t_letters (nI len) x_told (o.2.2.2.2.2.2.2.2.2.2.2.2.2.2.2.2.2.2) k_callers k_kinds k_figures k_tones k_words k_hours k_order k_known k_tune k_hurt k_patience k_day k_answered k_unanswered k_said k_times k_last (o'.2.1) (o'.2.2.1) (o'.2.2.2.1) (o'.2.2.2.2.1) (o'.2.2.2.2.2.1) (o'.2.2.2.2.2.2.1) (o'.2.2.2.2.2.2.2.1) (o'.2.2.2.2.2.2.2.2.1) (o'.2.2.2.2.2.2.2.2.2.1) (o'.2.2.2.2.2.2.2.2.2.2.1) t_letters m_letter m_letterAt m_told (nI len) m_at m_statements (o'.2.2.2.2.2.2.2.2.2.2.2.1) x_imageTaken (o'.2.2.2.2.2.2.2.2.2.2.2.2.1) (o'.2.2.2.2.2.2.2.2.2.2.2.2.2.1) (o'.2.2.2.2.2.2.2.2.2.2.2.2.2.2.1) (o'.2.2.2.2.2.2.2.2.2.2.2.2.2.2.2.1) 0 (o'.2.2.2.2.2.2.2.2.2.2.2.2.2.2.2.2.1) (o'.2.2.2.2.2.2.2.2.2.2.2.2.2.2.2.2.2.1) (o'.2.2.2.2.2.2.2.2.2.2.2.2.2.2.2.2.2.2.1) (o'.2.2.2.2.2.2.2.2.2.2.2.2.2.2.2.2.2.2.2.1) (o'.2.2.2.2.2.2.2.2.2.2.2.2.2.2.2.2.2.2.2.2.1) (o'.2.2.2.2.2.2.2.2.2.2.2.2.2.2.2.2.2.2.2.2.2) m_weekAnswers m_weekHurt m_week x_told (nI r) m_oneHas m_otherHas := by
  have hn7 := h1.1.1
  have h1' := h1
  obtain ⟨g1, g2, g3, g4, g5, g6, g7⟩ := h1

  have hv := first_or (word_or v1) (range_or v2 0 20)
  have em : ∀ w, f_X3_first (f_X3_wordNo v1) (f_X3_rangeNo v2 0 20) = w → f_X4_knows m_refused kn (st3 tu hu pa) kd fg tn wd hr (nI n) dy m_kept m_isKeeping m_cursor m_answeredMany m_lastWord 0 m_answered m_unanswered m_saidWords m_isCalledAtSeven m_isAnsweredAtSeven m_seen v1 v2 = f_X4_knows_J18 v1 v2 w m_refused kn (st3 tu hu pa) kd fg tn wd hr (nI n) dy m_kept m_isKeeping m_cursor m_answeredMany m_lastWord 0 m_answered m_unanswered m_saidWords m_isCalledAtSeven m_isAnsweredAtSeven m_seen := by
    intro w hw
    unfold f_X3_first at hw
    rw [range_b, word_eq] at hw
    subst hw
    unfold f_X4_knows
    by_cases a : f_X4_isWord v1 = 0
    · rw [if_pos a, if_pos a, if_neg n1]
    · rw [if_neg a, if_neg a, if_pos rfl]
  unfold f_X3_knows
  generalize hq : f_X3_first (f_X3_wordNo v1) (f_X3_rangeNo v2 0 20) = w at hv ⊢
  rw [em w hq]
  unfold f_X4_knows_J18
  by_cases hw : w = 0
  · obtain ⟨ha, -⟩ := first_0 (hq.trans hw)
    obtain ⟨q, hq8, rfl⟩ := word_nat ha
    have hzi := fun i => dI_z (tu := tu) (pa := pa) (who := 127) g1 (X0_z (hu := hu) (dy := dy) g6) g7 i
    let p : Nat → Bool := fun i => decide (¬ (dI n kd fg tn wd hr tu pa 127 i (X0 kn hu dy)).1 q < v2)
    rw [if_pos hw, if_pos hw, bi_s (think_c (nI n) tu hu pa dy h2.1 h2.2.1 h2.2.2 h3.1 h3.2 g3 g5 g6)]
    dsimp only
    have hc : ∃ X : DX, ZX X ∧ lp (fun z : Int32 × DX => f_X3_knows_L32 (nI q) v2 (nI n) kd fg tn wd hr od tu pa x_refusals z.1 z.2.1 z.2.2.1 z.2.2.2.1 z.2.2.2.2.1 z.2.2.2.2.2.1 z.2.2.2.2.2.2.1 z.2.2.2.2.2.2.2.1 z.2.2.2.2.2.2.2.2) 1000 (0, X0 kn hu dy) = some (sr p 61 0, nI n, kd, fg, tn, wd, hr, od, X.1, tu, X.2.1, pa, X.2.2.1, X.2.2.2.1, X.2.2.2.2.1, X.2.2.2.2.2.1, X.2.2.2.2.2.2.1, X.2.2.2.2.2.2.2, x_refusals) := by
      obtain ⟨b, e, X, hX, rfl⟩ := lp_hoare (f := fun z : Int32 × DX => f_X3_knows_L32 (nI q) v2 (nI n) kd fg tn wd hr od tu pa x_refusals z.1 z.2.1 z.2.2.1 z.2.2.2.1 z.2.2.2.2.1 z.2.2.2.2.2.1 z.2.2.2.2.2.2.1 z.2.2.2.2.2.2.2.1 z.2.2.2.2.2.2.2.2) (fun i a => a = (nI i, (dI n kd fg tn wd hr tu pa 127 i (X0 kn hu dy))) ∧ sr p 61 0 = sr p (61 - i) i) (fun b => ∃ X : DX, ZX X ∧ b = (sr p 61 0, nI n, kd, fg, tn, wd, hr, od, X.1, tu, X.2.1, pa, X.2.2.1, X.2.2.2.1, X.2.2.2.2.1, X.2.2.2.2.2.1, X.2.2.2.2.2.2.1, X.2.2.2.2.2.2.2, x_refusals)) 61 (by
        rintro i _ hi ⟨rfl, hsr⟩
        dsimp only
        unfold f_X3_knows_L32
        by_cases h60 : i < 61
        · rw [if_neg (show ¬ (60 : Int32) < nI i from nI_nlt (a := 60) (b := i) (by omega) (by omega)), at_n hq8]
          have e61 : 61 - i = (61 - (i + 1)) + 1 := by omega
          rw [e61] at hsr
          by_cases hlt : (dI n kd fg tn wd hr tu pa 127 i (X0 kn hu dy)).1 q < v2
          · left
            rw [if_pos hlt, day_c g1 g4 127 (dI n kd fg tn wd hr tu pa 127 i (X0 kn hu dy)), bi_some, nI_1]
            refine ⟨h60, _, rfl, rfl, ?_⟩
            rw [hsr, sr_s (show p i = false from decide_eq_false (fun q => q hlt))]
          · right
            rw [if_neg hlt]
            refine ⟨_, rfl, (dI n kd fg tn wd hr tu pa 127 i (X0 kn hu dy)), (hzi i).1, ?_⟩
            rw [hsr, sr_f (show p i = true from decide_eq_true hlt)]
        · right
          have : i = 61 := by omega
          subst this
          rw [if_pos (show (60 : Int32) < nI 61 by decide)]
          refine ⟨_, rfl, (dI n kd fg tn wd hr tu pa 127 61 (X0 kn hu dy)), (hzi 61).1, ?_⟩
          rw [hsr]
          rfl) 1000 0 (0, X0 kn hu dy) (Nat.zero_le _) (by omega) ⟨rfl, rfl⟩
      exact ⟨X, hX, e⟩
    have hm : ∃ S' : SC, SOk m_kept S' ∧ lp (fun z : Int32 × (Nat → Int32) × (Nat → Int32) × (Nat → Int32) × (Nat → Int32) × (Nat → Int32) × (Nat → Int32) × (Nat → Int32) × Int32 × Int32 × SC => f_X4_knows_L32 (nI q) v2 m_refused 0 z.1 z.2.1 z.2.2.1 z.2.2.2.1 z.2.2.2.2.1 z.2.2.2.2.2.1 z.2.2.2.2.2.2.1 z.2.2.2.2.2.2.2.1 z.2.2.2.2.2.2.2.2.1 z.2.2.2.2.2.2.2.2.2.1 z.2.2.2.2.2.2.2.2.2.2.1 z.2.2.2.2.2.2.2.2.2.2.2.1 z.2.2.2.2.2.2.2.2.2.2.2.2.1 z.2.2.2.2.2.2.2.2.2.2.2.2.2.1 z.2.2.2.2.2.2.2.2.2.2.2.2.2.2.1 z.2.2.2.2.2.2.2.2.2.2.2.2.2.2.2.1 z.2.2.2.2.2.2.2.2.2.2.2.2.2.2.2.2.1 z.2.2.2.2.2.2.2.2.2.2.2.2.2.2.2.2.2.1 z.2.2.2.2.2.2.2.2.2.2.2.2.2.2.2.2.2.2.1 z.2.2.2.2.2.2.2.2.2.2.2.2.2.2.2.2.2.2.2.1 z.2.2.2.2.2.2.2.2.2.2.2.2.2.2.2.2.2.2.2.2) 1000 (0, kn, st3 tu hu pa, kd, fg, tn, wd, hr, nI n, dy, (m_kept, m_isKeeping, m_cursor, m_answeredMany, m_lastWord, m_answered, m_unanswered, m_saidWords, m_isCalledAtSeven, m_isAnsweredAtSeven, m_seen)) = some (sr p 61 0, m_refused, kn, st3 tu hu pa, kd, fg, tn, wd, hr, nI n, dy, S') := by
      obtain ⟨b, e, S', hS', rfl⟩ := lp_hoare (f := fun z : Int32 × (Nat → Int32) × (Nat → Int32) × (Nat → Int32) × (Nat → Int32) × (Nat → Int32) × (Nat → Int32) × (Nat → Int32) × Int32 × Int32 × SC => f_X4_knows_L32 (nI q) v2 m_refused 0 z.1 z.2.1 z.2.2.1 z.2.2.2.1 z.2.2.2.2.1 z.2.2.2.2.2.1 z.2.2.2.2.2.2.1 z.2.2.2.2.2.2.2.1 z.2.2.2.2.2.2.2.2.1 z.2.2.2.2.2.2.2.2.2.1 z.2.2.2.2.2.2.2.2.2.2.1 z.2.2.2.2.2.2.2.2.2.2.2.1 z.2.2.2.2.2.2.2.2.2.2.2.2.1 z.2.2.2.2.2.2.2.2.2.2.2.2.2.1 z.2.2.2.2.2.2.2.2.2.2.2.2.2.2.1 z.2.2.2.2.2.2.2.2.2.2.2.2.2.2.2.1 z.2.2.2.2.2.2.2.2.2.2.2.2.2.2.2.2.1 z.2.2.2.2.2.2.2.2.2.2.2.2.2.2.2.2.2.1 z.2.2.2.2.2.2.2.2.2.2.2.2.2.2.2.2.2.2.1 z.2.2.2.2.2.2.2.2.2.2.2.2.2.2.2.2.2.2.2.1 z.2.2.2.2.2.2.2.2.2.2.2.2.2.2.2.2.2.2.2.2) (fun i a => ∃ S : SC, a = (nI i, kn, st3 tu hu pa, kd, fg, tn, wd, hr, nI n, dy, S) ∧ SOk m_kept S ∧ sr p 61 0 = sr p (61 - i) i) (fun b => ∃ S' : SC, SOk m_kept S' ∧ b = (sr p 61 0, m_refused, kn, st3 tu hu pa, kd, fg, tn, wd, hr, nI n, dy, S')) 61 (by
        rintro i _ hi ⟨S, rfl, hS, hsr⟩
        dsimp only
        unfold f_X4_knows_L32
        by_cases h60 : i < 61
        · obtain ⟨S', es, hS', hX1, hX2, hX3, hX4, hX5, hX6⟩ := thinks_S (S := S) (pa := pa) g1 g2 g3 (Bits.all hn7) g6 g7 dy hS (show i < 900 by omega)
          rw [if_neg (show ¬ (60 : Int32) < nI i from nI_nlt (a := 60) (b := i) (by omega) (by omega)), bi_s es, show (3 : Int32) + nI q = nI (3 + q) from nI_add 3 q, gu_t (inB_n (by omega)), cl_n (by omega)]
          dsimp only
          rw [show S'.2.2.2.2.2.2.2.2.2.2 (3 + q) = (dI n kd fg tn wd hr tu pa 127 i (X0 kn hu dy)).1 q by rw [hX6, sn_w _ _ hq8]]
          have e61 : 61 - i = (61 - (i + 1)) + 1 := by omega
          rw [e61] at hsr
          by_cases hlt : (dI n kd fg tn wd hr tu pa 127 i (X0 kn hu dy)).1 q < v2
          · left
            rw [if_pos hlt, nI_1]
            refine ⟨h60, _, rfl, S', rfl, hS', ?_⟩
            rw [hsr, sr_s (show p i = false from decide_eq_false (fun q => q hlt))]
          · right
            rw [if_neg hlt]
            refine ⟨_, rfl, S', hS', ?_⟩
            rw [hsr, sr_f (show p i = true from decide_eq_true hlt)]
        · right
          have : i = 61 := by omega
          subst this
          rw [if_pos (show (60 : Int32) < nI 61 by decide)]
          refine ⟨_, rfl, S, hS, ?_⟩
          rw [hsr]
          rfl) 1000 0 (0, kn, st3 tu hu pa, kd, fg, tn, wd, hr, nI n, dy, (m_kept, m_isKeeping, m_cursor, m_answeredMany, m_lastWord, m_answered, m_unanswered, m_saidWords, m_isCalledAtSeven, m_isAnsweredAtSeven, m_seen)) (Nat.zero_le _) (by omega) ⟨(m_kept, m_isKeeping, m_cursor, m_answeredMany, m_lastWord, m_answered, m_unanswered, m_saidWords, m_isCalledAtSeven, m_isAnsweredAtSeven, m_seen), rfl, SOk.self m_kept _ _ _ _ _ _ _ _ _ _ h10, rfl⟩
      exact ⟨S', hS', e⟩
    obtain ⟨X, hX, ec⟩ := hc
    obtain ⟨S', hS', em'⟩ := hm
    exact ⟨_, _, ec, em', rfl, mkRel h1' ⟨g3, g5, hX.1⟩ ⟨hX.2.1, hX.2.2⟩ h4 h5 (RI.sameS h6 hS') h7 h8 h9 hS'.2⟩
  · obtain ⟨fm, e, hf⟩ := ref_ok h9 (hv.resolve_left hw)
    rw [if_neg hw, if_neg hw, bi_s e]
    exact ⟨_, _, rfl, rfl, rfl, mkRel h1' h2 h3 h4 h5 h6 h7 h8 hf h10⟩
set_option maxHeartbeats 4000000 in
set_option maxRecDepth 4000 in
theorem sim_silent {n len r : Nat} {x_imageTaken : Int32} {d_callers : Int32} {d_kinds : Nat → Int32} {d_figures : Nat → Int32} {d_tones : Nat → Int32} {d_words : Nat → Int32} {d_hours : Nat → Int32} {d_order : Nat → Int32} {d_known : Nat → Int32} {d_tune : Int32} {d_hurt : Int32} {d_patience : Int32} {d_day : Int32} {d_answered : Int32} {d_unanswered : Int32} {d_said : Int32} {d_times : Nat → Int32} {d_last : Nat → Int32} {n_answered : Int32} {n_unanswered : Int32} {n_said : Int32} {n_times : Nat → Int32} {n_last : Nat → Int32} {t_letters : Nat → Int32} {x_told : Nat → Int32} {x_refusals : Nat → Int32} {k_callers : Int32} {k_kinds : Nat → Int32} {k_figures : Nat → Int32} {k_tones : Nat → Int32} {k_words : Nat → Int32} {k_hours : Nat → Int32} {k_order : Nat → Int32} {k_known : Nat → Int32} {k_tune : Int32} {k_hurt : Int32} {k_patience : Int32} {k_day : Int32} {k_answered : Int32} {k_unanswered : Int32} {k_said : Int32} {k_times : Nat → Int32} {k_last : Nat → Int32} {kd : Nat → Int32} {fg : Nat → Int32} {tn : Nat → Int32} {wd : Nat → Int32} {hr : Nat → Int32} {od : Nat → Int32} {kn : Nat → Int32} {tu : Int32} {hu : Int32} {pa : Int32} {dy : Int32} {m_refused : Nat → Int32} {m_letter : Nat → Int32} {m_letterAt : Nat → Int32} {m_told : Nat → Int32} {m_at : Int32} {m_statements : Int32} {m_kept : Nat → Int32} {m_isKeeping : Int32} {m_cursor : Int32} {m_answeredMany : Nat → Int32} {m_lastWord : Nat → Int32} {m_answered : Int32} {m_unanswered : Int32} {m_saidWords : Int32} {m_isCalledAtSeven : Int32} {m_isAnsweredAtSeven : Int32} {m_seen : Nat → Int32} {m_weekAnswers : Int32} {m_weekHurt : Int32} {m_week : Nat → Int32} {m_oneHas : Nat → Int32} {m_otherHas : Nat → Int32} (h1 : RM n kd fg tn wd hr od kn tu hu) (h2 : GZ d_kinds d_figures d_tones d_words d_hours d_order d_known) (h3 : TZ d_times d_last) (h4 : TZ n_times n_last) (h5 : GZ k_kinds k_figures k_tones k_words k_hours k_order k_known) (h6 : RI x_imageTaken m_kept k_callers k_kinds k_figures k_tones k_words k_hours k_order k_known k_tune k_hurt k_patience k_day) (h7 : RT len t_letters) (h8 : RR r x_told) (h9 : RF x_refusals m_refused) (h10 : TZ m_answeredMany m_lastWord)  : ∃ o o', f_X3_silent d_kinds d_figures d_tones d_words d_hours d_order d_known d_times d_last (nI n) kd fg tn wd hr od kn tu hu pa dy = some o ∧ f_X4_silent kn (st3 tu hu pa) kd fg tn wd hr (nI n) dy m_kept m_isKeeping m_cursor m_answeredMany m_lastWord 0 m_answered m_unanswered m_saidWords m_isCalledAtSeven m_isAnsweredAtSeven m_seen = some o' ∧ o'.1 = o.1 ∧ Rel x_imageTaken (nI r) (o.2.1) (o.2.2.1) (o.2.2.2.1) (o.2.2.2.2.1) (o.2.2.2.2.2.1) (o.2.2.2.2.2.2.1) (o.2.2.2.2.2.2.2.1) (o.2.2.2.2.2.2.2.2.1) (o.2.2.2.2.2.2.2.2.2.1) (o.2.2.2.2.2.2.2.2.2.2.1) (o.2.2.2.2.2.2.2.2.2.2.2.1) (o.2.2.2.2.2.2.2.2.2.2.2.2.1) (o.2.2.2.2.2.2.2.2.2.2.2.2.2.1) (o.2.2.2.2.2.2.2.2.2.2.2.2.2.2.1) (o.2.2.2.2.2.2.2.2.2.2.2.2.2.2.2.1) (o.2.2.2.2.2.2.2.2.2.2.2.2.2.2.2.2.1) (o.2.2.2.2.2.2.2.2.2.2.2.2.2.2.2.2.2) (nI n) kd fg tn wd hr od kn tu hu pa dy n_answered n_unanswered n_said n_times n_last t_letters (nI len) x_told x_refusals k_callers k_kinds k_figures k_tones k_words k_hours k_order k_known k_tune k_hurt k_patience k_day k_answered k_unanswered k_said k_times k_last m_refused (o'.2.1) (o'.2.2.1) (o'.2.2.2.1) (o'.2.2.2.2.1) (o'.2.2.2.2.2.1) (o'.2.2.2.2.2.2.1) (o'.2.2.2.2.2.2.2.1) (o'.2.2.2.2.2.2.2.2.1) (o'.2.2.2.2.2.2.2.2.2.1) t_letters m_letter m_letterAt m_told (nI len) m_at m_statements (o'.2.2.2.2.2.2.2.2.2.2.1) x_imageTaken (o'.2.2.2.2.2.2.2.2.2.2.2.1) (o'.2.2.2.2.2.2.2.2.2.2.2.2.1) (o'.2.2.2.2.2.2.2.2.2.2.2.2.2.1) (o'.2.2.2.2.2.2.2.2.2.2.2.2.2.2.1) 0 (o'.2.2.2.2.2.2.2.2.2.2.2.2.2.2.2.1) (o'.2.2.2.2.2.2.2.2.2.2.2.2.2.2.2.2.1) (o'.2.2.2.2.2.2.2.2.2.2.2.2.2.2.2.2.2.1) (o'.2.2.2.2.2.2.2.2.2.2.2.2.2.2.2.2.2.2.1) (o'.2.2.2.2.2.2.2.2.2.2.2.2.2.2.2.2.2.2.2.1) (o'.2.2.2.2.2.2.2.2.2.2.2.2.2.2.2.2.2.2.2.2) m_weekAnswers m_weekHurt m_week x_told (nI r) m_oneHas m_otherHas := by
  have hn7 := h1.1.1
  have h1' := h1
  obtain ⟨g1, g2, g3, g4, g5, g6, g7⟩ := h1

  have hzi := fun i => dI_z (tu := tu) (pa := pa) (who := 127) g1 (X0_z (hu := hu) (dy := dy) g6) g7 i
  let p : Nat → Bool := fun i => decide (¬ (dI n kd fg tn wd hr tu pa 127 i (X0 kn hu dy)).2.1 ≤ pa)
  have hc : ∃ X : DX, ZX X ∧ lp (fun z : Int32 × DX => f_X3_silent_L6 (nI n) kd fg tn wd hr od tu pa z.1 z.2.1 z.2.2.1 z.2.2.2.1 z.2.2.2.2.1 z.2.2.2.2.2.1 z.2.2.2.2.2.2.1 z.2.2.2.2.2.2.2.1 z.2.2.2.2.2.2.2.2) 1000 (0, X0 kn hu dy) = some (sr p 61 0, nI n, kd, fg, tn, wd, hr, od, X.1, tu, X.2.1, pa, X.2.2.1, X.2.2.2.1, X.2.2.2.2.1, X.2.2.2.2.2.1, X.2.2.2.2.2.2.1, X.2.2.2.2.2.2.2) := by
    obtain ⟨b, e, X, hX, rfl⟩ := lp_hoare (f := (fun z : Int32 × DX => f_X3_silent_L6 (nI n) kd fg tn wd hr od tu pa z.1 z.2.1 z.2.2.1 z.2.2.2.1 z.2.2.2.2.1 z.2.2.2.2.2.1 z.2.2.2.2.2.2.1 z.2.2.2.2.2.2.2.1 z.2.2.2.2.2.2.2.2)) (fun i a => a = (nI i, (dI n kd fg tn wd hr tu pa 127 i (X0 kn hu dy))) ∧ sr p 61 0 = sr p (61 - i) i) (fun b => ∃ X : DX, ZX X ∧ b = (sr p 61 0, nI n, kd, fg, tn, wd, hr, od, X.1, tu, X.2.1, pa, X.2.2.1, X.2.2.2.1, X.2.2.2.2.1, X.2.2.2.2.2.1, X.2.2.2.2.2.2.1, X.2.2.2.2.2.2.2)) 61 (by
      rintro i _ hi ⟨rfl, hsr⟩
      dsimp only
      unfold f_X3_silent_L6 f_X0_isSilent
      by_cases h60 : i < 61
      · rw [if_neg (show ¬ (60 : Int32) < nI i from nI_nlt (a := 60) (b := i) (by omega) (by omega))]
        have e61 : 61 - i = (61 - (i + 1)) + 1 := by omega
        rw [e61] at hsr
        by_cases hlt : (dI n kd fg tn wd hr tu pa 127 i (X0 kn hu dy)).2.1 ≤ pa
        · left
          rw [if_pos hlt, if_pos rfl, day_c g1 g4 127 (dI n kd fg tn wd hr tu pa 127 i (X0 kn hu dy)), bi_some, nI_1]
          refine ⟨h60, _, rfl, rfl, ?_⟩
          rw [hsr, sr_s (show p i = false from decide_eq_false (fun q => q hlt))]
        · right
          rw [if_neg hlt, if_neg nz1]
          refine ⟨_, rfl, (dI n kd fg tn wd hr tu pa 127 i (X0 kn hu dy)), (hzi i).1, ?_⟩
          rw [hsr, sr_f (show p i = true from decide_eq_true hlt)]
      · right
        have : i = 61 := by omega
        subst this
        rw [if_pos (show (60 : Int32) < nI 61 by decide)]
        refine ⟨_, rfl, (dI n kd fg tn wd hr tu pa 127 61 (X0 kn hu dy)), (hzi 61).1, ?_⟩
        rw [hsr]
        rfl) 1000 0 (0, X0 kn hu dy) (Nat.zero_le _) (by omega) ⟨rfl, rfl⟩
    exact ⟨X, hX, e⟩
  have hm : ∃ S' : SC, SOk m_kept S' ∧ lp (fun z : Int32 × (Nat → Int32) × (Nat → Int32) × (Nat → Int32) × (Nat → Int32) × (Nat → Int32) × (Nat → Int32) × (Nat → Int32) × Int32 × Int32 × SC => f_X4_silent_L2 0 z.1 z.2.1 z.2.2.1 z.2.2.2.1 z.2.2.2.2.1 z.2.2.2.2.2.1 z.2.2.2.2.2.2.1 z.2.2.2.2.2.2.2.1 z.2.2.2.2.2.2.2.2.1 z.2.2.2.2.2.2.2.2.2.1 z.2.2.2.2.2.2.2.2.2.2.1 z.2.2.2.2.2.2.2.2.2.2.2.1 z.2.2.2.2.2.2.2.2.2.2.2.2.1 z.2.2.2.2.2.2.2.2.2.2.2.2.2.1 z.2.2.2.2.2.2.2.2.2.2.2.2.2.2.1 z.2.2.2.2.2.2.2.2.2.2.2.2.2.2.2.1 z.2.2.2.2.2.2.2.2.2.2.2.2.2.2.2.2.1 z.2.2.2.2.2.2.2.2.2.2.2.2.2.2.2.2.2.1 z.2.2.2.2.2.2.2.2.2.2.2.2.2.2.2.2.2.2.1 z.2.2.2.2.2.2.2.2.2.2.2.2.2.2.2.2.2.2.2.1 z.2.2.2.2.2.2.2.2.2.2.2.2.2.2.2.2.2.2.2.2) 1000 (0, kn, st3 tu hu pa, kd, fg, tn, wd, hr, nI n, dy, (m_kept, m_isKeeping, m_cursor, m_answeredMany, m_lastWord, m_answered, m_unanswered, m_saidWords, m_isCalledAtSeven, m_isAnsweredAtSeven, m_seen)) = some (sr p 61 0, kn, st3 tu hu pa, kd, fg, tn, wd, hr, nI n, dy, S') := by
    obtain ⟨b, e, S', hS', rfl⟩ := lp_hoare (f := (fun z : Int32 × (Nat → Int32) × (Nat → Int32) × (Nat → Int32) × (Nat → Int32) × (Nat → Int32) × (Nat → Int32) × (Nat → Int32) × Int32 × Int32 × SC => f_X4_silent_L2 0 z.1 z.2.1 z.2.2.1 z.2.2.2.1 z.2.2.2.2.1 z.2.2.2.2.2.1 z.2.2.2.2.2.2.1 z.2.2.2.2.2.2.2.1 z.2.2.2.2.2.2.2.2.1 z.2.2.2.2.2.2.2.2.2.1 z.2.2.2.2.2.2.2.2.2.2.1 z.2.2.2.2.2.2.2.2.2.2.2.1 z.2.2.2.2.2.2.2.2.2.2.2.2.1 z.2.2.2.2.2.2.2.2.2.2.2.2.2.1 z.2.2.2.2.2.2.2.2.2.2.2.2.2.2.1 z.2.2.2.2.2.2.2.2.2.2.2.2.2.2.2.1 z.2.2.2.2.2.2.2.2.2.2.2.2.2.2.2.2.1 z.2.2.2.2.2.2.2.2.2.2.2.2.2.2.2.2.2.1 z.2.2.2.2.2.2.2.2.2.2.2.2.2.2.2.2.2.2.1 z.2.2.2.2.2.2.2.2.2.2.2.2.2.2.2.2.2.2.2.1 z.2.2.2.2.2.2.2.2.2.2.2.2.2.2.2.2.2.2.2.2)) (fun i a => ∃ S : SC, a = (nI i, kn, st3 tu hu pa, kd, fg, tn, wd, hr, nI n, dy, S) ∧ SOk m_kept S ∧ sr p 61 0 = sr p (61 - i) i) (fun b => ∃ S' : SC, SOk m_kept S' ∧ b = (sr p 61 0, kn, st3 tu hu pa, kd, fg, tn, wd, hr, nI n, dy, S')) 61 (by
      rintro i _ hi ⟨S, rfl, hS, hsr⟩
      dsimp only
      unfold f_X4_silent_L2
      by_cases h60 : i < 61
      · obtain ⟨S', es, hS', hX1, hX2, hX3, hX4, hX5, hX6⟩ := thinks_S (S := S) (pa := pa) g1 g2 g3 (Bits.all hn7) g6 g7 dy hS (show i < 900 by omega)
        rw [if_neg (show ¬ (60 : Int32) < nI i from nI_nlt (a := 60) (b := i) (by omega) (by omega)), bi_s es]
        dsimp only
        have hseen : S'.2.2.2.2.2.2.2.2.2.2 (0 : Int32).toNatClampNeg = (dI n kd fg tn wd hr tu pa 127 i (X0 kn hu dy)).2.1 := by rw [hX6]; exact sn_0 _ _
        simp only [st3_2, hseen]
        have e61 : 61 - i = (61 - (i + 1)) + 1 := by omega
        rw [e61] at hsr
        by_cases hlt : (dI n kd fg tn wd hr tu pa 127 i (X0 kn hu dy)).2.1 ≤ pa
        · left
          rw [if_pos hlt, nI_1]
          refine ⟨h60, _, rfl, S', rfl, hS', ?_⟩
          rw [hsr, sr_s (show p i = false from decide_eq_false (fun q => q hlt))]
        · right
          rw [if_neg hlt]
          refine ⟨_, rfl, S', hS', ?_⟩
          rw [hsr, sr_f (show p i = true from decide_eq_true hlt)]
      · right
        have : i = 61 := by omega
        subst this
        rw [if_pos (show (60 : Int32) < nI 61 by decide)]
        refine ⟨_, rfl, S, hS, ?_⟩
        rw [hsr]
        rfl) 1000 0 (0, kn, st3 tu hu pa, kd, fg, tn, wd, hr, nI n, dy, (m_kept, m_isKeeping, m_cursor, m_answeredMany, m_lastWord, m_answered, m_unanswered, m_saidWords, m_isCalledAtSeven, m_isAnsweredAtSeven, m_seen)) (Nat.zero_le _) (by omega) ⟨(m_kept, m_isKeeping, m_cursor, m_answeredMany, m_lastWord, m_answered, m_unanswered, m_saidWords, m_isCalledAtSeven, m_isAnsweredAtSeven, m_seen), rfl, SOk.self m_kept _ _ _ _ _ _ _ _ _ _ h10, rfl⟩
    exact ⟨S', hS', e⟩
  obtain ⟨X, hX, ec⟩ := hc
  obtain ⟨S', hS', em'⟩ := hm
  unfold f_X3_silent f_X4_silent
  rw [bi_s (think_c (nI n) tu hu pa dy h2.1 h2.2.1 h2.2.2 h3.1 h3.2 g3 g5 g6)]
  exact ⟨_, _, ec, em', rfl, mkRel h1' ⟨g3, g5, hX.1⟩ ⟨hX.2.1, hX.2.2⟩ h4 h5 (RI.sameS h6 hS') h7 h8 h9 hS'.2⟩
def m99 (x : Int32) : Int32 := if x < 99 then x else 99
theorem m99_eq (x : Int32) : (if x ≤ 99 then x else 99) = m99 x := by
  unfold m99
  have e : (99 : Int32).toInt = 99 := rfl
  by_cases h : x < 99
  · rw [if_pos h, if_pos (by rw [i_lt] at h; rw [i_le]; omega)]
  · rw [if_neg h]
    by_cases h2 : x ≤ 99
    · rw [if_pos h2]
      exact Int32.toInt_inj.mp (by rw [i_lt] at h; rw [i_le] at h2; omega)
    · rw [if_neg h2]
/-- the first of the row's numbers that isn't so in the tune t -/
def fo (n : Nat) (kd fg tn wd hr kn : Nat → Int32) (tu hu pa dy : Int32) (told : Nat → Int32) (r : Nat) : Int32 := sr (fun i => decide (¬ told i = m99 (smS (dI n kd fg tn wd hr tu pa 127 i (X0 kn hu dy)).1 8))) r 0
theorem fu_c {n : Nat} {kd fg tn wd hr od kn : Nat → Int32} (tn0 hu pa dy : Int32) (hF : OkF n kd fg tn wd hr) (hO : OkO n hr od) (hz : FZ kd fg tn wd hr) (hz2 : Zr 7 od) (hz3 : Zr 8 kn) (hh : HR hu) {D : GX} (hD : DZ D) (tu : Int32) {r : Nat} (hr12 : r ≤ 12) (x_told : Nat → Int32) : ∃ X : DX, ZX X ∧ f_X3_firstUntrue (nI r) D.2.1 D.2.2.1 D.2.2.2.1 D.2.2.2.2.1 D.2.2.2.2.2.1 D.2.2.2.2.2.2.1 D.2.2.2.2.2.2.2.1 D.2.2.2.2.2.2.2.2.2.2.2.2.2.2.2.1 D.2.2.2.2.2.2.2.2.2.2.2.2.2.2.2.2 (nI n) kd fg tn wd hr od kn tn0 hu pa dy x_told tu = some (fo n kd fg tn wd hr kn tu hu pa dy x_told r, nI n, kd, fg, tn, wd, hr, od, X.1, tu, X.2.1, pa, X.2.2.1, X.2.2.2.1, X.2.2.2.2.1, X.2.2.2.2.2.1, X.2.2.2.2.2.2.1, X.2.2.2.2.2.2.2) := by
  have hzi := fun i => dI_z (tu := tu) (pa := pa) (who := 127) hF (X0_z (hu := hu) (dy := dy) hz3) hh i
  let p : Nat → Bool := fun i => decide (¬ x_told i = m99 (smS (dI n kd fg tn wd hr tu pa 127 i (X0 kn hu dy)).1 8))
  obtain ⟨b, e, X, hX, rfl⟩ := lp_hoare (f := (fun z : Int32 × DX => f_X3_firstUntrue_L14 (nI r) (nI n) kd fg tn wd hr od tu pa x_told z.1 z.2.1 z.2.2.1 z.2.2.2.1 z.2.2.2.2.1 z.2.2.2.2.2.1 z.2.2.2.2.2.2.1 z.2.2.2.2.2.2.2.1 z.2.2.2.2.2.2.2.2)) (fun i a => a = (nI i, (dI n kd fg tn wd hr tu pa 127 i (X0 kn hu dy))) ∧ sr p r 0 = sr p (r - i) i) (fun b => ∃ X : DX, ZX X ∧ b = (sr p r 0, nI n, kd, fg, tn, wd, hr, od, X.1, tu, X.2.1, pa, X.2.2.1, X.2.2.2.1, X.2.2.2.2.1, X.2.2.2.2.2.1, X.2.2.2.2.2.2.1, X.2.2.2.2.2.2.2)) r (by
    rintro i _ hi ⟨rfl, hsr⟩
    dsimp only
    unfold f_X3_firstUntrue_L14
    by_cases hlt : i < r
    · rw [if_neg (nI_ge hlt (by omega)), sum_c, bi_some, at_n (show i < 12 by omega)]
      have e61 : r - i = (r - (i + 1)) + 1 := by omega
      rw [e61] at hsr
      by_cases h : x_told i = m99 (smS (dI n kd fg tn wd hr tu pa 127 i (X0 kn hu dy)).1 8)
      · left
        rw [if_pos (show x_told i = (if smS (dI n kd fg tn wd hr tu pa 127 i (X0 kn hu dy)).1 8 < 99 then smS (dI n kd fg tn wd hr tu pa 127 i (X0 kn hu dy)).1 8 else 99) from h), day_c hF hO 127 (dI n kd fg tn wd hr tu pa 127 i (X0 kn hu dy)), bi_some, nI_1]
        refine ⟨hlt, _, rfl, rfl, ?_⟩
        rw [hsr, sr_s (show p i = false from decide_eq_false (fun q => q h))]
      · right
        rw [if_neg (show ¬ x_told i = (if smS (dI n kd fg tn wd hr tu pa 127 i (X0 kn hu dy)).1 8 < 99 then smS (dI n kd fg tn wd hr tu pa 127 i (X0 kn hu dy)).1 8 else 99) from h)]
        refine ⟨_, rfl, (dI n kd fg tn wd hr tu pa 127 i (X0 kn hu dy)), (hzi i).1, ?_⟩
        rw [hsr, sr_f (show p i = true from decide_eq_true h)]
    · right
      have : i = r := by omega
      subst this
      rw [if_pos (nI_le (Nat.le_refl i) (by omega))]
      refine ⟨_, rfl, (dI n kd fg tn wd hr tu pa 127 i (X0 kn hu dy)), (hzi i).1, ?_⟩
      rw [hsr, Nat.sub_self]
      rfl) 1000 0 (0, X0 kn hu dy) (Nat.zero_le _) (by omega) ⟨rfl, rfl⟩
  refine ⟨X, hX, ?_⟩
  unfold f_X3_firstUntrue
  rw [bi_s (think_D (nI n) tn0 hu pa dy hD hz hz2 hz3)]
  exact e
theorem fo_m {n : Nat} {kd fg tn wd hr kn : Nat → Int32} {tu hu : Int32} (pa dy : Int32) (hF : OkF n kd fg tn wd hr) (hT : OkT tu) (hz : FZ kd fg tn wd hr) (hz3 : Zr 8 kn) (hh : HR hu) {m_kept : Nat → Int32} {S : SC} (hS : SOk m_kept S) {r : Nat} (hr12 : r ≤ 12) (x_told : Nat → Int32) : ∃ S' : SC, SOk m_kept S' ∧ f_X4_firstOther kn (st3 tu hu pa) kd fg tn wd hr (nI n) dy S.1 S.2.1 S.2.2.1 S.2.2.2.1 S.2.2.2.2.1 0 S.2.2.2.2.2.1 S.2.2.2.2.2.2.1 S.2.2.2.2.2.2.2.1 S.2.2.2.2.2.2.2.2.1 S.2.2.2.2.2.2.2.2.2.1 S.2.2.2.2.2.2.2.2.2.2 x_told (nI r) = some (fo n kd fg tn wd hr kn tu hu pa dy x_told r, kn, st3 tu hu pa, kd, fg, tn, wd, hr, nI n, dy, S') := by
  have hn7 := hF.1
  let p : Nat → Bool := fun i => decide (¬ x_told i = m99 (smS (dI n kd fg tn wd hr tu pa 127 i (X0 kn hu dy)).1 8))
  obtain ⟨b, e, S', hS', rfl⟩ := lp_hoare (f := (fun z : Int32 × (Nat → Int32) × (Nat → Int32) × (Nat → Int32) × (Nat → Int32) × (Nat → Int32) × (Nat → Int32) × (Nat → Int32) × Int32 × Int32 × SC => f_X4_firstOther_L2 0 x_told (nI r) z.1 z.2.1 z.2.2.1 z.2.2.2.1 z.2.2.2.2.1 z.2.2.2.2.2.1 z.2.2.2.2.2.2.1 z.2.2.2.2.2.2.2.1 z.2.2.2.2.2.2.2.2.1 z.2.2.2.2.2.2.2.2.2.1 z.2.2.2.2.2.2.2.2.2.2.1 z.2.2.2.2.2.2.2.2.2.2.2.1 z.2.2.2.2.2.2.2.2.2.2.2.2.1 z.2.2.2.2.2.2.2.2.2.2.2.2.2.1 z.2.2.2.2.2.2.2.2.2.2.2.2.2.2.1 z.2.2.2.2.2.2.2.2.2.2.2.2.2.2.2.1 z.2.2.2.2.2.2.2.2.2.2.2.2.2.2.2.2.1 z.2.2.2.2.2.2.2.2.2.2.2.2.2.2.2.2.2.1 z.2.2.2.2.2.2.2.2.2.2.2.2.2.2.2.2.2.2.1 z.2.2.2.2.2.2.2.2.2.2.2.2.2.2.2.2.2.2.2.1 z.2.2.2.2.2.2.2.2.2.2.2.2.2.2.2.2.2.2.2.2)) (fun i a => ∃ S : SC, a = (nI i, kn, st3 tu hu pa, kd, fg, tn, wd, hr, nI n, dy, S) ∧ SOk m_kept S ∧ sr p r 0 = sr p (r - i) i) (fun b => ∃ S' : SC, SOk m_kept S' ∧ b = (sr p r 0, kn, st3 tu hu pa, kd, fg, tn, wd, hr, nI n, dy, S')) r (by
    rintro i _ hi ⟨S, rfl, hS, hsr⟩
    dsimp only
    unfold f_X4_firstOther_L2 f_X4_firstOther_J37
    by_cases hlt : i < r
    · obtain ⟨S', es, hS', hX1, hX2, hX3, hX4, hX5, hX6⟩ := thinks_S (S := S) (pa := pa) hF hT hz (Bits.all hn7) hz3 hh dy hS (show i < 900 by omega)
      rw [if_neg (nI_ge hlt (by omega)), bi_s es]
      dsimp only
      rw [gu_t (inB_n (show i < 12 by omega)), gu_t (inB_n (show i < 12 by omega)), cl_n (by omega), show S'.2.2.2.2.2.2.2.2.2.2 (1 : Int32).toNatClampNeg = smS (dI n kd fg tn wd hr tu pa 127 i (X0 kn hu dy)).1 8 by rw [hX6]; exact sn_1 _ _]
      have e61 : r - i = (r - (i + 1)) + 1 := by omega
      rw [e61] at hsr
      have hgo : ∀ y : Int32, y = m99 (smS (dI n kd fg tn wd hr tu pa 127 i (X0 kn hu dy)).1 8) → ((i < r ∧ ∃ a', (if y = x_told i then (some (Sum.inl (nI i + 1, kn, st3 tu hu pa, kd, fg, tn, wd, hr, nI n, dy, S')) : Option ((Int32 × (Nat → Int32) × (Nat → Int32) × (Nat → Int32) × (Nat → Int32) × (Nat → Int32) × (Nat → Int32) × (Nat → Int32) × Int32 × Int32 × SC) ⊕ (Int32 × (Nat → Int32) × (Nat → Int32) × (Nat → Int32) × (Nat → Int32) × (Nat → Int32) × (Nat → Int32) × (Nat → Int32) × Int32 × Int32 × SC))) else some (Sum.inr (nI i, kn, st3 tu hu pa, kd, fg, tn, wd, hr, nI n, dy, S'))) = some (Sum.inl a') ∧ ∃ S : SC, a' = (nI (i + 1), kn, st3 tu hu pa, kd, fg, tn, wd, hr, nI n, dy, S) ∧ SOk m_kept S ∧ sr p r 0 = sr p (r - (i + 1)) (i + 1)) ∨ ∃ b, (if y = x_told i then (some (Sum.inl (nI i + 1, kn, st3 tu hu pa, kd, fg, tn, wd, hr, nI n, dy, S')) : Option ((Int32 × (Nat → Int32) × (Nat → Int32) × (Nat → Int32) × (Nat → Int32) × (Nat → Int32) × (Nat → Int32) × (Nat → Int32) × Int32 × Int32 × SC) ⊕ (Int32 × (Nat → Int32) × (Nat → Int32) × (Nat → Int32) × (Nat → Int32) × (Nat → Int32) × (Nat → Int32) × (Nat → Int32) × Int32 × Int32 × SC))) else some (Sum.inr (nI i, kn, st3 tu hu pa, kd, fg, tn, wd, hr, nI n, dy, S'))) = some (Sum.inr b) ∧ ∃ S' : SC, SOk m_kept S' ∧ b = (sr p r 0, kn, st3 tu hu pa, kd, fg, tn, wd, hr, nI n, dy, S')) := by
        intro y hy
        subst hy
        by_cases h : x_told i = m99 (smS (dI n kd fg tn wd hr tu pa 127 i (X0 kn hu dy)).1 8)
        · left
          rw [if_pos h.symm, nI_1]
          refine ⟨hlt, _, rfl, S', rfl, hS', ?_⟩
          rw [hsr, sr_s (show p i = false from decide_eq_false (fun q => q h))]
        · right
          rw [if_neg (fun q => h q.symm)]
          refine ⟨_, rfl, S', hS', ?_⟩
          rw [hsr, sr_f (show p i = true from decide_eq_true h)]
      by_cases h9 : smS (dI n kd fg tn wd hr tu pa 127 i (X0 kn hu dy)).1 8 ≤ 99
      · rw [if_pos h9]
        exact hgo _ (by rw [← m99_eq, if_pos h9])
      · rw [if_neg h9]
        exact hgo _ (by rw [← m99_eq, if_neg h9])
    · right
      have : i = r := by omega
      subst this
      rw [if_pos (nI_le (Nat.le_refl i) (by omega))]
      refine ⟨_, rfl, S, hS, ?_⟩
      rw [hsr, Nat.sub_self]
      rfl) 1000 0 (0, kn, st3 tu hu pa, kd, fg, tn, wd, hr, nI n, dy, S) (Nat.zero_le _) (by omega) ⟨S, rfl, hS, rfl⟩
  exact ⟨S', hS', e⟩
set_option maxHeartbeats 4000000 in
set_option maxRecDepth 4000 in
theorem sim_judge {n len r : Nat} {x_imageTaken : Int32} {d_callers : Int32} {d_kinds : Nat → Int32} {d_figures : Nat → Int32} {d_tones : Nat → Int32} {d_words : Nat → Int32} {d_hours : Nat → Int32} {d_order : Nat → Int32} {d_known : Nat → Int32} {d_tune : Int32} {d_hurt : Int32} {d_patience : Int32} {d_day : Int32} {d_answered : Int32} {d_unanswered : Int32} {d_said : Int32} {d_times : Nat → Int32} {d_last : Nat → Int32} {n_answered : Int32} {n_unanswered : Int32} {n_said : Int32} {n_times : Nat → Int32} {n_last : Nat → Int32} {t_letters : Nat → Int32} {x_told : Nat → Int32} {x_refusals : Nat → Int32} {k_callers : Int32} {k_kinds : Nat → Int32} {k_figures : Nat → Int32} {k_tones : Nat → Int32} {k_words : Nat → Int32} {k_hours : Nat → Int32} {k_order : Nat → Int32} {k_known : Nat → Int32} {k_tune : Int32} {k_hurt : Int32} {k_patience : Int32} {k_day : Int32} {k_answered : Int32} {k_unanswered : Int32} {k_said : Int32} {k_times : Nat → Int32} {k_last : Nat → Int32} {kd : Nat → Int32} {fg : Nat → Int32} {tn : Nat → Int32} {wd : Nat → Int32} {hr : Nat → Int32} {od : Nat → Int32} {kn : Nat → Int32} {tu : Int32} {hu : Int32} {pa : Int32} {dy : Int32} {m_refused : Nat → Int32} {m_letter : Nat → Int32} {m_letterAt : Nat → Int32} {m_told : Nat → Int32} {m_at : Int32} {m_statements : Int32} {m_kept : Nat → Int32} {m_isKeeping : Int32} {m_cursor : Int32} {m_answeredMany : Nat → Int32} {m_lastWord : Nat → Int32} {m_answered : Int32} {m_unanswered : Int32} {m_saidWords : Int32} {m_isCalledAtSeven : Int32} {m_isAnsweredAtSeven : Int32} {m_seen : Nat → Int32} {m_weekAnswers : Int32} {m_weekHurt : Int32} {m_week : Nat → Int32} {m_oneHas : Nat → Int32} {m_otherHas : Nat → Int32} (h1 : RM n kd fg tn wd hr od kn tu hu) (h2 : GZ d_kinds d_figures d_tones d_words d_hours d_order d_known) (h3 : TZ d_times d_last) (h4 : TZ n_times n_last) (h5 : GZ k_kinds k_figures k_tones k_words k_hours k_order k_known) (h6 : RI x_imageTaken m_kept k_callers k_kinds k_figures k_tones k_words k_hours k_order k_known k_tune k_hurt k_patience k_day) (h7 : RT len t_letters) (h8 : RR r x_told) (h9 : RF x_refusals m_refused) (h10 : TZ m_answeredMany m_lastWord)  : ∃ o o', f_X3_judge (nI r) d_kinds d_figures d_tones d_words d_hours d_order d_known d_times d_last (nI n) kd fg tn wd hr od kn tu hu pa dy x_told = some o ∧ f_X4_judge kn (st3 tu hu pa) kd fg tn wd hr (nI n) dy m_kept m_isKeeping m_cursor m_answeredMany m_lastWord 0 m_answered m_unanswered m_saidWords m_isCalledAtSeven m_isAnsweredAtSeven m_seen x_told (nI r) = some o' ∧ o'.1 = o.1 ∧ Rel x_imageTaken (o.2.1) (o.2.2.1) (o.2.2.2.1) (o.2.2.2.2.1) (o.2.2.2.2.2.1) (o.2.2.2.2.2.2.1) (o.2.2.2.2.2.2.2.1) (o.2.2.2.2.2.2.2.2.1) (o.2.2.2.2.2.2.2.2.2.1) (o.2.2.2.2.2.2.2.2.2.2.1) (o.2.2.2.2.2.2.2.2.2.2.2.1) (o.2.2.2.2.2.2.2.2.2.2.2.2.1) (o.2.2.2.2.2.2.2.2.2.2.2.2.2.1) (o.2.2.2.2.2.2.2.2.2.2.2.2.2.2.1) (o.2.2.2.2.2.2.2.2.2.2.2.2.2.2.2.1) (o.2.2.2.2.2.2.2.2.2.2.2.2.2.2.2.2.1) (o.2.2.2.2.2.2.2.2.2.2.2.2.2.2.2.2.2.1) (o.2.2.2.2.2.2.2.2.2.2.2.2.2.2.2.2.2.2) (nI n) kd fg tn wd hr od kn tu hu pa dy n_answered n_unanswered n_said n_times n_last t_letters (nI len) x_told x_refusals k_callers k_kinds k_figures k_tones k_words k_hours k_order k_known k_tune k_hurt k_patience k_day k_answered k_unanswered k_said k_times k_last m_refused (o'.2.1) (o'.2.2.1) (o'.2.2.2.1) (o'.2.2.2.2.1) (o'.2.2.2.2.2.1) (o'.2.2.2.2.2.2.1) (o'.2.2.2.2.2.2.2.1) (o'.2.2.2.2.2.2.2.2.1) (o'.2.2.2.2.2.2.2.2.2.1) t_letters m_letter m_letterAt m_told (nI len) m_at m_statements (o'.2.2.2.2.2.2.2.2.2.2.1) x_imageTaken (o'.2.2.2.2.2.2.2.2.2.2.2.1) (o'.2.2.2.2.2.2.2.2.2.2.2.2.1) (o'.2.2.2.2.2.2.2.2.2.2.2.2.2.1) (o'.2.2.2.2.2.2.2.2.2.2.2.2.2.2.1) 0 (o'.2.2.2.2.2.2.2.2.2.2.2.2.2.2.2.1) (o'.2.2.2.2.2.2.2.2.2.2.2.2.2.2.2.2.1) (o'.2.2.2.2.2.2.2.2.2.2.2.2.2.2.2.2.2.1) (o'.2.2.2.2.2.2.2.2.2.2.2.2.2.2.2.2.2.2.1) (o'.2.2.2.2.2.2.2.2.2.2.2.2.2.2.2.2.2.2.2.1) (o'.2.2.2.2.2.2.2.2.2.2.2.2.2.2.2.2.2.2.2.2.1) m_weekAnswers m_weekHurt m_week x_told (o'.2.2.2.2.2.2.2.2.2.2.2.2.2.2.2.2.2.2.2.2.2) m_oneHas m_otherHas := by
  have hn7 := h1.1.1
  have h1' := h1
  obtain ⟨g1, g2, g3, g4, g5, g6, g7⟩ := h1

  obtain ⟨X, hX, ec⟩ := fu_c tu hu pa dy g1 g4 g3 g5 g6 g7 (D := (d_callers, d_kinds, d_figures, d_tones, d_words, d_hours, d_order, d_known, d_tune, d_hurt, d_patience, d_day, d_answered, d_unanswered, d_said, d_times, d_last)) ⟨h2, h3⟩ tu h8.1 x_told
  obtain ⟨S', hS', em'⟩ := fo_m pa dy g1 g2 g3 g6 g7 (S := (m_kept, m_isKeeping, m_cursor, m_answeredMany, m_lastWord, m_answered, m_unanswered, m_saidWords, m_isCalledAtSeven, m_isAnsweredAtSeven, m_seen)) (SOk.self m_kept _ _ _ _ _ _ _ _ _ _ h10) h8.1 x_told
  dsimp only at ec em'
  unfold f_X3_judge f_X4_judge
  rw [bi_s ec, bi_s em']
  exact ⟨_, _, rfl, rfl, rfl, mkRel (r := 0) h1' ⟨g3, g5, hX.1⟩ ⟨hX.2.1, hX.2.2⟩ h4 h5 (RI.sameS h6 hS') h7 ⟨by omega, fun i hi => absurd hi (by omega)⟩ h9 hS'.2⟩
