def AN (x : Int32) (b : Nat) : Prop := ∃ m, m ≤ b ∧ x = nI m
theorem cD_an (kd fg tn wd : Nat → Int32) (tu pa : Int32) (c : Nat) (D : DD) {b : Nat} (h : AN D.2.2.1 b) : AN (cD kd fg tn wd tu pa c D).2.2.2.1 (b + 1) := by
  obtain ⟨m, hm, e⟩ := h
  unfold cD
  split
  · exact ⟨m, by omega, e⟩
  · exact ⟨m + 1, by omega, by show D.2.2.1 + 1 = _; rw [e, nI_1]⟩
theorem stp_an {kd fg tn wd hr : Nat → Int32} {tu pa who : Int32} {S : SS} {c b : Nat} (h : AN S.2.2.2.2.1 b) : AN (stp kd fg tn wd hr tu pa who S c).2.2.2.2.1 (b + 1) := by
  unfold stp
  split
  · obtain ⟨m, hm, e⟩ := h; exact ⟨m, by omega, e⟩
  · split
    · exact cD_an _ _ _ _ _ _ _ _ h
    · exact cD_an _ _ _ _ _ _ _ _ h
theorem fold_an {kd fg tn wd hr : Nat → Int32} {tu pa who : Int32} : ∀ (l : List Nat) {S : SS} {b : Nat}, AN S.2.2.2.2.1 b → AN (l.foldl (stp kd fg tn wd hr tu pa who) S).2.2.2.2.1 (b + l.length)
  | [], _, _, h => h
  | c :: l, S, b, h => by
    have := fold_an (kd := kd) (fg := fg) (tn := tn) (wd := wd) (hr := hr) (tu := tu) (pa := pa) (who := who) l (stp_an (kd := kd) (fg := fg) (tn := tn) (wd := wd) (hr := hr) (tu := tu) (pa := pa) (who := who) (c := c) h)
    rw [List.length_cons, show b + (l.length + 1) = b + 1 + l.length by omega]
    exact this
theorem dT_an {n : Nat} {kd fg tn wd hr : Nat → Int32} {tu pa who : Int32} (hF : OkF n kd fg tn wd hr) {X : DX} {b : Nat} (h : AN X.2.2.2.1 b) : AN (dT n kd fg tn wd hr tu pa who X).2.2.2.1 (b + 7) := by
  have h7 := hF.1
  have hlen : (oL n hr 24).length = n := oL_all (fun c hc => by obtain ⟨k, f, t, w, h, -, -, -, -, hh, -, -, -, -, e⟩ := hF.2 c hc; exact ⟨h, hh, e⟩)
  obtain ⟨m, hm, e⟩ := fold_an (kd := kd) (fg := fg) (tn := tn) (wd := wd) (hr := hr) (tu := tu) (pa := pa) (who := who) (oL n hr 24) (S := (0, 0, X.1, X.2.1, X.2.2.2.1, X.2.2.2.2.1, X.2.2.2.2.2.1, X.2.2.2.2.2.2.1, X.2.2.2.2.2.2.2)) h
  exact ⟨m, by omega, e⟩
theorem dI_an {n : Nat} {kd fg tn wd hr : Nat → Int32} {tu pa who : Int32} (hF : OkF n kd fg tn wd hr) (kn : Nat → Int32) (hu dy : Int32) : ∀ k, AN (dI n kd fg tn wd hr tu pa who k (X0 kn hu dy)).2.2.2.1 (7 * k)
  | 0 => ⟨0, by omega, rfl⟩
  | k + 1 => by
    have := dT_an (tu := tu) (pa := pa) (who := who) hF (dI_an (tu := tu) (pa := pa) (who := who) hF kn hu dy k)
    rw [show 7 * (k + 1) = 7 * k + 7 by omega]
    exact this
def ftS (f : Nat → Int32) : Nat → Int32
  | 0 => 0
  | t + 1 => if f t = -9 then ftS f t ||| ((1 : Int32) <<< (nI t &&& 31)) else ftS f t
/-- the first of the greatest: where, how much -/
def gtS (a : Nat → Int32) : Nat → Int32 × Int32
  | 0 => (0, -1)
  | t + 1 => if a t ≤ (gtS a t).2 then gtS a t else (nI t, a t)
theorem gtS_inv (a : Nat → Int32) (h0 : ∀ t, ∃ m, m < 2147483648 ∧ a t = nI m) : ∀ t, ∃ j, j ≤ t ∧ gtS a (t + 1) = (nI j, a j)
  | 0 => ⟨0, by omega, by
    obtain ⟨m, hm, e⟩ := h0 0
    show (if a 0 ≤ -1 then _ else _) = _
    rw [if_neg]
    · rw [e, i_le, nI_toInt (by omega)]
      have e1 : (-1 : Int32).toInt = -1 := rfl
      omega⟩
  | t + 1 => by
    obtain ⟨j, hj, e⟩ := gtS_inv a h0 t
    show ∃ j, j ≤ t + 1 ∧ (if a (t + 1) ≤ (gtS a (t + 1)).2 then gtS a (t + 1) else (nI (t + 1), a (t + 1))) = (nI j, a j)
    split
    · exact ⟨j, by omega, e⟩
    · exact ⟨t + 1, by omega, rfl⟩
/-- the first of the least below h0: how much, where -/
def lsS (h0 : Int32) (h : Nat → Int32) : Nat → Int32 × Int32
  | 0 => (h0, -9)
  | c + 1 => if (lsS h0 h c).1 ≤ h c then lsS h0 h c else (h c, nI c)
set_option maxHeartbeats 4000000 in
set_option maxRecDepth 4000 in
theorem sim_fits {n len r : Nat} {x_imageTaken : Int32} {d_callers : Int32} {d_kinds : Nat → Int32} {d_figures : Nat → Int32} {d_tones : Nat → Int32} {d_words : Nat → Int32} {d_hours : Nat → Int32} {d_order : Nat → Int32} {d_known : Nat → Int32} {d_tune : Int32} {d_hurt : Int32} {d_patience : Int32} {d_day : Int32} {d_answered : Int32} {d_unanswered : Int32} {d_said : Int32} {d_times : Nat → Int32} {d_last : Nat → Int32} {n_answered : Int32} {n_unanswered : Int32} {n_said : Int32} {n_times : Nat → Int32} {n_last : Nat → Int32} {t_letters : Nat → Int32} {x_told : Nat → Int32} {x_refusals : Nat → Int32} {k_callers : Int32} {k_kinds : Nat → Int32} {k_figures : Nat → Int32} {k_tones : Nat → Int32} {k_words : Nat → Int32} {k_hours : Nat → Int32} {k_order : Nat → Int32} {k_known : Nat → Int32} {k_tune : Int32} {k_hurt : Int32} {k_patience : Int32} {k_day : Int32} {k_answered : Int32} {k_unanswered : Int32} {k_said : Int32} {k_times : Nat → Int32} {k_last : Nat → Int32} {kd : Nat → Int32} {fg : Nat → Int32} {tn : Nat → Int32} {wd : Nat → Int32} {hr : Nat → Int32} {od : Nat → Int32} {kn : Nat → Int32} {tu : Int32} {hu : Int32} {pa : Int32} {dy : Int32} {m_refused : Nat → Int32} {m_letter : Nat → Int32} {m_letterAt : Nat → Int32} {m_told : Nat → Int32} {m_at : Int32} {m_statements : Int32} {m_kept : Nat → Int32} {m_isKeeping : Int32} {m_cursor : Int32} {m_answeredMany : Nat → Int32} {m_lastWord : Nat → Int32} {m_answered : Int32} {m_unanswered : Int32} {m_saidWords : Int32} {m_isCalledAtSeven : Int32} {m_isAnsweredAtSeven : Int32} {m_seen : Nat → Int32} {m_weekAnswers : Int32} {m_weekHurt : Int32} {m_week : Nat → Int32} {m_oneHas : Nat → Int32} {m_otherHas : Nat → Int32} (h1 : RM n kd fg tn wd hr od kn tu hu) (h2 : GZ d_kinds d_figures d_tones d_words d_hours d_order d_known) (h3 : TZ d_times d_last) (h4 : TZ n_times n_last) (h5 : GZ k_kinds k_figures k_tones k_words k_hours k_order k_known) (h6 : RI x_imageTaken m_kept k_callers k_kinds k_figures k_tones k_words k_hours k_order k_known k_tune k_hurt k_patience k_day) (h7 : RT len t_letters) (h8 : RR r x_told) (h9 : RF x_refusals m_refused) (h10 : TZ m_answeredMany m_lastWord)  : ∃ o o', f_X3_fits (nI r) d_callers d_kinds d_figures d_tones d_words d_hours d_order d_known d_tune d_hurt d_patience d_day d_answered d_unanswered d_said d_times d_last (nI n) kd fg tn wd hr od kn tu hu pa dy x_told = some o ∧ f_X4_fits kn (st3 tu hu pa) kd fg tn wd hr (nI n) dy m_kept m_isKeeping m_cursor m_answeredMany m_lastWord 0 m_answered m_unanswered m_saidWords m_isCalledAtSeven m_isAnsweredAtSeven m_seen x_told (nI r) = some o' ∧ o'.1 = o.1 ∧ Rel x_imageTaken (nI r) (o.2.1) (o.2.2.1) (o.2.2.2.1) (o.2.2.2.2.1) (o.2.2.2.2.2.1) (o.2.2.2.2.2.2.1) (o.2.2.2.2.2.2.2.1) (o.2.2.2.2.2.2.2.2.1) (o.2.2.2.2.2.2.2.2.2.1) (o.2.2.2.2.2.2.2.2.2.2.1) (o.2.2.2.2.2.2.2.2.2.2.2.1) (o.2.2.2.2.2.2.2.2.2.2.2.2.1) (o.2.2.2.2.2.2.2.2.2.2.2.2.2.1) (o.2.2.2.2.2.2.2.2.2.2.2.2.2.2.1) (o.2.2.2.2.2.2.2.2.2.2.2.2.2.2.2.1) (o.2.2.2.2.2.2.2.2.2.2.2.2.2.2.2.2.1) (o.2.2.2.2.2.2.2.2.2.2.2.2.2.2.2.2.2) (nI n) kd fg tn wd hr od kn tu hu pa dy n_answered n_unanswered n_said n_times n_last t_letters (nI len) x_told x_refusals k_callers k_kinds k_figures k_tones k_words k_hours k_order k_known k_tune k_hurt k_patience k_day k_answered k_unanswered k_said k_times k_last m_refused (o'.2.1) (o'.2.2.1) (o'.2.2.2.1) (o'.2.2.2.2.1) (o'.2.2.2.2.2.1) (o'.2.2.2.2.2.2.1) (o'.2.2.2.2.2.2.2.1) (o'.2.2.2.2.2.2.2.2.1) (o'.2.2.2.2.2.2.2.2.2.1) t_letters m_letter m_letterAt m_told (nI len) m_at m_statements (o'.2.2.2.2.2.2.2.2.2.2.1) x_imageTaken (o'.2.2.2.2.2.2.2.2.2.2.2.1) (o'.2.2.2.2.2.2.2.2.2.2.2.2.1) (o'.2.2.2.2.2.2.2.2.2.2.2.2.2.1) (o'.2.2.2.2.2.2.2.2.2.2.2.2.2.2.1) 0 (o'.2.2.2.2.2.2.2.2.2.2.2.2.2.2.2.1) (o'.2.2.2.2.2.2.2.2.2.2.2.2.2.2.2.2.1) (o'.2.2.2.2.2.2.2.2.2.2.2.2.2.2.2.2.2.1) (o'.2.2.2.2.2.2.2.2.2.2.2.2.2.2.2.2.2.2.1) (o'.2.2.2.2.2.2.2.2.2.2.2.2.2.2.2.2.2.2.2.1) (o'.2.2.2.2.2.2.2.2.2.2.2.2.2.2.2.2.2.2.2.2) m_weekAnswers m_weekHurt m_week x_told (nI r) m_oneHas m_otherHas := by
  have hn7 := h1.1.1
  have h1' := h1
  obtain ⟨g1, g2, g3, g4, g5, g6, g7⟩ := h1

  have hc : ∃ D : GX, DZ D ∧ lp (fun z : Int32 × Int32 × GX => f_X3_fits_L4 (nI r) (nI n) kd fg tn wd hr od kn tu hu pa dy x_told z.1 z.2.1 z.2.2.1 z.2.2.2.1 z.2.2.2.2.1 z.2.2.2.2.2.1 z.2.2.2.2.2.2.1 z.2.2.2.2.2.2.2.1 z.2.2.2.2.2.2.2.2.1 z.2.2.2.2.2.2.2.2.2.1 z.2.2.2.2.2.2.2.2.2.2.1 z.2.2.2.2.2.2.2.2.2.2.2.1 z.2.2.2.2.2.2.2.2.2.2.2.2.1 z.2.2.2.2.2.2.2.2.2.2.2.2.2.1 z.2.2.2.2.2.2.2.2.2.2.2.2.2.2.1 z.2.2.2.2.2.2.2.2.2.2.2.2.2.2.2.1 z.2.2.2.2.2.2.2.2.2.2.2.2.2.2.2.2.1 z.2.2.2.2.2.2.2.2.2.2.2.2.2.2.2.2.2.1 z.2.2.2.2.2.2.2.2.2.2.2.2.2.2.2.2.2.2) 1000 (0, 0, (d_callers, d_kinds, d_figures, d_tones, d_words, d_hours, d_order, d_known, d_tune, d_hurt, d_patience, d_day, d_answered, d_unanswered, d_said, d_times, d_last)) = some (ftS (fun t => (fo n kd fg tn wd hr kn (nI t) hu pa dy x_told r)) 10, D) := by
    obtain ⟨b, e, D, hD, rfl⟩ := lp_hoare (f := (fun z : Int32 × Int32 × GX => f_X3_fits_L4 (nI r) (nI n) kd fg tn wd hr od kn tu hu pa dy x_told z.1 z.2.1 z.2.2.1 z.2.2.2.1 z.2.2.2.2.1 z.2.2.2.2.2.1 z.2.2.2.2.2.2.1 z.2.2.2.2.2.2.2.1 z.2.2.2.2.2.2.2.2.1 z.2.2.2.2.2.2.2.2.2.1 z.2.2.2.2.2.2.2.2.2.2.1 z.2.2.2.2.2.2.2.2.2.2.2.1 z.2.2.2.2.2.2.2.2.2.2.2.2.1 z.2.2.2.2.2.2.2.2.2.2.2.2.2.1 z.2.2.2.2.2.2.2.2.2.2.2.2.2.2.1 z.2.2.2.2.2.2.2.2.2.2.2.2.2.2.2.1 z.2.2.2.2.2.2.2.2.2.2.2.2.2.2.2.2.1 z.2.2.2.2.2.2.2.2.2.2.2.2.2.2.2.2.2.1 z.2.2.2.2.2.2.2.2.2.2.2.2.2.2.2.2.2.2)) (fun i a => ∃ D : GX, a = (ftS (fun t => (fo n kd fg tn wd hr kn (nI t) hu pa dy x_told r)) i, nI i, D) ∧ DZ D) (fun b => ∃ D : GX, DZ D ∧ b = (ftS (fun t => (fo n kd fg tn wd hr kn (nI t) hu pa dy x_told r)) 10, D)) 10 (by
      rintro i _ hi ⟨D, rfl, hD⟩
      dsimp only
      unfold f_X3_fits_L4
      by_cases hlt : i < 10
      · obtain ⟨X, hX, ec⟩ := fu_c tu hu pa dy g1 g4 g3 g5 g6 g7 hD (nI i) h8.1 x_told
        left
        rw [if_neg (show ¬ (10 : Int32) ≤ nI i from gL 10 hlt), bi_s ec, nI_1]
        refine ⟨hlt, (ftS (fun t => (fo n kd fg tn wd hr kn (nI t) hu pa dy x_told r)) (i + 1), nI (i + 1), GD n kd fg tn wd hr od (nI i) pa X), ?_, _, rfl, GD_z g3 g5 hX⟩
        show _ = some (Sum.inl ((if (fo n kd fg tn wd hr kn (nI i) hu pa dy x_told r) = -9 then ftS (fun t => (fo n kd fg tn wd hr kn (nI t) hu pa dy x_told r)) i ||| ((1 : Int32) <<< (nI i &&& 31)) else ftS (fun t => (fo n kd fg tn wd hr kn (nI t) hu pa dy x_told r)) i), nI (i + 1), GD n kd fg tn wd hr od (nI i) pa X))
        by_cases h : (fo n kd fg tn wd hr kn (nI i) hu pa dy x_told r) = -9
        · rw [if_pos h, if_pos h]; rfl
        · rw [if_neg h, if_neg h]; rfl
      · right
        have : i = 10 := by omega
        subst this
        rw [if_pos (show (10 : Int32) ≤ nI 10 from lL 10 (Nat.le_refl 10))]
        exact ⟨_, rfl, D, hD, rfl⟩) 1000 0 (0, 0, (d_callers, d_kinds, d_figures, d_tones, d_words, d_hours, d_order, d_known, d_tune, d_hurt, d_patience, d_day, d_answered, d_unanswered, d_said, d_times, d_last)) (Nat.zero_le _) (by omega) ⟨(d_callers, d_kinds, d_figures, d_tones, d_words, d_hours, d_order, d_known, d_tune, d_hurt, d_patience, d_day, d_answered, d_unanswered, d_said, d_times, d_last), rfl, ⟨h2, h3⟩⟩
    exact ⟨D, hD, e⟩
  have hm : ∃ (t : Int32) (S' : SC), SOk m_kept S' ∧ lp (fun z : Int32 × Int32 × (Nat → Int32) × (Nat → Int32) × (Nat → Int32) × (Nat → Int32) × (Nat → Int32) × (Nat → Int32) × (Nat → Int32) × Int32 × Int32 × SC => f_X4_fits_L11 0 x_told (nI r) z.1 z.2.1 z.2.2.1 z.2.2.2.1 z.2.2.2.2.1 z.2.2.2.2.2.1 z.2.2.2.2.2.2.1 z.2.2.2.2.2.2.2.1 z.2.2.2.2.2.2.2.2.1 z.2.2.2.2.2.2.2.2.2.1 z.2.2.2.2.2.2.2.2.2.2.1 z.2.2.2.2.2.2.2.2.2.2.2.1 z.2.2.2.2.2.2.2.2.2.2.2.2.1 z.2.2.2.2.2.2.2.2.2.2.2.2.2.1 z.2.2.2.2.2.2.2.2.2.2.2.2.2.2.1 z.2.2.2.2.2.2.2.2.2.2.2.2.2.2.2.1 z.2.2.2.2.2.2.2.2.2.2.2.2.2.2.2.2.1 z.2.2.2.2.2.2.2.2.2.2.2.2.2.2.2.2.2.1 z.2.2.2.2.2.2.2.2.2.2.2.2.2.2.2.2.2.2.1 z.2.2.2.2.2.2.2.2.2.2.2.2.2.2.2.2.2.2.2.1 z.2.2.2.2.2.2.2.2.2.2.2.2.2.2.2.2.2.2.2.2.1 z.2.2.2.2.2.2.2.2.2.2.2.2.2.2.2.2.2.2.2.2.2) 1000 (0, 0, kn, st3 tu hu pa, kd, fg, tn, wd, hr, nI n, dy, (m_kept, m_isKeeping, m_cursor, m_answeredMany, m_lastWord, m_answered, m_unanswered, m_saidWords, m_isCalledAtSeven, m_isAnsweredAtSeven, m_seen)) = some (ftS (fun t => (fo n kd fg tn wd hr kn (nI t) hu pa dy x_told r)) 10, kn, st3 t hu pa, kd, fg, tn, wd, hr, nI n, dy, S') := by
    obtain ⟨b, e, t, S', hS', rfl⟩ := lp_hoare (f := (fun z : Int32 × Int32 × (Nat → Int32) × (Nat → Int32) × (Nat → Int32) × (Nat → Int32) × (Nat → Int32) × (Nat → Int32) × (Nat → Int32) × Int32 × Int32 × SC => f_X4_fits_L11 0 x_told (nI r) z.1 z.2.1 z.2.2.1 z.2.2.2.1 z.2.2.2.2.1 z.2.2.2.2.2.1 z.2.2.2.2.2.2.1 z.2.2.2.2.2.2.2.1 z.2.2.2.2.2.2.2.2.1 z.2.2.2.2.2.2.2.2.2.1 z.2.2.2.2.2.2.2.2.2.2.1 z.2.2.2.2.2.2.2.2.2.2.2.1 z.2.2.2.2.2.2.2.2.2.2.2.2.1 z.2.2.2.2.2.2.2.2.2.2.2.2.2.1 z.2.2.2.2.2.2.2.2.2.2.2.2.2.2.1 z.2.2.2.2.2.2.2.2.2.2.2.2.2.2.2.1 z.2.2.2.2.2.2.2.2.2.2.2.2.2.2.2.2.1 z.2.2.2.2.2.2.2.2.2.2.2.2.2.2.2.2.2.1 z.2.2.2.2.2.2.2.2.2.2.2.2.2.2.2.2.2.2.1 z.2.2.2.2.2.2.2.2.2.2.2.2.2.2.2.2.2.2.2.1 z.2.2.2.2.2.2.2.2.2.2.2.2.2.2.2.2.2.2.2.2.1 z.2.2.2.2.2.2.2.2.2.2.2.2.2.2.2.2.2.2.2.2.2)) (fun i a => ∃ (t : Int32) (S : SC), a = (ftS (fun t => (fo n kd fg tn wd hr kn (nI t) hu pa dy x_told r)) i, nI i, kn, st3 t hu pa, kd, fg, tn, wd, hr, nI n, dy, S) ∧ SOk m_kept S) (fun b => ∃ (t : Int32) (S' : SC), SOk m_kept S' ∧ b = (ftS (fun t => (fo n kd fg tn wd hr kn (nI t) hu pa dy x_told r)) 10, kn, st3 t hu pa, kd, fg, tn, wd, hr, nI n, dy, S')) 10 (by
      rintro i _ hi ⟨t, S, rfl, hS⟩
      dsimp only
      unfold f_X4_fits_L11 f_X4_fits_J39
      by_cases hlt : i < 10
      · left
        obtain ⟨S', hS', em'⟩ := fo_m (tu := nI i) pa dy g1 ⟨i, hlt, rfl⟩ g3 g6 g7 hS h8.1 x_told
        rw [if_neg (show ¬ (10 : Int32) ≤ nI i from gL 10 hlt), st3_u0, bi_s em', nI_1, or_z]
        refine ⟨hlt, (ftS (fun t => (fo n kd fg tn wd hr kn (nI t) hu pa dy x_told r)) (i + 1), nI (i + 1), kn, st3 (nI i) hu pa, kd, fg, tn, wd, hr, nI n, dy, S'), ?_, _, S', rfl, hS'⟩
        show _ = some (Sum.inl ((if (fo n kd fg tn wd hr kn (nI i) hu pa dy x_told r) = -9 then ftS (fun t => (fo n kd fg tn wd hr kn (nI t) hu pa dy x_told r)) i ||| ((1 : Int32) <<< (nI i &&& 31)) else ftS (fun t => (fo n kd fg tn wd hr kn (nI t) hu pa dy x_told r)) i), nI (i + 1), kn, st3 (nI i) hu pa, kd, fg, tn, wd, hr, nI n, dy, S'))
        dsimp only
        have hr12 := h8.1
        rcases sr_or (fun i_1 => decide (¬ x_told i_1 = m99 (smS (dI n kd fg tn wd hr (nI i) pa 127 i_1 (X0 kn hu dy)).1 8))) r 0 with h | ⟨j, -, hj, h⟩
        · have h : (fo n kd fg tn wd hr kn (nI i) hu pa dy x_told r) = -9 := h
          rw [h, if_pos rfl, if_neg (show ¬ (0 : Int32) ≤ -9 by decide)]
        · have h : (fo n kd fg tn wd hr kn (nI i) hu pa dy x_told r) = nI j := h
          rw [h, if_neg (show ¬ nI j = -9 from fun q => n9_ne (show j < 2147483648 by omega) q.symm), if_pos (show (0 : Int32) ≤ nI j from nI_pos' (by omega))]
      · right
        have : i = 10 := by omega
        subst this
        rw [if_pos (show (10 : Int32) ≤ nI 10 from lL 10 (Nat.le_refl 10))]
        exact ⟨_, rfl, t, S, hS, rfl⟩) 1000 0 (0, 0, kn, st3 tu hu pa, kd, fg, tn, wd, hr, nI n, dy, (m_kept, m_isKeeping, m_cursor, m_answeredMany, m_lastWord, m_answered, m_unanswered, m_saidWords, m_isCalledAtSeven, m_isAnsweredAtSeven, m_seen)) (Nat.zero_le _) (by omega) ⟨tu, (m_kept, m_isKeeping, m_cursor, m_answeredMany, m_lastWord, m_answered, m_unanswered, m_saidWords, m_isCalledAtSeven, m_isAnsweredAtSeven, m_seen), rfl, SOk.self m_kept _ _ _ _ _ _ _ _ _ _ h10⟩
    exact ⟨t, S', hS', e⟩
  obtain ⟨D, hD, ec⟩ := hc
  obtain ⟨t, S', hS', em'⟩ := hm
  unfold f_X3_fits f_X4_fits
  rw [bi_s ec, bi_s em']
  dsimp only
  rw [st3_0, st3_u0]
  exact ⟨_, _, rfl, rfl, rfl, mkRel h1' hD.1 hD.2 h4 h5 (RI.sameS h6 hS') h7 h8 h9 hS'.2⟩
set_option maxHeartbeats 4000000 in
set_option maxRecDepth 4000 in
theorem sim_worst {n len r : Nat} {x_imageTaken : Int32} {d_callers : Int32} {d_kinds : Nat → Int32} {d_figures : Nat → Int32} {d_tones : Nat → Int32} {d_words : Nat → Int32} {d_hours : Nat → Int32} {d_order : Nat → Int32} {d_known : Nat → Int32} {d_tune : Int32} {d_hurt : Int32} {d_patience : Int32} {d_day : Int32} {d_answered : Int32} {d_unanswered : Int32} {d_said : Int32} {d_times : Nat → Int32} {d_last : Nat → Int32} {n_answered : Int32} {n_unanswered : Int32} {n_said : Int32} {n_times : Nat → Int32} {n_last : Nat → Int32} {t_letters : Nat → Int32} {x_told : Nat → Int32} {x_refusals : Nat → Int32} {k_callers : Int32} {k_kinds : Nat → Int32} {k_figures : Nat → Int32} {k_tones : Nat → Int32} {k_words : Nat → Int32} {k_hours : Nat → Int32} {k_order : Nat → Int32} {k_known : Nat → Int32} {k_tune : Int32} {k_hurt : Int32} {k_patience : Int32} {k_day : Int32} {k_answered : Int32} {k_unanswered : Int32} {k_said : Int32} {k_times : Nat → Int32} {k_last : Nat → Int32} {kd : Nat → Int32} {fg : Nat → Int32} {tn : Nat → Int32} {wd : Nat → Int32} {hr : Nat → Int32} {od : Nat → Int32} {kn : Nat → Int32} {tu : Int32} {hu : Int32} {pa : Int32} {dy : Int32} {m_refused : Nat → Int32} {m_letter : Nat → Int32} {m_letterAt : Nat → Int32} {m_told : Nat → Int32} {m_at : Int32} {m_statements : Int32} {m_kept : Nat → Int32} {m_isKeeping : Int32} {m_cursor : Int32} {m_answeredMany : Nat → Int32} {m_lastWord : Nat → Int32} {m_answered : Int32} {m_unanswered : Int32} {m_saidWords : Int32} {m_isCalledAtSeven : Int32} {m_isAnsweredAtSeven : Int32} {m_seen : Nat → Int32} {m_weekAnswers : Int32} {m_weekHurt : Int32} {m_week : Nat → Int32} {m_oneHas : Nat → Int32} {m_otherHas : Nat → Int32} (h1 : RM n kd fg tn wd hr od kn tu hu) (h2 : GZ d_kinds d_figures d_tones d_words d_hours d_order d_known) (h3 : TZ d_times d_last) (h4 : TZ n_times n_last) (h5 : GZ k_kinds k_figures k_tones k_words k_hours k_order k_known) (h6 : RI x_imageTaken m_kept k_callers k_kinds k_figures k_tones k_words k_hours k_order k_known k_tune k_hurt k_patience k_day) (h7 : RT len t_letters) (h8 : RR r x_told) (h9 : RF x_refusals m_refused) (h10 : TZ m_answeredMany m_lastWord) (v1 : Int32) : ∃ o o', f_X3_worst d_callers d_kinds d_figures d_tones d_words d_hours d_order d_known d_tune d_hurt d_patience d_day d_answered d_unanswered d_said d_times d_last (nI n) kd fg tn wd hr od kn tu hu pa dy x_refusals v1 = some o ∧ f_X4_worst m_refused kn (st3 tu hu pa) kd fg tn wd hr (nI n) dy m_kept m_isKeeping m_cursor m_answeredMany m_lastWord 0 m_answered m_unanswered m_saidWords m_isCalledAtSeven m_isAnsweredAtSeven m_seen v1 = some o' ∧ o'.1 = o.1 ∧ Rel x_imageTaken (nI r) (o.2.1) (o.2.2.1) (o.2.2.2.1) (o.2.2.2.2.1) (o.2.2.2.2.2.1) (o.2.2.2.2.2.2.1) (o.2.2.2.2.2.2.2.1) (o.2.2.2.2.2.2.2.2.1) (o.2.2.2.2.2.2.2.2.2.1) (o.2.2.2.2.2.2.2.2.2.2.1) (o.2.2.2.2.2.2.2.2.2.2.2.1) (o.2.2.2.2.2.2.2.2.2.2.2.2.1) (o.2.2.2.2.2.2.2.2.2.2.2.2.2.1) (o.2.2.2.2.2.2.2.2.2.2.2.2.2.2.1) (o.2.2.2.2.2.2.2.2.2.2.2.2.2.2.2.1) (o.2.2.2.2.2.2.2.2.2.2.2.2.2.2.2.2.1) (o.2.2.2.2.2.2.2.2.2.2.2.2.2.2.2.2.2.1) (nI n) kd fg tn wd hr od kn tu hu pa dy n_answered n_unanswered n_said n_times n_last t_letters (nI len) x_told (o.2.2.2.2.2.2.2.2.2.2.2.2.2.2.2.2.2.2) k_callers k_kinds k_figures k_tones k_words k_hours k_order k_known k_tune k_hurt k_patience k_day k_answered k_unanswered k_said k_times k_last (o'.2.1) (o'.2.2.1) (o'.2.2.2.1) (o'.2.2.2.2.1) (o'.2.2.2.2.2.1) (o'.2.2.2.2.2.2.1) (o'.2.2.2.2.2.2.2.1) (o'.2.2.2.2.2.2.2.2.1) (o'.2.2.2.2.2.2.2.2.2.1) (o'.2.2.2.2.2.2.2.2.2.2.1) t_letters m_letter m_letterAt m_told (nI len) m_at m_statements (o'.2.2.2.2.2.2.2.2.2.2.2.1) x_imageTaken (o'.2.2.2.2.2.2.2.2.2.2.2.2.1) (o'.2.2.2.2.2.2.2.2.2.2.2.2.2.1) (o'.2.2.2.2.2.2.2.2.2.2.2.2.2.2.1) (o'.2.2.2.2.2.2.2.2.2.2.2.2.2.2.2.1) (o'.2.2.2.2.2.2.2.2.2.2.2.2.2.2.2.2.1) (o'.2.2.2.2.2.2.2.2.2.2.2.2.2.2.2.2.2.1) (o'.2.2.2.2.2.2.2.2.2.2.2.2.2.2.2.2.2.2.1) (o'.2.2.2.2.2.2.2.2.2.2.2.2.2.2.2.2.2.2.2.1) (o'.2.2.2.2.2.2.2.2.2.2.2.2.2.2.2.2.2.2.2.2.1) (o'.2.2.2.2.2.2.2.2.2.2.2.2.2.2.2.2.2.2.2.2.2.1) (o'.2.2.2.2.2.2.2.2.2.2.2.2.2.2.2.2.2.2.2.2.2.2) m_weekAnswers m_weekHurt m_week x_told (nI r) m_oneHas m_otherHas := by
  have hn7 := h1.1.1
  have h1' := h1
  obtain ⟨g1, g2, g3, g4, g5, g6, g7⟩ := h1

  have hv := ahead_or v1
  unfold f_X3_worst f_X4_worst
  rw [← ahead_eq]
  generalize hq : f_X3_aheadNo v1 = w at hv ⊢
  by_cases hw : w = 0
  · obtain ⟨k, hk, rfl⟩ := ahead_nat (hq.trans hw)
    have hbit : ∀ c, c < n → Bits n (f_X3_without ((1 : Int32) <<< (nI c &&& 31))) ((1 : Int32) <<< (nI c &&& 31)) := fun c hc => by
      rw [shl_1 ⟨c, by omega⟩]
      refine Bits.wo hn7 ?_
      have : 2 ^ c < 2 ^ 7 := Nat.pow_lt_pow_right (by omega) (by omega)
      exact this
    have hzi := fun who => dI_z (tu := tu) (pa := pa) (who := who) g1 (X0_z (hu := hu) (dy := dy) g6) g7 k
    have hc : ∀ D1 : GX, DZ D1 → ∃ D : GX, DZ D ∧ lp (fun z : Int32 × Int32 × Int32 × GX => f_X3_worst_L37 (nI k) (nI n) kd fg tn wd hr od kn tu hu pa dy z.1 z.2.1 z.2.2.1 z.2.2.2.1 z.2.2.2.2.1 z.2.2.2.2.2.1 z.2.2.2.2.2.2.1 z.2.2.2.2.2.2.2.1 z.2.2.2.2.2.2.2.2.1 z.2.2.2.2.2.2.2.2.2.1 z.2.2.2.2.2.2.2.2.2.2.1 z.2.2.2.2.2.2.2.2.2.2.2.1 z.2.2.2.2.2.2.2.2.2.2.2.2.1 z.2.2.2.2.2.2.2.2.2.2.2.2.2.1 z.2.2.2.2.2.2.2.2.2.2.2.2.2.2.1 z.2.2.2.2.2.2.2.2.2.2.2.2.2.2.2.1 z.2.2.2.2.2.2.2.2.2.2.2.2.2.2.2.2.1 z.2.2.2.2.2.2.2.2.2.2.2.2.2.2.2.2.2.1 z.2.2.2.2.2.2.2.2.2.2.2.2.2.2.2.2.2.2.1 z.2.2.2.2.2.2.2.2.2.2.2.2.2.2.2.2.2.2.2) 1000 ((dI n kd fg tn wd hr tu pa 127 k (X0 kn hu dy)).2.1, -9, 0, D1) = some ((lsS (dI n kd fg tn wd hr tu pa 127 k (X0 kn hu dy)).2.1 (fun c => (dI n kd fg tn wd hr tu pa (f_X3_without ((1 : Int32) <<< (nI c &&& 31))) k (X0 kn hu dy)).2.1) n).2, D) := by
      intro D1 hD1
      obtain ⟨b, e, D, hD, rfl⟩ := lp_hoare (f := (fun z : Int32 × Int32 × Int32 × GX => f_X3_worst_L37 (nI k) (nI n) kd fg tn wd hr od kn tu hu pa dy z.1 z.2.1 z.2.2.1 z.2.2.2.1 z.2.2.2.2.1 z.2.2.2.2.2.1 z.2.2.2.2.2.2.1 z.2.2.2.2.2.2.2.1 z.2.2.2.2.2.2.2.2.1 z.2.2.2.2.2.2.2.2.2.1 z.2.2.2.2.2.2.2.2.2.2.1 z.2.2.2.2.2.2.2.2.2.2.2.1 z.2.2.2.2.2.2.2.2.2.2.2.2.1 z.2.2.2.2.2.2.2.2.2.2.2.2.2.1 z.2.2.2.2.2.2.2.2.2.2.2.2.2.2.1 z.2.2.2.2.2.2.2.2.2.2.2.2.2.2.2.1 z.2.2.2.2.2.2.2.2.2.2.2.2.2.2.2.2.1 z.2.2.2.2.2.2.2.2.2.2.2.2.2.2.2.2.2.1 z.2.2.2.2.2.2.2.2.2.2.2.2.2.2.2.2.2.2.1 z.2.2.2.2.2.2.2.2.2.2.2.2.2.2.2.2.2.2.2)) (fun i a => ∃ D : GX, a = ((lsS (dI n kd fg tn wd hr tu pa 127 k (X0 kn hu dy)).2.1 (fun c => (dI n kd fg tn wd hr tu pa (f_X3_without ((1 : Int32) <<< (nI c &&& 31))) k (X0 kn hu dy)).2.1) i).1, (lsS (dI n kd fg tn wd hr tu pa 127 k (X0 kn hu dy)).2.1 (fun c => (dI n kd fg tn wd hr tu pa (f_X3_without ((1 : Int32) <<< (nI c &&& 31))) k (X0 kn hu dy)).2.1) i).2, nI i, D) ∧ DZ D) (fun b => ∃ D : GX, DZ D ∧ b = ((lsS (dI n kd fg tn wd hr tu pa 127 k (X0 kn hu dy)).2.1 (fun c => (dI n kd fg tn wd hr tu pa (f_X3_without ((1 : Int32) <<< (nI c &&& 31))) k (X0 kn hu dy)).2.1) n).2, D)) n (by
        rintro i _ hi ⟨D, rfl, hD⟩
        dsimp only
        unfold f_X3_worst_L37
        by_cases hlt : i < n
        · left
          rw [if_neg (nI_ge hlt (by omega)), bi_s (look_D tu hu pa dy g1 g4 g3 g5 g6 hD _ (show k < 900 by omega)), nI_1]
          refine ⟨hlt, ((lsS (dI n kd fg tn wd hr tu pa 127 k (X0 kn hu dy)).2.1 (fun c => (dI n kd fg tn wd hr tu pa (f_X3_without ((1 : Int32) <<< (nI c &&& 31))) k (X0 kn hu dy)).2.1) (i + 1)).1, (lsS (dI n kd fg tn wd hr tu pa 127 k (X0 kn hu dy)).2.1 (fun c => (dI n kd fg tn wd hr tu pa (f_X3_without ((1 : Int32) <<< (nI c &&& 31))) k (X0 kn hu dy)).2.1) (i + 1)).2, nI (i + 1), GD n kd fg tn wd hr od tu pa (dI n kd fg tn wd hr tu pa (f_X3_without ((1 : Int32) <<< (nI i &&& 31))) k (X0 kn hu dy))), ?_, _, rfl, GD_z g3 g5 (hzi _).1⟩
          show (if (lsS (dI n kd fg tn wd hr tu pa 127 k (X0 kn hu dy)).2.1 (fun c => (dI n kd fg tn wd hr tu pa (f_X3_without ((1 : Int32) <<< (nI c &&& 31))) k (X0 kn hu dy)).2.1) i).1 ≤ (fun c => (dI n kd fg tn wd hr tu pa (f_X3_without ((1 : Int32) <<< (nI c &&& 31))) k (X0 kn hu dy)).2.1) i then _ else _) = some (Sum.inl ((if (lsS (dI n kd fg tn wd hr tu pa 127 k (X0 kn hu dy)).2.1 (fun c => (dI n kd fg tn wd hr tu pa (f_X3_without ((1 : Int32) <<< (nI c &&& 31))) k (X0 kn hu dy)).2.1) i).1 ≤ (fun c => (dI n kd fg tn wd hr tu pa (f_X3_without ((1 : Int32) <<< (nI c &&& 31))) k (X0 kn hu dy)).2.1) i then lsS (dI n kd fg tn wd hr tu pa 127 k (X0 kn hu dy)).2.1 (fun c => (dI n kd fg tn wd hr tu pa (f_X3_without ((1 : Int32) <<< (nI c &&& 31))) k (X0 kn hu dy)).2.1) i else ((fun c => (dI n kd fg tn wd hr tu pa (f_X3_without ((1 : Int32) <<< (nI c &&& 31))) k (X0 kn hu dy)).2.1) i, nI i)).1, (if (lsS (dI n kd fg tn wd hr tu pa 127 k (X0 kn hu dy)).2.1 (fun c => (dI n kd fg tn wd hr tu pa (f_X3_without ((1 : Int32) <<< (nI c &&& 31))) k (X0 kn hu dy)).2.1) i).1 ≤ (fun c => (dI n kd fg tn wd hr tu pa (f_X3_without ((1 : Int32) <<< (nI c &&& 31))) k (X0 kn hu dy)).2.1) i then lsS (dI n kd fg tn wd hr tu pa 127 k (X0 kn hu dy)).2.1 (fun c => (dI n kd fg tn wd hr tu pa (f_X3_without ((1 : Int32) <<< (nI c &&& 31))) k (X0 kn hu dy)).2.1) i else ((fun c => (dI n kd fg tn wd hr tu pa (f_X3_without ((1 : Int32) <<< (nI c &&& 31))) k (X0 kn hu dy)).2.1) i, nI i)).2, nI (i + 1), _))
          by_cases h : (lsS (dI n kd fg tn wd hr tu pa 127 k (X0 kn hu dy)).2.1 (fun c => (dI n kd fg tn wd hr tu pa (f_X3_without ((1 : Int32) <<< (nI c &&& 31))) k (X0 kn hu dy)).2.1) i).1 ≤ (fun c => (dI n kd fg tn wd hr tu pa (f_X3_without ((1 : Int32) <<< (nI c &&& 31))) k (X0 kn hu dy)).2.1) i
          · rw [if_pos h, if_pos h]
          · rw [if_neg h, if_neg h]; rfl
        · right
          have : i = n := by omega
          subst this
          rw [if_pos (nI_le (Nat.le_refl i) (by omega))]
          exact ⟨_, rfl, D, hD, rfl⟩) 1000 0 ((dI n kd fg tn wd hr tu pa 127 k (X0 kn hu dy)).2.1, -9, 0, D1) (Nat.zero_le _) (by omega) ⟨D1, rfl, hD1⟩
      exact ⟨D, hD, e⟩
    have hwo : ∀ aw who, Bits n who aw → ∀ S : SC, SOk m_kept S → ∃ S' : SC, SOk m_kept S' ∧ f_X4_hurtWithout kn (st3 tu hu pa) kd fg tn wd hr (nI n) dy S.1 S.2.2.2.1 S.2.2.2.2.1 S.2.2.2.2.2.2.2.2.1 S.2.2.2.2.2.2.2.2.2.1 S.2.2.2.2.2.2.2.2.2.2 aw (nI k) = some ((dI n kd fg tn wd hr tu pa who k (X0 kn hu dy)).2.1, kn, st3 tu hu pa, kd, fg, tn, wd, hr, nI n, dy, S'.1, S'.2.1, S'.2.2.1, S'.2.2.2.1, S'.2.2.2.2.1, 0, S'.2.2.2.2.2.1, S'.2.2.2.2.2.2.1, S'.2.2.2.2.2.2.2.1, S'.2.2.2.2.2.2.2.2.1, S'.2.2.2.2.2.2.2.2.2.1, S'.2.2.2.2.2.2.2.2.2.2) := by
      intro aw who hB S hS
      obtain ⟨S', es, hS', hX1, hX2, hX3, hX4, hX5, hX6⟩ := thinks_S (S := S) (pa := pa) g1 g2 g3 (hB) g6 g7 dy hS (show k < 900 by omega)
      refine ⟨S', hS', ?_⟩
      unfold f_X4_hurtWithout
      rw [bi_s es]
      dsimp only
      rw [show S'.2.2.2.2.2.2.2.2.2.2 (0 : Int32).toNatClampNeg = (dI n kd fg tn wd hr tu pa who k (X0 kn hu dy)).2.1 by rw [hX6]; exact sn_0 _ _]
    have hm : ∀ S1 : SC, SOk m_kept S1 → ∃ S' : SC, SOk m_kept S' ∧ lp (fun z : Int32 × Int32 × Int32 × (Nat → Int32) × (Nat → Int32) × (Nat → Int32) × (Nat → Int32) × (Nat → Int32) × (Nat → Int32) × (Nat → Int32) × Int32 × Int32 × (Nat → Int32) × Int32 × Int32 × (Nat → Int32) × (Nat → Int32) × Int32 × Int32 × Int32 × Int32 × Int32 × Int32 × (Nat → Int32) => f_X4_worst_L29 (nI k) z.1 z.2.1 z.2.2.1 z.2.2.2.1 z.2.2.2.2.1 z.2.2.2.2.2.1 z.2.2.2.2.2.2.1 z.2.2.2.2.2.2.2.1 z.2.2.2.2.2.2.2.2.1 z.2.2.2.2.2.2.2.2.2.1 z.2.2.2.2.2.2.2.2.2.2.1 z.2.2.2.2.2.2.2.2.2.2.2.1 z.2.2.2.2.2.2.2.2.2.2.2.2.1 z.2.2.2.2.2.2.2.2.2.2.2.2.2.1 z.2.2.2.2.2.2.2.2.2.2.2.2.2.2.1 z.2.2.2.2.2.2.2.2.2.2.2.2.2.2.2.1 z.2.2.2.2.2.2.2.2.2.2.2.2.2.2.2.2.1 z.2.2.2.2.2.2.2.2.2.2.2.2.2.2.2.2.2.1 z.2.2.2.2.2.2.2.2.2.2.2.2.2.2.2.2.2.2.1 z.2.2.2.2.2.2.2.2.2.2.2.2.2.2.2.2.2.2.2.1 z.2.2.2.2.2.2.2.2.2.2.2.2.2.2.2.2.2.2.2.2.1 z.2.2.2.2.2.2.2.2.2.2.2.2.2.2.2.2.2.2.2.2.2.1 z.2.2.2.2.2.2.2.2.2.2.2.2.2.2.2.2.2.2.2.2.2.2.1 z.2.2.2.2.2.2.2.2.2.2.2.2.2.2.2.2.2.2.2.2.2.2.2) 1000 ((dI n kd fg tn wd hr tu pa 127 k (X0 kn hu dy)).2.1, -9, 0, kn, st3 tu hu pa, kd, fg, tn, wd, hr, nI n, dy, S1.1, S1.2.1, S1.2.2.1, S1.2.2.2.1, S1.2.2.2.2.1, 0, S1.2.2.2.2.2.1, S1.2.2.2.2.2.2.1, S1.2.2.2.2.2.2.2.1, S1.2.2.2.2.2.2.2.2.1, S1.2.2.2.2.2.2.2.2.2.1, S1.2.2.2.2.2.2.2.2.2.2) = some ((lsS (dI n kd fg tn wd hr tu pa 127 k (X0 kn hu dy)).2.1 (fun c => (dI n kd fg tn wd hr tu pa (f_X3_without ((1 : Int32) <<< (nI c &&& 31))) k (X0 kn hu dy)).2.1) n).2, kn, st3 tu hu pa, kd, fg, tn, wd, hr, nI n, dy, S'.1, S'.2.1, S'.2.2.1, S'.2.2.2.1, S'.2.2.2.2.1, 0, S'.2.2.2.2.2.1, S'.2.2.2.2.2.2.1, S'.2.2.2.2.2.2.2.1, S'.2.2.2.2.2.2.2.2.1, S'.2.2.2.2.2.2.2.2.2.1, S'.2.2.2.2.2.2.2.2.2.2) := by
      intro S1 hS1
      obtain ⟨b, e, S', hS', rfl⟩ := lp_hoare (f := (fun z : Int32 × Int32 × Int32 × (Nat → Int32) × (Nat → Int32) × (Nat → Int32) × (Nat → Int32) × (Nat → Int32) × (Nat → Int32) × (Nat → Int32) × Int32 × Int32 × (Nat → Int32) × Int32 × Int32 × (Nat → Int32) × (Nat → Int32) × Int32 × Int32 × Int32 × Int32 × Int32 × Int32 × (Nat → Int32) => f_X4_worst_L29 (nI k) z.1 z.2.1 z.2.2.1 z.2.2.2.1 z.2.2.2.2.1 z.2.2.2.2.2.1 z.2.2.2.2.2.2.1 z.2.2.2.2.2.2.2.1 z.2.2.2.2.2.2.2.2.1 z.2.2.2.2.2.2.2.2.2.1 z.2.2.2.2.2.2.2.2.2.2.1 z.2.2.2.2.2.2.2.2.2.2.2.1 z.2.2.2.2.2.2.2.2.2.2.2.2.1 z.2.2.2.2.2.2.2.2.2.2.2.2.2.1 z.2.2.2.2.2.2.2.2.2.2.2.2.2.2.1 z.2.2.2.2.2.2.2.2.2.2.2.2.2.2.2.1 z.2.2.2.2.2.2.2.2.2.2.2.2.2.2.2.2.1 z.2.2.2.2.2.2.2.2.2.2.2.2.2.2.2.2.2.1 z.2.2.2.2.2.2.2.2.2.2.2.2.2.2.2.2.2.2.1 z.2.2.2.2.2.2.2.2.2.2.2.2.2.2.2.2.2.2.2.1 z.2.2.2.2.2.2.2.2.2.2.2.2.2.2.2.2.2.2.2.2.1 z.2.2.2.2.2.2.2.2.2.2.2.2.2.2.2.2.2.2.2.2.2.1 z.2.2.2.2.2.2.2.2.2.2.2.2.2.2.2.2.2.2.2.2.2.2.1 z.2.2.2.2.2.2.2.2.2.2.2.2.2.2.2.2.2.2.2.2.2.2.2)) (fun i a => ∃ S : SC, a = ((lsS (dI n kd fg tn wd hr tu pa 127 k (X0 kn hu dy)).2.1 (fun c => (dI n kd fg tn wd hr tu pa (f_X3_without ((1 : Int32) <<< (nI c &&& 31))) k (X0 kn hu dy)).2.1) i).1, (lsS (dI n kd fg tn wd hr tu pa 127 k (X0 kn hu dy)).2.1 (fun c => (dI n kd fg tn wd hr tu pa (f_X3_without ((1 : Int32) <<< (nI c &&& 31))) k (X0 kn hu dy)).2.1) i).2, nI i, kn, st3 tu hu pa, kd, fg, tn, wd, hr, nI n, dy, S.1, S.2.1, S.2.2.1, S.2.2.2.1, S.2.2.2.2.1, 0, S.2.2.2.2.2.1, S.2.2.2.2.2.2.1, S.2.2.2.2.2.2.2.1, S.2.2.2.2.2.2.2.2.1, S.2.2.2.2.2.2.2.2.2.1, S.2.2.2.2.2.2.2.2.2.2) ∧ SOk m_kept S) (fun b => ∃ S' : SC, SOk m_kept S' ∧ b = ((lsS (dI n kd fg tn wd hr tu pa 127 k (X0 kn hu dy)).2.1 (fun c => (dI n kd fg tn wd hr tu pa (f_X3_without ((1 : Int32) <<< (nI c &&& 31))) k (X0 kn hu dy)).2.1) n).2, kn, st3 tu hu pa, kd, fg, tn, wd, hr, nI n, dy, S'.1, S'.2.1, S'.2.2.1, S'.2.2.2.1, S'.2.2.2.2.1, 0, S'.2.2.2.2.2.1, S'.2.2.2.2.2.2.1, S'.2.2.2.2.2.2.2.1, S'.2.2.2.2.2.2.2.2.1, S'.2.2.2.2.2.2.2.2.2.1, S'.2.2.2.2.2.2.2.2.2.2)) n (by
        rintro i _ hi ⟨S, rfl, hS⟩
        dsimp only
        unfold f_X4_worst_L29
        by_cases hlt : i < n
        · left
          obtain ⟨S', hS', es⟩ := hwo _ _ (hbit i hlt) S hS
          rw [if_neg (nI_ge hlt (by omega)), bi_s es, nI_1]
          refine ⟨hlt, ((lsS (dI n kd fg tn wd hr tu pa 127 k (X0 kn hu dy)).2.1 (fun c => (dI n kd fg tn wd hr tu pa (f_X3_without ((1 : Int32) <<< (nI c &&& 31))) k (X0 kn hu dy)).2.1) (i + 1)).1, (lsS (dI n kd fg tn wd hr tu pa 127 k (X0 kn hu dy)).2.1 (fun c => (dI n kd fg tn wd hr tu pa (f_X3_without ((1 : Int32) <<< (nI c &&& 31))) k (X0 kn hu dy)).2.1) (i + 1)).2, nI (i + 1), kn, st3 tu hu pa, kd, fg, tn, wd, hr, nI n, dy, S'.1, S'.2.1, S'.2.2.1, S'.2.2.2.1, S'.2.2.2.2.1, 0, S'.2.2.2.2.2.1, S'.2.2.2.2.2.2.1, S'.2.2.2.2.2.2.2.1, S'.2.2.2.2.2.2.2.2.1, S'.2.2.2.2.2.2.2.2.2.1, S'.2.2.2.2.2.2.2.2.2.2), ?_, S', rfl, hS'⟩
          show (if (fun c => (dI n kd fg tn wd hr tu pa (f_X3_without ((1 : Int32) <<< (nI c &&& 31))) k (X0 kn hu dy)).2.1) i < (lsS (dI n kd fg tn wd hr tu pa 127 k (X0 kn hu dy)).2.1 (fun c => (dI n kd fg tn wd hr tu pa (f_X3_without ((1 : Int32) <<< (nI c &&& 31))) k (X0 kn hu dy)).2.1) i).1 then _ else _) = some (Sum.inl ((if (lsS (dI n kd fg tn wd hr tu pa 127 k (X0 kn hu dy)).2.1 (fun c => (dI n kd fg tn wd hr tu pa (f_X3_without ((1 : Int32) <<< (nI c &&& 31))) k (X0 kn hu dy)).2.1) i).1 ≤ (fun c => (dI n kd fg tn wd hr tu pa (f_X3_without ((1 : Int32) <<< (nI c &&& 31))) k (X0 kn hu dy)).2.1) i then lsS (dI n kd fg tn wd hr tu pa 127 k (X0 kn hu dy)).2.1 (fun c => (dI n kd fg tn wd hr tu pa (f_X3_without ((1 : Int32) <<< (nI c &&& 31))) k (X0 kn hu dy)).2.1) i else ((fun c => (dI n kd fg tn wd hr tu pa (f_X3_without ((1 : Int32) <<< (nI c &&& 31))) k (X0 kn hu dy)).2.1) i, nI i)).1, (if (lsS (dI n kd fg tn wd hr tu pa 127 k (X0 kn hu dy)).2.1 (fun c => (dI n kd fg tn wd hr tu pa (f_X3_without ((1 : Int32) <<< (nI c &&& 31))) k (X0 kn hu dy)).2.1) i).1 ≤ (fun c => (dI n kd fg tn wd hr tu pa (f_X3_without ((1 : Int32) <<< (nI c &&& 31))) k (X0 kn hu dy)).2.1) i then lsS (dI n kd fg tn wd hr tu pa 127 k (X0 kn hu dy)).2.1 (fun c => (dI n kd fg tn wd hr tu pa (f_X3_without ((1 : Int32) <<< (nI c &&& 31))) k (X0 kn hu dy)).2.1) i else ((fun c => (dI n kd fg tn wd hr tu pa (f_X3_without ((1 : Int32) <<< (nI c &&& 31))) k (X0 kn hu dy)).2.1) i, nI i)).2, nI (i + 1), kn, st3 tu hu pa, kd, fg, tn, wd, hr, nI n, dy, S'.1, S'.2.1, S'.2.2.1, S'.2.2.2.1, S'.2.2.2.2.1, 0, S'.2.2.2.2.2.1, S'.2.2.2.2.2.2.1, S'.2.2.2.2.2.2.2.1, S'.2.2.2.2.2.2.2.2.1, S'.2.2.2.2.2.2.2.2.2.1, S'.2.2.2.2.2.2.2.2.2.2))
          by_cases h : (lsS (dI n kd fg tn wd hr tu pa 127 k (X0 kn hu dy)).2.1 (fun c => (dI n kd fg tn wd hr tu pa (f_X3_without ((1 : Int32) <<< (nI c &&& 31))) k (X0 kn hu dy)).2.1) i).1 ≤ (fun c => (dI n kd fg tn wd hr tu pa (f_X3_without ((1 : Int32) <<< (nI c &&& 31))) k (X0 kn hu dy)).2.1) i
          · rw [if_pos h, if_neg (Int32.not_lt.mpr h)]
          · rw [if_neg h, if_pos (Int32.not_le.mp h)]
        · right
          have : i = n := by omega
          subst this
          rw [if_pos (nI_le (Nat.le_refl i) (by omega))]
          exact ⟨_, rfl, S, hS, rfl⟩) 1000 0 ((dI n kd fg tn wd hr tu pa 127 k (X0 kn hu dy)).2.1, -9, 0, kn, st3 tu hu pa, kd, fg, tn, wd, hr, nI n, dy, S1.1, S1.2.1, S1.2.2.1, S1.2.2.2.1, S1.2.2.2.2.1, 0, S1.2.2.2.2.2.1, S1.2.2.2.2.2.2.1, S1.2.2.2.2.2.2.2.1, S1.2.2.2.2.2.2.2.2.1, S1.2.2.2.2.2.2.2.2.2.1, S1.2.2.2.2.2.2.2.2.2.2) (Nat.zero_le _) (by omega) ⟨S1, rfl, hS1⟩
      exact ⟨S', hS', e⟩
    obtain ⟨S1, hS1, es1⟩ := hwo 0 127 (Bits.all hn7) (m_kept, m_isKeeping, m_cursor, m_answeredMany, m_lastWord, m_answered, m_unanswered, m_saidWords, m_isCalledAtSeven, m_isAnsweredAtSeven, m_seen) (SOk.self m_kept _ _ _ _ _ _ _ _ _ _ h10)
    obtain ⟨S', hS', em'⟩ := hm S1 hS1
    obtain ⟨D, hD, ec⟩ := hc (nI n, kd, fg, tn, wd, hr, od, (dI n kd fg tn wd hr tu pa 127 k (X0 kn hu dy)).1, tu, (dI n kd fg tn wd hr tu pa 127 k (X0 kn hu dy)).2.1, pa, (dI n kd fg tn wd hr tu pa 127 k (X0 kn hu dy)).2.2.1, (dI n kd fg tn wd hr tu pa 127 k (X0 kn hu dy)).2.2.2.1, (dI n kd fg tn wd hr tu pa 127 k (X0 kn hu dy)).2.2.2.2.1, (dI n kd fg tn wd hr tu pa 127 k (X0 kn hu dy)).2.2.2.2.2.1, (dI n kd fg tn wd hr tu pa 127 k (X0 kn hu dy)).2.2.2.2.2.2.1, (dI n kd fg tn wd hr tu pa 127 k (X0 kn hu dy)).2.2.2.2.2.2.2) (GD_z g3 g5 (hzi 127).1)
    rw [if_pos hw, if_pos hw, bi_s (look_c tu hu pa dy g1 g4 h2.1 h2.2.1 h2.2.2 h3.1 h3.2 g3 g5 g6 127 (show k < 900 by omega)), bi_s es1]
    dsimp only
    rw [bi_s ec, bi_s em']
    exact ⟨_, _, rfl, rfl, rfl, mkRel h1' hD.1 hD.2 h4 h5 (RI.sameS h6 hS') h7 h8 h9 hS'.2⟩
  · obtain ⟨fm, e, hf⟩ := ref_ok h9 (hv.resolve_left hw)
    rw [if_neg hw, if_neg hw, bi_s e]
    exact ⟨_, _, rfl, rfl, rfl, mkRel h1' h2 h3 h4 h5 h6 h7 h8 hf h10⟩
