def sdN (s : Int32) : Int32 := s * 1664525 + 1013904223
def drw (s : Int32) : Int32 := (s &&& 2147483647) / 256 - (s &&& 2147483647) / 256 / 10 * 10
theorem drw_in (s : Int32) : ∃ t, t < 10 ∧ drw s = nI t := by
  obtain ⟨j, hj, e⟩ := pk_andE s (m := 2147483647) 31 (by decide)
  unfold drw
  rw [e, show nI j / 256 = nI (j / 256) from pk_div (d := 256) hj (by omega) (by omega)]
  exact ⟨j / 256 % 10, by omega, pk_rem (d := 10) (by omega) (by omega) (by omega)⟩
def drS (t0 : Nat → Int32) (z : Int32) : Nat → Int32 × (Nat → Int32)
  | 0 => (z, t0)
  | c + 1 => (sdN (drS t0 z c).1, upd (drS t0 z c).2 c (drw (sdN (drS t0 z c).1)))
theorem drS_1 (t0 t1 : Nat → Int32) (z : Int32) : ∀ c, (drS t0 z c).1 = (drS t1 z c).1
  | 0 => rfl
  | c + 1 => by unfold drS; rw [drS_1 t0 t1 z c]
theorem drS_out (t0 : Nat → Int32) (z : Int32) : ∀ c i, c ≤ i → (drS t0 z c).2 i = t0 i
  | 0, _, _ => rfl
  | c + 1, i, h => by
    unfold drS
    rw [show (sdN (drS t0 z c).1, upd (drS t0 z c).2 c (drw (sdN (drS t0 z c).1))).2 i = upd (drS t0 z c).2 c (drw (sdN (drS t0 z c).1)) i from rfl, pk_un (by omega)]
    exact drS_out t0 z c i (by omega)
theorem drS_in (t0 t1 : Nat → Int32) (z : Int32) : ∀ c i, i < c → (drS t0 z c).2 i = (drS t1 z c).2 i ∧ ∃ t, t < 10 ∧ (drS t0 z c).2 i = nI t
  | 0, _, h => absurd h (by omega)
  | c + 1, i, h => by
    unfold drS
    show upd (drS t0 z c).2 c (drw (sdN (drS t0 z c).1)) i = upd (drS t1 z c).2 c (drw (sdN (drS t1 z c).1)) i ∧ ∃ t, t < 10 ∧ upd (drS t0 z c).2 c (drw (sdN (drS t0 z c).1)) i = nI t
    by_cases e : i = c
    · subst e
      rw [pk_us, pk_us, drS_1 t0 t1 z i]
      exact ⟨rfl, drw_in _⟩
    · rw [pk_un e, pk_un e]
      exact drS_in t0 t1 z c i (by omega)
theorem drS_eq {t0 t1 : Nat → Int32} {n : Nat} (h : ∀ i, n ≤ i → t0 i = t1 i) (z : Int32) : drS t0 z n = drS t1 z n := by
  refine Prod.ext (drS_1 t0 t1 z n) (funext fun i => ?_)
  by_cases hi : i < n
  · exact (drS_in t0 t1 z n i hi).1
  · rw [drS_out t0 z n i (by omega), drS_out t1 z n i (by omega), h i (by omega)]
theorem OkF.tones {n : Nat} {kd fg tn wd hr : Nat → Int32} (hF : OkF n kd fg tn wd hr) (z : Int32) : OkF n kd fg (drS tn z n).2 wd hr := ⟨hF.1, fun c hc => by
  obtain ⟨k, f, t, w, h, q1, q2, q3, q4, q5, q6, q7, q8, q9, q10⟩ := hF.2 c hc
  obtain ⟨-, t', ht, e⟩ := drS_in tn tn z n c hc
  exact ⟨k, f, t', w, h, q1, q2, ht, q4, q5, q6, q7, e, q9, q10⟩⟩
theorem drS_z {t0 : Nat → Int32} {n : Nat} (hn : n ≤ 7) (h : Zr 7 t0) (z : Int32) : Zr 7 (drS t0 z n).2 := fun i hi => by
  rw [drS_out t0 z n i (by omega)]; exact h i hi
theorem drw_c (t0 : Nat → Int32) {n : Nat} (hn : n ≤ 7) (z : Int32) : lp (fun z : Int32 × Int32 × (Nat → Int32) => f_X3_lots_L54 (nI n) z.1 z.2.1 z.2.2) 1000 (z, 0, t0) = some (drS t0 z n) := by
  refine lp_for (fun c => ((drS t0 z c).1, nI c, (drS t0 z c).2)) n ?_ ?_ (by omega) (by rfl)
  · intro c hc
    dsimp only
    unfold f_X3_lots_L54
    rw [if_neg (nI_ge hc (by omega)), put_n (show c < 7 by omega), nI_1]
    rfl
  · dsimp only
    unfold f_X3_lots_L54
    rw [if_pos (nI_le (Nat.le_refl n) (by omega))]
theorem drw_m (t0 : Nat → Int32) {n : Nat} (hn : n ≤ 7) (z : Int32) : lp (fun z : Int32 × Int32 × (Nat → Int32) => f_X4_lots_L66 (nI n) z.1 z.2.1 z.2.2) 1000 (z, 0, t0) = some (drS t0 z n) := by
  refine lp_for (fun c => ((drS t0 z c).1, nI c, (drS t0 z c).2)) n ?_ ?_ (by omega) (by rfl)
  · intro c hc
    dsimp only
    unfold f_X4_lots_L66
    rw [if_neg (nI_ge hc (by omega)), gu_t (inB_n (show c < 7 by omega)), cl_n (by omega), nI_1]
    rfl
  · dsimp only
    unfold f_X4_lots_L66
    rw [if_pos (nI_le (Nat.le_refl n) (by omega))]
def ltS (n : Nat) (kd fg tn wd hr kn : Nat → Int32) (tu hu pa dy z : Int32) : Nat → Int32 × Int32 × Int32
  | 0 => (z, 0, 0)
  | l + 1 => ((drS tn (ltS n kd fg tn wd hr kn tu hu pa dy z l).1 n).1, (ltS n kd fg tn wd hr kn tu hu pa dy z l).2.1 + (dI n kd fg (drS tn (ltS n kd fg tn wd hr kn tu hu pa dy z l).1 n).2 wd hr tu pa 127 5 (X0 kn hu dy)).2.2.2.1, (ltS n kd fg tn wd hr kn tu hu pa dy z l).2.2 + (dI n kd fg (drS tn (ltS n kd fg tn wd hr kn tu hu pa dy z l).1 n).2 wd hr tu pa 127 5 (X0 kn hu dy)).2.1)
set_option maxHeartbeats 4000000 in
set_option maxRecDepth 4000 in
theorem sim_lots {n len r : Nat} {x_imageTaken : Int32} {d_callers : Int32} {d_kinds : Nat → Int32} {d_figures : Nat → Int32} {d_tones : Nat → Int32} {d_words : Nat → Int32} {d_hours : Nat → Int32} {d_order : Nat → Int32} {d_known : Nat → Int32} {d_tune : Int32} {d_hurt : Int32} {d_patience : Int32} {d_day : Int32} {d_answered : Int32} {d_unanswered : Int32} {d_said : Int32} {d_times : Nat → Int32} {d_last : Nat → Int32} {n_answered : Int32} {n_unanswered : Int32} {n_said : Int32} {n_times : Nat → Int32} {n_last : Nat → Int32} {t_letters : Nat → Int32} {x_told : Nat → Int32} {x_refusals : Nat → Int32} {k_callers : Int32} {k_kinds : Nat → Int32} {k_figures : Nat → Int32} {k_tones : Nat → Int32} {k_words : Nat → Int32} {k_hours : Nat → Int32} {k_order : Nat → Int32} {k_known : Nat → Int32} {k_tune : Int32} {k_hurt : Int32} {k_patience : Int32} {k_day : Int32} {k_answered : Int32} {k_unanswered : Int32} {k_said : Int32} {k_times : Nat → Int32} {k_last : Nat → Int32} {kd : Nat → Int32} {fg : Nat → Int32} {tn : Nat → Int32} {wd : Nat → Int32} {hr : Nat → Int32} {od : Nat → Int32} {kn : Nat → Int32} {tu : Int32} {hu : Int32} {pa : Int32} {dy : Int32} {m_refused : Nat → Int32} {m_letter : Nat → Int32} {m_letterAt : Nat → Int32} {m_told : Nat → Int32} {m_at : Int32} {m_statements : Int32} {m_kept : Nat → Int32} {m_isKeeping : Int32} {m_cursor : Int32} {m_answeredMany : Nat → Int32} {m_lastWord : Nat → Int32} {m_answered : Int32} {m_unanswered : Int32} {m_saidWords : Int32} {m_isCalledAtSeven : Int32} {m_isAnsweredAtSeven : Int32} {m_seen : Nat → Int32} {m_weekAnswers : Int32} {m_weekHurt : Int32} {m_week : Nat → Int32} {m_oneHas : Nat → Int32} {m_otherHas : Nat → Int32} (h1 : RM n kd fg tn wd hr od kn tu hu) (h2 : GZ d_kinds d_figures d_tones d_words d_hours d_order d_known) (h3 : TZ d_times d_last) (h4 : TZ n_times n_last) (h5 : GZ k_kinds k_figures k_tones k_words k_hours k_order k_known) (h6 : RI x_imageTaken m_kept k_callers k_kinds k_figures k_tones k_words k_hours k_order k_known k_tune k_hurt k_patience k_day) (h7 : RT len t_letters) (h8 : RR r x_told) (h9 : RF x_refusals m_refused) (h10 : TZ m_answeredMany m_lastWord) (v1 : Int32) (v2 : Int32) (v3 : Int32) : ∃ o o', f_X3_lots d_callers d_kinds d_figures d_tones d_words d_hours d_order d_known d_tune d_hurt d_patience d_day d_answered d_unanswered d_said d_times d_last (nI n) kd fg tn wd hr od kn tu hu pa dy x_refusals v1 v2 v3 = some o ∧ f_X4_lots m_refused kn (st3 tu hu pa) kd fg tn wd hr (nI n) dy m_kept m_isKeeping m_cursor m_answeredMany m_lastWord 0 m_answered m_unanswered m_saidWords m_isCalledAtSeven m_isAnsweredAtSeven m_seen v1 v2 v3 = some o' ∧ o'.1 = o.1 ∧ Rel x_imageTaken (nI r) (o.2.1) (o.2.2.1) (o.2.2.2.1) (o.2.2.2.2.1) (o.2.2.2.2.2.1) (o.2.2.2.2.2.2.1) (o.2.2.2.2.2.2.2.1) (o.2.2.2.2.2.2.2.2.1) (o.2.2.2.2.2.2.2.2.2.1) (o.2.2.2.2.2.2.2.2.2.2.1) (o.2.2.2.2.2.2.2.2.2.2.2.1) (o.2.2.2.2.2.2.2.2.2.2.2.2.1) (o.2.2.2.2.2.2.2.2.2.2.2.2.2.1) (o.2.2.2.2.2.2.2.2.2.2.2.2.2.2.1) (o.2.2.2.2.2.2.2.2.2.2.2.2.2.2.2.1) (o.2.2.2.2.2.2.2.2.2.2.2.2.2.2.2.2.1) (o.2.2.2.2.2.2.2.2.2.2.2.2.2.2.2.2.2.1) (nI n) kd fg tn wd hr od kn tu hu pa dy n_answered n_unanswered n_said n_times n_last t_letters (nI len) x_told (o.2.2.2.2.2.2.2.2.2.2.2.2.2.2.2.2.2.2) k_callers k_kinds k_figures k_tones k_words k_hours k_order k_known k_tune k_hurt k_patience k_day k_answered k_unanswered k_said k_times k_last (o'.2.1) (o'.2.2.1) (o'.2.2.2.1) (o'.2.2.2.2.1) (o'.2.2.2.2.2.1) (o'.2.2.2.2.2.2.1) (o'.2.2.2.2.2.2.2.1) (o'.2.2.2.2.2.2.2.2.1) (o'.2.2.2.2.2.2.2.2.2.1) (o'.2.2.2.2.2.2.2.2.2.2.1) t_letters m_letter m_letterAt m_told (nI len) m_at m_statements (o'.2.2.2.2.2.2.2.2.2.2.2.1) x_imageTaken (o'.2.2.2.2.2.2.2.2.2.2.2.2.1) (o'.2.2.2.2.2.2.2.2.2.2.2.2.2.1) (o'.2.2.2.2.2.2.2.2.2.2.2.2.2.2.1) (o'.2.2.2.2.2.2.2.2.2.2.2.2.2.2.2.1) 0 (o'.2.2.2.2.2.2.2.2.2.2.2.2.2.2.2.2.1) (o'.2.2.2.2.2.2.2.2.2.2.2.2.2.2.2.2.2.1) (o'.2.2.2.2.2.2.2.2.2.2.2.2.2.2.2.2.2.2.1) (o'.2.2.2.2.2.2.2.2.2.2.2.2.2.2.2.2.2.2.2.1) (o'.2.2.2.2.2.2.2.2.2.2.2.2.2.2.2.2.2.2.2.2.1) (o'.2.2.2.2.2.2.2.2.2.2.2.2.2.2.2.2.2.2.2.2.2) m_weekAnswers m_weekHurt m_week x_told (nI r) m_oneHas m_otherHas := by
  have hn7 := h1.1.1
  have h1' := h1
  obtain ⟨g1, g2, g3, g4, g5, g6, g7⟩ := h1

  have hv := first_or (range_or v1 1 20) (what_or v3 1)
  have em : ∀ w, f_X3_first (f_X3_rangeNo v1 1 20) (f_X3_whatNo v3 1) = w → f_X4_lots m_refused kn (st3 tu hu pa) kd fg tn wd hr (nI n) dy m_kept m_isKeeping m_cursor m_answeredMany m_lastWord 0 m_answered m_unanswered m_saidWords m_isCalledAtSeven m_isAnsweredAtSeven m_seen v1 v2 v3 = f_X4_lots_J27 v1 v2 v3 w m_refused kn (st3 tu hu pa) kd fg tn wd hr (nI n) dy m_kept m_isKeeping m_cursor m_answeredMany m_lastWord 0 m_answered m_unanswered m_saidWords m_isCalledAtSeven m_isAnsweredAtSeven m_seen := by
    intro w hw
    unfold f_X3_first at hw
    rw [range_b, what_eq] at hw
    subst hw
    unfold f_X4_lots
    by_cases a : f_X4_bound v1 1 20 = 0
    · by_cases b : f_X4_isIn v3 0 1 = 0
      · rw [if_pos a, if_pos a, if_pos b, if_pos b]
      · rw [if_pos a, if_pos a, if_neg b, if_neg b, a]
    · rw [if_neg a, if_neg a]
  unfold f_X3_lots
  generalize hq : f_X3_first (f_X3_rangeNo v1 1 20) (f_X3_whatNo v3 1) = w at hv ⊢
  rw [em w hq]
  unfold f_X4_lots_J27
  by_cases hw : w = 0
  · obtain ⟨ha, hb⟩ := first_0 (hq.trans hw)
    obtain ⟨m, -, hm20, rfl⟩ := range_nat 1 20 (by omega) (by omega) ha
    have hc : ∃ D : GX, DZ D ∧ lp (fun z : Int32 × Int32 × Int32 × Int32 × GX => f_X3_lots_L41 (nI m) (nI n) kd fg tn wd hr od kn tu hu pa dy z.1 z.2.1 z.2.2.1 z.2.2.2.1 z.2.2.2.2.1 z.2.2.2.2.2.1 z.2.2.2.2.2.2.1 z.2.2.2.2.2.2.2.1 z.2.2.2.2.2.2.2.2.1 z.2.2.2.2.2.2.2.2.2.1 z.2.2.2.2.2.2.2.2.2.2.1 z.2.2.2.2.2.2.2.2.2.2.2.1 z.2.2.2.2.2.2.2.2.2.2.2.2.1 z.2.2.2.2.2.2.2.2.2.2.2.2.2.1 z.2.2.2.2.2.2.2.2.2.2.2.2.2.2.1 z.2.2.2.2.2.2.2.2.2.2.2.2.2.2.2.1 z.2.2.2.2.2.2.2.2.2.2.2.2.2.2.2.2.1 z.2.2.2.2.2.2.2.2.2.2.2.2.2.2.2.2.2.1 z.2.2.2.2.2.2.2.2.2.2.2.2.2.2.2.2.2.2.1 z.2.2.2.2.2.2.2.2.2.2.2.2.2.2.2.2.2.2.2.1 z.2.2.2.2.2.2.2.2.2.2.2.2.2.2.2.2.2.2.2.2) 1000 (v2, 0, 0, 0, (d_callers, d_kinds, d_figures, d_tones, d_words, d_hours, d_order, d_known, d_tune, d_hurt, d_patience, d_day, d_answered, d_unanswered, d_said, d_times, d_last)) = some ((ltS n kd fg tn wd hr kn tu hu pa dy v2 m).2.1, (ltS n kd fg tn wd hr kn tu hu pa dy v2 m).2.2, D) := by
      obtain ⟨b, e, D, hD, rfl⟩ := lp_hoare (f := (fun z : Int32 × Int32 × Int32 × Int32 × GX => f_X3_lots_L41 (nI m) (nI n) kd fg tn wd hr od kn tu hu pa dy z.1 z.2.1 z.2.2.1 z.2.2.2.1 z.2.2.2.2.1 z.2.2.2.2.2.1 z.2.2.2.2.2.2.1 z.2.2.2.2.2.2.2.1 z.2.2.2.2.2.2.2.2.1 z.2.2.2.2.2.2.2.2.2.1 z.2.2.2.2.2.2.2.2.2.2.1 z.2.2.2.2.2.2.2.2.2.2.2.1 z.2.2.2.2.2.2.2.2.2.2.2.2.1 z.2.2.2.2.2.2.2.2.2.2.2.2.2.1 z.2.2.2.2.2.2.2.2.2.2.2.2.2.2.1 z.2.2.2.2.2.2.2.2.2.2.2.2.2.2.2.1 z.2.2.2.2.2.2.2.2.2.2.2.2.2.2.2.2.1 z.2.2.2.2.2.2.2.2.2.2.2.2.2.2.2.2.2.1 z.2.2.2.2.2.2.2.2.2.2.2.2.2.2.2.2.2.2.1 z.2.2.2.2.2.2.2.2.2.2.2.2.2.2.2.2.2.2.2.1 z.2.2.2.2.2.2.2.2.2.2.2.2.2.2.2.2.2.2.2.2)) (fun i a => ∃ D : GX, a = ((ltS n kd fg tn wd hr kn tu hu pa dy v2 i).1, (ltS n kd fg tn wd hr kn tu hu pa dy v2 i).2.1, (ltS n kd fg tn wd hr kn tu hu pa dy v2 i).2.2, nI i, D) ∧ DZ D) (fun b => ∃ D : GX, DZ D ∧ b = ((ltS n kd fg tn wd hr kn tu hu pa dy v2 m).2.1, (ltS n kd fg tn wd hr kn tu hu pa dy v2 m).2.2, D)) m (by
        rintro i _ hi ⟨D, rfl, hD⟩
        dsimp only
        unfold f_X3_lots_L41
        by_cases hlt : i < m
        · left
          rw [if_neg (nI_ge hlt (by omega)), bi_s (think_D (nI n) tu hu pa dy hD g3 g5 g6)]
          dsimp only
          rw [bi_s (drw_c tn hn7 (ltS n kd fg tn wd hr kn tu hu pa dy v2 i).1), bi_s (show f_X0_passDays (nI n) kd fg (drS tn (ltS n kd fg tn wd hr kn tu hu pa dy v2 i).1 n).2 wd hr od kn tu hu pa dy 0 0 0 z0 l9 5 127 = _ from days_c (k := 5) (g1.tones (ltS n kd fg tn wd hr kn tu hu pa dy v2 i).1) g4 127 (X0 kn hu dy) (by omega)), nI_1]
          refine ⟨hlt, ((ltS n kd fg tn wd hr kn tu hu pa dy v2 (i + 1)).1, (ltS n kd fg tn wd hr kn tu hu pa dy v2 (i + 1)).2.1, (ltS n kd fg tn wd hr kn tu hu pa dy v2 (i + 1)).2.2, nI (i + 1), GD n kd fg (drS tn (ltS n kd fg tn wd hr kn tu hu pa dy v2 i).1 n).2 wd hr od tu pa (dI n kd fg (drS tn (ltS n kd fg tn wd hr kn tu hu pa dy v2 i).1 n).2 wd hr tu pa 127 5 (X0 kn hu dy))), rfl, _, rfl, GD_z ⟨g3.1, g3.2.1, drS_z hn7 g3.2.2.1 _, g3.2.2.2⟩ g5 (dI_z (g1.tones (ltS n kd fg tn wd hr kn tu hu pa dy v2 i).1) (X0_z g6) g7 5).1⟩
        · right
          have : i = m := by omega
          subst this
          rw [if_pos (nI_le (Nat.le_refl i) (by omega))]
          exact ⟨_, rfl, D, hD, rfl⟩) 1000 0 (v2, 0, 0, 0, (d_callers, d_kinds, d_figures, d_tones, d_words, d_hours, d_order, d_known, d_tune, d_hurt, d_patience, d_day, d_answered, d_unanswered, d_said, d_times, d_last)) (Nat.zero_le _) (by omega) ⟨(d_callers, d_kinds, d_figures, d_tones, d_words, d_hours, d_order, d_known, d_tune, d_hurt, d_patience, d_day, d_answered, d_unanswered, d_said, d_times, d_last), rfl, ⟨h2, h3⟩⟩
      exact ⟨D, hD, e⟩
    have hm : ∀ S1 : SC, SOk S1.1 S1 → ∃ (T : Nat → Int32) (S' : SC), Zr 7 T ∧ SOk S1.1 S' ∧ lp (fun z : Int32 × Int32 × Int32 × Int32 × (Nat → Int32) × (Nat → Int32) × (Nat → Int32) × (Nat → Int32) × (Nat → Int32) × (Nat → Int32) × (Nat → Int32) × Int32 × Int32 × SC => f_X4_lots_L57 (nI m) 0 z.1 z.2.1 z.2.2.1 z.2.2.2.1 z.2.2.2.2.1 z.2.2.2.2.2.1 z.2.2.2.2.2.2.1 z.2.2.2.2.2.2.2.1 z.2.2.2.2.2.2.2.2.1 z.2.2.2.2.2.2.2.2.2.1 z.2.2.2.2.2.2.2.2.2.2.1 z.2.2.2.2.2.2.2.2.2.2.2.1 z.2.2.2.2.2.2.2.2.2.2.2.2.1 z.2.2.2.2.2.2.2.2.2.2.2.2.2.1 z.2.2.2.2.2.2.2.2.2.2.2.2.2.2.1 z.2.2.2.2.2.2.2.2.2.2.2.2.2.2.2.1 z.2.2.2.2.2.2.2.2.2.2.2.2.2.2.2.2.1 z.2.2.2.2.2.2.2.2.2.2.2.2.2.2.2.2.2.1 z.2.2.2.2.2.2.2.2.2.2.2.2.2.2.2.2.2.2.1 z.2.2.2.2.2.2.2.2.2.2.2.2.2.2.2.2.2.2.2.1 z.2.2.2.2.2.2.2.2.2.2.2.2.2.2.2.2.2.2.2.2.1 z.2.2.2.2.2.2.2.2.2.2.2.2.2.2.2.2.2.2.2.2.2.1 z.2.2.2.2.2.2.2.2.2.2.2.2.2.2.2.2.2.2.2.2.2.2.1 z.2.2.2.2.2.2.2.2.2.2.2.2.2.2.2.2.2.2.2.2.2.2.2) 1000 (v2, 0, 0, 0, kn, st3 tu hu pa, kd, fg, tn, wd, hr, nI n, dy, S1) = some ((ltS n kd fg tn wd hr kn tu hu pa dy v2 m).2.1, (ltS n kd fg tn wd hr kn tu hu pa dy v2 m).2.2, kn, st3 tu hu pa, kd, fg, T, wd, hr, nI n, dy, S') := by
      intro S1 hS1
      obtain ⟨b, e, T, S', hT', hS', rfl⟩ := lp_hoare (f := (fun z : Int32 × Int32 × Int32 × Int32 × (Nat → Int32) × (Nat → Int32) × (Nat → Int32) × (Nat → Int32) × (Nat → Int32) × (Nat → Int32) × (Nat → Int32) × Int32 × Int32 × SC => f_X4_lots_L57 (nI m) 0 z.1 z.2.1 z.2.2.1 z.2.2.2.1 z.2.2.2.2.1 z.2.2.2.2.2.1 z.2.2.2.2.2.2.1 z.2.2.2.2.2.2.2.1 z.2.2.2.2.2.2.2.2.1 z.2.2.2.2.2.2.2.2.2.1 z.2.2.2.2.2.2.2.2.2.2.1 z.2.2.2.2.2.2.2.2.2.2.2.1 z.2.2.2.2.2.2.2.2.2.2.2.2.1 z.2.2.2.2.2.2.2.2.2.2.2.2.2.1 z.2.2.2.2.2.2.2.2.2.2.2.2.2.2.1 z.2.2.2.2.2.2.2.2.2.2.2.2.2.2.2.1 z.2.2.2.2.2.2.2.2.2.2.2.2.2.2.2.2.1 z.2.2.2.2.2.2.2.2.2.2.2.2.2.2.2.2.2.1 z.2.2.2.2.2.2.2.2.2.2.2.2.2.2.2.2.2.2.1 z.2.2.2.2.2.2.2.2.2.2.2.2.2.2.2.2.2.2.2.1 z.2.2.2.2.2.2.2.2.2.2.2.2.2.2.2.2.2.2.2.2.1 z.2.2.2.2.2.2.2.2.2.2.2.2.2.2.2.2.2.2.2.2.2.1 z.2.2.2.2.2.2.2.2.2.2.2.2.2.2.2.2.2.2.2.2.2.2.1 z.2.2.2.2.2.2.2.2.2.2.2.2.2.2.2.2.2.2.2.2.2.2.2)) (fun i a => ∃ (T : Nat → Int32) (S : SC), a = ((ltS n kd fg tn wd hr kn tu hu pa dy v2 i).1, (ltS n kd fg tn wd hr kn tu hu pa dy v2 i).2.1, (ltS n kd fg tn wd hr kn tu hu pa dy v2 i).2.2, nI i, kn, st3 tu hu pa, kd, fg, T, wd, hr, nI n, dy, S) ∧ (∀ i, n ≤ i → T i = tn i) ∧ SOk S1.1 S) (fun b => ∃ (T : Nat → Int32) (S' : SC), Zr 7 T ∧ SOk S1.1 S' ∧ b = ((ltS n kd fg tn wd hr kn tu hu pa dy v2 m).2.1, (ltS n kd fg tn wd hr kn tu hu pa dy v2 m).2.2, kn, st3 tu hu pa, kd, fg, T, wd, hr, nI n, dy, S')) m (by
        rintro i _ hi ⟨T, S, rfl, hTt, hS⟩
        dsimp only
        unfold f_X4_lots_L57
        by_cases hlt : i < m
        · left
          have e1 : drS T (ltS n kd fg tn wd hr kn tu hu pa dy v2 i).1 n = drS tn (ltS n kd fg tn wd hr kn tu hu pa dy v2 i).1 n := drS_eq hTt _
          obtain ⟨S', hS', hsn, es⟩ := ansIn (tn := (drS tn (ltS n kd fg tn wd hr kn tu hu pa dy v2 i).1 n).2) (k := 5) pa dy (g1.tones (ltS n kd fg tn wd hr kn tu hu pa dy v2 i).1) g2 ⟨g3.1, g3.2.1, drS_z hn7 g3.2.2.1 _, g3.2.2.2⟩ g6 g7 hS (by omega)
          rw [if_neg (nI_ge hlt (by omega)), bi_s (drw_m T hn7 (ltS n kd fg tn wd hr kn tu hu pa dy v2 i).1), e1]
          rw [bi_s (show f_X4_answersIn kn (st3 tu hu pa) kd fg (drS tn (ltS n kd fg tn wd hr kn tu hu pa dy v2 i).1 n).2 wd hr (nI n) dy S.1 S.2.2.2.1 S.2.2.2.2.1 0 S.2.2.2.2.2.2.2.2.1 S.2.2.2.2.2.2.2.2.2.1 S.2.2.2.2.2.2.2.2.2.2 5 = _ from es), nI_1]
          dsimp only
          rw [show S'.2.2.2.2.2.2.2.2.2.2 (0 : Int32).toNatClampNeg = _ from hsn]
          exact ⟨hlt, ((ltS n kd fg tn wd hr kn tu hu pa dy v2 (i + 1)).1, (ltS n kd fg tn wd hr kn tu hu pa dy v2 (i + 1)).2.1, (ltS n kd fg tn wd hr kn tu hu pa dy v2 (i + 1)).2.2, nI (i + 1), kn, st3 tu hu pa, kd, fg, (drS tn (ltS n kd fg tn wd hr kn tu hu pa dy v2 i).1 n).2, wd, hr, nI n, dy, S'), rfl, _, S', rfl, fun j hj => drS_out tn _ n j hj, hS'⟩
        · right
          have : i = m := by omega
          subst this
          rw [if_pos (nI_le (Nat.le_refl i) (by omega))]
          exact ⟨_, rfl, T, S, fun j hj => by rw [hTt j (by omega)]; exact g3.2.2.1 j hj, hS, rfl⟩) 1000 0 (v2, 0, 0, 0, kn, st3 tu hu pa, kd, fg, tn, wd, hr, nI n, dy, S1) (Nat.zero_le _) (by omega) ⟨tn, S1, rfl, fun _ _ => rfl, hS1⟩
      exact ⟨T, S', hT', hS', e⟩
    obtain ⟨D, hD, ec⟩ := hc
    obtain ⟨T, S', hT', hS', em'⟩ := hm (kA m_kept 50 kn (st3 tu hu pa) kd fg tn wd hr (nI n) dy, 1, 98, m_answeredMany, m_lastWord, m_answered, m_unanswered, m_saidWords, m_isCalledAtSeven, m_isAnsweredAtSeven, m_seen) (SOk.self _ _ _ _ _ _ _ _ _ _ _ h10)
    have hsv : Sv S'.1 50 kn (st3 tu hu pa) kd fg tn wd hr (nI n) dy := kA_in.same (fun j _ hj => hS'.1 j (by omega))
    have hri : RI x_imageTaken S'.1 k_callers k_kinds k_figures k_tones k_words k_hours k_order k_known k_tune k_hurt k_patience k_day := h6.same (fun j hj => by
      rw [hS'.1 j (by omega)]
      exact kA_out (by omega))
    rw [if_pos hw, if_pos hw, bi_s ec, bi_s (keep1 kn (st3 tu hu pa) kd fg tn wd hr m_kept (nI n) dy)]
    dsimp only
    rw [bi_s em']
    dsimp only
    rw [bi_s (back1 g6 (st3_z _ _ _) g3.1 g3.2.1 hT' g3.2.2.2.1 g3.2.2.2.2 g6 (st3_z _ _ _) g3.1 g3.2.1 g3.2.2.1 g3.2.2.2.1 g3.2.2.2.2 hsv)]
    by_cases h3' : v3 = 0
    · rw [if_pos h3', if_pos h3']
      exact ⟨_, _, rfl, rfl, rfl, mkRel h1' hD.1 hD.2 h4 h5 hri h7 h8 h9 hS'.2⟩
    · rw [if_neg h3', if_neg h3']
      exact ⟨_, _, rfl, rfl, rfl, mkRel h1' hD.1 hD.2 h4 h5 hri h7 h8 h9 hS'.2⟩
  · obtain ⟨fm, e, hf⟩ := ref_ok h9 (hv.resolve_left hw)
    rw [if_neg hw, if_neg hw, bi_s e]
    exact ⟨_, _, rfl, rfl, rfl, mkRel h1' h2 h3 h4 h5 h6 h7 h8 hf h10⟩
def hrT (hr : Nat → Int32) (a b x y : Nat) : Nat → Int32 := (upd (upd hr a (nI (if x = 0 then (7 : Nat) else 19))) b (nI (if y = 0 then (7 : Nat) else 19)))
theorem OkF.turn {n : Nat} {kd fg tn wd hr : Nat → Int32} (hF : OkF n kd fg tn wd hr) (a b x y : Nat) : OkF n kd fg tn wd (hrT hr a b x y) := (hF.hour (c := a) (h := (if x = 0 then (7 : Nat) else 19)) (by split <;> omega)).hour (by split <;> omega)
theorem FZ.turn {kd fg tn wd hr : Nat → Int32} (hz : FZ kd fg tn wd hr) {a b : Nat} (ha : a < 7) (hb : b < 7) (x y : Nat) : FZ kd fg tn wd (hrT hr a b x y) := (hz.hour ha _).hour hb _
/-- how often each of two is answered, by their choices -/
def tmT (n : Nat) (kd fg tn wd hr kn : Nat → Int32) (tu hu pa dy : Int32) (a b k x y : Nat) : Nat → Int32 := (dI n kd fg tn wd (hrT hr a b x y) tu pa 127 k (X0 kn hu dy)).2.2.2.2.2.2.1
theorem turn_c {n : Nat} {kd fg tn wd hr od kn : Nat → Int32} (tu hu pa dy : Int32) (hF : OkF n kd fg tn wd hr) (hz : FZ kd fg tn wd hr) (hz2 : Zr 7 od) (hz3 : Zr 8 kn) (hh : HR hu) {D : GX} (hD : DZ D) {a b k : Nat} (ha : a < n) (hb : b < n) (hk : k < 900) {x y : Nat} (hx : x < 2) (hy : y < 2) : ∃ D' : GX, DZ D' ∧ D'.2.2.2.2.2.2.2.2.2.2.2.2.2.2.2.1 = tmT n kd fg tn wd hr kn tu hu pa dy a b k x y ∧ f_X3_thinkTurns D.2.1 D.2.2.1 D.2.2.2.1 D.2.2.2.2.1 D.2.2.2.2.2.1 D.2.2.2.2.2.2.1 D.2.2.2.2.2.2.2.1 D.2.2.2.2.2.2.2.2.2.2.2.2.2.2.2.1 D.2.2.2.2.2.2.2.2.2.2.2.2.2.2.2.2 (nI n) kd fg tn wd hr od kn tu hu pa dy (nI a) (nI x) (nI b) (nI y) (nI k) = some D' := by
  have h7 := hF.1
  have e0 : ∀ x, x < 2 → ((nI x = 0) ↔ x = 0) := fun x hx => nI_eq (b := 0) (by omega) (by omega)
  have go : ∀ h g : Nat, h < 24 → g < 24 → ∃ D' : GX, DZ D' ∧ D'.2.2.2.2.2.2.2.2.2.2.2.2.2.2.2.1 = (dI n kd fg tn wd (upd (upd hr a (nI h)) b (nI g)) tu pa 127 k (X0 kn hu dy)).2.2.2.2.2.2.1 ∧ bi (f_X0_moveTo (nI n) hr od (nI a) (nI h)) (fun z14 => f_X3_thinkTurns_J40 (nI k) (nI b) (nI g) (nI n) kd fg tn wd z14.1 z14.2 kn tu hu pa dy 0 0 0 z0 l9) = some D' := by
    intro h g hh24 hg24
    obtain ⟨od1, e1, ho1, hz1⟩ := move_c hF hz2 ha hh24
    obtain ⟨od2, e2, ho2, hz22⟩ := move_c (hF.hour (c := a) hh24) hz1 hb hg24
    refine ⟨GD n kd fg tn wd (upd (upd hr a (nI h)) b (nI g)) od2 tu pa (dI n kd fg tn wd (upd (upd hr a (nI h)) b (nI g)) tu pa 127 k (X0 kn hu dy)), GD_z ((hz.hour (by omega) _).hour (by omega) _) hz22 (dI_z ((hF.hour (c := a) hh24).hour (c := b) hg24) (X0_z hz3) hh k).1, rfl, ?_⟩
    rw [bi_s e1]
    unfold f_X3_thinkTurns_J40
    rw [bi_s e2]
    dsimp only
    rw [bi_s (show f_X0_passDays (nI n) kd fg tn wd (upd (upd hr a (nI h)) b (nI g)) od2 kn tu hu pa dy 0 0 0 z0 l9 (nI k) 127 = _ from days_c ((hF.hour (c := a) hh24).hour (c := b) hg24) ho2 127 (X0 kn hu dy) hk)]
    rfl
  unfold f_X3_thinkTurns f_X3_thinkTurns_J20 tmT hrT
  rw [bi_s (think_D (nI n) tu hu pa dy hD hz hz2 hz3)]
  dsimp only
  simp only [e0 x hx, e0 y hy]
  by_cases hx0 : x = 0
  · by_cases hy0 : y = 0
    · simp only [hx0, hy0, if_true]
      exact go 7 7 (by omega) (by omega)
    · simp only [hx0, hy0, if_true, if_false]
      exact go 7 19 (by omega) (by omega)
  · by_cases hy0 : y = 0
    · simp only [hx0, hy0, if_true, if_false]
      exact go 19 7 (by omega) (by omega)
    · simp only [hx0, hy0, if_false]
      exact go 19 19 (by omega) (by omega)
def cdT (n : Nat) (kd fg tn wd hr kn : Nat → Int32) (tu hu pa dy : Int32) (a b k p : Nat) : Bool := decide (¬ tmT n kd fg tn wd hr kn tu hu pa dy a b k (p / 2) (p % 2) a < tmT n kd fg tn wd hr kn tu hu pa dy a b k (1 - p / 2) (p % 2) a) && decide (¬ tmT n kd fg tn wd hr kn tu hu pa dy a b k (p / 2) (p % 2) b < tmT n kd fg tn wd hr kn tu hu pa dy a b k (p / 2) (1 - p % 2) b)
def ntS (p : Nat → Bool) : Nat → Nat → Int32
  | 0, _ => -9
  | m + 1, i => if p i = true then 10 * nI (i / 2) + nI (i % 2) else ntS p m (i + 1)
theorem ntS_s {p : Nat → Bool} {m i : Nat} (h : p i = false) : ntS p (m + 1) i = ntS p m (i + 1) := by
  show (if p i = true then _ else ntS p m (i + 1)) = _
  rw [h]; rfl
theorem ntS_f {p : Nat → Bool} {m i : Nat} (h : p i = true) : ntS p (m + 1) i = 10 * nI (i / 2) + nI (i % 2) := by
  show (if p i = true then _ else ntS p m (i + 1)) = _
  rw [h]; rfl
theorem rests_m {oh th : Nat → Int32} {A B : Nat → Nat → Int32} (h : ∀ q, q < 4 → oh q = A (q / 2) (q % 2) ∧ th q = B (q / 2) (q % 2)) {p : Nat} (hp : p < 4) : f_X4_rests oh th (nI p) = some (if (decide (¬ A (p / 2) (p % 2) < A (1 - p / 2) (p % 2)) && decide (¬ B (p / 2) (p % 2) < B (p / 2) (1 - p % 2))) = true then 1 else 0) := by
  have key : ∀ q q2 q1 : Nat, q < 4 → q2 < 4 → q1 < 4 → nI q ^^^ 2 = nI q2 → nI q ^^^ 1 = nI q1 → f_X4_rests oh th (nI q) = some (if (decide (¬ oh q < oh q2) && decide (¬ th q < th q1)) = true then 1 else 0) := by
    intro q q2 q1 h0 h2 h1 e2 e1
    unfold f_X4_rests
    rw [e2, e1, gu_t (inB_n h0), gu_t (inB_n h2), gu_t (inB_n h0), gu_t (inB_n h1), cl_n (by omega), cl_n (by omega), cl_n (by omega)]
    by_cases a : oh q < oh q2
    · rw [if_pos a, decide_eq_false (by simpa using a)]; rfl
    · rw [if_neg a, decide_eq_true a]
      by_cases b : th q < th q1
      · rw [if_pos b, decide_eq_false (by simpa using b)]; rfl
      · rw [if_neg b, decide_eq_true b]; rfl
  have hp4 : p = 0 ∨ p = 1 ∨ p = 2 ∨ p = 3 := by omega
  rcases hp4 with rfl | rfl | rfl | rfl
  · rw [key 0 2 1 (by omega) (by omega) (by omega) (by decide) (by decide), (h 0 (by omega)).1, (h 0 (by omega)).2, (h 2 (by omega)).1, (h 1 (by omega)).2]
  · rw [key 1 3 0 (by omega) (by omega) (by omega) (by decide) (by decide), (h 1 (by omega)).1, (h 1 (by omega)).2, (h 3 (by omega)).1, (h 0 (by omega)).2]
  · rw [key 2 0 3 (by omega) (by omega) (by omega) (by decide) (by decide), (h 2 (by omega)).1, (h 2 (by omega)).2, (h 0 (by omega)).1, (h 3 (by omega)).2]
  · rw [key 3 1 2 (by omega) (by omega) (by omega) (by decide) (by decide), (h 3 (by omega)).1, (h 3 (by omega)).2, (h 1 (by omega)).1, (h 2 (by omega)).2]
theorem hourOf_m {x : Nat} (hx : x < 2) : f_X4_hourOf (nI x) = nI (if x = 0 then 7 else 19) := by
  have : x = 0 ∨ x = 1 := by omega
  rcases this with rfl | rfl <;> decide
set_option maxHeartbeats 4000000 in
set_option maxRecDepth 4000 in
theorem sim_byTurns {n len r : Nat} {x_imageTaken : Int32} {d_callers : Int32} {d_kinds : Nat → Int32} {d_figures : Nat → Int32} {d_tones : Nat → Int32} {d_words : Nat → Int32} {d_hours : Nat → Int32} {d_order : Nat → Int32} {d_known : Nat → Int32} {d_tune : Int32} {d_hurt : Int32} {d_patience : Int32} {d_day : Int32} {d_answered : Int32} {d_unanswered : Int32} {d_said : Int32} {d_times : Nat → Int32} {d_last : Nat → Int32} {n_answered : Int32} {n_unanswered : Int32} {n_said : Int32} {n_times : Nat → Int32} {n_last : Nat → Int32} {t_letters : Nat → Int32} {x_told : Nat → Int32} {x_refusals : Nat → Int32} {k_callers : Int32} {k_kinds : Nat → Int32} {k_figures : Nat → Int32} {k_tones : Nat → Int32} {k_words : Nat → Int32} {k_hours : Nat → Int32} {k_order : Nat → Int32} {k_known : Nat → Int32} {k_tune : Int32} {k_hurt : Int32} {k_patience : Int32} {k_day : Int32} {k_answered : Int32} {k_unanswered : Int32} {k_said : Int32} {k_times : Nat → Int32} {k_last : Nat → Int32} {kd : Nat → Int32} {fg : Nat → Int32} {tn : Nat → Int32} {wd : Nat → Int32} {hr : Nat → Int32} {od : Nat → Int32} {kn : Nat → Int32} {tu : Int32} {hu : Int32} {pa : Int32} {dy : Int32} {m_refused : Nat → Int32} {m_letter : Nat → Int32} {m_letterAt : Nat → Int32} {m_told : Nat → Int32} {m_at : Int32} {m_statements : Int32} {m_kept : Nat → Int32} {m_isKeeping : Int32} {m_cursor : Int32} {m_answeredMany : Nat → Int32} {m_lastWord : Nat → Int32} {m_answered : Int32} {m_unanswered : Int32} {m_saidWords : Int32} {m_isCalledAtSeven : Int32} {m_isAnsweredAtSeven : Int32} {m_seen : Nat → Int32} {m_weekAnswers : Int32} {m_weekHurt : Int32} {m_week : Nat → Int32} {m_oneHas : Nat → Int32} {m_otherHas : Nat → Int32} (h1 : RM n kd fg tn wd hr od kn tu hu) (h2 : GZ d_kinds d_figures d_tones d_words d_hours d_order d_known) (h3 : TZ d_times d_last) (h4 : TZ n_times n_last) (h5 : GZ k_kinds k_figures k_tones k_words k_hours k_order k_known) (h6 : RI x_imageTaken m_kept k_callers k_kinds k_figures k_tones k_words k_hours k_order k_known k_tune k_hurt k_patience k_day) (h7 : RT len t_letters) (h8 : RR r x_told) (h9 : RF x_refusals m_refused) (h10 : TZ m_answeredMany m_lastWord) (v1 : Int32) (v2 : Int32) (v3 : Int32) : ∃ o o', f_X3_byTurns d_callers d_kinds d_figures d_tones d_words d_hours d_order d_known d_tune d_hurt d_patience d_day d_answered d_unanswered d_said d_times d_last (nI n) kd fg tn wd hr od kn tu hu pa dy x_refusals v1 v2 v3 = some o ∧ f_X4_byTurns m_refused kn (st3 tu hu pa) kd fg tn wd hr (nI n) dy m_kept m_isKeeping m_cursor m_answeredMany m_lastWord 0 m_answered m_unanswered m_saidWords m_isCalledAtSeven m_isAnsweredAtSeven m_seen m_oneHas m_otherHas v1 v2 v3 = some o' ∧ o'.1 = o.1 ∧ Rel x_imageTaken (nI r) (o.2.1) (o.2.2.1) (o.2.2.2.1) (o.2.2.2.2.1) (o.2.2.2.2.2.1) (o.2.2.2.2.2.2.1) (o.2.2.2.2.2.2.2.1) (o.2.2.2.2.2.2.2.2.1) (o.2.2.2.2.2.2.2.2.2.1) (o.2.2.2.2.2.2.2.2.2.2.1) (o.2.2.2.2.2.2.2.2.2.2.2.1) (o.2.2.2.2.2.2.2.2.2.2.2.2.1) (o.2.2.2.2.2.2.2.2.2.2.2.2.2.1) (o.2.2.2.2.2.2.2.2.2.2.2.2.2.2.1) (o.2.2.2.2.2.2.2.2.2.2.2.2.2.2.2.1) (o.2.2.2.2.2.2.2.2.2.2.2.2.2.2.2.2.1) (o.2.2.2.2.2.2.2.2.2.2.2.2.2.2.2.2.2.1) (nI n) kd fg tn wd hr od kn tu hu pa dy n_answered n_unanswered n_said n_times n_last t_letters (nI len) x_told (o.2.2.2.2.2.2.2.2.2.2.2.2.2.2.2.2.2.2) k_callers k_kinds k_figures k_tones k_words k_hours k_order k_known k_tune k_hurt k_patience k_day k_answered k_unanswered k_said k_times k_last (o'.2.1) (o'.2.2.1) (o'.2.2.2.1) (o'.2.2.2.2.1) (o'.2.2.2.2.2.1) (o'.2.2.2.2.2.2.1) (o'.2.2.2.2.2.2.2.1) (o'.2.2.2.2.2.2.2.2.1) (o'.2.2.2.2.2.2.2.2.2.1) (o'.2.2.2.2.2.2.2.2.2.2.1) t_letters m_letter m_letterAt m_told (nI len) m_at m_statements (o'.2.2.2.2.2.2.2.2.2.2.2.1) x_imageTaken (o'.2.2.2.2.2.2.2.2.2.2.2.2.1) (o'.2.2.2.2.2.2.2.2.2.2.2.2.2.1) (o'.2.2.2.2.2.2.2.2.2.2.2.2.2.2.1) (o'.2.2.2.2.2.2.2.2.2.2.2.2.2.2.2.1) 0 (o'.2.2.2.2.2.2.2.2.2.2.2.2.2.2.2.2.1) (o'.2.2.2.2.2.2.2.2.2.2.2.2.2.2.2.2.2.1) (o'.2.2.2.2.2.2.2.2.2.2.2.2.2.2.2.2.2.2.1) (o'.2.2.2.2.2.2.2.2.2.2.2.2.2.2.2.2.2.2.2.1) (o'.2.2.2.2.2.2.2.2.2.2.2.2.2.2.2.2.2.2.2.2.1) (o'.2.2.2.2.2.2.2.2.2.2.2.2.2.2.2.2.2.2.2.2.2.1) m_weekAnswers m_weekHurt m_week x_told (nI r) (o'.2.2.2.2.2.2.2.2.2.2.2.2.2.2.2.2.2.2.2.2.2.2.1) (o'.2.2.2.2.2.2.2.2.2.2.2.2.2.2.2.2.2.2.2.2.2.2.2) := by
  have hn7 := h1.1.1
  have h1' := h1
  obtain ⟨g1, g2, g3, g4, g5, g6, g7⟩ := h1

  have hv0 : ∀ f : Int32, (f = 0 ∨ No f) → ((if f = 0 then (if v1 = v2 then -1 else f) else f) = 0 ∨ No (if f = 0 then (if v1 = v2 then -1 else f) else f)) := by
    intro f hf
    split
    · split
      · exact Or.inr no1
      · exact hf
    · exact hf
  have hv1 := hv0 _ (first_or (call_or (nI n) v1) (call_or (nI n) v2))
  have emc : f_X3_byTurns d_callers d_kinds d_figures d_tones d_words d_hours d_order d_known d_tune d_hurt d_patience d_day d_answered d_unanswered d_said d_times d_last (nI n) kd fg tn wd hr od kn tu hu pa dy x_refusals v1 v2 v3 = f_X3_byTurns_J28 v1 v2 v3 (if f_X3_first (f_X3_callerNo (nI n) v1) (f_X3_callerNo (nI n) v2) = 0 then (if v1 = v2 then -1 else f_X3_first (f_X3_callerNo (nI n) v1) (f_X3_callerNo (nI n) v2)) else f_X3_first (f_X3_callerNo (nI n) v1) (f_X3_callerNo (nI n) v2)) d_callers d_kinds d_figures d_tones d_words d_hours d_order d_known d_tune d_hurt d_patience d_day d_answered d_unanswered d_said d_times d_last (nI n) kd fg tn wd hr od kn tu hu pa dy x_refusals := by
    unfold f_X3_byTurns
    generalize f_X3_first (f_X3_callerNo (nI n) v1) (f_X3_callerNo (nI n) v2) = f
    by_cases hf : f = 0
    · rw [if_pos hf, if_pos hf]
      by_cases hab : v1 = v2
      · rw [if_pos hab, if_pos hab]
      · rw [if_neg hab, if_neg hab]
    · rw [if_neg hf, if_neg hf]
  rw [emc]
  have emm : ∀ w, f_X3_first (if f_X3_first (f_X3_callerNo (nI n) v1) (f_X3_callerNo (nI n) v2) = 0 then (if v1 = v2 then -1 else f_X3_first (f_X3_callerNo (nI n) v1) (f_X3_callerNo (nI n) v2)) else f_X3_first (f_X3_callerNo (nI n) v1) (f_X3_callerNo (nI n) v2)) (f_X3_aheadNo v3) = w → f_X4_byTurns m_refused kn (st3 tu hu pa) kd fg tn wd hr (nI n) dy m_kept m_isKeeping m_cursor m_answeredMany m_lastWord 0 m_answered m_unanswered m_saidWords m_isCalledAtSeven m_isAnsweredAtSeven m_seen m_oneHas m_otherHas v1 v2 v3 = f_X4_byTurns_J29 v1 v2 v3 w m_refused kn (st3 tu hu pa) kd fg tn wd hr (nI n) dy m_kept m_isKeeping m_cursor m_answeredMany m_lastWord 0 m_answered m_unanswered m_saidWords m_isCalledAtSeven m_isAnsweredAtSeven m_seen m_oneHas m_otherHas := by
    intro w hw
    unfold f_X3_first at hw
    rw [call_eq, call_eq, ahead_eq] at hw
    subst hw
    unfold f_X4_byTurns
    by_cases c1 : f_X4_isCaller (nI n) v1 = 0
    · simp only [if_pos c1, n1, if_false]
    · by_cases c2 : f_X4_isCaller (nI n) v2 = 0
      · simp only [if_neg c1, if_pos c2, n1, if_false, if_true]
      · by_cases hab : v1 = v2
        · simp only [if_neg c1, if_neg c2, if_pos hab, n1, if_false, if_true]
        · simp only [if_neg c1, if_neg c2, if_neg hab, if_true]
  have hq0 : (if f_X3_first (f_X3_callerNo (nI n) v1) (f_X3_callerNo (nI n) v2) = 0 then (if v1 = v2 then -1 else f_X3_first (f_X3_callerNo (nI n) v1) (f_X3_callerNo (nI n) v2)) else f_X3_first (f_X3_callerNo (nI n) v1) (f_X3_callerNo (nI n) v2)) = 0 → f_X3_first (f_X3_callerNo (nI n) v1) (f_X3_callerNo (nI n) v2) = 0 ∧ ¬ v1 = v2 := by
    intro q
    by_cases hf : f_X3_first (f_X3_callerNo (nI n) v1) (f_X3_callerNo (nI n) v2) = 0
    · rw [if_pos hf] at q
      by_cases hab : v1 = v2
      · rw [if_pos hab] at q; exact absurd q n1
      · exact ⟨hf, hab⟩
    · rw [if_neg hf] at q; exact absurd q hf
  generalize hw0 : (if f_X3_first (f_X3_callerNo (nI n) v1) (f_X3_callerNo (nI n) v2) = 0 then (if v1 = v2 then -1 else f_X3_first (f_X3_callerNo (nI n) v1) (f_X3_callerNo (nI n) v2)) else f_X3_first (f_X3_callerNo (nI n) v1) (f_X3_callerNo (nI n) v2)) = w0 at hv1 emm hq0 ⊢
  unfold f_X3_byTurns_J28
  have hv := first_or hv1 (ahead_or v3)
  generalize hq : f_X3_first w0 (f_X3_aheadNo v3) = w at hv ⊢
  rw [emm w hq]
  unfold f_X4_byTurns_J29
  by_cases hw : w = 0
  · obtain ⟨ha, hb⟩ := first_0 (hq.trans hw)
    obtain ⟨hf, hab⟩ := hq0 ha
    obtain ⟨hc1, hc2⟩ := first_0 hf
    obtain ⟨a, han, rfl⟩ := call_nat hn7 hc1
    obtain ⟨b, hbn, rfl⟩ := call_nat hn7 hc2
    obtain ⟨k, hk, rfl⟩ := ahead_nat hb
    have ha7 : a < 7 := by omega
    have hb7 : b < 7 := by omega
    have hdv : ∀ p, p < 4 → nI p / 2 = nI (p / 2) := fun p hp => pk_div (d := 2) (by omega) (by omega) (by omega)
    have hrm : ∀ p, p < 4 → nI p - nI (p / 2) * 2 = nI (p % 2) := fun p hp => by
      have := pk_rem (a := p) (d := 2) (by omega) (by omega) (by omega)
      rw [show nI p / nI 2 = nI (p / 2) from hdv p hp] at this
      exact this
    have hone : ∀ x, x < 2 → (1 : Int32) - nI x = nI (1 - x) := fun x hx => pk_sub (a := 1) (b := x) (by omega)
    have hc : ∃ D : GX, DZ D ∧ lp (fun z : Int32 × GX => f_X3_byTurns_L54 (nI a) (nI b) (nI k) (nI n) kd fg tn wd hr od kn tu hu pa dy x_refusals z.1 z.2.1 z.2.2.1 z.2.2.2.1 z.2.2.2.2.1 z.2.2.2.2.2.1 z.2.2.2.2.2.2.1 z.2.2.2.2.2.2.2.1 z.2.2.2.2.2.2.2.2.1 z.2.2.2.2.2.2.2.2.2.1 z.2.2.2.2.2.2.2.2.2.2.1 z.2.2.2.2.2.2.2.2.2.2.2.1 z.2.2.2.2.2.2.2.2.2.2.2.2.1 z.2.2.2.2.2.2.2.2.2.2.2.2.2.1 z.2.2.2.2.2.2.2.2.2.2.2.2.2.2.1 z.2.2.2.2.2.2.2.2.2.2.2.2.2.2.2.1 z.2.2.2.2.2.2.2.2.2.2.2.2.2.2.2.2.1 z.2.2.2.2.2.2.2.2.2.2.2.2.2.2.2.2.2) 1000 (0, (d_callers, d_kinds, d_figures, d_tones, d_words, d_hours, d_order, d_known, d_tune, d_hurt, d_patience, d_day, d_answered, d_unanswered, d_said, d_times, d_last)) = some (ntS (cdT n kd fg tn wd hr kn tu hu pa dy a b k) 4 0, D.1, D.2.1, D.2.2.1, D.2.2.2.1, D.2.2.2.2.1, D.2.2.2.2.2.1, D.2.2.2.2.2.2.1, D.2.2.2.2.2.2.2.1, D.2.2.2.2.2.2.2.2.1, D.2.2.2.2.2.2.2.2.2.1, D.2.2.2.2.2.2.2.2.2.2.1, D.2.2.2.2.2.2.2.2.2.2.2.1, D.2.2.2.2.2.2.2.2.2.2.2.2.1, D.2.2.2.2.2.2.2.2.2.2.2.2.2.1, D.2.2.2.2.2.2.2.2.2.2.2.2.2.2.1, D.2.2.2.2.2.2.2.2.2.2.2.2.2.2.2.1, D.2.2.2.2.2.2.2.2.2.2.2.2.2.2.2.2, x_refusals) := by
      obtain ⟨b', e, D, hD, rfl⟩ := lp_hoare (f := (fun z : Int32 × GX => f_X3_byTurns_L54 (nI a) (nI b) (nI k) (nI n) kd fg tn wd hr od kn tu hu pa dy x_refusals z.1 z.2.1 z.2.2.1 z.2.2.2.1 z.2.2.2.2.1 z.2.2.2.2.2.1 z.2.2.2.2.2.2.1 z.2.2.2.2.2.2.2.1 z.2.2.2.2.2.2.2.2.1 z.2.2.2.2.2.2.2.2.2.1 z.2.2.2.2.2.2.2.2.2.2.1 z.2.2.2.2.2.2.2.2.2.2.2.1 z.2.2.2.2.2.2.2.2.2.2.2.2.1 z.2.2.2.2.2.2.2.2.2.2.2.2.2.1 z.2.2.2.2.2.2.2.2.2.2.2.2.2.2.1 z.2.2.2.2.2.2.2.2.2.2.2.2.2.2.2.1 z.2.2.2.2.2.2.2.2.2.2.2.2.2.2.2.2.1 z.2.2.2.2.2.2.2.2.2.2.2.2.2.2.2.2.2)) (fun i q => ∃ D : GX, q = (nI i, D) ∧ DZ D ∧ ntS (cdT n kd fg tn wd hr kn tu hu pa dy a b k) 4 0 = ntS (cdT n kd fg tn wd hr kn tu hu pa dy a b k) (4 - i) i) (fun q => ∃ D : GX, DZ D ∧ q = (ntS (cdT n kd fg tn wd hr kn tu hu pa dy a b k) 4 0, D.1, D.2.1, D.2.2.1, D.2.2.2.1, D.2.2.2.2.1, D.2.2.2.2.2.1, D.2.2.2.2.2.2.1, D.2.2.2.2.2.2.2.1, D.2.2.2.2.2.2.2.2.1, D.2.2.2.2.2.2.2.2.2.1, D.2.2.2.2.2.2.2.2.2.2.1, D.2.2.2.2.2.2.2.2.2.2.2.1, D.2.2.2.2.2.2.2.2.2.2.2.2.1, D.2.2.2.2.2.2.2.2.2.2.2.2.2.1, D.2.2.2.2.2.2.2.2.2.2.2.2.2.2.1, D.2.2.2.2.2.2.2.2.2.2.2.2.2.2.2.1, D.2.2.2.2.2.2.2.2.2.2.2.2.2.2.2.2, x_refusals)) 4 (by
        rintro i _ hi ⟨D, rfl, hD, hsr⟩
        dsimp only
        unfold f_X3_byTurns_L54 f_X3_byTurns_J152 f_X3_byTurns_J191
        by_cases hlt : i < 4
        · have hx : i / 2 < 2 := by omega
          have hy : i % 2 < 2 := by omega
          obtain ⟨D1, hD1, ht1, e1⟩ := turn_c tu hu pa dy g1 g3 g5 g6 g7 hD han hbn (show k < 900 by omega) hx hy
          obtain ⟨D2, hD2, ht2, e2⟩ := turn_c tu hu pa dy g1 g3 g5 g6 g7 hD1 han hbn (show k < 900 by omega) (show 1 - i / 2 < 2 by omega) hy
          obtain ⟨D3, hD3, ht3, e3⟩ := turn_c tu hu pa dy g1 g3 g5 g6 g7 hD2 han hbn (show k < 900 by omega) hx (show 1 - i % 2 < 2 by omega)
          have va1 : f_at 7 D1.2.2.2.2.2.2.2.2.2.2.2.2.2.2.2.1 (nI a) = (tmT n kd fg tn wd hr kn tu hu pa dy a b k (i / 2) (i % 2)) a := by rw [at_n ha7, ht1]
          have vb1 : f_at 7 D1.2.2.2.2.2.2.2.2.2.2.2.2.2.2.2.1 (nI b) = (tmT n kd fg tn wd hr kn tu hu pa dy a b k (i / 2) (i % 2)) b := by rw [at_n hb7, ht1]
          have va2 : f_at 7 D2.2.2.2.2.2.2.2.2.2.2.2.2.2.2.2.1 (nI a) = (tmT n kd fg tn wd hr kn tu hu pa dy a b k (1 - i / 2) (i % 2)) a := by rw [at_n ha7, ht2]
          have vb3 : f_at 7 D3.2.2.2.2.2.2.2.2.2.2.2.2.2.2.2.1 (nI b) = (tmT n kd fg tn wd hr kn tu hu pa dy a b k (i / 2) (1 - i % 2)) b := by rw [at_n hb7, ht3]
          rw [if_neg (show ¬ (4 : Int32) ≤ nI i from gL 4 hlt), hdv i hlt, hrm i hlt, bi_s e1, hone _ hx, hone _ hy, bi_s e2, va1, va2, vb1]
          simp only [bi_s e3, vb3, nI_1]
          have e61 : 4 - i = (4 - (i + 1)) + 1 := by omega
          rw [e61] at hsr
          by_cases cA : (tmT n kd fg tn wd hr kn tu hu pa dy a b k (i / 2) (i % 2)) a < (tmT n kd fg tn wd hr kn tu hu pa dy a b k (1 - i / 2) (i % 2)) a
          · left
            have hf : (cdT n kd fg tn wd hr kn tu hu pa dy a b k) i = false := by unfold cdT; rw [decide_eq_false (by simpa using cA)]; rfl
            rw [ntS_s hf] at hsr
            simp only [if_pos cA, if_true]
            by_cases cB : (tmT n kd fg tn wd hr kn tu hu pa dy a b k (i / 2) (i % 2)) b < (tmT n kd fg tn wd hr kn tu hu pa dy a b k (i / 2) (1 - i % 2)) b
            · simp only [if_pos cB]
              exact ⟨hlt, (nI (i + 1), D3), rfl, D3, rfl, hD3, hsr⟩
            · simp only [if_neg cB]
              exact ⟨hlt, (nI (i + 1), D3), rfl, D3, rfl, hD3, hsr⟩
          · simp only [if_neg cA, nz1, if_false]
            by_cases cB : (tmT n kd fg tn wd hr kn tu hu pa dy a b k (i / 2) (i % 2)) b < (tmT n kd fg tn wd hr kn tu hu pa dy a b k (i / 2) (1 - i % 2)) b
            · left
              have hf : (cdT n kd fg tn wd hr kn tu hu pa dy a b k) i = false := by unfold cdT; rw [decide_eq_true cA, decide_eq_false (by simpa using cB)]; rfl
              rw [ntS_s hf] at hsr
              simp only [if_pos cB, if_true]
              exact ⟨hlt, (nI (i + 1), D3), rfl, D3, rfl, hD3, hsr⟩
            · right
              have hf : (cdT n kd fg tn wd hr kn tu hu pa dy a b k) i = true := by unfold cdT; rw [decide_eq_true cA, decide_eq_true cB]; rfl
              rw [ntS_f hf] at hsr
              simp only [if_neg cB, nz1, if_false]
              exact ⟨_, rfl, D3, hD3, by rw [hsr]⟩
        · right
          have : i = 4 := by omega
          subst this
          rw [if_pos (show (4 : Int32) ≤ nI 4 from lL 4 (Nat.le_refl 4))]
          exact ⟨_, rfl, D, hD, by rw [hsr]; rfl⟩) 1000 0 (0, (d_callers, d_kinds, d_figures, d_tones, d_words, d_hours, d_order, d_known, d_tune, d_hurt, d_patience, d_day, d_answered, d_unanswered, d_said, d_times, d_last)) (Nat.zero_le _) (by omega) ⟨(d_callers, d_kinds, d_figures, d_tones, d_words, d_hours, d_order, d_known, d_tune, d_hurt, d_patience, d_day, d_answered, d_unanswered, d_said, d_times, d_last), rfl, ⟨h2, h3⟩, rfl⟩
      exact ⟨D, hD, e⟩
    have hm : ∃ (H : Nat → Int32) (S' : SC) (oh th : Nat → Int32), (∀ i, i ≠ a → i ≠ b → H i = hr i) ∧ SOk m_kept S' ∧ (∀ q, q < 4 → oh q = (tmT n kd fg tn wd hr kn tu hu pa dy a b k (q / 2) (q % 2)) a ∧ th q = (tmT n kd fg tn wd hr kn tu hu pa dy a b k (q / 2) (q % 2)) b) ∧ lp (fun z : Int32 × (Nat → Int32) × (Nat → Int32) × (Nat → Int32) × (Nat → Int32) × (Nat → Int32) × (Nat → Int32) × (Nat → Int32) × Int32 × Int32 × (Nat → Int32) × Int32 × Int32 × (Nat → Int32) × (Nat → Int32) × Int32 × Int32 × Int32 × Int32 × Int32 × (Nat → Int32) × (Nat → Int32) × (Nat → Int32) => f_X4_byTurns_L62 (nI a) (nI b) (nI k) 0 z.1 z.2.1 z.2.2.1 z.2.2.2.1 z.2.2.2.2.1 z.2.2.2.2.2.1 z.2.2.2.2.2.2.1 z.2.2.2.2.2.2.2.1 z.2.2.2.2.2.2.2.2.1 z.2.2.2.2.2.2.2.2.2.1 z.2.2.2.2.2.2.2.2.2.2.1 z.2.2.2.2.2.2.2.2.2.2.2.1 z.2.2.2.2.2.2.2.2.2.2.2.2.1 z.2.2.2.2.2.2.2.2.2.2.2.2.2.1 z.2.2.2.2.2.2.2.2.2.2.2.2.2.2.1 z.2.2.2.2.2.2.2.2.2.2.2.2.2.2.2.1 z.2.2.2.2.2.2.2.2.2.2.2.2.2.2.2.2.1 z.2.2.2.2.2.2.2.2.2.2.2.2.2.2.2.2.2.1 z.2.2.2.2.2.2.2.2.2.2.2.2.2.2.2.2.2.2.1 z.2.2.2.2.2.2.2.2.2.2.2.2.2.2.2.2.2.2.2.1 z.2.2.2.2.2.2.2.2.2.2.2.2.2.2.2.2.2.2.2.2.1 z.2.2.2.2.2.2.2.2.2.2.2.2.2.2.2.2.2.2.2.2.2.1 z.2.2.2.2.2.2.2.2.2.2.2.2.2.2.2.2.2.2.2.2.2.2) 1000 (0, kn, st3 tu hu pa, kd, fg, tn, wd, hr, nI n, dy, m_kept, m_isKeeping, m_cursor, m_answeredMany, m_lastWord, m_answered, m_unanswered, m_saidWords, m_isCalledAtSeven, m_isAnsweredAtSeven, m_seen, m_oneHas, m_otherHas) = some (kn, st3 tu hu pa, kd, fg, tn, wd, H, nI n, dy, S'.1, S'.2.1, S'.2.2.1, S'.2.2.2.1, S'.2.2.2.2.1, S'.2.2.2.2.2.1, S'.2.2.2.2.2.2.1, S'.2.2.2.2.2.2.2.1, S'.2.2.2.2.2.2.2.2.1, S'.2.2.2.2.2.2.2.2.2.1, S'.2.2.2.2.2.2.2.2.2.2, oh, th) := by
      obtain ⟨b', e, H, S', oh, th, q1, q2, q3, rfl⟩ := lp_hoare (f := (fun z : Int32 × (Nat → Int32) × (Nat → Int32) × (Nat → Int32) × (Nat → Int32) × (Nat → Int32) × (Nat → Int32) × (Nat → Int32) × Int32 × Int32 × (Nat → Int32) × Int32 × Int32 × (Nat → Int32) × (Nat → Int32) × Int32 × Int32 × Int32 × Int32 × Int32 × (Nat → Int32) × (Nat → Int32) × (Nat → Int32) => f_X4_byTurns_L62 (nI a) (nI b) (nI k) 0 z.1 z.2.1 z.2.2.1 z.2.2.2.1 z.2.2.2.2.1 z.2.2.2.2.2.1 z.2.2.2.2.2.2.1 z.2.2.2.2.2.2.2.1 z.2.2.2.2.2.2.2.2.1 z.2.2.2.2.2.2.2.2.2.1 z.2.2.2.2.2.2.2.2.2.2.1 z.2.2.2.2.2.2.2.2.2.2.2.1 z.2.2.2.2.2.2.2.2.2.2.2.2.1 z.2.2.2.2.2.2.2.2.2.2.2.2.2.1 z.2.2.2.2.2.2.2.2.2.2.2.2.2.2.1 z.2.2.2.2.2.2.2.2.2.2.2.2.2.2.2.1 z.2.2.2.2.2.2.2.2.2.2.2.2.2.2.2.2.1 z.2.2.2.2.2.2.2.2.2.2.2.2.2.2.2.2.2.1 z.2.2.2.2.2.2.2.2.2.2.2.2.2.2.2.2.2.2.1 z.2.2.2.2.2.2.2.2.2.2.2.2.2.2.2.2.2.2.2.1 z.2.2.2.2.2.2.2.2.2.2.2.2.2.2.2.2.2.2.2.2.1 z.2.2.2.2.2.2.2.2.2.2.2.2.2.2.2.2.2.2.2.2.2.1 z.2.2.2.2.2.2.2.2.2.2.2.2.2.2.2.2.2.2.2.2.2.2)) (fun p q => ∃ (H : Nat → Int32) (S : SC) (oh th : Nat → Int32), q = (nI p, kn, st3 tu hu pa, kd, fg, tn, wd, H, nI n, dy, S.1, S.2.1, S.2.2.1, S.2.2.2.1, S.2.2.2.2.1, S.2.2.2.2.2.1, S.2.2.2.2.2.2.1, S.2.2.2.2.2.2.2.1, S.2.2.2.2.2.2.2.2.1, S.2.2.2.2.2.2.2.2.2.1, S.2.2.2.2.2.2.2.2.2.2, oh, th) ∧ (∀ i, i ≠ a → i ≠ b → H i = hr i) ∧ SOk m_kept S ∧ ∀ q, q < p → oh q = (tmT n kd fg tn wd hr kn tu hu pa dy a b k (q / 2) (q % 2)) a ∧ th q = (tmT n kd fg tn wd hr kn tu hu pa dy a b k (q / 2) (q % 2)) b) (fun q => ∃ (H : Nat → Int32) (S' : SC) (oh th : Nat → Int32), (∀ i, i ≠ a → i ≠ b → H i = hr i) ∧ SOk m_kept S' ∧ (∀ q, q < 4 → oh q = (tmT n kd fg tn wd hr kn tu hu pa dy a b k (q / 2) (q % 2)) a ∧ th q = (tmT n kd fg tn wd hr kn tu hu pa dy a b k (q / 2) (q % 2)) b) ∧ q = (kn, st3 tu hu pa, kd, fg, tn, wd, H, nI n, dy, S'.1, S'.2.1, S'.2.2.1, S'.2.2.2.1, S'.2.2.2.2.1, S'.2.2.2.2.2.1, S'.2.2.2.2.2.2.1, S'.2.2.2.2.2.2.2.1, S'.2.2.2.2.2.2.2.2.1, S'.2.2.2.2.2.2.2.2.2.1, S'.2.2.2.2.2.2.2.2.2.2, oh, th)) 4 (by
        rintro p _ hp ⟨H, S, oh, th, rfl, hH, hS, hot⟩
        dsimp only
        unfold f_X4_byTurns_L62
        by_cases hlt : p < 4
        · left
          have hx : p / 2 < 2 := by omega
          have hy : p % 2 < 2 := by omega
          rw [if_neg (show ¬ (4 : Int32) ≤ nI p from gL 4 hlt), hdv p hlt, hrm p hlt, hourOf_m hx, hourOf_m hy, gu_t (inB_n ha7), gu_t (inB_n hb7), cl_n (by omega), cl_n (by omega), cl_n (by omega), nI_1]
          have eH : upd (upd H a (nI (if p / 2 = 0 then 7 else 19))) b (nI (if p % 2 = 0 then 7 else 19)) = hrT hr a b (p / 2) (p % 2) := by
            funext j
            unfold hrT
            show (if j = b then _ else if j = a then _ else H j) = (if j = b then _ else if j = a then _ else hr j)
            by_cases hjb : j = b
            · rw [if_pos hjb, if_pos hjb]
            · rw [if_neg hjb, if_neg hjb]
              by_cases hja : j = a
              · rw [if_pos hja, if_pos hja]
              · rw [if_neg hja, if_neg hja, hH j hja hjb]
          obtain ⟨S', es, hS', hX1, hX2, hX3, hX4, hX5, hX6⟩ := thinks_S (S := S) (pa := pa) (g1.turn a b (p / 2) (p % 2)) g2 (g3.turn ha7 hb7 (p / 2) (p % 2)) (Bits.all hn7) g6 g7 dy hS (show k < 900 by omega)
          rw [eH, bi_s es, gu_t (inB_n ha7), gu_t (inB_n hlt), gu_t (inB_n hb7), gu_t (inB_n hlt)]
          dsimp only
          rw [hX1]
          refine ⟨hlt, _, rfl, hrT hr a b (p / 2) (p % 2), (S'.1, S'.2.1, S'.2.2.1, (dI n kd fg tn wd (hrT hr a b (p / 2) (p % 2)) tu pa 127 k (X0 kn hu dy)).2.2.2.2.2.2.1, S'.2.2.2.2.1, S'.2.2.2.2.2.1, S'.2.2.2.2.2.2.1, S'.2.2.2.2.2.2.2.1, S'.2.2.2.2.2.2.2.2.1, S'.2.2.2.2.2.2.2.2.2.1, S'.2.2.2.2.2.2.2.2.2.2), upd oh p ((tmT n kd fg tn wd hr kn tu hu pa dy a b k (p / 2) (p % 2)) a), upd th p ((tmT n kd fg tn wd hr kn tu hu pa dy a b k (p / 2) (p % 2)) b), rfl, ?_, ?_, ?_⟩
          · intro j hja hjb
            unfold hrT
            rw [pk_un hjb, pk_un hja]
          · exact ⟨hS'.1, by rw [← hX1]; exact hS'.2.1, hS'.2.2⟩
          · intro q hq
            by_cases hqp : q = p
            · subst hqp
              rw [pk_us, pk_us]
              exact ⟨rfl, rfl⟩
            · rw [pk_un hqp, pk_un hqp]
              exact hot q (by omega)
        · right
          have : p = 4 := by omega
          subst this
          rw [if_pos (show (4 : Int32) ≤ nI 4 from lL 4 (Nat.le_refl 4))]
          exact ⟨_, rfl, H, S, oh, th, hH, hS, hot, rfl⟩) 1000 0 (0, kn, st3 tu hu pa, kd, fg, tn, wd, hr, nI n, dy, m_kept, m_isKeeping, m_cursor, m_answeredMany, m_lastWord, m_answered, m_unanswered, m_saidWords, m_isCalledAtSeven, m_isAnsweredAtSeven, m_seen, m_oneHas, m_otherHas) (Nat.zero_le _) (by omega) ⟨hr, (m_kept, m_isKeeping, m_cursor, m_answeredMany, m_lastWord, m_answered, m_unanswered, m_saidWords, m_isCalledAtSeven, m_isAnsweredAtSeven, m_seen), m_oneHas, m_otherHas, rfl, fun _ _ _ => rfl, SOk.self m_kept _ _ _ _ _ _ _ _ _ _ h10, fun q hq => absurd hq (by omega)⟩
      exact ⟨H, S', oh, th, q1, q2, q3, e⟩
    obtain ⟨D, hD, ec⟩ := hc
    obtain ⟨H, S', oh, th, hH, hS', hot, em'⟩ := hm
    have eHr : upd (upd H a (hr a)) b (hr b) = hr := by
      funext j
      show (if j = b then hr b else if j = a then hr a else H j) = hr j
      by_cases hjb : j = b
      · rw [if_pos hjb, hjb]
      · rw [if_neg hjb]
        by_cases hja : j = a
        · rw [if_pos hja, hja]
        · rw [if_neg hja, hH j hja hjb]
    rw [if_pos hw, if_pos hw, gu_t (inB_n ha7), gu_t (inB_n hb7), ec, bi_s em', gu_t (inB_n ha7), gu_t (inB_n hb7)]
    dsimp only
    rw [cl_n (show a < 2147483648 by omega), cl_n (show b < 2147483648 by omega), eHr]
    have hl : lp (fun z : Int32 => f_X4_byTurns_L150 m_refused kn (st3 tu hu pa) kd fg tn wd hr (nI n) dy S'.1 S'.2.1 S'.2.2.1 S'.2.2.2.1 S'.2.2.2.2.1 S'.2.2.2.2.2.1 S'.2.2.2.2.2.2.1 S'.2.2.2.2.2.2.2.1 S'.2.2.2.2.2.2.2.2.1 S'.2.2.2.2.2.2.2.2.2.1 S'.2.2.2.2.2.2.2.2.2.2 oh th z) 1000 0 = some (ntS (cdT n kd fg tn wd hr kn tu hu pa dy a b k) 4 0, m_refused, kn, st3 tu hu pa, kd, fg, tn, wd, hr, nI n, dy, S'.1, S'.2.1, S'.2.2.1, S'.2.2.2.1, S'.2.2.2.2.1, S'.2.2.2.2.2.1, S'.2.2.2.2.2.2.1, S'.2.2.2.2.2.2.2.1, S'.2.2.2.2.2.2.2.2.1, S'.2.2.2.2.2.2.2.2.2.1, S'.2.2.2.2.2.2.2.2.2.2, oh, th) := by
      obtain ⟨b', e, rfl⟩ := lp_hoare (f := fun z : Int32 => f_X4_byTurns_L150 m_refused kn (st3 tu hu pa) kd fg tn wd hr (nI n) dy S'.1 S'.2.1 S'.2.2.1 S'.2.2.2.1 S'.2.2.2.2.1 S'.2.2.2.2.2.1 S'.2.2.2.2.2.2.1 S'.2.2.2.2.2.2.2.1 S'.2.2.2.2.2.2.2.2.1 S'.2.2.2.2.2.2.2.2.2.1 S'.2.2.2.2.2.2.2.2.2.2 oh th z) (fun i q => q = nI i ∧ ntS (cdT n kd fg tn wd hr kn tu hu pa dy a b k) 4 0 = ntS (cdT n kd fg tn wd hr kn tu hu pa dy a b k) (4 - i) i) (fun q => q = (ntS (cdT n kd fg tn wd hr kn tu hu pa dy a b k) 4 0, m_refused, kn, st3 tu hu pa, kd, fg, tn, wd, hr, nI n, dy, S'.1, S'.2.1, S'.2.2.1, S'.2.2.2.1, S'.2.2.2.2.1, S'.2.2.2.2.2.1, S'.2.2.2.2.2.2.1, S'.2.2.2.2.2.2.2.1, S'.2.2.2.2.2.2.2.2.1, S'.2.2.2.2.2.2.2.2.2.1, S'.2.2.2.2.2.2.2.2.2.2, oh, th)) 4 (by
        rintro i _ hi ⟨rfl, hsr⟩
        unfold f_X4_byTurns_L150
        by_cases hlt : i < 4
        · rw [if_neg (show ¬ (4 : Int32) ≤ nI i from gL 4 hlt), bi_s (rests_m (A := fun x y => (tmT n kd fg tn wd hr kn tu hu pa dy a b k (x) (y)) a) (B := fun x y => (tmT n kd fg tn wd hr kn tu hu pa dy a b k (x) (y)) b) hot hlt), hdv i hlt, hrm i hlt, nI_1]
          have e61 : 4 - i = (4 - (i + 1)) + 1 := by omega
          rw [e61] at hsr
          cases hcd : (cdT n kd fg tn wd hr kn tu hu pa dy a b k) i
          · left
            rw [ntS_s hcd] at hsr
            unfold cdT at hcd
            simp only [hcd]
            exact ⟨hlt, _, rfl, rfl, hsr⟩
          · right
            rw [ntS_f hcd] at hsr
            unfold cdT at hcd
            simp only [hcd]
            exact ⟨_, rfl, by rw [hsr]⟩
        · right
          have : i = 4 := by omega
          subst this
          rw [if_pos (show (4 : Int32) ≤ nI 4 from lL 4 (Nat.le_refl 4))]
          exact ⟨_, rfl, by rw [hsr]; rfl⟩) 1000 0 (0 : Int32) (Nat.zero_le _) (by omega) ⟨rfl, rfl⟩
      exact e
    rw [hl]
    exact ⟨_, _, rfl, rfl, rfl, mkRel h1' hD.1 hD.2 h4 h5 (RI.sameS h6 hS') h7 h8 h9 hS'.2⟩
  · obtain ⟨fm, e, hf⟩ := ref_ok h9 (hv.resolve_left hw)
    rw [if_neg hw, if_neg hw, bi_s e]
    exact ⟨_, _, rfl, rfl, rfl, mkRel h1' h2 h3 h4 h5 h6 h7 h8 hf h10⟩
