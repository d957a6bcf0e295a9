theorem upd_back (f : Nat → Int32) (i : Nat) (x : Int32) : upd (upd f i x) i (f i) = f := by
  funext j
  show (if j = i then f i else if j = i then x else f j) = f j
  by_cases h : j = i
  · rw [if_pos h, h]
  · rw [if_neg h, if_neg h]
theorem OkF.hour {n : Nat} {kd fg tn wd hr : Nat → Int32} (hF : OkF n kd fg tn wd hr) {c h : Nat} (hh : h < 24) : OkF n kd fg tn wd (upd hr c (nI h)) := ⟨hF.1, fun d hd => by
  obtain ⟨k, f, t, w, h', q1, q2, q3, q4, q5, q6, q7, q8, q9, q10⟩ := hF.2 d hd
  by_cases e : d = c
  · exact ⟨k, f, t, w, h, q1, q2, q3, q4, hh, q6, q7, q8, q9, by rw [e, pk_us]⟩
  · exact ⟨k, f, t, w, h', q1, q2, q3, q4, q5, q6, q7, q8, q9, by rw [pk_un e]; exact q10⟩⟩
theorem OkF.hs {n : Nat} {kd fg tn wd hr : Nat → Int32} (hF : OkF n kd fg tn wd hr) : ∀ c, c < n → ∃ h, h < 24 ∧ hr c = nI h := fun c hc => by
  obtain ⟨k, f, t, w, h, -, -, -, -, hh, -, -, -, -, e⟩ := hF.2 c hc
  exact ⟨h, hh, e⟩
theorem move_c {n : Nat} {kd fg tn wd hr od : Nat → Int32} (hF : OkF n kd fg tn wd hr) (hz : Zr 7 od) {c h : Nat} (hc : c < n) (hh : h < 24) : ∃ od', f_X0_moveTo (nI n) hr od (nI c) (nI h) = some (upd hr c (nI h), od') ∧ OkO n (upd hr c (nI h)) od' ∧ Zr 7 od' := by
  have h7 := hF.1
  obtain ⟨od', e, h1, h2⟩ := arr_ok hF.1 (hF.hour (c := c) hh).hs od hz
  refine ⟨od', ?_, h1, h2⟩
  unfold f_X0_moveTo
  rw [put_n (show c < 7 by omega), bi_s e]
theorem FZ.hour {kd fg tn wd hr : Nat → Int32} (hz : FZ kd fg tn wd hr) {c : Nat} (hc : c < 7) (x : Int32) : FZ kd fg tn wd (upd hr c x) := ⟨hz.1, hz.2.1, hz.2.2.1, hz.2.2.2.1, hz.2.2.2.2.upd hc⟩
theorem ansIn {n : Nat} {kd fg tn wd hr kn : Nat → Int32} {tu hu : Int32} (pa dy : Int32) (hF : OkF n kd fg tn wd hr) (hT : OkT tu) (hz : FZ kd fg tn wd hr) (hz3 : Zr 8 kn) (hh : HR hu) {m_kept : Nat → Int32} {S : SC} (hS : SOk m_kept S) {k : Nat} (hk : k < 900) : ∃ S' : SC, SOk m_kept S' ∧ S'.2.2.2.2.2.2.2.2.2.2 0 = (dI n kd fg tn wd hr tu pa 127 k (X0 kn hu dy)).2.1 ∧ f_X4_answersIn kn (st3 tu hu pa) kd fg tn wd hr (nI n) dy S.1 S.2.2.2.1 S.2.2.2.2.1 0 S.2.2.2.2.2.2.2.2.1 S.2.2.2.2.2.2.2.2.2.1 S.2.2.2.2.2.2.2.2.2.2 (nI k) = some ((dI n kd fg tn wd hr tu pa 127 k (X0 kn hu dy)).2.2.2.1, kn, st3 tu hu pa, kd, fg, tn, wd, hr, nI n, dy, S') := by
  have hn7 := hF.1
  obtain ⟨S', es, hS', hX1, hX2, hX3, hX4, hX5, hX6⟩ := thinks_S (S := S) (pa := pa) hF hT hz (Bits.all hn7) hz3 hh dy hS (hk)
  refine ⟨S', hS', by rw [hX6]; exact sn_0 _ _, ?_⟩
  unfold f_X4_answersIn
  rw [bi_s es, ← hX3]
theorem ansTune {n : Nat} {kd fg tn wd hr kn : Nat → Int32} {tu hu : Int32} (pa dy : Int32) (hF : OkF n kd fg tn wd hr) (hz : FZ kd fg tn wd hr) (hz3 : Zr 8 kn) (hh : HR hu) {m_kept : Nat → Int32} {S : SC} (hS : SOk m_kept S) {k : Nat} (hk : k < 900) {t : Nat} (ht : t < 10) : ∃ S' : SC, SOk m_kept S' ∧ f_X4_answersByTune kn (st3 tu hu pa) kd fg tn wd hr (nI n) dy S.1 S.2.2.2.1 S.2.2.2.2.1 0 S.2.2.2.2.2.2.2.2.1 S.2.2.2.2.2.2.2.2.2.1 S.2.2.2.2.2.2.2.2.2.2 (nI t) (nI k) = some ((dI n kd fg tn wd hr (nI t) pa 127 k (X0 kn hu dy)).2.2.2.1, kn, st3 tu hu pa, kd, fg, tn, wd, hr, nI n, dy, S') := by
  obtain ⟨S', hS', -, e⟩ := ansIn (tu := nI t) pa dy hF ⟨t, ht, rfl⟩ hz hz3 hh hS hk
  refine ⟨S', hS', ?_⟩
  unfold f_X4_answersByTune
  rw [st3_u0, bi_s e]
  dsimp only
  rw [st3_0, st3_u0]
theorem ansAt {n : Nat} {kd fg tn wd hr kn : Nat → Int32} {tu hu : Int32} (pa dy : Int32) (hF : OkF n kd fg tn wd hr) (hT : OkT tu) (hz : FZ kd fg tn wd hr) (hz3 : Zr 8 kn) (hh : HR hu) {m_kept : Nat → Int32} {S : SC} (hS : SOk m_kept S) {k : Nat} (hk : k < 900) {c h : Nat} (hc : c < n) (hh24 : h < 24) : ∃ S' : SC, SOk m_kept S' ∧ f_X4_answersAt kn (st3 tu hu pa) kd fg tn wd hr (nI n) dy S.1 S.2.2.2.1 S.2.2.2.2.1 0 S.2.2.2.2.2.2.2.2.1 S.2.2.2.2.2.2.2.2.2.1 S.2.2.2.2.2.2.2.2.2.2 (nI c) (nI h) (nI k) = some ((dI n kd fg tn wd (upd hr c (nI h)) tu pa 127 k (X0 kn hu dy)).2.2.2.1, kn, st3 tu hu pa, kd, fg, tn, wd, hr, nI n, dy, S') := by
  have h7 := hF.1
  have hc7 : c < 7 := by omega
  obtain ⟨S', hS', -, e⟩ := ansIn (hr := upd hr c (nI h)) pa dy (hF.hour hh24) hT (hz.hour hc7 _) hz3 hh hS hk
  refine ⟨S', hS', ?_⟩
  unfold f_X4_answersAt
  rw [gu_t (inB_n hc7), gu_t (inB_n hc7), cl_n (by omega), bi_s e, gu_t (inB_n hc7)]
  dsimp only
  rw [upd_back]
set_option maxHeartbeats 4000000 in
set_option maxRecDepth 4000 in
theorem sim_bestTune {n len r : Nat} {x_imageTaken : Int32} {d_callers : Int32} {d_kinds : Nat → Int32} {d_figures : Nat → Int32} {d_tones : Nat → Int32} {d_words : Nat → Int32} {d_hours : Nat → Int32} {d_order : Nat → Int32} {d_known : Nat → Int32} {d_tune : Int32} {d_hurt : Int32} {d_patience : Int32} {d_day : Int32} {d_answered : Int32} {d_unanswered : Int32} {d_said : Int32} {d_times : Nat → Int32} {d_last : Nat → Int32} {n_answered : Int32} {n_unanswered : Int32} {n_said : Int32} {n_times : Nat → Int32} {n_last : Nat → Int32} {t_letters : Nat → Int32} {x_told : Nat → Int32} {x_refusals : Nat → Int32} {k_callers : Int32} {k_kinds : Nat → Int32} {k_figures : Nat → Int32} {k_tones : Nat → Int32} {k_words : Nat → Int32} {k_hours : Nat → Int32} {k_order : Nat → Int32} {k_known : Nat → Int32} {k_tune : Int32} {k_hurt : Int32} {k_patience : Int32} {k_day : Int32} {k_answered : Int32} {k_unanswered : Int32} {k_said : Int32} {k_times : Nat → Int32} {k_last : Nat → Int32} {kd : Nat → Int32} {fg : Nat → Int32} {tn : Nat → Int32} {wd : Nat → Int32} {hr : Nat → Int32} {od : Nat → Int32} {kn : Nat → Int32} {tu : Int32} {hu : Int32} {pa : Int32} {dy : Int32} {m_refused : Nat → Int32} {m_letter : Nat → Int32} {m_letterAt : Nat → Int32} {m_told : Nat → Int32} {m_at : Int32} {m_statements : Int32} {m_kept : Nat → Int32} {m_isKeeping : Int32} {m_cursor : Int32} {m_answeredMany : Nat → Int32} {m_lastWord : Nat → Int32} {m_answered : Int32} {m_unanswered : Int32} {m_saidWords : Int32} {m_isCalledAtSeven : Int32} {m_isAnsweredAtSeven : Int32} {m_seen : Nat → Int32} {m_weekAnswers : Int32} {m_weekHurt : Int32} {m_week : Nat → Int32} {m_oneHas : Nat → Int32} {m_otherHas : Nat → Int32} (h1 : RM n kd fg tn wd hr od kn tu hu) (h2 : GZ d_kinds d_figures d_tones d_words d_hours d_order d_known) (h3 : TZ d_times d_last) (h4 : TZ n_times n_last) (h5 : GZ k_kinds k_figures k_tones k_words k_hours k_order k_known) (h6 : RI x_imageTaken m_kept k_callers k_kinds k_figures k_tones k_words k_hours k_order k_known k_tune k_hurt k_patience k_day) (h7 : RT len t_letters) (h8 : RR r x_told) (h9 : RF x_refusals m_refused) (h10 : TZ m_answeredMany m_lastWord) (v1 : Int32) : ∃ o o', f_X3_bestTune d_callers d_kinds d_figures d_tones d_words d_hours d_order d_known d_tune d_hurt d_patience d_day d_answered d_unanswered d_said d_times d_last (nI n) kd fg tn wd hr od kn tu hu pa dy x_refusals v1 = some o ∧ f_X4_bestTune m_refused kn (st3 tu hu pa) kd fg tn wd hr (nI n) dy m_kept m_isKeeping m_cursor m_answeredMany m_lastWord 0 m_answered m_unanswered m_saidWords m_isCalledAtSeven m_isAnsweredAtSeven m_seen v1 = some o' ∧ o'.1 = o.1 ∧ Rel x_imageTaken (nI r) (o.2.1) (o.2.2.1) (o.2.2.2.1) (o.2.2.2.2.1) (o.2.2.2.2.2.1) (o.2.2.2.2.2.2.1) (o.2.2.2.2.2.2.2.1) (o.2.2.2.2.2.2.2.2.1) (o.2.2.2.2.2.2.2.2.2.1) (o.2.2.2.2.2.2.2.2.2.2.1) (o.2.2.2.2.2.2.2.2.2.2.2.1) (o.2.2.2.2.2.2.2.2.2.2.2.2.1) (o.2.2.2.2.2.2.2.2.2.2.2.2.2.1) (o.2.2.2.2.2.2.2.2.2.2.2.2.2.2.1) (o.2.2.2.2.2.2.2.2.2.2.2.2.2.2.2.1) (o.2.2.2.2.2.2.2.2.2.2.2.2.2.2.2.2.1) (o.2.2.2.2.2.2.2.2.2.2.2.2.2.2.2.2.2.1) (nI n) kd fg tn wd hr od kn tu hu pa dy n_answered n_unanswered n_said n_times n_last t_letters (nI len) x_told (o.2.2.2.2.2.2.2.2.2.2.2.2.2.2.2.2.2.2) k_callers k_kinds k_figures k_tones k_words k_hours k_order k_known k_tune k_hurt k_patience k_day k_answered k_unanswered k_said k_times k_last (o'.2.1) (o'.2.2.1) (o'.2.2.2.1) (o'.2.2.2.2.1) (o'.2.2.2.2.2.1) (o'.2.2.2.2.2.2.1) (o'.2.2.2.2.2.2.2.1) (o'.2.2.2.2.2.2.2.2.1) (o'.2.2.2.2.2.2.2.2.2.1) (o'.2.2.2.2.2.2.2.2.2.2.1) t_letters m_letter m_letterAt m_told (nI len) m_at m_statements (o'.2.2.2.2.2.2.2.2.2.2.2.1) x_imageTaken (o'.2.2.2.2.2.2.2.2.2.2.2.2.1) (o'.2.2.2.2.2.2.2.2.2.2.2.2.2.1) (o'.2.2.2.2.2.2.2.2.2.2.2.2.2.2.1) (o'.2.2.2.2.2.2.2.2.2.2.2.2.2.2.2.1) 0 (o'.2.2.2.2.2.2.2.2.2.2.2.2.2.2.2.2.1) (o'.2.2.2.2.2.2.2.2.2.2.2.2.2.2.2.2.2.1) (o'.2.2.2.2.2.2.2.2.2.2.2.2.2.2.2.2.2.2.1) (o'.2.2.2.2.2.2.2.2.2.2.2.2.2.2.2.2.2.2.2.1) (o'.2.2.2.2.2.2.2.2.2.2.2.2.2.2.2.2.2.2.2.2.1) (o'.2.2.2.2.2.2.2.2.2.2.2.2.2.2.2.2.2.2.2.2.2) m_weekAnswers m_weekHurt m_week x_told (nI r) m_oneHas m_otherHas := by
  have hn7 := h1.1.1
  have h1' := h1
  obtain ⟨g1, g2, g3, g4, g5, g6, g7⟩ := h1

  have hv := ahead_or v1
  unfold f_X3_bestTune f_X4_bestTune
  rw [← ahead_eq]
  generalize hq : f_X3_aheadNo v1 = w at hv ⊢
  by_cases hw : w = 0
  · obtain ⟨k, hk, rfl⟩ := ahead_nat (hq.trans hw)
    have hinv := gtS_inv (fun t => (dI n kd fg tn wd hr (nI t) pa 127 k (X0 kn hu dy)).2.2.2.1) (fun t => by
      obtain ⟨m, hm, e⟩ := dI_an (tu := nI t) (pa := pa) (who := 127) g1 kn hu dy k
      exact ⟨m, by omega, e⟩)
    have hc : ∃ D : GX, DZ D ∧ ∃ x, lp (fun z : Int32 × Int32 × Int32 × GX => f_X3_bestTune_L23 (nI k) (nI n) kd fg tn wd hr od kn tu hu pa dy z.1 z.2.1 z.2.2.1 z.2.2.2.1 z.2.2.2.2.1 z.2.2.2.2.2.1 z.2.2.2.2.2.2.1 z.2.2.2.2.2.2.2.1 z.2.2.2.2.2.2.2.2.1 z.2.2.2.2.2.2.2.2.2.1 z.2.2.2.2.2.2.2.2.2.2.1 z.2.2.2.2.2.2.2.2.2.2.2.1 z.2.2.2.2.2.2.2.2.2.2.2.2.1 z.2.2.2.2.2.2.2.2.2.2.2.2.2.1 z.2.2.2.2.2.2.2.2.2.2.2.2.2.2.1 z.2.2.2.2.2.2.2.2.2.2.2.2.2.2.2.1 z.2.2.2.2.2.2.2.2.2.2.2.2.2.2.2.2.1 z.2.2.2.2.2.2.2.2.2.2.2.2.2.2.2.2.2.1 z.2.2.2.2.2.2.2.2.2.2.2.2.2.2.2.2.2.2.1 z.2.2.2.2.2.2.2.2.2.2.2.2.2.2.2.2.2.2.2) 1000 (0, -1, 0, (d_callers, d_kinds, d_figures, d_tones, d_words, d_hours, d_order, d_known, d_tune, d_hurt, d_patience, d_day, d_answered, d_unanswered, d_said, d_times, d_last)) = some ((gtS (fun t => (dI n kd fg tn wd hr (nI t) pa 127 k (X0 kn hu dy)).2.2.2.1) 10).1, D) ∧ x = 0 := by
      obtain ⟨b, e, D, hD, rfl⟩ := lp_hoare (f := (fun z : Int32 × Int32 × Int32 × GX => f_X3_bestTune_L23 (nI k) (nI n) kd fg tn wd hr od kn tu hu pa dy z.1 z.2.1 z.2.2.1 z.2.2.2.1 z.2.2.2.2.1 z.2.2.2.2.2.1 z.2.2.2.2.2.2.1 z.2.2.2.2.2.2.2.1 z.2.2.2.2.2.2.2.2.1 z.2.2.2.2.2.2.2.2.2.1 z.2.2.2.2.2.2.2.2.2.2.1 z.2.2.2.2.2.2.2.2.2.2.2.1 z.2.2.2.2.2.2.2.2.2.2.2.2.1 z.2.2.2.2.2.2.2.2.2.2.2.2.2.1 z.2.2.2.2.2.2.2.2.2.2.2.2.2.2.1 z.2.2.2.2.2.2.2.2.2.2.2.2.2.2.2.1 z.2.2.2.2.2.2.2.2.2.2.2.2.2.2.2.2.1 z.2.2.2.2.2.2.2.2.2.2.2.2.2.2.2.2.2.1 z.2.2.2.2.2.2.2.2.2.2.2.2.2.2.2.2.2.2.1 z.2.2.2.2.2.2.2.2.2.2.2.2.2.2.2.2.2.2.2)) (fun i a => ∃ D : GX, a = ((gtS (fun t => (dI n kd fg tn wd hr (nI t) pa 127 k (X0 kn hu dy)).2.2.2.1) i).1, (gtS (fun t => (dI n kd fg tn wd hr (nI t) pa 127 k (X0 kn hu dy)).2.2.2.1) i).2, nI i, D) ∧ DZ D) (fun b => ∃ D : GX, DZ D ∧ b = ((gtS (fun t => (dI n kd fg tn wd hr (nI t) pa 127 k (X0 kn hu dy)).2.2.2.1) 10).1, D)) 10 (by
        rintro i _ hi ⟨D, rfl, hD⟩
        dsimp only
        unfold f_X3_bestTune_L23
        by_cases hlt : i < 10
        · left
          rw [if_neg (show ¬ (10 : Int32) ≤ nI i from gL 10 hlt), bi_s (think_D (nI n) tu hu pa dy hD g3 g5 g6)]
          dsimp only
          rw [bi_s (show f_X0_passDays (nI n) kd fg tn wd hr od kn (nI i) hu pa dy 0 0 0 z0 l9 (nI k) 127 = _ from days_c g1 g4 127 (X0 kn hu dy) (show k < 900 by omega)), nI_1]
          refine ⟨hlt, ((gtS (fun t => (dI n kd fg tn wd hr (nI t) pa 127 k (X0 kn hu dy)).2.2.2.1) (i + 1)).1, (gtS (fun t => (dI n kd fg tn wd hr (nI t) pa 127 k (X0 kn hu dy)).2.2.2.1) (i + 1)).2, nI (i + 1), GD n kd fg tn wd hr od (nI i) pa (dI n kd fg tn wd hr (nI i) pa 127 k (X0 kn hu dy))), ?_, _, rfl, GD_z g3 g5 (dI_z g1 (X0_z g6) g7 k).1⟩
          show (if (fun t => (dI n kd fg tn wd hr (nI t) pa 127 k (X0 kn hu dy)).2.2.2.1) i ≤ (gtS (fun t => (dI n kd fg tn wd hr (nI t) pa 127 k (X0 kn hu dy)).2.2.2.1) i).2 then _ else _) = some (Sum.inl ((if (fun t => (dI n kd fg tn wd hr (nI t) pa 127 k (X0 kn hu dy)).2.2.2.1) i ≤ (gtS (fun t => (dI n kd fg tn wd hr (nI t) pa 127 k (X0 kn hu dy)).2.2.2.1) i).2 then gtS (fun t => (dI n kd fg tn wd hr (nI t) pa 127 k (X0 kn hu dy)).2.2.2.1) i else (nI i, (fun t => (dI n kd fg tn wd hr (nI t) pa 127 k (X0 kn hu dy)).2.2.2.1) i)).1, (if (fun t => (dI n kd fg tn wd hr (nI t) pa 127 k (X0 kn hu dy)).2.2.2.1) i ≤ (gtS (fun t => (dI n kd fg tn wd hr (nI t) pa 127 k (X0 kn hu dy)).2.2.2.1) i).2 then gtS (fun t => (dI n kd fg tn wd hr (nI t) pa 127 k (X0 kn hu dy)).2.2.2.1) i else (nI i, (fun t => (dI n kd fg tn wd hr (nI t) pa 127 k (X0 kn hu dy)).2.2.2.1) i)).2, nI (i + 1), _))
          by_cases h : (fun t => (dI n kd fg tn wd hr (nI t) pa 127 k (X0 kn hu dy)).2.2.2.1) i ≤ (gtS (fun t => (dI n kd fg tn wd hr (nI t) pa 127 k (X0 kn hu dy)).2.2.2.1) i).2
          · rw [if_pos h, if_pos h]; rfl
          · rw [if_neg h, if_neg h]; rfl
        · right
          have : i = 10 := by omega
          subst this
          rw [if_pos (show (10 : Int32) ≤ nI 10 from lL 10 (Nat.le_refl 10))]
          exact ⟨_, rfl, D, hD, rfl⟩) 1000 0 (0, -1, 0, (d_callers, d_kinds, d_figures, d_tones, d_words, d_hours, d_order, d_known, d_tune, d_hurt, d_patience, d_day, d_answered, d_unanswered, d_said, d_times, d_last)) (Nat.zero_le _) (by omega) ⟨(d_callers, d_kinds, d_figures, d_tones, d_words, d_hours, d_order, d_known, d_tune, d_hurt, d_patience, d_day, d_answered, d_unanswered, d_said, d_times, d_last), rfl, ⟨h2, h3⟩⟩
      exact ⟨D, hD, 0, e, rfl⟩
    have hm : ∃ S' : SC, SOk m_kept S' ∧ lp (fun z : Int32 × Int32 × (Nat → Int32) × (Nat → Int32) × (Nat → Int32) × (Nat → Int32) × (Nat → Int32) × (Nat → Int32) × (Nat → Int32) × Int32 × Int32 × SC => f_X4_bestTune_L20 (nI k) 0 z.1 z.2.1 z.2.2.1 z.2.2.2.1 z.2.2.2.2.1 z.2.2.2.2.2.1 z.2.2.2.2.2.2.1 z.2.2.2.2.2.2.2.1 z.2.2.2.2.2.2.2.2.1 z.2.2.2.2.2.2.2.2.2.1 z.2.2.2.2.2.2.2.2.2.2.1 z.2.2.2.2.2.2.2.2.2.2.2.1 z.2.2.2.2.2.2.2.2.2.2.2.2.1 z.2.2.2.2.2.2.2.2.2.2.2.2.2.1 z.2.2.2.2.2.2.2.2.2.2.2.2.2.2.1 z.2.2.2.2.2.2.2.2.2.2.2.2.2.2.2.1 z.2.2.2.2.2.2.2.2.2.2.2.2.2.2.2.2.1 z.2.2.2.2.2.2.2.2.2.2.2.2.2.2.2.2.2.1 z.2.2.2.2.2.2.2.2.2.2.2.2.2.2.2.2.2.2.1 z.2.2.2.2.2.2.2.2.2.2.2.2.2.2.2.2.2.2.2.1 z.2.2.2.2.2.2.2.2.2.2.2.2.2.2.2.2.2.2.2.2.1 z.2.2.2.2.2.2.2.2.2.2.2.2.2.2.2.2.2.2.2.2.2) 1000 (0, 1, kn, st3 tu hu pa, kd, fg, tn, wd, hr, nI n, dy, (m_kept, m_isKeeping, m_cursor, m_answeredMany, m_lastWord, m_answered, m_unanswered, m_saidWords, m_isCalledAtSeven, m_isAnsweredAtSeven, m_seen)) = some ((gtS (fun t => (dI n kd fg tn wd hr (nI t) pa 127 k (X0 kn hu dy)).2.2.2.1) 10).1, kn, st3 tu hu pa, kd, fg, tn, wd, hr, nI n, dy, S') := by
      obtain ⟨b, e, S', hS', rfl⟩ := lp_hoare (f := (fun z : Int32 × Int32 × (Nat → Int32) × (Nat → Int32) × (Nat → Int32) × (Nat → Int32) × (Nat → Int32) × (Nat → Int32) × (Nat → Int32) × Int32 × Int32 × SC => f_X4_bestTune_L20 (nI k) 0 z.1 z.2.1 z.2.2.1 z.2.2.2.1 z.2.2.2.2.1 z.2.2.2.2.2.1 z.2.2.2.2.2.2.1 z.2.2.2.2.2.2.2.1 z.2.2.2.2.2.2.2.2.1 z.2.2.2.2.2.2.2.2.2.1 z.2.2.2.2.2.2.2.2.2.2.1 z.2.2.2.2.2.2.2.2.2.2.2.1 z.2.2.2.2.2.2.2.2.2.2.2.2.1 z.2.2.2.2.2.2.2.2.2.2.2.2.2.1 z.2.2.2.2.2.2.2.2.2.2.2.2.2.2.1 z.2.2.2.2.2.2.2.2.2.2.2.2.2.2.2.1 z.2.2.2.2.2.2.2.2.2.2.2.2.2.2.2.2.1 z.2.2.2.2.2.2.2.2.2.2.2.2.2.2.2.2.2.1 z.2.2.2.2.2.2.2.2.2.2.2.2.2.2.2.2.2.2.1 z.2.2.2.2.2.2.2.2.2.2.2.2.2.2.2.2.2.2.2.1 z.2.2.2.2.2.2.2.2.2.2.2.2.2.2.2.2.2.2.2.2.1 z.2.2.2.2.2.2.2.2.2.2.2.2.2.2.2.2.2.2.2.2.2)) (fun i a => ∃ S : SC, a = ((gtS (fun t => (dI n kd fg tn wd hr (nI t) pa 127 k (X0 kn hu dy)).2.2.2.1) (i + 1)).1, nI (i + 1), kn, st3 tu hu pa, kd, fg, tn, wd, hr, nI n, dy, S) ∧ SOk m_kept S) (fun b => ∃ S' : SC, SOk m_kept S' ∧ b = ((gtS (fun t => (dI n kd fg tn wd hr (nI t) pa 127 k (X0 kn hu dy)).2.2.2.1) 10).1, kn, st3 tu hu pa, kd, fg, tn, wd, hr, nI n, dy, S')) 9 (by
        rintro i _ hi ⟨S, rfl, hS⟩
        dsimp only
        unfold f_X4_bestTune_L20
        obtain ⟨j, hj, ej⟩ := hinv i
        by_cases hlt : i < 9
        · left
          obtain ⟨S1, hS1, e1⟩ := ansTune (tu := tu) pa dy g1 g3 g6 g7 hS (show k < 900 by omega) (show i + 1 < 10 by omega)
          obtain ⟨S2, hS2, e2⟩ := ansTune (tu := tu) pa dy g1 g3 g6 g7 hS1 (show k < 900 by omega) (show j < 10 by omega)
          rw [if_neg (show ¬ (10 : Int32) ≤ nI (i + 1) from gL 10 (by omega)), ej, bi_s e1]
          dsimp only
          rw [bi_s e2, nI_1]
          refine ⟨hlt, ((gtS (fun t => (dI n kd fg tn wd hr (nI t) pa 127 k (X0 kn hu dy)).2.2.2.1) (i + 1 + 1)).1, nI (i + 1 + 1), kn, st3 tu hu pa, kd, fg, tn, wd, hr, nI n, dy, S2), ?_, S2, rfl, hS2⟩
          show (if (fun t => (dI n kd fg tn wd hr (nI t) pa 127 k (X0 kn hu dy)).2.2.2.1) (i + 1) ≤ (fun t => (dI n kd fg tn wd hr (nI t) pa 127 k (X0 kn hu dy)).2.2.2.1) j then _ else _) = some (Sum.inl ((if (fun t => (dI n kd fg tn wd hr (nI t) pa 127 k (X0 kn hu dy)).2.2.2.1) (i + 1) ≤ (gtS (fun t => (dI n kd fg tn wd hr (nI t) pa 127 k (X0 kn hu dy)).2.2.2.1) (i + 1)).2 then gtS (fun t => (dI n kd fg tn wd hr (nI t) pa 127 k (X0 kn hu dy)).2.2.2.1) (i + 1) else (nI (i + 1), (fun t => (dI n kd fg tn wd hr (nI t) pa 127 k (X0 kn hu dy)).2.2.2.1) (i + 1))).1, nI (i + 1 + 1), kn, st3 tu hu pa, kd, fg, tn, wd, hr, nI n, dy, S2))
          rw [ej]
          by_cases h : (fun t => (dI n kd fg tn wd hr (nI t) pa 127 k (X0 kn hu dy)).2.2.2.1) (i + 1) ≤ (fun t => (dI n kd fg tn wd hr (nI t) pa 127 k (X0 kn hu dy)).2.2.2.1) j
          · rw [if_pos h, if_pos h]
          · rw [if_neg h, if_neg h]
        · right
          have : i = 9 := by omega
          subst this
          rw [if_pos (show (10 : Int32) ≤ nI (9 + 1) from lL 10 (Nat.le_refl 10))]
          exact ⟨_, rfl, S, hS, rfl⟩) 1000 0 (0, 1, kn, st3 tu hu pa, kd, fg, tn, wd, hr, nI n, dy, (m_kept, m_isKeeping, m_cursor, m_answeredMany, m_lastWord, m_answered, m_unanswered, m_saidWords, m_isCalledAtSeven, m_isAnsweredAtSeven, m_seen)) (Nat.zero_le _) (by omega) ⟨(m_kept, m_isKeeping, m_cursor, m_answeredMany, m_lastWord, m_answered, m_unanswered, m_saidWords, m_isCalledAtSeven, m_isAnsweredAtSeven, m_seen), by
            obtain ⟨j, hj, ej⟩ := hinv 0
            rw [ej, show j = 0 by omega]; rfl, SOk.self m_kept _ _ _ _ _ _ _ _ _ _ h10⟩
      exact ⟨S', hS', e⟩
    obtain ⟨D, hD, -, ec, -⟩ := hc
    obtain ⟨S', hS', em'⟩ := hm
    rw [if_pos hw, if_pos hw, bi_s ec, bi_s em']
    exact ⟨_, _, rfl, rfl, rfl, mkRel h1' hD.1 hD.2 h4 h5 (RI.sameS h6 hS') h7 h8 h9 hS'.2⟩
  · obtain ⟨fm, e, hf⟩ := ref_ok h9 (hv.resolve_left hw)
    rw [if_neg hw, if_neg hw, bi_s e]
    exact ⟨_, _, rfl, rfl, rfl, mkRel h1' h2 h3 h4 h5 h6 h7 h8 hf h10⟩
set_option maxHeartbeats 4000000 in
set_option maxRecDepth 4000 in
theorem sim_bestHour {n len r : Nat} {x_imageTaken : Int32} {d_callers : Int32} {d_kinds : Nat → Int32} {d_figures : Nat → Int32} {d_tones : Nat → Int32} {d_words : Nat → Int32} {d_hours : Nat → Int32} {d_order : Nat → Int32} {d_known : Nat → Int32} {d_tune : Int32} {d_hurt : Int32} {d_patience : Int32} {d_day : Int32} {d_answered : Int32} {d_unanswered : Int32} {d_said : Int32} {d_times : Nat → Int32} {d_last : Nat → Int32} {n_answered : Int32} {n_unanswered : Int32} {n_said : Int32} {n_times : Nat → Int32} {n_last : Nat → Int32} {t_letters : Nat → Int32} {x_told : Nat → Int32} {x_refusals : Nat → Int32} {k_callers : Int32} {k_kinds : Nat → Int32} {k_figures : Nat → Int32} {k_tones : Nat → Int32} {k_words : Nat → Int32} {k_hours : Nat → Int32} {k_order : Nat → Int32} {k_known : Nat → Int32} {k_tune : Int32} {k_hurt : Int32} {k_patience : Int32} {k_day : Int32} {k_answered : Int32} {k_unanswered : Int32} {k_said : Int32} {k_times : Nat → Int32} {k_last : Nat → Int32} {kd : Nat → Int32} {fg : Nat → Int32} {tn : Nat → Int32} {wd : Nat → Int32} {hr : Nat → Int32} {od : Nat → Int32} {kn : Nat → Int32} {tu : Int32} {hu : Int32} {pa : Int32} {dy : Int32} {m_refused : Nat → Int32} {m_letter : Nat → Int32} {m_letterAt : Nat → Int32} {m_told : Nat → Int32} {m_at : Int32} {m_statements : Int32} {m_kept : Nat → Int32} {m_isKeeping : Int32} {m_cursor : Int32} {m_answeredMany : Nat → Int32} {m_lastWord : Nat → Int32} {m_answered : Int32} {m_unanswered : Int32} {m_saidWords : Int32} {m_isCalledAtSeven : Int32} {m_isAnsweredAtSeven : Int32} {m_seen : Nat → Int32} {m_weekAnswers : Int32} {m_weekHurt : Int32} {m_week : Nat → Int32} {m_oneHas : Nat → Int32} {m_otherHas : Nat → Int32} (h1 : RM n kd fg tn wd hr od kn tu hu) (h2 : GZ d_kinds d_figures d_tones d_words d_hours d_order d_known) (h3 : TZ d_times d_last) (h4 : TZ n_times n_last) (h5 : GZ k_kinds k_figures k_tones k_words k_hours k_order k_known) (h6 : RI x_imageTaken m_kept k_callers k_kinds k_figures k_tones k_words k_hours k_order k_known k_tune k_hurt k_patience k_day) (h7 : RT len t_letters) (h8 : RR r x_told) (h9 : RF x_refusals m_refused) (h10 : TZ m_answeredMany m_lastWord) (v1 : Int32) (v2 : Int32) : ∃ o o', f_X3_bestHour d_callers d_kinds d_figures d_tones d_words d_hours d_order d_known d_tune d_hurt d_patience d_day d_answered d_unanswered d_said d_times d_last (nI n) kd fg tn wd hr od kn tu hu pa dy x_refusals v1 v2 = some o ∧ f_X4_bestHour m_refused kn (st3 tu hu pa) kd fg tn wd hr (nI n) dy m_kept m_isKeeping m_cursor m_answeredMany m_lastWord 0 m_answered m_unanswered m_saidWords m_isCalledAtSeven m_isAnsweredAtSeven m_seen v1 v2 = some o' ∧ o'.1 = o.1 ∧ Rel x_imageTaken (nI r) (o.2.1) (o.2.2.1) (o.2.2.2.1) (o.2.2.2.2.1) (o.2.2.2.2.2.1) (o.2.2.2.2.2.2.1) (o.2.2.2.2.2.2.2.1) (o.2.2.2.2.2.2.2.2.1) (o.2.2.2.2.2.2.2.2.2.1) (o.2.2.2.2.2.2.2.2.2.2.1) (o.2.2.2.2.2.2.2.2.2.2.2.1) (o.2.2.2.2.2.2.2.2.2.2.2.2.1) (o.2.2.2.2.2.2.2.2.2.2.2.2.2.1) (o.2.2.2.2.2.2.2.2.2.2.2.2.2.2.1) (o.2.2.2.2.2.2.2.2.2.2.2.2.2.2.2.1) (o.2.2.2.2.2.2.2.2.2.2.2.2.2.2.2.2.1) (o.2.2.2.2.2.2.2.2.2.2.2.2.2.2.2.2.2.1) (nI n) kd fg tn wd hr od kn tu hu pa dy n_answered n_unanswered n_said n_times n_last t_letters (nI len) x_told (o.2.2.2.2.2.2.2.2.2.2.2.2.2.2.2.2.2.2) k_callers k_kinds k_figures k_tones k_words k_hours k_order k_known k_tune k_hurt k_patience k_day k_answered k_unanswered k_said k_times k_last (o'.2.1) (o'.2.2.1) (o'.2.2.2.1) (o'.2.2.2.2.1) (o'.2.2.2.2.2.1) (o'.2.2.2.2.2.2.1) (o'.2.2.2.2.2.2.2.1) (o'.2.2.2.2.2.2.2.2.1) (o'.2.2.2.2.2.2.2.2.2.1) (o'.2.2.2.2.2.2.2.2.2.2.1) t_letters m_letter m_letterAt m_told (nI len) m_at m_statements (o'.2.2.2.2.2.2.2.2.2.2.2.1) x_imageTaken (o'.2.2.2.2.2.2.2.2.2.2.2.2.1) (o'.2.2.2.2.2.2.2.2.2.2.2.2.2.1) (o'.2.2.2.2.2.2.2.2.2.2.2.2.2.2.1) (o'.2.2.2.2.2.2.2.2.2.2.2.2.2.2.2.1) 0 (o'.2.2.2.2.2.2.2.2.2.2.2.2.2.2.2.2.1) (o'.2.2.2.2.2.2.2.2.2.2.2.2.2.2.2.2.2.1) (o'.2.2.2.2.2.2.2.2.2.2.2.2.2.2.2.2.2.2.1) (o'.2.2.2.2.2.2.2.2.2.2.2.2.2.2.2.2.2.2.2.1) (o'.2.2.2.2.2.2.2.2.2.2.2.2.2.2.2.2.2.2.2.2.1) (o'.2.2.2.2.2.2.2.2.2.2.2.2.2.2.2.2.2.2.2.2.2) m_weekAnswers m_weekHurt m_week x_told (nI r) m_oneHas m_otherHas := by
  have hn7 := h1.1.1
  have h1' := h1
  obtain ⟨g1, g2, g3, g4, g5, g6, g7⟩ := h1

  have hv := first_or (call_or (nI n) v1) (ahead_or v2)
  have em : ∀ w, f_X3_first (f_X3_callerNo (nI n) v1) (f_X3_aheadNo v2) = w → f_X4_bestHour m_refused kn (st3 tu hu pa) kd fg tn wd hr (nI n) dy m_kept m_isKeeping m_cursor m_answeredMany m_lastWord 0 m_answered m_unanswered m_saidWords m_isCalledAtSeven m_isAnsweredAtSeven m_seen v1 v2 = f_X4_bestHour_J16 v1 v2 w m_refused kn (st3 tu hu pa) kd fg tn wd hr (nI n) dy m_kept m_isKeeping m_cursor m_answeredMany m_lastWord 0 m_answered m_unanswered m_saidWords m_isCalledAtSeven m_isAnsweredAtSeven m_seen := by
    intro w hw
    unfold f_X3_first at hw
    rw [call_eq, ahead_eq] at hw
    subst hw
    unfold f_X4_bestHour
    by_cases a : f_X4_isCaller (nI n) v1 = 0
    · rw [if_pos a, if_pos a, if_neg n1]
    · rw [if_neg a, if_neg a, if_pos rfl]
  unfold f_X3_bestHour
  generalize hq : f_X3_first (f_X3_callerNo (nI n) v1) (f_X3_aheadNo v2) = w at hv ⊢
  rw [em w hq]
  unfold f_X4_bestHour_J16
  by_cases hw : w = 0
  · obtain ⟨ha, hb⟩ := first_0 (hq.trans hw)
    obtain ⟨c, hcn, rfl⟩ := call_nat hn7 ha
    obtain ⟨k, hk, rfl⟩ := ahead_nat hb
    have hc7 : c < 7 := by omega
    have hinv : ∀ t, t < 24 → ∃ j, j ≤ t ∧ gtS (fun h => (dI n kd fg tn wd (upd hr c (nI h)) tu pa 127 k (X0 kn hu dy)).2.2.2.1) (t + 1) = (nI j, (fun h => (dI n kd fg tn wd (upd hr c (nI h)) tu pa 127 k (X0 kn hu dy)).2.2.2.1) j) := by
      intro t
      induction t with
      | zero => intro _; exact ⟨0, by omega, by
          obtain ⟨m, hm, e⟩ := dI_an (tu := tu) (pa := pa) (who := 127) (g1.hour (c := c) (h := 0) (by omega)) kn hu dy k
          show (if (fun h => (dI n kd fg tn wd (upd hr c (nI h)) tu pa 127 k (X0 kn hu dy)).2.2.2.1) 0 ≤ -1 then _ else _) = _
          rw [if_neg]
          · show ¬ (dI n kd fg tn wd (upd hr c (nI 0)) tu pa 127 k (X0 kn hu dy)).2.2.2.1 ≤ -1
            rw [e, i_le, nI_toInt (by omega)]
            have e1 : (-1 : Int32).toInt = -1 := rfl
            omega⟩
      | succ t ih =>
        intro ht
        obtain ⟨j, hj, e⟩ := ih (by omega)
        show ∃ j, j ≤ t + 1 ∧ (if (fun h => (dI n kd fg tn wd (upd hr c (nI h)) tu pa 127 k (X0 kn hu dy)).2.2.2.1) (t + 1) ≤ (gtS (fun h => (dI n kd fg tn wd (upd hr c (nI h)) tu pa 127 k (X0 kn hu dy)).2.2.2.1) (t + 1)).2 then gtS (fun h => (dI n kd fg tn wd (upd hr c (nI h)) tu pa 127 k (X0 kn hu dy)).2.2.2.1) (t + 1) else (nI (t + 1), (fun h => (dI n kd fg tn wd (upd hr c (nI h)) tu pa 127 k (X0 kn hu dy)).2.2.2.1) (t + 1))) = (nI j, (fun h => (dI n kd fg tn wd (upd hr c (nI h)) tu pa 127 k (X0 kn hu dy)).2.2.2.1) j)
        split
        · exact ⟨j, by omega, e⟩
        · exact ⟨t + 1, by omega, rfl⟩
    have hc : ∃ D : GX, DZ D ∧ lp (fun z : Int32 × Int32 × Int32 × GX => f_X3_bestHour_L32 (nI c) (nI k) (nI n) kd fg tn wd hr od kn tu hu pa dy z.1 z.2.1 z.2.2.1 z.2.2.2.1 z.2.2.2.2.1 z.2.2.2.2.2.1 z.2.2.2.2.2.2.1 z.2.2.2.2.2.2.2.1 z.2.2.2.2.2.2.2.2.1 z.2.2.2.2.2.2.2.2.2.1 z.2.2.2.2.2.2.2.2.2.2.1 z.2.2.2.2.2.2.2.2.2.2.2.1 z.2.2.2.2.2.2.2.2.2.2.2.2.1 z.2.2.2.2.2.2.2.2.2.2.2.2.2.1 z.2.2.2.2.2.2.2.2.2.2.2.2.2.2.1 z.2.2.2.2.2.2.2.2.2.2.2.2.2.2.2.1 z.2.2.2.2.2.2.2.2.2.2.2.2.2.2.2.2.1 z.2.2.2.2.2.2.2.2.2.2.2.2.2.2.2.2.2.1 z.2.2.2.2.2.2.2.2.2.2.2.2.2.2.2.2.2.2.1 z.2.2.2.2.2.2.2.2.2.2.2.2.2.2.2.2.2.2.2) 1000 (0, -1, 0, (d_callers, d_kinds, d_figures, d_tones, d_words, d_hours, d_order, d_known, d_tune, d_hurt, d_patience, d_day, d_answered, d_unanswered, d_said, d_times, d_last)) = some ((gtS (fun h => (dI n kd fg tn wd (upd hr c (nI h)) tu pa 127 k (X0 kn hu dy)).2.2.2.1) 24).1, D) := by
      obtain ⟨b, e, D, hD, rfl⟩ := lp_hoare (f := (fun z : Int32 × Int32 × Int32 × GX => f_X3_bestHour_L32 (nI c) (nI k) (nI n) kd fg tn wd hr od kn tu hu pa dy z.1 z.2.1 z.2.2.1 z.2.2.2.1 z.2.2.2.2.1 z.2.2.2.2.2.1 z.2.2.2.2.2.2.1 z.2.2.2.2.2.2.2.1 z.2.2.2.2.2.2.2.2.1 z.2.2.2.2.2.2.2.2.2.1 z.2.2.2.2.2.2.2.2.2.2.1 z.2.2.2.2.2.2.2.2.2.2.2.1 z.2.2.2.2.2.2.2.2.2.2.2.2.1 z.2.2.2.2.2.2.2.2.2.2.2.2.2.1 z.2.2.2.2.2.2.2.2.2.2.2.2.2.2.1 z.2.2.2.2.2.2.2.2.2.2.2.2.2.2.2.1 z.2.2.2.2.2.2.2.2.2.2.2.2.2.2.2.2.1 z.2.2.2.2.2.2.2.2.2.2.2.2.2.2.2.2.2.1 z.2.2.2.2.2.2.2.2.2.2.2.2.2.2.2.2.2.2.1 z.2.2.2.2.2.2.2.2.2.2.2.2.2.2.2.2.2.2.2)) (fun i a => ∃ D : GX, a = ((gtS (fun h => (dI n kd fg tn wd (upd hr c (nI h)) tu pa 127 k (X0 kn hu dy)).2.2.2.1) i).1, (gtS (fun h => (dI n kd fg tn wd (upd hr c (nI h)) tu pa 127 k (X0 kn hu dy)).2.2.2.1) i).2, nI i, D) ∧ DZ D) (fun b => ∃ D : GX, DZ D ∧ b = ((gtS (fun h => (dI n kd fg tn wd (upd hr c (nI h)) tu pa 127 k (X0 kn hu dy)).2.2.2.1) 24).1, D)) 24 (by
        rintro i _ hi ⟨D, rfl, hD⟩
        dsimp only
        unfold f_X3_bestHour_L32
        by_cases hlt : i < 24
        · left
          obtain ⟨od', e1, ho, hzo⟩ := move_c g1 g5 hcn hlt
          rw [if_neg (show ¬ (24 : Int32) ≤ nI i from gL 24 hlt), bi_s (think_D (nI n) tu hu pa dy hD g3 g5 g6)]
          dsimp only
          rw [bi_s e1]
          dsimp only
          rw [bi_s (show f_X0_passDays (nI n) kd fg tn wd (upd hr c (nI i)) od' kn tu hu pa dy 0 0 0 z0 l9 (nI k) 127 = _ from days_c (g1.hour hlt) ho 127 (X0 kn hu dy) (show k < 900 by omega)), nI_1]
          refine ⟨hlt, ((gtS (fun h => (dI n kd fg tn wd (upd hr c (nI h)) tu pa 127 k (X0 kn hu dy)).2.2.2.1) (i + 1)).1, (gtS (fun h => (dI n kd fg tn wd (upd hr c (nI h)) tu pa 127 k (X0 kn hu dy)).2.2.2.1) (i + 1)).2, nI (i + 1), GD n kd fg tn wd (upd hr c (nI i)) od' tu pa (dI n kd fg tn wd (upd hr c (nI i)) tu pa 127 k (X0 kn hu dy))), ?_, _, rfl, GD_z (g3.hour hc7 _) hzo (dI_z (g1.hour hlt) (X0_z g6) g7 k).1⟩
          show (if (fun h => (dI n kd fg tn wd (upd hr c (nI h)) tu pa 127 k (X0 kn hu dy)).2.2.2.1) i ≤ (gtS (fun h => (dI n kd fg tn wd (upd hr c (nI h)) tu pa 127 k (X0 kn hu dy)).2.2.2.1) i).2 then _ else _) = some (Sum.inl ((if (fun h => (dI n kd fg tn wd (upd hr c (nI h)) tu pa 127 k (X0 kn hu dy)).2.2.2.1) i ≤ (gtS (fun h => (dI n kd fg tn wd (upd hr c (nI h)) tu pa 127 k (X0 kn hu dy)).2.2.2.1) i).2 then gtS (fun h => (dI n kd fg tn wd (upd hr c (nI h)) tu pa 127 k (X0 kn hu dy)).2.2.2.1) i else (nI i, (fun h => (dI n kd fg tn wd (upd hr c (nI h)) tu pa 127 k (X0 kn hu dy)).2.2.2.1) i)).1, (if (fun h => (dI n kd fg tn wd (upd hr c (nI h)) tu pa 127 k (X0 kn hu dy)).2.2.2.1) i ≤ (gtS (fun h => (dI n kd fg tn wd (upd hr c (nI h)) tu pa 127 k (X0 kn hu dy)).2.2.2.1) i).2 then gtS (fun h => (dI n kd fg tn wd (upd hr c (nI h)) tu pa 127 k (X0 kn hu dy)).2.2.2.1) i else (nI i, (fun h => (dI n kd fg tn wd (upd hr c (nI h)) tu pa 127 k (X0 kn hu dy)).2.2.2.1) i)).2, nI (i + 1), _))
          by_cases h : (fun h => (dI n kd fg tn wd (upd hr c (nI h)) tu pa 127 k (X0 kn hu dy)).2.2.2.1) i ≤ (gtS (fun h => (dI n kd fg tn wd (upd hr c (nI h)) tu pa 127 k (X0 kn hu dy)).2.2.2.1) i).2
          · rw [if_pos h, if_pos h]; rfl
          · rw [if_neg h, if_neg h]; rfl
        · right
          have : i = 24 := by omega
          subst this
          rw [if_pos (show (24 : Int32) ≤ nI 24 from lL 24 (Nat.le_refl 24))]
          exact ⟨_, rfl, D, hD, rfl⟩) 1000 0 (0, -1, 0, (d_callers, d_kinds, d_figures, d_tones, d_words, d_hours, d_order, d_known, d_tune, d_hurt, d_patience, d_day, d_answered, d_unanswered, d_said, d_times, d_last)) (Nat.zero_le _) (by omega) ⟨(d_callers, d_kinds, d_figures, d_tones, d_words, d_hours, d_order, d_known, d_tune, d_hurt, d_patience, d_day, d_answered, d_unanswered, d_said, d_times, d_last), rfl, ⟨h2, h3⟩⟩
      exact ⟨D, hD, e⟩
    have hm : ∃ S' : SC, SOk m_kept S' ∧ lp (fun z : Int32 × Int32 × (Nat → Int32) × (Nat → Int32) × (Nat → Int32) × (Nat → Int32) × (Nat → Int32) × (Nat → Int32) × (Nat → Int32) × Int32 × Int32 × SC => f_X4_bestHour_L33 (nI c) (nI k) 0 z.1 z.2.1 z.2.2.1 z.2.2.2.1 z.2.2.2.2.1 z.2.2.2.2.2.1 z.2.2.2.2.2.2.1 z.2.2.2.2.2.2.2.1 z.2.2.2.2.2.2.2.2.1 z.2.2.2.2.2.2.2.2.2.1 z.2.2.2.2.2.2.2.2.2.2.1 z.2.2.2.2.2.2.2.2.2.2.2.1 z.2.2.2.2.2.2.2.2.2.2.2.2.1 z.2.2.2.2.2.2.2.2.2.2.2.2.2.1 z.2.2.2.2.2.2.2.2.2.2.2.2.2.2.1 z.2.2.2.2.2.2.2.2.2.2.2.2.2.2.2.1 z.2.2.2.2.2.2.2.2.2.2.2.2.2.2.2.2.1 z.2.2.2.2.2.2.2.2.2.2.2.2.2.2.2.2.2.1 z.2.2.2.2.2.2.2.2.2.2.2.2.2.2.2.2.2.2.1 z.2.2.2.2.2.2.2.2.2.2.2.2.2.2.2.2.2.2.2.1 z.2.2.2.2.2.2.2.2.2.2.2.2.2.2.2.2.2.2.2.2.1 z.2.2.2.2.2.2.2.2.2.2.2.2.2.2.2.2.2.2.2.2.2) 1000 (0, 1, kn, st3 tu hu pa, kd, fg, tn, wd, hr, nI n, dy, (m_kept, m_isKeeping, m_cursor, m_answeredMany, m_lastWord, m_answered, m_unanswered, m_saidWords, m_isCalledAtSeven, m_isAnsweredAtSeven, m_seen)) = some ((gtS (fun h => (dI n kd fg tn wd (upd hr c (nI h)) tu pa 127 k (X0 kn hu dy)).2.2.2.1) 24).1, kn, st3 tu hu pa, kd, fg, tn, wd, hr, nI n, dy, S') := by
      obtain ⟨b, e, S', hS', rfl⟩ := lp_hoare (f := (fun z : Int32 × Int32 × (Nat → Int32) × (Nat → Int32) × (Nat → Int32) × (Nat → Int32) × (Nat → Int32) × (Nat → Int32) × (Nat → Int32) × Int32 × Int32 × SC => f_X4_bestHour_L33 (nI c) (nI k) 0 z.1 z.2.1 z.2.2.1 z.2.2.2.1 z.2.2.2.2.1 z.2.2.2.2.2.1 z.2.2.2.2.2.2.1 z.2.2.2.2.2.2.2.1 z.2.2.2.2.2.2.2.2.1 z.2.2.2.2.2.2.2.2.2.1 z.2.2.2.2.2.2.2.2.2.2.1 z.2.2.2.2.2.2.2.2.2.2.2.1 z.2.2.2.2.2.2.2.2.2.2.2.2.1 z.2.2.2.2.2.2.2.2.2.2.2.2.2.1 z.2.2.2.2.2.2.2.2.2.2.2.2.2.2.1 z.2.2.2.2.2.2.2.2.2.2.2.2.2.2.2.1 z.2.2.2.2.2.2.2.2.2.2.2.2.2.2.2.2.1 z.2.2.2.2.2.2.2.2.2.2.2.2.2.2.2.2.2.1 z.2.2.2.2.2.2.2.2.2.2.2.2.2.2.2.2.2.2.1 z.2.2.2.2.2.2.2.2.2.2.2.2.2.2.2.2.2.2.2.1 z.2.2.2.2.2.2.2.2.2.2.2.2.2.2.2.2.2.2.2.2.1 z.2.2.2.2.2.2.2.2.2.2.2.2.2.2.2.2.2.2.2.2.2)) (fun i a => ∃ S : SC, a = ((gtS (fun h => (dI n kd fg tn wd (upd hr c (nI h)) tu pa 127 k (X0 kn hu dy)).2.2.2.1) (i + 1)).1, nI (i + 1), kn, st3 tu hu pa, kd, fg, tn, wd, hr, nI n, dy, S) ∧ SOk m_kept S) (fun b => ∃ S' : SC, SOk m_kept S' ∧ b = ((gtS (fun h => (dI n kd fg tn wd (upd hr c (nI h)) tu pa 127 k (X0 kn hu dy)).2.2.2.1) 24).1, kn, st3 tu hu pa, kd, fg, tn, wd, hr, nI n, dy, S')) 23 (by
        rintro i _ hi ⟨S, rfl, hS⟩
        dsimp only
        unfold f_X4_bestHour_L33
        obtain ⟨j, hj, ej⟩ := hinv i (by omega)
        by_cases hlt : i < 23
        · left
          obtain ⟨S1, hS1, e1⟩ := ansAt pa dy g1 g2 g3 g6 g7 hS (show k < 900 by omega) hcn (show i + 1 < 24 by omega)
          obtain ⟨S2, hS2, e2⟩ := ansAt pa dy g1 g2 g3 g6 g7 hS1 (show k < 900 by omega) hcn (show j < 24 by omega)
          rw [if_neg (show ¬ (24 : Int32) ≤ nI (i + 1) from gL 24 (by omega)), ej, bi_s e1]
          dsimp only
          rw [bi_s e2, nI_1]
          refine ⟨hlt, ((gtS (fun h => (dI n kd fg tn wd (upd hr c (nI h)) tu pa 127 k (X0 kn hu dy)).2.2.2.1) (i + 1 + 1)).1, nI (i + 1 + 1), kn, st3 tu hu pa, kd, fg, tn, wd, hr, nI n, dy, S2), ?_, S2, rfl, hS2⟩
          show (if (fun h => (dI n kd fg tn wd (upd hr c (nI h)) tu pa 127 k (X0 kn hu dy)).2.2.2.1) (i + 1) ≤ (fun h => (dI n kd fg tn wd (upd hr c (nI h)) tu pa 127 k (X0 kn hu dy)).2.2.2.1) j then _ else _) = some (Sum.inl ((if (fun h => (dI n kd fg tn wd (upd hr c (nI h)) tu pa 127 k (X0 kn hu dy)).2.2.2.1) (i + 1) ≤ (gtS (fun h => (dI n kd fg tn wd (upd hr c (nI h)) tu pa 127 k (X0 kn hu dy)).2.2.2.1) (i + 1)).2 then gtS (fun h => (dI n kd fg tn wd (upd hr c (nI h)) tu pa 127 k (X0 kn hu dy)).2.2.2.1) (i + 1) else (nI (i + 1), (fun h => (dI n kd fg tn wd (upd hr c (nI h)) tu pa 127 k (X0 kn hu dy)).2.2.2.1) (i + 1))).1, nI (i + 1 + 1), kn, st3 tu hu pa, kd, fg, tn, wd, hr, nI n, dy, S2))
          rw [ej]
          by_cases h : (fun h => (dI n kd fg tn wd (upd hr c (nI h)) tu pa 127 k (X0 kn hu dy)).2.2.2.1) (i + 1) ≤ (fun h => (dI n kd fg tn wd (upd hr c (nI h)) tu pa 127 k (X0 kn hu dy)).2.2.2.1) j
          · rw [if_pos h, if_pos h]
          · rw [if_neg h, if_neg h]
        · right
          have : i = 23 := by omega
          subst this
          rw [if_pos (show (24 : Int32) ≤ nI (23 + 1) from lL 24 (Nat.le_refl 24))]
          exact ⟨_, rfl, S, hS, rfl⟩) 1000 0 (0, 1, kn, st3 tu hu pa, kd, fg, tn, wd, hr, nI n, dy, (m_kept, m_isKeeping, m_cursor, m_answeredMany, m_lastWord, m_answered, m_unanswered, m_saidWords, m_isCalledAtSeven, m_isAnsweredAtSeven, m_seen)) (Nat.zero_le _) (by omega) ⟨(m_kept, m_isKeeping, m_cursor, m_answeredMany, m_lastWord, m_answered, m_unanswered, m_saidWords, m_isCalledAtSeven, m_isAnsweredAtSeven, m_seen), by
            obtain ⟨j, hj, ej⟩ := hinv 0 (by omega)
            rw [ej, show j = 0 by omega]; rfl, SOk.self m_kept _ _ _ _ _ _ _ _ _ _ h10⟩
      exact ⟨S', hS', e⟩
    obtain ⟨D, hD, ec⟩ := hc
    obtain ⟨S', hS', em'⟩ := hm
    rw [if_pos hw, if_pos hw, bi_s ec, bi_s em']
    exact ⟨_, _, rfl, rfl, rfl, mkRel h1' hD.1 hD.2 h4 h5 (RI.sameS h6 hS') h7 h8 h9 hS'.2⟩
  · obtain ⟨fm, e, hf⟩ := ref_ok h9 (hv.resolve_left hw)
    rw [if_neg hw, if_neg hw, bi_s e]
    exact ⟨_, _, rfl, rfl, rfl, mkRel h1' h2 h3 h4 h5 h6 h7 h8 hf h10⟩
