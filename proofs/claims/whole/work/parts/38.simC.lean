abbrev SC : Type := (Nat → Int32) × Int32 × Int32 × (Nat → Int32) × (Nat → Int32) × Int32 × Int32 × Int32 × Int32 × Int32 × (Nat → Int32)
/-- the model's rows for thinking: the image is as it was, the rest has its length -/
def SOk (k0 : Nat → Int32) (S : SC) : Prop := (∀ k, k < 100 → S.1 k = k0 k) ∧ TZ S.2.2.2.1 S.2.2.2.2.1
theorem RI.sameS {it : Int32} {kept : Nat → Int32} {kc : Int32} {kd fg tn wd hr od kn : Nat → Int32} {tu hu pa dy : Int32} {S : SC} (h : RI it kept kc kd fg tn wd hr od kn tu hu pa dy) (e : SOk kept S) : RI it S.1 kc kd fg tn wd hr od kn tu hu pa dy := h.same (fun k hk => e.1 k (by omega))
def SX (X : DX) (S S' : SC) : Prop := S'.2.2.2.1 = X.2.2.2.2.2.2.1 ∧ S'.2.2.2.2.1 = X.2.2.2.2.2.2.2 ∧ S'.2.2.2.2.2.1 = X.2.2.2.1 ∧ S'.2.2.2.2.2.2.1 = X.2.2.2.2.1 ∧ S'.2.2.2.2.2.2.2.1 = X.2.2.2.2.2.1 ∧ S'.2.2.2.2.2.2.2.2.2.2 = snF X S.2.2.2.2.2.2.2.2.2.2
theorem thinks_S {n : Nat} {kd fg tn wd hr : Nat → Int32} {tu pa : Int32} (hF : OkF n kd fg tn wd hr) (hT : OkT tu) (hZ : FZ kd fg tn wd hr) {who aw : Int32} (hB : Bits n who aw) {kn : Nat → Int32} (hk8 : Zr 8 kn) {hu : Int32} (hh : HR hu) (dy : Int32) {k0 : Nat → Int32} {S : SC} (hS : SOk k0 S) {k : Nat} (hk : k < 900) : ∃ S' : SC, f_X4_thinks kn (st3 tu hu pa) kd fg tn wd hr (nI n) dy S.1 S.2.2.2.1 S.2.2.2.2.1 aw S.2.2.2.2.2.2.2.2.1 S.2.2.2.2.2.2.2.2.2.1 S.2.2.2.2.2.2.2.2.2.2 (nI k) = some (kn, st3 tu hu pa, kd, fg, tn, wd, hr, nI n, dy, S') ∧ SOk k0 S' ∧ SX (dI n kd fg tn wd hr tu pa who k (X0 kn hu dy)) S S' := by
  obtain ⟨f1, f2, e⟩ := thinks_m (pa := pa) hF hT hZ hB hk8 hh dy hS.2.1 hS.2.2 S.2.2.2.2.2.2.2.2.1 S.2.2.2.2.2.2.2.2.2.1 S.1 S.2.2.2.2.2.2.2.2.2.2 hk
  obtain ⟨⟨z1, z2, z3⟩, z4⟩ := dI_z (tu := tu) (pa := pa) (who := who) hF (X0_z (hu := hu) (dy := dy) hk8) hh k
  exact ⟨_, e, ⟨fun j hj => by
    show kA S.1 100 kn (st3 tu hu pa) kd fg tn wd hr (nI n) dy j = k0 j
    rw [kA_out (by omega), hS.1 j hj], z2, z3⟩, rfl, rfl, rfl, rfl, rfl, rfl⟩
theorem SOk.self (m_kept : Nat → Int32) (a b : Int32) (am lw : Nat → Int32) (c d e f g : Int32) (sn : Nat → Int32) (h : TZ am lw) : SOk m_kept (m_kept, a, b, am, lw, c, d, e, f, g, sn) := ⟨fun _ _ => rfl, h⟩
set_option maxHeartbeats 2000000 in
set_option maxRecDepth 4000 in
theorem sim_might {n len r : Nat} {x_imageTaken : Int32} {d_callers : Int32} {d_kinds : Nat → Int32} {d_figures : Nat → Int32} {d_tones : Nat → Int32} {d_words : Nat → Int32} {d_hours : Nat → Int32} {d_order : Nat → Int32} {d_known : Nat → Int32} {d_tune : Int32} {d_hurt : Int32} {d_patience : Int32} {d_day : Int32} {d_answered : Int32} {d_unanswered : Int32} {d_said : Int32} {d_times : Nat → Int32} {d_last : Nat → Int32} {n_answered : Int32} {n_unanswered : Int32} {n_said : Int32} {n_times : Nat → Int32} {n_last : Nat → Int32} {t_letters : Nat → Int32} {x_told : Nat → Int32} {x_refusals : Nat → Int32} {k_callers : Int32} {k_kinds : Nat → Int32} {k_figures : Nat → Int32} {k_tones : Nat → Int32} {k_words : Nat → Int32} {k_hours : Nat → Int32} {k_order : Nat → Int32} {k_known : Nat → Int32} {k_tune : Int32} {k_hurt : Int32} {k_patience : Int32} {k_day : Int32} {k_answered : Int32} {k_unanswered : Int32} {k_said : Int32} {k_times : Nat → Int32} {k_last : Nat → Int32} {kd : Nat → Int32} {fg : Nat → Int32} {tn : Nat → Int32} {wd : Nat → Int32} {hr : Nat → Int32} {od : Nat → Int32} {kn : Nat → Int32} {tu : Int32} {hu : Int32} {pa : Int32} {dy : Int32} {m_refused : Nat → Int32} {m_letter : Nat → Int32} {m_letterAt : Nat → Int32} {m_told : Nat → Int32} {m_at : Int32} {m_statements : Int32} {m_kept : Nat → Int32} {m_isKeeping : Int32} {m_cursor : Int32} {m_answeredMany : Nat → Int32} {m_lastWord : Nat → Int32} {m_answered : Int32} {m_unanswered : Int32} {m_saidWords : Int32} {m_isCalledAtSeven : Int32} {m_isAnsweredAtSeven : Int32} {m_seen : Nat → Int32} {m_weekAnswers : Int32} {m_weekHurt : Int32} {m_week : Nat → Int32} {m_oneHas : Nat → Int32} {m_otherHas : Nat → Int32} (h1 : RM n kd fg tn wd hr od kn tu hu) (h2 : GZ d_kinds d_figures d_tones d_words d_hours d_order d_known) (h3 : TZ d_times d_last) (h4 : TZ n_times n_last) (h5 : GZ k_kinds k_figures k_tones k_words k_hours k_order k_known) (h6 : RI x_imageTaken m_kept k_callers k_kinds k_figures k_tones k_words k_hours k_order k_known k_tune k_hurt k_patience k_day) (h7 : RT len t_letters) (h8 : RR r x_told) (h9 : RF x_refusals m_refused) (h10 : TZ m_answeredMany m_lastWord) (v1 : Int32) : ∃ o o', f_X3_might d_callers d_kinds d_figures d_tones d_words d_hours d_order d_known d_tune d_hurt d_patience d_day d_answered d_unanswered d_said d_times d_last (nI n) kd fg tn wd hr od kn tu hu pa dy x_refusals v1 = some o ∧ f_X4_might m_refused kn (st3 tu hu pa) kd fg tn wd hr (nI n) dy m_kept m_isKeeping m_cursor m_answeredMany m_lastWord 0 m_answered m_unanswered m_saidWords m_isCalledAtSeven m_isAnsweredAtSeven m_seen v1 = some o' ∧ o'.1 = o.1 ∧ Rel x_imageTaken (nI r) (o.2.1) (o.2.2.1) (o.2.2.2.1) (o.2.2.2.2.1) (o.2.2.2.2.2.1) (o.2.2.2.2.2.2.1) (o.2.2.2.2.2.2.2.1) (o.2.2.2.2.2.2.2.2.1) (o.2.2.2.2.2.2.2.2.2.1) (o.2.2.2.2.2.2.2.2.2.2.1) (o.2.2.2.2.2.2.2.2.2.2.2.1) (o.2.2.2.2.2.2.2.2.2.2.2.2.1) (o.2.2.2.2.2.2.2.2.2.2.2.2.2.1) (o.2.2.2.2.2.2.2.2.2.2.2.2.2.2.1) (o.2.2.2.2.2.2.2.2.2.2.2.2.2.2.2.1) (o.2.2.2.2.2.2.2.2.2.2.2.2.2.2.2.2.1) (o.2.2.2.2.2.2.2.2.2.2.2.2.2.2.2.2.2.1) (nI n) kd fg tn wd hr od kn tu hu pa dy n_answered n_unanswered n_said n_times n_last t_letters (nI len) x_told (o.2.2.2.2.2.2.2.2.2.2.2.2.2.2.2.2.2.2) k_callers k_kinds k_figures k_tones k_words k_hours k_order k_known k_tune k_hurt k_patience k_day k_answered k_unanswered k_said k_times k_last (o'.2.1) (o'.2.2.1) (o'.2.2.2.1) (o'.2.2.2.2.1) (o'.2.2.2.2.2.1) (o'.2.2.2.2.2.2.1) (o'.2.2.2.2.2.2.2.1) (o'.2.2.2.2.2.2.2.2.1) (o'.2.2.2.2.2.2.2.2.2.1) (o'.2.2.2.2.2.2.2.2.2.2.1) t_letters m_letter m_letterAt m_told (nI len) m_at m_statements (o'.2.2.2.2.2.2.2.2.2.2.2.1) x_imageTaken (o'.2.2.2.2.2.2.2.2.2.2.2.2.1) (o'.2.2.2.2.2.2.2.2.2.2.2.2.2.1) (o'.2.2.2.2.2.2.2.2.2.2.2.2.2.2.1) (o'.2.2.2.2.2.2.2.2.2.2.2.2.2.2.2.1) 0 (o'.2.2.2.2.2.2.2.2.2.2.2.2.2.2.2.2.1) (o'.2.2.2.2.2.2.2.2.2.2.2.2.2.2.2.2.2.1) (o'.2.2.2.2.2.2.2.2.2.2.2.2.2.2.2.2.2.2.1) (o'.2.2.2.2.2.2.2.2.2.2.2.2.2.2.2.2.2.2.2.1) (o'.2.2.2.2.2.2.2.2.2.2.2.2.2.2.2.2.2.2.2.2.1) (o'.2.2.2.2.2.2.2.2.2.2.2.2.2.2.2.2.2.2.2.2.2) m_weekAnswers m_weekHurt m_week x_told (nI r) m_oneHas m_otherHas := by
  have hn7 := h1.1.1
  have h1' := h1
  obtain ⟨g1, g2, g3, g4, g5, g6, g7⟩ := h1

  unfold f_X3_might f_X4_might
  rw [← ahead_eq]
  have hv := ahead_or v1
  generalize hq : f_X3_aheadNo v1 = w at hv ⊢
  by_cases hw : w = 0
  · obtain ⟨k, hk, rfl⟩ := ahead_nat (hq.trans hw)
    obtain ⟨S', es, hS', hX1, hX2, hX3, hX4, hX5, hX6⟩ := thinks_S (S := (m_kept, m_isKeeping, m_cursor, m_answeredMany, m_lastWord, m_answered, m_unanswered, m_saidWords, m_isCalledAtSeven, m_isAnsweredAtSeven, m_seen)) (pa := pa) g1 g2 g3 (Bits.all hn7) g6 g7 dy (SOk.self m_kept _ _ _ _ _ _ _ _ _ _ h10) (show k < 900 by omega)
    dsimp only at es
    obtain ⟨⟨z1, z2, z3⟩, z4⟩ := dI_z (tu := tu) (pa := pa) (who := 127) g1 (X0_z (hu := hu) (dy := dy) g6) g7 k

    rw [if_pos hw, if_pos hw, bi_s (look_c tu hu pa dy g1 g4 h2.1 h2.2.1 h2.2.2 h3.1 h3.2 g3 g5 g6 127 (show k < 900 by omega)), bi_s es]
    exact ⟨_, _, rfl, rfl, hX5, mkRel h1' ⟨g3, g5, z1⟩ ⟨z2, z3⟩ h4 h5 (RI.sameS h6 hS') h7 h8 h9 hS'.2⟩
  · obtain ⟨fm, e, hf⟩ := ref_ok h9 (hv.resolve_left hw)
    rw [if_neg hw, if_neg hw, bi_s e]
    exact ⟨_, _, rfl, rfl, rfl, mkRel h1' h2 h3 h4 h5 h6 h7 h8 hf h10⟩
set_option maxHeartbeats 2000000 in
set_option maxRecDepth 4000 in
theorem sim_behind {n len r : Nat} {x_imageTaken : Int32} {d_callers : Int32} {d_kinds : Nat → Int32} {d_figures : Nat → Int32} {d_tones : Nat → Int32} {d_words : Nat → Int32} {d_hours : Nat → Int32} {d_order : Nat → Int32} {d_known : Nat → Int32} {d_tune : Int32} {d_hurt : Int32} {d_patience : Int32} {d_day : Int32} {d_answered : Int32} {d_unanswered : Int32} {d_said : Int32} {d_times : Nat → Int32} {d_last : Nat → Int32} {n_answered : Int32} {n_unanswered : Int32} {n_said : Int32} {n_times : Nat → Int32} {n_last : Nat → Int32} {t_letters : Nat → Int32} {x_told : Nat → Int32} {x_refusals : Nat → Int32} {k_callers : Int32} {k_kinds : Nat → Int32} {k_figures : Nat → Int32} {k_tones : Nat → Int32} {k_words : Nat → Int32} {k_hours : Nat → Int32} {k_order : Nat → Int32} {k_known : Nat → Int32} {k_tune : Int32} {k_hurt : Int32} {k_patience : Int32} {k_day : Int32} {k_answered : Int32} {k_unanswered : Int32} {k_said : Int32} {k_times : Nat → Int32} {k_last : Nat → Int32} {kd : Nat → Int32} {fg : Nat → Int32} {tn : Nat → Int32} {wd : Nat → Int32} {hr : Nat → Int32} {od : Nat → Int32} {kn : Nat → Int32} {tu : Int32} {hu : Int32} {pa : Int32} {dy : Int32} {m_refused : Nat → Int32} {m_letter : Nat → Int32} {m_letterAt : Nat → Int32} {m_told : Nat → Int32} {m_at : Int32} {m_statements : Int32} {m_kept : Nat → Int32} {m_isKeeping : Int32} {m_cursor : Int32} {m_answeredMany : Nat → Int32} {m_lastWord : Nat → Int32} {m_answered : Int32} {m_unanswered : Int32} {m_saidWords : Int32} {m_isCalledAtSeven : Int32} {m_isAnsweredAtSeven : Int32} {m_seen : Nat → Int32} {m_weekAnswers : Int32} {m_weekHurt : Int32} {m_week : Nat → Int32} {m_oneHas : Nat → Int32} {m_otherHas : Nat → Int32} (h1 : RM n kd fg tn wd hr od kn tu hu) (h2 : GZ d_kinds d_figures d_tones d_words d_hours d_order d_known) (h3 : TZ d_times d_last) (h4 : TZ n_times n_last) (h5 : GZ k_kinds k_figures k_tones k_words k_hours k_order k_known) (h6 : RI x_imageTaken m_kept k_callers k_kinds k_figures k_tones k_words k_hours k_order k_known k_tune k_hurt k_patience k_day) (h7 : RT len t_letters) (h8 : RR r x_told) (h9 : RF x_refusals m_refused) (h10 : TZ m_answeredMany m_lastWord) (v1 : Int32) (v2 : Int32) : ∃ o o', f_X3_behind d_callers d_kinds d_figures d_tones d_words d_hours d_order d_known d_tune d_hurt d_patience d_day d_answered d_unanswered d_said d_times d_last (nI n) kd fg tn wd hr od kn tu hu pa dy x_refusals v1 v2 = some o ∧ f_X4_behind m_refused kn (st3 tu hu pa) kd fg tn wd hr (nI n) dy m_kept m_isKeeping m_cursor m_answeredMany m_lastWord 0 m_answered m_unanswered m_saidWords m_isCalledAtSeven m_isAnsweredAtSeven m_seen v1 v2 = some o' ∧ o'.1 = o.1 ∧ Rel x_imageTaken (nI r) (o.2.1) (o.2.2.1) (o.2.2.2.1) (o.2.2.2.2.1) (o.2.2.2.2.2.1) (o.2.2.2.2.2.2.1) (o.2.2.2.2.2.2.2.1) (o.2.2.2.2.2.2.2.2.1) (o.2.2.2.2.2.2.2.2.2.1) (o.2.2.2.2.2.2.2.2.2.2.1) (o.2.2.2.2.2.2.2.2.2.2.2.1) (o.2.2.2.2.2.2.2.2.2.2.2.2.1) (o.2.2.2.2.2.2.2.2.2.2.2.2.2.1) (o.2.2.2.2.2.2.2.2.2.2.2.2.2.2.1) (o.2.2.2.2.2.2.2.2.2.2.2.2.2.2.2.1) (o.2.2.2.2.2.2.2.2.2.2.2.2.2.2.2.2.1) (o.2.2.2.2.2.2.2.2.2.2.2.2.2.2.2.2.2.1) (nI n) kd fg tn wd hr od kn tu hu pa dy n_answered n_unanswered n_said n_times n_last t_letters (nI len) x_told (o.2.2.2.2.2.2.2.2.2.2.2.2.2.2.2.2.2.2) k_callers k_kinds k_figures k_tones k_words k_hours k_order k_known k_tune k_hurt k_patience k_day k_answered k_unanswered k_said k_times k_last (o'.2.1) (o'.2.2.1) (o'.2.2.2.1) (o'.2.2.2.2.1) (o'.2.2.2.2.2.1) (o'.2.2.2.2.2.2.1) (o'.2.2.2.2.2.2.2.1) (o'.2.2.2.2.2.2.2.2.1) (o'.2.2.2.2.2.2.2.2.2.1) (o'.2.2.2.2.2.2.2.2.2.2.1) t_letters m_letter m_letterAt m_told (nI len) m_at m_statements (o'.2.2.2.2.2.2.2.2.2.2.2.1) x_imageTaken (o'.2.2.2.2.2.2.2.2.2.2.2.2.1) (o'.2.2.2.2.2.2.2.2.2.2.2.2.2.1) (o'.2.2.2.2.2.2.2.2.2.2.2.2.2.2.1) (o'.2.2.2.2.2.2.2.2.2.2.2.2.2.2.2.1) 0 (o'.2.2.2.2.2.2.2.2.2.2.2.2.2.2.2.2.1) (o'.2.2.2.2.2.2.2.2.2.2.2.2.2.2.2.2.2.1) (o'.2.2.2.2.2.2.2.2.2.2.2.2.2.2.2.2.2.2.1) (o'.2.2.2.2.2.2.2.2.2.2.2.2.2.2.2.2.2.2.2.1) (o'.2.2.2.2.2.2.2.2.2.2.2.2.2.2.2.2.2.2.2.2.1) (o'.2.2.2.2.2.2.2.2.2.2.2.2.2.2.2.2.2.2.2.2.2) m_weekAnswers m_weekHurt m_week x_told (nI r) m_oneHas m_otherHas := by
  have hn7 := h1.1.1
  have h1' := h1
  obtain ⟨g1, g2, g3, g4, g5, g6, g7⟩ := h1

  have hv := first_or (ahead_or v1) (what_or v2 4)
  have em : ∀ w, f_X3_first (f_X3_aheadNo v1) (f_X3_whatNo v2 4) = w → f_X4_behind m_refused kn (st3 tu hu pa) kd fg tn wd hr (nI n) dy m_kept m_isKeeping m_cursor m_answeredMany m_lastWord 0 m_answered m_unanswered m_saidWords m_isCalledAtSeven m_isAnsweredAtSeven m_seen v1 v2 = f_X4_behind_J21 v1 v2 w m_refused kn (st3 tu hu pa) kd fg tn wd hr (nI n) dy m_kept m_isKeeping m_cursor m_answeredMany m_lastWord 0 m_answered m_unanswered m_saidWords m_isCalledAtSeven m_isAnsweredAtSeven m_seen := by
    intro w hw
    unfold f_X3_first at hw
    rw [ahead_eq, what_eq] at hw
    subst hw
    unfold f_X4_behind
    by_cases a : f_X4_notDays v1 = 0
    · by_cases b : f_X4_isIn v2 0 4 = 0
      · rw [if_pos a, if_pos a, if_pos b, if_pos b]
      · rw [if_pos a, if_pos a, if_neg b, if_neg b, a]
    · rw [if_neg a, if_neg a]
  unfold f_X3_behind
  generalize hq : f_X3_first (f_X3_aheadNo v1) (f_X3_whatNo v2 4) = w at hv ⊢
  rw [em w hq]
  unfold f_X4_behind_J21
  by_cases hw : w = 0
  · obtain ⟨ha, hb⟩ := first_0 (hq.trans hw)
    obtain ⟨k, hk, rfl⟩ := ahead_nat ha
    obtain ⟨q, hq4, rfl⟩ := what_nat (k := 4) (by omega) hb
    obtain ⟨S', es, hS', hX1, hX2, hX3, hX4, hX5, hX6⟩ := thinks_S (S := (m_kept, m_isKeeping, m_cursor, m_answeredMany, m_lastWord, m_answered, m_unanswered, m_saidWords, m_isCalledAtSeven, m_isAnsweredAtSeven, m_seen)) (pa := pa) g1 g2 g3 (Bits.all hn7) g6 g7 dy (SOk.self m_kept _ _ _ _ _ _ _ _ _ _ h10) (show k < 900 by omega)
    dsimp only at es
    obtain ⟨⟨z1, z2, z3⟩, z4⟩ := dI_z (tu := tu) (pa := pa) (who := 127) g1 (X0_z (hu := hu) (dy := dy) g6) g7 k

    rw [if_pos hw, if_pos hw, bi_s (look_c tu hu pa dy g1 g4 h2.1 h2.2.1 h2.2.2 h3.1 h3.2 g3 g5 g6 127 (show k < 900 by omega)), bi_s es]
    dsimp only
    rw [sum_c, best_c, hX6]
    have hq5 : q = 0 ∨ q = 1 ∨ q = 2 ∨ q = 3 ∨ q = 4 := by omega
    rcases hq5 with rfl | rfl | rfl | rfl | rfl
    · rw [if_pos (show nI 0 = (0 : Int32) from rfl), if_neg (show ¬ (3 : Int32) ≤ nI 0 by decide), gu_t (inB_n (by omega)), cl_n (by omega), sn_0]
      exact ⟨_, _, rfl, rfl, rfl, mkRel h1' ⟨g3, g5, z1⟩ ⟨z2, z3⟩ h4 h5 (RI.sameS h6 hS') h7 h8 h9 hS'.2⟩
    · rw [if_neg (show ¬ nI 1 = (0 : Int32) by decide), if_pos (show nI 1 = (1 : Int32) from rfl), if_neg (show ¬ (3 : Int32) ≤ nI 1 by decide), gu_t (inB_n (by omega)), cl_n (by omega), sn_1, bi_some]
      exact ⟨_, _, rfl, rfl, rfl, mkRel h1' ⟨g3, g5, z1⟩ ⟨z2, z3⟩ h4 h5 (RI.sameS h6 hS') h7 h8 h9 hS'.2⟩
    · rw [if_neg (show ¬ nI 2 = (0 : Int32) by decide), if_neg (show ¬ nI 2 = (1 : Int32) by decide), if_pos (show nI 2 = (2 : Int32) from rfl), if_neg (show ¬ (3 : Int32) ≤ nI 2 by decide), gu_t (inB_n (by omega)), cl_n (by omega), sn_2, bi_some]
      exact ⟨_, _, rfl, rfl, rfl, mkRel h1' ⟨g3, g5, z1⟩ ⟨z2, z3⟩ h4 h5 (RI.sameS h6 hS') h7 h8 h9 hS'.2⟩
    · rw [if_neg (show ¬ nI 3 = (0 : Int32) by decide), if_neg (show ¬ nI 3 = (1 : Int32) by decide), if_neg (show ¬ nI 3 = (2 : Int32) by decide), if_pos (show nI 3 = (3 : Int32) from rfl), if_pos (show (3 : Int32) ≤ nI 3 by decide), if_pos (show nI 3 = (3 : Int32) from rfl)]
      exact ⟨_, _, rfl, rfl, hX3, mkRel h1' ⟨g3, g5, z1⟩ ⟨z2, z3⟩ h4 h5 (RI.sameS h6 hS') h7 h8 h9 hS'.2⟩
    · rw [if_neg (show ¬ nI 4 = (0 : Int32) by decide), if_neg (show ¬ nI 4 = (1 : Int32) by decide), if_neg (show ¬ nI 4 = (2 : Int32) by decide), if_neg (show ¬ nI 4 = (3 : Int32) by decide), if_pos (show (3 : Int32) ≤ nI 4 by decide), if_neg (show ¬ nI 4 = (3 : Int32) by decide)]
      exact ⟨_, _, rfl, rfl, hX4, mkRel h1' ⟨g3, g5, z1⟩ ⟨z2, z3⟩ h4 h5 (RI.sameS h6 hS') h7 h8 h9 hS'.2⟩
  · obtain ⟨fm, e, hf⟩ := ref_ok h9 (hv.resolve_left hw)
    rw [if_neg hw, if_neg hw, bi_s e]
    exact ⟨_, _, rfl, rfl, rfl, mkRel h1' h2 h3 h4 h5 h6 h7 h8 hf h10⟩
set_option maxHeartbeats 2000000 in
set_option maxRecDepth 4000 in
theorem sim_knownIn {n len r : Nat} {x_imageTaken : Int32} {d_callers : Int32} {d_kinds : Nat → Int32} {d_figures : Nat → Int32} {d_tones : Nat → Int32} {d_words : Nat → Int32} {d_hours : Nat → Int32} {d_order : Nat → Int32} {d_known : Nat → Int32} {d_tune : Int32} {d_hurt : Int32} {d_patience : Int32} {d_day : Int32} {d_answered : Int32} {d_unanswered : Int32} {d_said : Int32} {d_times : Nat → Int32} {d_last : Nat → Int32} {n_answered : Int32} {n_unanswered : Int32} {n_said : Int32} {n_times : Nat → Int32} {n_last : Nat → Int32} {t_letters : Nat → Int32} {x_told : Nat → Int32} {x_refusals : Nat → Int32} {k_callers : Int32} {k_kinds : Nat → Int32} {k_figures : Nat → Int32} {k_tones : Nat → Int32} {k_words : Nat → Int32} {k_hours : Nat → Int32} {k_order : Nat → Int32} {k_known : Nat → Int32} {k_tune : Int32} {k_hurt : Int32} {k_patience : Int32} {k_day : Int32} {k_answered : Int32} {k_unanswered : Int32} {k_said : Int32} {k_times : Nat → Int32} {k_last : Nat → Int32} {kd : Nat → Int32} {fg : Nat → Int32} {tn : Nat → Int32} {wd : Nat → Int32} {hr : Nat → Int32} {od : Nat → Int32} {kn : Nat → Int32} {tu : Int32} {hu : Int32} {pa : Int32} {dy : Int32} {m_refused : Nat → Int32} {m_letter : Nat → Int32} {m_letterAt : Nat → Int32} {m_told : Nat → Int32} {m_at : Int32} {m_statements : Int32} {m_kept : Nat → Int32} {m_isKeeping : Int32} {m_cursor : Int32} {m_answeredMany : Nat → Int32} {m_lastWord : Nat → Int32} {m_answered : Int32} {m_unanswered : Int32} {m_saidWords : Int32} {m_isCalledAtSeven : Int32} {m_isAnsweredAtSeven : Int32} {m_seen : Nat → Int32} {m_weekAnswers : Int32} {m_weekHurt : Int32} {m_week : Nat → Int32} {m_oneHas : Nat → Int32} {m_otherHas : Nat → Int32} (h1 : RM n kd fg tn wd hr od kn tu hu) (h2 : GZ d_kinds d_figures d_tones d_words d_hours d_order d_known) (h3 : TZ d_times d_last) (h4 : TZ n_times n_last) (h5 : GZ k_kinds k_figures k_tones k_words k_hours k_order k_known) (h6 : RI x_imageTaken m_kept k_callers k_kinds k_figures k_tones k_words k_hours k_order k_known k_tune k_hurt k_patience k_day) (h7 : RT len t_letters) (h8 : RR r x_told) (h9 : RF x_refusals m_refused) (h10 : TZ m_answeredMany m_lastWord) (v1 : Int32) (v2 : Int32) : ∃ o o', f_X3_knownIn d_callers d_kinds d_figures d_tones d_words d_hours d_order d_known d_tune d_hurt d_patience d_day d_answered d_unanswered d_said d_times d_last (nI n) kd fg tn wd hr od kn tu hu pa dy x_refusals v1 v2 = some o ∧ f_X4_knownIn m_refused kn (st3 tu hu pa) kd fg tn wd hr (nI n) dy m_kept m_isKeeping m_cursor m_answeredMany m_lastWord 0 m_answered m_unanswered m_saidWords m_isCalledAtSeven m_isAnsweredAtSeven m_seen v1 v2 = some o' ∧ o'.1 = o.1 ∧ Rel x_imageTaken (nI r) (o.2.1) (o.2.2.1) (o.2.2.2.1) (o.2.2.2.2.1) (o.2.2.2.2.2.1) (o.2.2.2.2.2.2.1) (o.2.2.2.2.2.2.2.1) (o.2.2.2.2.2.2.2.2.1) (o.2.2.2.2.2.2.2.2.2.1) (o.2.2.2.2.2.2.2.2.2.2.1) (o.2.2.2.2.2.2.2.2.2.2.2.1) (o.2.2.2.2.2.2.2.2.2.2.2.2.1) (o.2.2.2.2.2.2.2.2.2.2.2.2.2.1) (o.2.2.2.2.2.2.2.2.2.2.2.2.2.2.1) (o.2.2.2.2.2.2.2.2.2.2.2.2.2.2.2.1) (o.2.2.2.2.2.2.2.2.2.2.2.2.2.2.2.2.1) (o.2.2.2.2.2.2.2.2.2.2.2.2.2.2.2.2.2.1) (nI n) kd fg tn wd hr od kn tu hu pa dy n_answered n_unanswered n_said n_times n_last t_letters (nI len) x_told (o.2.2.2.2.2.2.2.2.2.2.2.2.2.2.2.2.2.2) k_callers k_kinds k_figures k_tones k_words k_hours k_order k_known k_tune k_hurt k_patience k_day k_answered k_unanswered k_said k_times k_last (o'.2.1) (o'.2.2.1) (o'.2.2.2.1) (o'.2.2.2.2.1) (o'.2.2.2.2.2.1) (o'.2.2.2.2.2.2.1) (o'.2.2.2.2.2.2.2.1) (o'.2.2.2.2.2.2.2.2.1) (o'.2.2.2.2.2.2.2.2.2.1) (o'.2.2.2.2.2.2.2.2.2.2.1) t_letters m_letter m_letterAt m_told (nI len) m_at m_statements (o'.2.2.2.2.2.2.2.2.2.2.2.1) x_imageTaken (o'.2.2.2.2.2.2.2.2.2.2.2.2.1) (o'.2.2.2.2.2.2.2.2.2.2.2.2.2.1) (o'.2.2.2.2.2.2.2.2.2.2.2.2.2.2.1) (o'.2.2.2.2.2.2.2.2.2.2.2.2.2.2.2.1) 0 (o'.2.2.2.2.2.2.2.2.2.2.2.2.2.2.2.2.1) (o'.2.2.2.2.2.2.2.2.2.2.2.2.2.2.2.2.2.1) (o'.2.2.2.2.2.2.2.2.2.2.2.2.2.2.2.2.2.2.1) (o'.2.2.2.2.2.2.2.2.2.2.2.2.2.2.2.2.2.2.2.1) (o'.2.2.2.2.2.2.2.2.2.2.2.2.2.2.2.2.2.2.2.2.1) (o'.2.2.2.2.2.2.2.2.2.2.2.2.2.2.2.2.2.2.2.2.2) m_weekAnswers m_weekHurt m_week x_told (nI r) m_oneHas m_otherHas := by
  have hn7 := h1.1.1
  have h1' := h1
  obtain ⟨g1, g2, g3, g4, g5, g6, g7⟩ := h1

  have hv := first_or (ahead_or v1) (word_or v2)
  have em : ∀ w, f_X3_first (f_X3_aheadNo v1) (f_X3_wordNo v2) = w → f_X4_knownIn m_refused kn (st3 tu hu pa) kd fg tn wd hr (nI n) dy m_kept m_isKeeping m_cursor m_answeredMany m_lastWord 0 m_answered m_unanswered m_saidWords m_isCalledAtSeven m_isAnsweredAtSeven m_seen v1 v2 = f_X4_knownIn_J18 v1 v2 w m_refused kn (st3 tu hu pa) kd fg tn wd hr (nI n) dy m_kept m_isKeeping m_cursor m_answeredMany m_lastWord 0 m_answered m_unanswered m_saidWords m_isCalledAtSeven m_isAnsweredAtSeven m_seen := by
    intro w hw
    unfold f_X3_first at hw
    rw [ahead_eq, word_eq] at hw
    subst hw
    unfold f_X4_knownIn
    by_cases a : f_X4_notDays v1 = 0
    · by_cases b : f_X4_isWord v2 = 0
      · rw [if_pos a, if_pos a, if_pos b, if_pos b]
      · rw [if_pos a, if_pos a, if_neg b, if_neg b, a]
    · rw [if_neg a, if_neg a]
  unfold f_X3_knownIn
  generalize hq : f_X3_first (f_X3_aheadNo v1) (f_X3_wordNo v2) = w at hv ⊢
  rw [em w hq]
  unfold f_X4_knownIn_J18
  by_cases hw : w = 0
  · obtain ⟨ha, hb⟩ := first_0 (hq.trans hw)
    obtain ⟨k, hk, rfl⟩ := ahead_nat ha
    obtain ⟨q, hq8, rfl⟩ := word_nat hb
    obtain ⟨S', es, hS', hX1, hX2, hX3, hX4, hX5, hX6⟩ := thinks_S (S := (m_kept, m_isKeeping, m_cursor, m_answeredMany, m_lastWord, m_answered, m_unanswered, m_saidWords, m_isCalledAtSeven, m_isAnsweredAtSeven, m_seen)) (pa := pa) g1 g2 g3 (Bits.all hn7) g6 g7 dy (SOk.self m_kept _ _ _ _ _ _ _ _ _ _ h10) (show k < 900 by omega)
    dsimp only at es
    obtain ⟨⟨z1, z2, z3⟩, z4⟩ := dI_z (tu := tu) (pa := pa) (who := 127) g1 (X0_z (hu := hu) (dy := dy) g6) g7 k

    rw [if_pos hw, if_pos hw, bi_s (look_c tu hu pa dy g1 g4 h2.1 h2.2.1 h2.2.2 h3.1 h3.2 g3 g5 g6 127 (show k < 900 by omega)), bi_s es, show (3 : Int32) + nI q = nI (3 + q) from nI_add 3 q, gu_t (inB_n (by omega)), cl_n (by omega), at_n hq8]
    dsimp only
    rw [hX6, sn_w _ _ hq8]
    exact ⟨_, _, rfl, rfl, rfl, mkRel h1' ⟨g3, g5, z1⟩ ⟨z2, z3⟩ h4 h5 (RI.sameS h6 hS') h7 h8 h9 hS'.2⟩
  · obtain ⟨fm, e, hf⟩ := ref_ok h9 (hv.resolve_left hw)
    rw [if_neg hw, if_neg hw, bi_s e]
    exact ⟨_, _, rfl, rfl, rfl, mkRel h1' h2 h3 h4 h5 h6 h7 h8 hf h10⟩
set_option maxHeartbeats 2000000 in
set_option maxRecDepth 4000 in
theorem sim_snow {n len r : Nat} {x_imageTaken : Int32} {d_callers : Int32} {d_kinds : Nat → Int32} {d_figures : Nat → Int32} {d_tones : Nat → Int32} {d_words : Nat → Int32} {d_hours : Nat → Int32} {d_order : Nat → Int32} {d_known : Nat → Int32} {d_tune : Int32} {d_hurt : Int32} {d_patience : Int32} {d_day : Int32} {d_answered : Int32} {d_unanswered : Int32} {d_said : Int32} {d_times : Nat → Int32} {d_last : Nat → Int32} {n_answered : Int32} {n_unanswered : Int32} {n_said : Int32} {n_times : Nat → Int32} {n_last : Nat → Int32} {t_letters : Nat → Int32} {x_told : Nat → Int32} {x_refusals : Nat → Int32} {k_callers : Int32} {k_kinds : Nat → Int32} {k_figures : Nat → Int32} {k_tones : Nat → Int32} {k_words : Nat → Int32} {k_hours : Nat → Int32} {k_order : Nat → Int32} {k_known : Nat → Int32} {k_tune : Int32} {k_hurt : Int32} {k_patience : Int32} {k_day : Int32} {k_answered : Int32} {k_unanswered : Int32} {k_said : Int32} {k_times : Nat → Int32} {k_last : Nat → Int32} {kd : Nat → Int32} {fg : Nat → Int32} {tn : Nat → Int32} {wd : Nat → Int32} {hr : Nat → Int32} {od : Nat → Int32} {kn : Nat → Int32} {tu : Int32} {hu : Int32} {pa : Int32} {dy : Int32} {m_refused : Nat → Int32} {m_letter : Nat → Int32} {m_letterAt : Nat → Int32} {m_told : Nat → Int32} {m_at : Int32} {m_statements : Int32} {m_kept : Nat → Int32} {m_isKeeping : Int32} {m_cursor : Int32} {m_answeredMany : Nat → Int32} {m_lastWord : Nat → Int32} {m_answered : Int32} {m_unanswered : Int32} {m_saidWords : Int32} {m_isCalledAtSeven : Int32} {m_isAnsweredAtSeven : Int32} {m_seen : Nat → Int32} {m_weekAnswers : Int32} {m_weekHurt : Int32} {m_week : Nat → Int32} {m_oneHas : Nat → Int32} {m_otherHas : Nat → Int32} (h1 : RM n kd fg tn wd hr od kn tu hu) (h2 : GZ d_kinds d_figures d_tones d_words d_hours d_order d_known) (h3 : TZ d_times d_last) (h4 : TZ n_times n_last) (h5 : GZ k_kinds k_figures k_tones k_words k_hours k_order k_known) (h6 : RI x_imageTaken m_kept k_callers k_kinds k_figures k_tones k_words k_hours k_order k_known k_tune k_hurt k_patience k_day) (h7 : RT len t_letters) (h8 : RR r x_told) (h9 : RF x_refusals m_refused) (h10 : TZ m_answeredMany m_lastWord) (v1 : Int32) (v2 : Int32) : ∃ o o', f_X3_snow d_callers d_kinds d_figures d_tones d_words d_hours d_order d_known d_tune d_hurt d_patience d_day d_answered d_unanswered d_said d_times d_last (nI n) kd fg tn wd hr od kn tu hu pa dy x_refusals v1 v2 = some o ∧ f_X4_snow m_refused kn (st3 tu hu pa) kd fg tn wd hr (nI n) dy m_kept m_isKeeping m_cursor m_answeredMany m_lastWord 0 m_answered m_unanswered m_saidWords m_isCalledAtSeven m_isAnsweredAtSeven m_seen v1 v2 = some o' ∧ o'.1 = o.1 ∧ Rel x_imageTaken (nI r) (o.2.1) (o.2.2.1) (o.2.2.2.1) (o.2.2.2.2.1) (o.2.2.2.2.2.1) (o.2.2.2.2.2.2.1) (o.2.2.2.2.2.2.2.1) (o.2.2.2.2.2.2.2.2.1) (o.2.2.2.2.2.2.2.2.2.1) (o.2.2.2.2.2.2.2.2.2.2.1) (o.2.2.2.2.2.2.2.2.2.2.2.1) (o.2.2.2.2.2.2.2.2.2.2.2.2.1) (o.2.2.2.2.2.2.2.2.2.2.2.2.2.1) (o.2.2.2.2.2.2.2.2.2.2.2.2.2.2.1) (o.2.2.2.2.2.2.2.2.2.2.2.2.2.2.2.1) (o.2.2.2.2.2.2.2.2.2.2.2.2.2.2.2.2.1) (o.2.2.2.2.2.2.2.2.2.2.2.2.2.2.2.2.2.1) (nI n) kd fg tn wd hr od kn tu hu pa dy n_answered n_unanswered n_said n_times n_last t_letters (nI len) x_told (o.2.2.2.2.2.2.2.2.2.2.2.2.2.2.2.2.2.2) k_callers k_kinds k_figures k_tones k_words k_hours k_order k_known k_tune k_hurt k_patience k_day k_answered k_unanswered k_said k_times k_last (o'.2.1) (o'.2.2.1) (o'.2.2.2.1) (o'.2.2.2.2.1) (o'.2.2.2.2.2.1) (o'.2.2.2.2.2.2.1) (o'.2.2.2.2.2.2.2.1) (o'.2.2.2.2.2.2.2.2.1) (o'.2.2.2.2.2.2.2.2.2.1) (o'.2.2.2.2.2.2.2.2.2.2.1) t_letters m_letter m_letterAt m_told (nI len) m_at m_statements (o'.2.2.2.2.2.2.2.2.2.2.2.1) x_imageTaken (o'.2.2.2.2.2.2.2.2.2.2.2.2.1) (o'.2.2.2.2.2.2.2.2.2.2.2.2.2.1) (o'.2.2.2.2.2.2.2.2.2.2.2.2.2.2.1) (o'.2.2.2.2.2.2.2.2.2.2.2.2.2.2.2.1) (o'.2.2.2.2.2.2.2.2.2.2.2.2.2.2.2.2.1) (o'.2.2.2.2.2.2.2.2.2.2.2.2.2.2.2.2.2.1) (o'.2.2.2.2.2.2.2.2.2.2.2.2.2.2.2.2.2.2.1) (o'.2.2.2.2.2.2.2.2.2.2.2.2.2.2.2.2.2.2.2.1) (o'.2.2.2.2.2.2.2.2.2.2.2.2.2.2.2.2.2.2.2.2.1) (o'.2.2.2.2.2.2.2.2.2.2.2.2.2.2.2.2.2.2.2.2.2.1) (o'.2.2.2.2.2.2.2.2.2.2.2.2.2.2.2.2.2.2.2.2.2.2) m_weekAnswers m_weekHurt m_week x_told (nI r) m_oneHas m_otherHas := by
  have hn7 := h1.1.1
  have h1' := h1
  obtain ⟨g1, g2, g3, g4, g5, g6, g7⟩ := h1

  have hv := first_or (ahead_or v1) (what_or v2 1)
  have em : ∀ w, f_X3_first (f_X3_aheadNo v1) (f_X3_whatNo v2 1) = w → f_X4_snow m_refused kn (st3 tu hu pa) kd fg tn wd hr (nI n) dy m_kept m_isKeeping m_cursor m_answeredMany m_lastWord 0 m_answered m_unanswered m_saidWords m_isCalledAtSeven m_isAnsweredAtSeven m_seen v1 v2 = f_X4_snow_J21 v1 v2 w m_refused kn (st3 tu hu pa) kd fg tn wd hr (nI n) dy m_kept m_isKeeping m_cursor m_answeredMany m_lastWord 0 m_answered m_unanswered m_saidWords m_isCalledAtSeven m_isAnsweredAtSeven m_seen := by
    intro w hw
    unfold f_X3_first at hw
    rw [ahead_eq, what_eq] at hw
    subst hw
    unfold f_X4_snow
    by_cases a : f_X4_notDays v1 = 0
    · by_cases b : f_X4_isIn v2 0 1 = 0
      · rw [if_pos a, if_pos a, if_pos b, if_pos b]
      · rw [if_pos a, if_pos a, if_neg b, if_neg b, a]
    · rw [if_neg a, if_neg a]
  unfold f_X3_snow
  generalize hq : f_X3_first (f_X3_aheadNo v1) (f_X3_whatNo v2 1) = w at hv ⊢
  rw [em w hq]
  unfold f_X4_snow_J21 f_X4_hurtWithout
  by_cases hw : w = 0
  · obtain ⟨ha, hb⟩ := first_0 (hq.trans hw)
    obtain ⟨k, hk, rfl⟩ := ahead_nat ha
    obtain ⟨q, hq4, rfl⟩ := what_nat (k := 1) (by omega) hb
    obtain ⟨S', es, hS', hX1, hX2, hX3, hX4, hX5, hX6⟩ := thinks_S (S := (m_kept, m_isKeeping, m_cursor, m_answeredMany, m_lastWord, m_answered, m_unanswered, m_saidWords, m_isCalledAtSeven, m_isAnsweredAtSeven, m_seen)) (pa := pa) g1 g2 g3 (Bits.none hn7) g6 g7 dy (SOk.self m_kept _ _ _ _ _ _ _ _ _ _ h10) (show k < 900 by omega)
    dsimp only at es
    obtain ⟨⟨z1, z2, z3⟩, z4⟩ := dI_z (tu := tu) (pa := pa) (who := 0) g1 (X0_z (hu := hu) (dy := dy) g6) g7 k

    rw [if_pos hw, if_pos hw, bi_s (look_c tu hu pa dy g1 g4 h2.1 h2.2.1 h2.2.2 h3.1 h3.2 g3 g5 g6 0 (show k < 900 by omega)), bi_s es]
    rw [sum_c]
    dsimp only [bi_some]
    rw [hX6]
    have hq5 : q = 0 ∨ q = 1 := by omega
    rcases hq5 with rfl | rfl
    · rw [if_pos (show nI 0 = (0 : Int32) from rfl), gu_t (inB_n (by omega)), cl_n (by omega), sn_0]
      exact ⟨_, _, rfl, rfl, rfl, mkRel h1' ⟨g3, g5, z1⟩ ⟨z2, z3⟩ h4 h5 (RI.sameS h6 hS') h7 h8 h9 hS'.2⟩
    · rw [if_neg (show ¬ nI 1 = (0 : Int32) by decide), gu_t (inB_n (by omega)), cl_n (by omega), sn_1]
      exact ⟨_, _, rfl, rfl, rfl, mkRel h1' ⟨g3, g5, z1⟩ ⟨z2, z3⟩ h4 h5 (RI.sameS h6 hS') h7 h8 h9 hS'.2⟩
  · obtain ⟨fm, e, hf⟩ := ref_ok h9 (hv.resolve_left hw)
    rw [if_neg hw, if_neg hw, bi_s e]
    exact ⟨_, _, rfl, rfl, rfl, mkRel h1' h2 h3 h4 h5 h6 h7 h8 hf h10⟩
set_option maxHeartbeats 2000000 in
set_option maxRecDepth 4000 in
theorem sim_of {n len r : Nat} {x_imageTaken : Int32} {d_callers : Int32} {d_kinds : Nat → Int32} {d_figures : Nat → Int32} {d_tones : Nat → Int32} {d_words : Nat → Int32} {d_hours : Nat → Int32} {d_order : Nat → Int32} {d_known : Nat → Int32} {d_tune : Int32} {d_hurt : Int32} {d_patience : Int32} {d_day : Int32} {d_answered : Int32} {d_unanswered : Int32} {d_said : Int32} {d_times : Nat → Int32} {d_last : Nat → Int32} {n_answered : Int32} {n_unanswered : Int32} {n_said : Int32} {n_times : Nat → Int32} {n_last : Nat → Int32} {t_letters : Nat → Int32} {x_told : Nat → Int32} {x_refusals : Nat → Int32} {k_callers : Int32} {k_kinds : Nat → Int32} {k_figures : Nat → Int32} {k_tones : Nat → Int32} {k_words : Nat → Int32} {k_hours : Nat → Int32} {k_order : Nat → Int32} {k_known : Nat → Int32} {k_tune : Int32} {k_hurt : Int32} {k_patience : Int32} {k_day : Int32} {k_answered : Int32} {k_unanswered : Int32} {k_said : Int32} {k_times : Nat → Int32} {k_last : Nat → Int32} {kd : Nat → Int32} {fg : Nat → Int32} {tn : Nat → Int32} {wd : Nat → Int32} {hr : Nat → Int32} {od : Nat → Int32} {kn : Nat → Int32} {tu : Int32} {hu : Int32} {pa : Int32} {dy : Int32} {m_refused : Nat → Int32} {m_letter : Nat → Int32} {m_letterAt : Nat → Int32} {m_told : Nat → Int32} {m_at : Int32} {m_statements : Int32} {m_kept : Nat → Int32} {m_isKeeping : Int32} {m_cursor : Int32} {m_answeredMany : Nat → Int32} {m_lastWord : Nat → Int32} {m_answered : Int32} {m_unanswered : Int32} {m_saidWords : Int32} {m_isCalledAtSeven : Int32} {m_isAnsweredAtSeven : Int32} {m_seen : Nat → Int32} {m_weekAnswers : Int32} {m_weekHurt : Int32} {m_week : Nat → Int32} {m_oneHas : Nat → Int32} {m_otherHas : Nat → Int32} (h1 : RM n kd fg tn wd hr od kn tu hu) (h2 : GZ d_kinds d_figures d_tones d_words d_hours d_order d_known) (h3 : TZ d_times d_last) (h4 : TZ n_times n_last) (h5 : GZ k_kinds k_figures k_tones k_words k_hours k_order k_known) (h6 : RI x_imageTaken m_kept k_callers k_kinds k_figures k_tones k_words k_hours k_order k_known k_tune k_hurt k_patience k_day) (h7 : RT len t_letters) (h8 : RR r x_told) (h9 : RF x_refusals m_refused) (h10 : TZ m_answeredMany m_lastWord) (v1 : Int32) (v2 : Int32) (v3 : Int32) : ∃ o o', f_X3_of d_callers d_kinds d_figures d_tones d_words d_hours d_order d_known d_tune d_hurt d_patience d_day d_answered d_unanswered d_said d_times d_last (nI n) kd fg tn wd hr od kn tu hu pa dy x_refusals v1 v2 v3 = some o ∧ f_X4_of m_refused kn (st3 tu hu pa) kd fg tn wd hr (nI n) dy m_kept m_isKeeping m_cursor m_answeredMany m_lastWord 0 m_answered m_unanswered m_saidWords m_isCalledAtSeven m_isAnsweredAtSeven m_seen v1 v2 v3 = some o' ∧ o'.1 = o.1 ∧ Rel x_imageTaken (nI r) (o.2.1) (o.2.2.1) (o.2.2.2.1) (o.2.2.2.2.1) (o.2.2.2.2.2.1) (o.2.2.2.2.2.2.1) (o.2.2.2.2.2.2.2.1) (o.2.2.2.2.2.2.2.2.1) (o.2.2.2.2.2.2.2.2.2.1) (o.2.2.2.2.2.2.2.2.2.2.1) (o.2.2.2.2.2.2.2.2.2.2.2.1) (o.2.2.2.2.2.2.2.2.2.2.2.2.1) (o.2.2.2.2.2.2.2.2.2.2.2.2.2.1) (o.2.2.2.2.2.2.2.2.2.2.2.2.2.2.1) (o.2.2.2.2.2.2.2.2.2.2.2.2.2.2.2.1) (o.2.2.2.2.2.2.2.2.2.2.2.2.2.2.2.2.1) (o.2.2.2.2.2.2.2.2.2.2.2.2.2.2.2.2.2.1) (nI n) kd fg tn wd hr od kn tu hu pa dy n_answered n_unanswered n_said n_times n_last t_letters (nI len) x_told (o.2.2.2.2.2.2.2.2.2.2.2.2.2.2.2.2.2.2) k_callers k_kinds k_figures k_tones k_words k_hours k_order k_known k_tune k_hurt k_patience k_day k_answered k_unanswered k_said k_times k_last (o'.2.1) (o'.2.2.1) (o'.2.2.2.1) (o'.2.2.2.2.1) (o'.2.2.2.2.2.1) (o'.2.2.2.2.2.2.1) (o'.2.2.2.2.2.2.2.1) (o'.2.2.2.2.2.2.2.2.1) (o'.2.2.2.2.2.2.2.2.2.1) (o'.2.2.2.2.2.2.2.2.2.2.1) t_letters m_letter m_letterAt m_told (nI len) m_at m_statements (o'.2.2.2.2.2.2.2.2.2.2.2.1) x_imageTaken (o'.2.2.2.2.2.2.2.2.2.2.2.2.1) (o'.2.2.2.2.2.2.2.2.2.2.2.2.2.1) (o'.2.2.2.2.2.2.2.2.2.2.2.2.2.2.1) (o'.2.2.2.2.2.2.2.2.2.2.2.2.2.2.2.1) 0 (o'.2.2.2.2.2.2.2.2.2.2.2.2.2.2.2.2.1) (o'.2.2.2.2.2.2.2.2.2.2.2.2.2.2.2.2.2.1) (o'.2.2.2.2.2.2.2.2.2.2.2.2.2.2.2.2.2.2.1) (o'.2.2.2.2.2.2.2.2.2.2.2.2.2.2.2.2.2.2.2.1) (o'.2.2.2.2.2.2.2.2.2.2.2.2.2.2.2.2.2.2.2.2.1) (o'.2.2.2.2.2.2.2.2.2.2.2.2.2.2.2.2.2.2.2.2.2) m_weekAnswers m_weekHurt m_week x_told (nI r) m_oneHas m_otherHas := by
  have hn7 := h1.1.1
  have h1' := h1
  obtain ⟨g1, g2, g3, g4, g5, g6, g7⟩ := h1

  have hv := first_or (call_or (nI n) v1) (first_or (ahead_or v2) (what_or v3 1))
  have em : ∀ w, f_X3_first (f_X3_callerNo (nI n) v1) (f_X3_first (f_X3_aheadNo v2) (f_X3_whatNo v3 1)) = w → f_X4_of m_refused kn (st3 tu hu pa) kd fg tn wd hr (nI n) dy m_kept m_isKeeping m_cursor m_answeredMany m_lastWord 0 m_answered m_unanswered m_saidWords m_isCalledAtSeven m_isAnsweredAtSeven m_seen v1 v2 v3 = f_X4_of_J36 v1 v2 v3 w m_refused kn (st3 tu hu pa) kd fg tn wd hr (nI n) dy m_kept m_isKeeping m_cursor m_answeredMany m_lastWord 0 m_answered m_unanswered m_saidWords m_isCalledAtSeven m_isAnsweredAtSeven m_seen := by
    intro w hw
    unfold f_X3_first at hw
    rw [call_eq, ahead_eq, what_eq] at hw
    subst hw
    unfold f_X4_of f_X4_of_J16
    by_cases c : f_X4_isCaller (nI n) v1 = 0
    · rw [if_pos c, if_pos c, if_neg n1, if_neg n1]
    · rw [if_neg c, if_neg c, if_pos rfl]
      by_cases a : f_X4_notDays v2 = 0
      · by_cases b : f_X4_isIn v3 0 1 = 0
        · rw [if_pos a, if_pos a, if_pos b, if_pos b]
        · rw [if_pos a, if_pos a, if_neg b, if_neg b, a]
      · rw [if_neg a, if_neg a]
  unfold f_X3_of f_X3_of_J68 f_X3_of_J68_1
  generalize hq : f_X3_first (f_X3_callerNo (nI n) v1) (f_X3_first (f_X3_aheadNo v2) (f_X3_whatNo v3 1)) = w at hv ⊢
  rw [em w hq]
  unfold f_X4_of_J36
  by_cases hw : w = 0
  · obtain ⟨hc, hab⟩ := first_0 (hq.trans hw)
    obtain ⟨ha, hb⟩ := first_0 hab
    obtain ⟨c, hcn, rfl⟩ := call_nat hn7 hc
    obtain ⟨k, hk, rfl⟩ := ahead_nat ha
    obtain ⟨q, hq4, rfl⟩ := what_nat (k := 1) (by omega) hb
    have hc7 : c < 7 := by omega
    obtain ⟨S', es, hS', hX1, hX2, hX3, hX4, hX5, hX6⟩ := thinks_S (S := (m_kept, m_isKeeping, m_cursor, m_answeredMany, m_lastWord, m_answered, m_unanswered, m_saidWords, m_isCalledAtSeven, m_isAnsweredAtSeven, m_seen)) (pa := pa) g1 g2 g3 (Bits.all hn7) g6 g7 dy (SOk.self m_kept _ _ _ _ _ _ _ _ _ _ h10) (show k < 900 by omega)
    dsimp only at es
    obtain ⟨⟨z1, z2, z3⟩, z4⟩ := dI_z (tu := tu) (pa := pa) (who := 127) g1 (X0_z (hu := hu) (dy := dy) g6) g7 k

    rw [if_pos hw, if_pos hw, bi_s (look_c tu hu pa dy g1 g4 h2.1 h2.2.1 h2.2.2 h3.1 h3.2 g3 g5 g6 127 (show k < 900 by omega)), bi_s es]
    dsimp only
    rw [gu_t (inB_n hc7), gu_t (inB_n hc7), cl_n (by omega), at_n hc7, at_n hc7]
    have hq5 : q = 0 ∨ q = 1 := by omega
    rcases hq5 with rfl | rfl
    · rw [if_pos (show nI 0 = (0 : Int32) from rfl), if_pos (show nI 0 = (0 : Int32) from rfl)]
      exact ⟨_, _, rfl, rfl, (congrFun hX1 c), mkRel h1' ⟨g3, g5, z1⟩ ⟨z2, z3⟩ h4 h5 (RI.sameS h6 hS') h7 h8 h9 hS'.2⟩
    · rw [if_neg (show ¬ nI 1 = (0 : Int32) by decide), if_neg (show ¬ nI 1 = (0 : Int32) by decide)]
      exact ⟨_, _, rfl, rfl, (congrFun hX2 c), mkRel h1' ⟨g3, g5, z1⟩ ⟨z2, z3⟩ h4 h5 (RI.sameS h6 hS') h7 h8 h9 hS'.2⟩
  · obtain ⟨fm, e, hf⟩ := ref_ok h9 (hv.resolve_left hw)
    rw [if_neg hw, if_neg hw, bi_s e]
    exact ⟨_, _, rfl, rfl, rfl, mkRel h1' h2 h3 h4 h5 h6 h7 h8 hf h10⟩
