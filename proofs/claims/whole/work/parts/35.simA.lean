theorem has_eq (n v : Int32) : f_X0_has n v = f_X4_isCaller n v := rfl
theorem call_eq (n v : Int32) : f_X3_callerNo n v = if f_X4_isCaller n v = 0 then -1 else 0 := rfl
theorem word_eq (v : Int32) : f_X3_wordNo v = if f_X4_isWord v = 0 then -1 else 0 := by
  unfold f_X3_wordNo f_X4_isWord
  simp only [i_le, i_lt]
  have e8 : (8 : Int32).toInt = 8 := rfl
  have e0 : (0 : Int32).toInt = 0 := rfl
  by_cases h : v.toInt < 0
  · simp only [e0, h, if_true]
  · by_cases h2 : v.toInt < 8
    · simp only [e0, e8, h, h2, if_true, if_false, show ¬ (8 ≤ v.toInt) by omega, nz1]
    · simp only [e0, e8, h, h2, if_true, if_false, show (8 ≤ v.toInt) by omega]
theorem what_eq (v k : Int32) : f_X3_whatNo v k = if f_X4_isIn v 0 k = 0 then -2 else 0 := by
  unfold f_X3_whatNo f_X4_isIn
  by_cases h : v < 0
  · simp only [if_pos h, if_true]
  · by_cases h2 : v ≤ k
    · simp only [if_neg h, if_pos h2, if_neg (Int32.not_lt.mpr h2), nz1, if_false]
    · simp only [if_neg h, if_neg h2, if_pos (Int32.not_le.mp h2), if_true]
theorem ahead_eq (v : Int32) : f_X3_aheadNo v = f_X4_notDays v := range_b v 0 60
theorem n1 : ¬ (-1 : Int32) = 0 := by decide
theorem n2 : ¬ (-2 : Int32) = 0 := by decide
theorem n3 : ¬ (-3 : Int32) = 0 := by decide
theorem n4 : ¬ (-4 : Int32) = 0 := by decide
theorem n6 : ¬ (-6 : Int32) = 0 := by decide
theorem n9 : ¬ (-9 : Int32) = 0 := by decide
theorem no1 : No (-1) := Or.inl rfl
theorem no2 : No (-2) := Or.inr (Or.inl rfl)
theorem no3 : No (-3) := Or.inr (Or.inr (Or.inl rfl))
theorem no6 : No (-6) := Or.inr (Or.inr (Or.inr (Or.inr rfl)))
theorem call_or (n v : Int32) : f_X3_callerNo n v = 0 ∨ No (f_X3_callerNo n v) := by
  rw [call_eq]; split
  · exact Or.inr no1
  · exact Or.inl rfl
theorem word_or (v : Int32) : f_X3_wordNo v = 0 ∨ No (f_X3_wordNo v) := by
  rw [word_eq]; split
  · exact Or.inr no1
  · exact Or.inl rfl
theorem what_or (v k : Int32) : f_X3_whatNo v k = 0 ∨ No (f_X3_whatNo v k) := by
  rw [what_eq]; split
  · exact Or.inr no2
  · exact Or.inl rfl
theorem range_or (v a b : Int32) : f_X3_rangeNo v a b = 0 ∨ No (f_X3_rangeNo v a b) := by
  rw [range_b]; exact bound_no v a b
theorem ahead_or (v : Int32) : f_X3_aheadNo v = 0 ∨ No (f_X3_aheadNo v) := range_or v 0 60
theorem first_or {a b : Int32} (ha : a = 0 ∨ No a) (hb : b = 0 ∨ No b) : f_X3_first a b = 0 ∨ No (f_X3_first a b) := by
  unfold f_X3_first
  split
  · exact hb
  · exact ha
theorem first_0 {a b : Int32} (h : f_X3_first a b = 0) : a = 0 ∧ b = 0 := by
  unfold f_X3_first at h
  by_cases ha : a = 0
  · rw [if_pos ha] at h; exact ⟨ha, h⟩
  · rw [if_neg ha] at h; exact absurd h ha
theorem call_nat {n : Nat} (hn : n ≤ 7) {v : Int32} (h : f_X3_callerNo (nI n) v = 0) : ∃ c, c < n ∧ v = nI c := by
  unfold f_X3_callerNo f_X0_has at h
  by_cases h1 : v < 0
  · rw [if_pos h1, if_pos rfl] at h; exact absurd h n1
  · rw [if_neg h1] at h
    by_cases h2 : nI n ≤ v
    · rw [if_pos h2, if_pos rfl] at h; exact absurd h n1
    · obtain ⟨j, hj, e⟩ := nI_of h1
      refine ⟨j, ?_, e⟩
      rw [e] at h2
      exact Nat.lt_of_not_le (fun q => h2 (nI_le q hj))
theorem call_is {n c : Nat} (hn : n ≤ 7) (h : c < n) : f_X4_isCaller (nI n) (nI c) = 1 := by
  unfold f_X4_isCaller
  rw [if_neg (nI_pos (by omega)), if_neg (nI_ge h (by omega))]
theorem word_nat {v : Int32} (h : f_X3_wordNo v = 0) : ∃ w, w < 8 ∧ v = nI w := by
  unfold f_X3_wordNo at h
  by_cases h1 : v < 0
  · rw [if_pos h1] at h; exact absurd h n1
  · rw [if_neg h1] at h
    by_cases h2 : v < 8
    · obtain ⟨j, hj, e⟩ := nI_of h1
      refine ⟨j, ?_, e⟩
      rw [e, i_lt, nI_toInt hj] at h2
      have e8 : (8 : Int32).toInt = 8 := rfl
      omega
    · rw [if_neg h2] at h; exact absurd h n1
theorem word_is {w : Nat} (h : w < 8) : f_X4_isWord (nI w) = 1 := by
  unfold f_X4_isWord
  rw [if_neg (nI_pos (by omega)), if_neg (show ¬ (8 : Int32) ≤ nI w from gL 8 h)]
theorem what_nat {v : Int32} {k : Nat} (hk : k < 2147483648) (h : f_X3_whatNo v (nI k) = 0) : ∃ w, w ≤ k ∧ v = nI w := by
  unfold f_X3_whatNo at h
  by_cases h1 : v < 0
  · rw [if_pos h1] at h; exact absurd h n2
  · rw [if_neg h1] at h
    by_cases h2 : v ≤ nI k
    · obtain ⟨j, hj, e⟩ := nI_of h1
      refine ⟨j, ?_, e⟩
      rw [e] at h2
      exact Nat.le_of_not_lt (fun q => nI_ge q hj h2)
    · rw [if_neg h2] at h; exact absurd h n2
theorem what_is {v : Int32} {k : Int32} (h : f_X3_whatNo v k = 0) : f_X4_isIn v 0 k = 1 := by
  unfold f_X3_whatNo at h
  unfold f_X4_isIn
  by_cases h1 : v < 0
  · rw [if_pos h1] at h; exact absurd h n2
  · rw [if_neg h1] at h ⊢
    by_cases h2 : v ≤ k
    · rw [if_neg (Int32.not_lt.mpr h2)]
    · rw [if_neg h2] at h; exact absurd h n2
theorem range_nat {v : Int32} (lo hi : Nat) (hl : lo ≤ hi) (hh : hi < 2147483648) (h : f_X3_rangeNo v (nI lo) (nI hi) = 0) : ∃ k, lo ≤ k ∧ k ≤ hi ∧ v = nI k := by
  rw [range_b] at h
  exact bound_nat lo hi hl hh (bound_in h)
theorem ahead_nat {v : Int32} (h : f_X3_aheadNo v = 0) : ∃ k, k ≤ 60 ∧ v = nI k := by
  obtain ⟨k, -, h1, h2⟩ := range_nat 0 60 (by omega) (by omega) h
  exact ⟨k, h1, h2⟩
theorem w00 : (nI 0 = (0 : Int32)) = True := by exact eq_true rfl
theorem w10 : (nI 1 = (0 : Int32)) = False := by exact eq_false (by decide)
theorem w11 : (nI 1 = (1 : Int32)) = True := by exact eq_true rfl
theorem w20 : (nI 2 = (0 : Int32)) = False := by exact eq_false (by decide)
theorem w21 : (nI 2 = (1 : Int32)) = False := by exact eq_false (by decide)
theorem w22 : (nI 2 = (2 : Int32)) = True := by exact eq_true rfl
theorem w30 : (nI 3 = (0 : Int32)) = False := by exact eq_false (by decide)
theorem w31 : (nI 3 = (1 : Int32)) = False := by exact eq_false (by decide)
theorem w32 : (nI 3 = (2 : Int32)) = False := by exact eq_false (by decide)
theorem w33 : (nI 3 = (3 : Int32)) = True := by exact eq_true rfl
theorem w40 : (nI 4 = (0 : Int32)) = False := by exact eq_false (by decide)
theorem w41 : (nI 4 = (1 : Int32)) = False := by exact eq_false (by decide)
theorem w42 : (nI 4 = (2 : Int32)) = False := by exact eq_false (by decide)
theorem w43 : (nI 4 = (3 : Int32)) = False := by exact eq_false (by decide)
theorem w44 : (nI 4 = (4 : Int32)) = True := by exact eq_true rfl
set_option maxHeartbeats 2000000 in
theorem sim_caller {n len r : Nat} {x_imageTaken : Int32} {d_callers : Int32} {d_kinds : Nat → Int32} {d_figures : Nat → Int32} {d_tones : Nat → Int32} {d_words : Nat → Int32} {d_hours : Nat → Int32} {d_order : Nat → Int32} {d_known : Nat → Int32} {d_tune : Int32} {d_hurt : Int32} {d_patience : Int32} {d_day : Int32} {d_answered : Int32} {d_unanswered : Int32} {d_said : Int32} {d_times : Nat → Int32} {d_last : Nat → Int32} {n_answered : Int32} {n_unanswered : Int32} {n_said : Int32} {n_times : Nat → Int32} {n_last : Nat → Int32} {t_letters : Nat → Int32} {x_told : Nat → Int32} {x_refusals : Nat → Int32} {k_callers : Int32} {k_kinds : Nat → Int32} {k_figures : Nat → Int32} {k_tones : Nat → Int32} {k_words : Nat → Int32} {k_hours : Nat → Int32} {k_order : Nat → Int32} {k_known : Nat → Int32} {k_tune : Int32} {k_hurt : Int32} {k_patience : Int32} {k_day : Int32} {k_answered : Int32} {k_unanswered : Int32} {k_said : Int32} {k_times : Nat → Int32} {k_last : Nat → Int32} {kd : Nat → Int32} {fg : Nat → Int32} {tn : Nat → Int32} {wd : Nat → Int32} {hr : Nat → Int32} {od : Nat → Int32} {kn : Nat → Int32} {tu : Int32} {hu : Int32} {pa : Int32} {dy : Int32} {m_refused : Nat → Int32} {m_letter : Nat → Int32} {m_letterAt : Nat → Int32} {m_told : Nat → Int32} {m_at : Int32} {m_statements : Int32} {m_kept : Nat → Int32} {m_isKeeping : Int32} {m_cursor : Int32} {m_answeredMany : Nat → Int32} {m_lastWord : Nat → Int32} {m_answered : Int32} {m_unanswered : Int32} {m_saidWords : Int32} {m_isCalledAtSeven : Int32} {m_isAnsweredAtSeven : Int32} {m_seen : Nat → Int32} {m_weekAnswers : Int32} {m_weekHurt : Int32} {m_week : Nat → Int32} {m_oneHas : Nat → Int32} {m_otherHas : Nat → Int32} (h1 : RM n kd fg tn wd hr od kn tu hu) (h2 : GZ d_kinds d_figures d_tones d_words d_hours d_order d_known) (h3 : TZ d_times d_last) (h4 : TZ n_times n_last) (h5 : GZ k_kinds k_figures k_tones k_words k_hours k_order k_known) (h6 : RI x_imageTaken m_kept k_callers k_kinds k_figures k_tones k_words k_hours k_order k_known k_tune k_hurt k_patience k_day) (h7 : RT len t_letters) (h8 : RR r x_told) (h9 : RF x_refusals m_refused) (h10 : TZ m_answeredMany m_lastWord) (v1 : Int32) (v2 : Int32) : ∃ o o', f_X3_caller (nI n) kd fg tn wd hr x_refusals v1 v2 = o ∧ f_X4_caller m_refused kd fg tn wd hr (nI n) v1 v2 = some o' ∧ o'.1 = o.1 ∧ Rel x_imageTaken (nI r) d_callers d_kinds d_figures d_tones d_words d_hours d_order d_known d_tune d_hurt d_patience d_day d_answered d_unanswered d_said d_times d_last (nI n) kd fg tn wd hr od kn tu hu pa dy n_answered n_unanswered n_said n_times n_last t_letters (nI len) x_told (o.2) k_callers k_kinds k_figures k_tones k_words k_hours k_order k_known k_tune k_hurt k_patience k_day k_answered k_unanswered k_said k_times k_last (o'.2) kn (st3 tu hu pa) kd fg tn wd hr (nI n) dy t_letters m_letter m_letterAt m_told (nI len) m_at m_statements m_kept x_imageTaken m_isKeeping m_cursor m_answeredMany m_lastWord 0 m_answered m_unanswered m_saidWords m_isCalledAtSeven m_isAnsweredAtSeven m_seen m_weekAnswers m_weekHurt m_week x_told (nI r) m_oneHas m_otherHas := by
  have hn7 := h1.1.1
  by_cases hno : f_X3_first (f_X3_callerNo (nI n) v1) (f_X3_whatNo v2 4) = 0
  · obtain ⟨ha, hb⟩ := first_0 hno
    obtain ⟨c, hc, rfl⟩ := call_nat hn7 ha
    obtain ⟨w, hw, rfl⟩ := what_nat (k := 4) (by omega) hb
    have hc7 : c < 7 := by omega
    unfold f_X3_caller f_X4_caller
    rw [if_pos hno, call_is hn7 hc, if_neg nz1]
    simp only [at_n hc7, gu_t (inB_n hc7), cl_n (show c < 2147483648 by omega)]
    have hw5 : w = 0 ∨ w = 1 ∨ w = 2 ∨ w = 3 ∨ w = 4 := by omega
    rcases hw5 with rfl | rfl | rfl | rfl | rfl <;> simp only [w00, w10, w11, w20, w21, w22, w30, w31, w32, w33, w40, w41, w42, w43, w44, if_true, if_false]
    · exact ⟨_, _, rfl, rfl, rfl, mkRel h1 h2 h3 h4 h5 h6 h7 h8 h9 h10⟩
    · exact ⟨_, _, rfl, rfl, rfl, mkRel h1 h2 h3 h4 h5 h6 h7 h8 h9 h10⟩
    · exact ⟨_, _, rfl, rfl, rfl, mkRel h1 h2 h3 h4 h5 h6 h7 h8 h9 h10⟩
    · exact ⟨_, _, rfl, rfl, rfl, mkRel h1 h2 h3 h4 h5 h6 h7 h8 h9 h10⟩
    · exact ⟨_, _, rfl, rfl, rfl, mkRel h1 h2 h3 h4 h5 h6 h7 h8 h9 h10⟩
  · have hv := (first_or (call_or (nI n) v1) (what_or v2 4)).resolve_left hno
    unfold f_X3_caller
    generalize hw : f_X3_first (f_X3_callerNo (nI n) v1) (f_X3_whatNo v2 4) = w at hno hv ⊢
    obtain ⟨fm, e, hf⟩ := ref_ok h9 hv
    rw [if_neg hno]
    refine ⟨_, (w, fm), rfl, ?_, rfl, mkRel h1 h2 h3 h4 h5 h6 h7 h8 hf h10⟩
    unfold f_X4_caller
    by_cases ha : f_X4_isCaller (nI n) v1 = 0
    · rw [if_pos ha]
      have e2 : w = -1 := by rw [← hw, call_eq, if_pos ha]; rfl
      subst e2
      rw [bi_s e]
    · rw [if_neg ha]
      have e2 : w = f_X3_whatNo v2 4 := by rw [← hw, call_eq, if_neg ha]; rfl
      subst e2
      have e3 : f_X3_whatNo v2 4 = -2 := by
        rw [what_eq] at hno ⊢
        by_cases hb : f_X4_isIn v2 0 4 = 0
        · rw [if_pos hb]
        · rw [if_neg hb] at hno; exact absurd rfl hno
      have key : ∀ k : Nat, k ≤ 4 → ¬ v2 = nI k := by
        intro k hk q
        subst q
        unfold f_X3_whatNo at e3
        rw [if_neg (nI_pos (by omega)), if_pos (show nI k ≤ 4 from nI_le (b := 4) hk (by omega))] at e3
        exact n2 e3.symm
      rw [if_neg (show ¬ v2 = 0 from key 0 (by omega)), if_neg (show ¬ v2 = 1 from key 1 (by omega)), if_neg (show ¬ v2 = 2 from key 2 (by omega)), if_neg (show ¬ v2 = 3 from key 3 (by omega)), if_neg (show ¬ v2 = 4 from key 4 (by omega))]
      rw [e3] at e ⊢
      rw [bi_s e]
set_option maxHeartbeats 2000000 in
theorem sim_known {n len r : Nat} {x_imageTaken : Int32} {d_callers : Int32} {d_kinds : Nat → Int32} {d_figures : Nat → Int32} {d_tones : Nat → Int32} {d_words : Nat → Int32} {d_hours : Nat → Int32} {d_order : Nat → Int32} {d_known : Nat → Int32} {d_tune : Int32} {d_hurt : Int32} {d_patience : Int32} {d_day : Int32} {d_answered : Int32} {d_unanswered : Int32} {d_said : Int32} {d_times : Nat → Int32} {d_last : Nat → Int32} {n_answered : Int32} {n_unanswered : Int32} {n_said : Int32} {n_times : Nat → Int32} {n_last : Nat → Int32} {t_letters : Nat → Int32} {x_told : Nat → Int32} {x_refusals : Nat → Int32} {k_callers : Int32} {k_kinds : Nat → Int32} {k_figures : Nat → Int32} {k_tones : Nat → Int32} {k_words : Nat → Int32} {k_hours : Nat → Int32} {k_order : Nat → Int32} {k_known : Nat → Int32} {k_tune : Int32} {k_hurt : Int32} {k_patience : Int32} {k_day : Int32} {k_answered : Int32} {k_unanswered : Int32} {k_said : Int32} {k_times : Nat → Int32} {k_last : Nat → Int32} {kd : Nat → Int32} {fg : Nat → Int32} {tn : Nat → Int32} {wd : Nat → Int32} {hr : Nat → Int32} {od : Nat → Int32} {kn : Nat → Int32} {tu : Int32} {hu : Int32} {pa : Int32} {dy : Int32} {m_refused : Nat → Int32} {m_letter : Nat → Int32} {m_letterAt : Nat → Int32} {m_told : Nat → Int32} {m_at : Int32} {m_statements : Int32} {m_kept : Nat → Int32} {m_isKeeping : Int32} {m_cursor : Int32} {m_answeredMany : Nat → Int32} {m_lastWord : Nat → Int32} {m_answered : Int32} {m_unanswered : Int32} {m_saidWords : Int32} {m_isCalledAtSeven : Int32} {m_isAnsweredAtSeven : Int32} {m_seen : Nat → Int32} {m_weekAnswers : Int32} {m_weekHurt : Int32} {m_week : Nat → Int32} {m_oneHas : Nat → Int32} {m_otherHas : Nat → Int32} (h1 : RM n kd fg tn wd hr od kn tu hu) (h2 : GZ d_kinds d_figures d_tones d_words d_hours d_order d_known) (h3 : TZ d_times d_last) (h4 : TZ n_times n_last) (h5 : GZ k_kinds k_figures k_tones k_words k_hours k_order k_known) (h6 : RI x_imageTaken m_kept k_callers k_kinds k_figures k_tones k_words k_hours k_order k_known k_tune k_hurt k_patience k_day) (h7 : RT len t_letters) (h8 : RR r x_told) (h9 : RF x_refusals m_refused) (h10 : TZ m_answeredMany m_lastWord) (v1 : Int32) : ∃ o o', f_X3_known kn x_refusals v1 = o ∧ f_X4_known m_refused kn v1 = some o' ∧ o'.1 = o.1 ∧ Rel x_imageTaken (nI r) d_callers d_kinds d_figures d_tones d_words d_hours d_order d_known d_tune d_hurt d_patience d_day d_answered d_unanswered d_said d_times d_last (nI n) kd fg tn wd hr od kn tu hu pa dy n_answered n_unanswered n_said n_times n_last t_letters (nI len) x_told (o.2) k_callers k_kinds k_figures k_tones k_words k_hours k_order k_known k_tune k_hurt k_patience k_day k_answered k_unanswered k_said k_times k_last (o'.2) kn (st3 tu hu pa) kd fg tn wd hr (nI n) dy t_letters m_letter m_letterAt m_told (nI len) m_at m_statements m_kept x_imageTaken m_isKeeping m_cursor m_answeredMany m_lastWord 0 m_answered m_unanswered m_saidWords m_isCalledAtSeven m_isAnsweredAtSeven m_seen m_weekAnswers m_weekHurt m_week x_told (nI r) m_oneHas m_otherHas := by
  by_cases hno : f_X3_wordNo v1 = 0
  · obtain ⟨w, hw, rfl⟩ := word_nat hno
    unfold f_X3_known f_X4_known
    rw [if_pos hno, word_is hw, if_neg nz1, at_n hw, gu_t (inB_n hw), cl_n (by omega)]
    exact ⟨_, _, rfl, rfl, rfl, mkRel h1 h2 h3 h4 h5 h6 h7 h8 h9 h10⟩
  · have ha : f_X4_isWord v1 = 0 := Decidable.byContradiction (fun q => hno (by rw [word_eq, if_neg q]))
    have e1 : f_X3_wordNo v1 = -1 := by rw [word_eq, if_pos ha]
    obtain ⟨fm, e, hf⟩ := ref_ok h9 no1
    unfold f_X3_known f_X4_known
    rw [if_neg hno, if_pos ha, bi_s e, e1]
    exact ⟨_, _, rfl, rfl, rfl, mkRel h1 h2 h3 h4 h5 h6 h7 h8 hf h10⟩
set_option maxHeartbeats 2000000 in
theorem sim_learn {n len r : Nat} {x_imageTaken : Int32} {d_callers : Int32} {d_kinds : Nat → Int32} {d_figures : Nat → Int32} {d_tones : Nat → Int32} {d_words : Nat → Int32} {d_hours : Nat → Int32} {d_order : Nat → Int32} {d_known : Nat → Int32} {d_tune : Int32} {d_hurt : Int32} {d_patience : Int32} {d_day : Int32} {d_answered : Int32} {d_unanswered : Int32} {d_said : Int32} {d_times : Nat → Int32} {d_last : Nat → Int32} {n_answered : Int32} {n_unanswered : Int32} {n_said : Int32} {n_times : Nat → Int32} {n_last : Nat → Int32} {t_letters : Nat → Int32} {x_told : Nat → Int32} {x_refusals : Nat → Int32} {k_callers : Int32} {k_kinds : Nat → Int32} {k_figures : Nat → Int32} {k_tones : Nat → Int32} {k_words : Nat → Int32} {k_hours : Nat → Int32} {k_order : Nat → Int32} {k_known : Nat → Int32} {k_tune : Int32} {k_hurt : Int32} {k_patience : Int32} {k_day : Int32} {k_answered : Int32} {k_unanswered : Int32} {k_said : Int32} {k_times : Nat → Int32} {k_last : Nat → Int32} {kd : Nat → Int32} {fg : Nat → Int32} {tn : Nat → Int32} {wd : Nat → Int32} {hr : Nat → Int32} {od : Nat → Int32} {kn : Nat → Int32} {tu : Int32} {hu : Int32} {pa : Int32} {dy : Int32} {m_refused : Nat → Int32} {m_letter : Nat → Int32} {m_letterAt : Nat → Int32} {m_told : Nat → Int32} {m_at : Int32} {m_statements : Int32} {m_kept : Nat → Int32} {m_isKeeping : Int32} {m_cursor : Int32} {m_answeredMany : Nat → Int32} {m_lastWord : Nat → Int32} {m_answered : Int32} {m_unanswered : Int32} {m_saidWords : Int32} {m_isCalledAtSeven : Int32} {m_isAnsweredAtSeven : Int32} {m_seen : Nat → Int32} {m_weekAnswers : Int32} {m_weekHurt : Int32} {m_week : Nat → Int32} {m_oneHas : Nat → Int32} {m_otherHas : Nat → Int32} (h1 : RM n kd fg tn wd hr od kn tu hu) (h2 : GZ d_kinds d_figures d_tones d_words d_hours d_order d_known) (h3 : TZ d_times d_last) (h4 : TZ n_times n_last) (h5 : GZ k_kinds k_figures k_tones k_words k_hours k_order k_known) (h6 : RI x_imageTaken m_kept k_callers k_kinds k_figures k_tones k_words k_hours k_order k_known k_tune k_hurt k_patience k_day) (h7 : RT len t_letters) (h8 : RR r x_told) (h9 : RF x_refusals m_refused) (h10 : TZ m_answeredMany m_lastWord) (v1 : Int32) (v2 : Int32) : ∃ o o', f_X3_learn kn x_refusals v1 v2 = o ∧ f_X4_learn m_refused kn v1 v2 = some o' ∧ o'.1 = o.1 ∧ Rel x_imageTaken (nI r) d_callers d_kinds d_figures d_tones d_words d_hours d_order d_known d_tune d_hurt d_patience d_day d_answered d_unanswered d_said d_times d_last (nI n) kd fg tn wd hr od (o.2.1) tu hu pa dy n_answered n_unanswered n_said n_times n_last t_letters (nI len) x_told (o.2.2) k_callers k_kinds k_figures k_tones k_words k_hours k_order k_known k_tune k_hurt k_patience k_day k_answered k_unanswered k_said k_times k_last (o'.2.1) (o'.2.2) (st3 tu hu pa) kd fg tn wd hr (nI n) dy t_letters m_letter m_letterAt m_told (nI len) m_at m_statements m_kept x_imageTaken m_isKeeping m_cursor m_answeredMany m_lastWord 0 m_answered m_unanswered m_saidWords m_isCalledAtSeven m_isAnsweredAtSeven m_seen m_weekAnswers m_weekHurt m_week x_told (nI r) m_oneHas m_otherHas := by
  by_cases hno : f_X3_first (f_X3_wordNo v1) (f_X3_rangeNo v2 0 20) = 0
  · obtain ⟨ha, hb⟩ := first_0 hno
    obtain ⟨w, hw, rfl⟩ := word_nat ha
    rw [range_b] at hb
    unfold f_X3_learn f_X4_learn f_X4_learn_J18
    rw [if_pos hno, word_is hw, if_neg nz1, if_pos hb, at_n hw, put_n hw, gu_t (inB_n hw), gu_t (inB_n hw), cl_n (by omega)]
    obtain ⟨g1, g2, g3, g4, g5, g6, g7⟩ := h1
    exact ⟨_, _, rfl, rfl, rfl, mkRel ⟨g1, g2, g3, g4, g5, g6.upd hw, g7⟩ h2 h3 h4 h5 h6 h7 h8 h9 h10⟩
  · obtain ⟨fm, e, hf⟩ := ref_ok h9 ((first_or (word_or _) (range_or _ _ _)).resolve_left hno)
    unfold f_X3_learn
    rw [if_neg hno]
    refine ⟨_, (f_X3_first (f_X3_wordNo v1) (f_X3_rangeNo v2 0 20), fm, kn), rfl, ?_, rfl, mkRel h1 h2 h3 h4 h5 h6 h7 h8 hf h10⟩
    unfold f_X4_learn f_X4_learn_J18
    by_cases ha : f_X4_isWord v1 = 0
    · have e2 : f_X3_first (f_X3_wordNo v1) (f_X3_rangeNo v2 0 20) = -1 := by rw [word_eq, if_pos ha]; rfl
      rw [e2] at e ⊢
      rw [if_pos ha, if_neg n1, bi_s e]
    · have e2 : f_X3_first (f_X3_wordNo v1) (f_X3_rangeNo v2 0 20) = f_X4_bound v2 0 20 := by rw [word_eq, if_neg ha, range_b]; rfl
      rw [e2] at e hno ⊢
      rw [if_neg ha, if_neg hno, bi_s e]
set_option maxHeartbeats 2000000 in
theorem sim_hour {n len r : Nat} {x_imageTaken : Int32} {d_callers : Int32} {d_kinds : Nat → Int32} {d_figures : Nat → Int32} {d_tones : Nat → Int32} {d_words : Nat → Int32} {d_hours : Nat → Int32} {d_order : Nat → Int32} {d_known : Nat → Int32} {d_tune : Int32} {d_hurt : Int32} {d_patience : Int32} {d_day : Int32} {d_answered : Int32} {d_unanswered : Int32} {d_said : Int32} {d_times : Nat → Int32} {d_last : Nat → Int32} {n_answered : Int32} {n_unanswered : Int32} {n_said : Int32} {n_times : Nat → Int32} {n_last : Nat → Int32} {t_letters : Nat → Int32} {x_told : Nat → Int32} {x_refusals : Nat → Int32} {k_callers : Int32} {k_kinds : Nat → Int32} {k_figures : Nat → Int32} {k_tones : Nat → Int32} {k_words : Nat → Int32} {k_hours : Nat → Int32} {k_order : Nat → Int32} {k_known : Nat → Int32} {k_tune : Int32} {k_hurt : Int32} {k_patience : Int32} {k_day : Int32} {k_answered : Int32} {k_unanswered : Int32} {k_said : Int32} {k_times : Nat → Int32} {k_last : Nat → Int32} {kd : Nat → Int32} {fg : Nat → Int32} {tn : Nat → Int32} {wd : Nat → Int32} {hr : Nat → Int32} {od : Nat → Int32} {kn : Nat → Int32} {tu : Int32} {hu : Int32} {pa : Int32} {dy : Int32} {m_refused : Nat → Int32} {m_letter : Nat → Int32} {m_letterAt : Nat → Int32} {m_told : Nat → Int32} {m_at : Int32} {m_statements : Int32} {m_kept : Nat → Int32} {m_isKeeping : Int32} {m_cursor : Int32} {m_answeredMany : Nat → Int32} {m_lastWord : Nat → Int32} {m_answered : Int32} {m_unanswered : Int32} {m_saidWords : Int32} {m_isCalledAtSeven : Int32} {m_isAnsweredAtSeven : Int32} {m_seen : Nat → Int32} {m_weekAnswers : Int32} {m_weekHurt : Int32} {m_week : Nat → Int32} {m_oneHas : Nat → Int32} {m_otherHas : Nat → Int32} (h1 : RM n kd fg tn wd hr od kn tu hu) (h2 : GZ d_kinds d_figures d_tones d_words d_hours d_order d_known) (h3 : TZ d_times d_last) (h4 : TZ n_times n_last) (h5 : GZ k_kinds k_figures k_tones k_words k_hours k_order k_known) (h6 : RI x_imageTaken m_kept k_callers k_kinds k_figures k_tones k_words k_hours k_order k_known k_tune k_hurt k_patience k_day) (h7 : RT len t_letters) (h8 : RR r x_told) (h9 : RF x_refusals m_refused) (h10 : TZ m_answeredMany m_lastWord) (v1 : Int32) (v2 : Int32) : ∃ o o', f_X3_hour (nI n) hr od x_refusals v1 v2 = some o ∧ f_X4_hour m_refused hr (nI n) v1 v2 = some o' ∧ o'.1 = o.1 ∧ Rel x_imageTaken (nI r) d_callers d_kinds d_figures d_tones d_words d_hours d_order d_known d_tune d_hurt d_patience d_day d_answered d_unanswered d_said d_times d_last (nI n) kd fg tn wd (o.2.1) (o.2.2.1) kn tu hu pa dy n_answered n_unanswered n_said n_times n_last t_letters (nI len) x_told (o.2.2.2) k_callers k_kinds k_figures k_tones k_words k_hours k_order k_known k_tune k_hurt k_patience k_day k_answered k_unanswered k_said k_times k_last (o'.2.1) kn (st3 tu hu pa) kd fg tn wd (o'.2.2) (nI n) dy t_letters m_letter m_letterAt m_told (nI len) m_at m_statements m_kept x_imageTaken m_isKeeping m_cursor m_answeredMany m_lastWord 0 m_answered m_unanswered m_saidWords m_isCalledAtSeven m_isAnsweredAtSeven m_seen m_weekAnswers m_weekHurt m_week x_told (nI r) m_oneHas m_otherHas := by
  have hn7 := h1.1.1
  by_cases hno : f_X3_first (f_X3_callerNo (nI n) v1) (f_X3_rangeNo v2 0 23) = 0
  · obtain ⟨ha, hb⟩ := first_0 hno
    obtain ⟨c, hc, rfl⟩ := call_nat hn7 ha
    obtain ⟨h, -, hh, rfl⟩ := range_nat 0 23 (by omega) (by omega) hb
    rw [range_b] at hb
    have hc7 : c < 7 := by omega
    obtain ⟨⟨g0, g1⟩, g2, ⟨z1, z2, z3, z4, z5⟩, g4, g5, g6, g7⟩ := h1
    have hF' : OkF n kd fg tn wd (upd hr c (nI h)) := ⟨g0, fun d hd => by
      obtain ⟨k, f, t, w, h', q1, q2, q3, q4, q5, q6, q7, q8, q9, q10⟩ := g1 d hd
      by_cases e : d = c
      · exact ⟨k, f, t, w, h, q1, q2, q3, q4, by omega, q6, q7, q8, q9, by rw [e, pk_us]⟩
      · exact ⟨k, f, t, w, h', q1, q2, q3, q4, q5, q6, q7, q8, q9, by rw [pk_un e]; exact q10⟩⟩
    obtain ⟨od', ea, ho, hzo⟩ := arr_ok g0 (hr := upd hr c (nI h)) (fun d hd => by obtain ⟨k, f, t, w, h', -, -, -, -, q5, -, -, -, -, q10⟩ := hF'.2 d hd; exact ⟨h', q5, q10⟩) od g5
    unfold f_X3_hour f_X4_hour f_X4_hour_J19 f_X0_moveTo
    rw [if_pos hno, call_is hn7 hc, if_neg nz1, if_pos hb, put_n hc7, bi_s ea, at_n hc7, gu_t (inB_n hc7), gu_t (inB_n hc7), cl_n (by omega)]
    exact ⟨_, _, rfl, rfl, rfl, mkRel ⟨hF', g2, ⟨z1, z2, z3, z4, z5.upd hc7⟩, ho, hzo, g6, g7⟩ h2 h3 h4 h5 h6 h7 h8 h9 h10⟩
  · have hv := (first_or (call_or (nI n) v1) (range_or v2 0 23)).resolve_left hno
    unfold f_X3_hour
    generalize hw : f_X3_first (f_X3_callerNo (nI n) v1) (f_X3_rangeNo v2 0 23) = w at hno hv ⊢
    obtain ⟨fm, e, hf⟩ := ref_ok h9 hv
    rw [if_neg hno]
    refine ⟨_, (w, fm, hr), rfl, ?_, rfl, mkRel h1 h2 h3 h4 h5 h6 h7 h8 hf h10⟩
    unfold f_X4_hour f_X4_hour_J19
    by_cases ha : f_X4_isCaller (nI n) v1 = 0
    · have e2 : w = -1 := by rw [← hw, call_eq, if_pos ha]; rfl
      subst e2
      rw [if_pos ha, if_neg n1, bi_s e]
    · have e2 : w = f_X4_bound v2 0 23 := by rw [← hw, call_eq, if_neg ha, range_b]; rfl
      subst e2
      rw [if_neg ha, if_neg hno, bi_s e]
set_option maxHeartbeats 2000000 in
theorem sim_answers {n len r : Nat} {x_imageTaken : Int32} {d_callers : Int32} {d_kinds : Nat → Int32} {d_figures : Nat → Int32} {d_tones : Nat → Int32} {d_words : Nat → Int32} {d_hours : Nat → Int32} {d_order : Nat → Int32} {d_known : Nat → Int32} {d_tune : Int32} {d_hurt : Int32} {d_patience : Int32} {d_day : Int32} {d_answered : Int32} {d_unanswered : Int32} {d_said : Int32} {d_times : Nat → Int32} {d_last : Nat → Int32} {n_answered : Int32} {n_unanswered : Int32} {n_said : Int32} {n_times : Nat → Int32} {n_last : Nat → Int32} {t_letters : Nat → Int32} {x_told : Nat → Int32} {x_refusals : Nat → Int32} {k_callers : Int32} {k_kinds : Nat → Int32} {k_figures : Nat → Int32} {k_tones : Nat → Int32} {k_words : Nat → Int32} {k_hours : Nat → Int32} {k_order : Nat → Int32} {k_known : Nat → Int32} {k_tune : Int32} {k_hurt : Int32} {k_patience : Int32} {k_day : Int32} {k_answered : Int32} {k_unanswered : Int32} {k_said : Int32} {k_times : Nat → Int32} {k_last : Nat → Int32} {kd : Nat → Int32} {fg : Nat → Int32} {tn : Nat → Int32} {wd : Nat → Int32} {hr : Nat → Int32} {od : Nat → Int32} {kn : Nat → Int32} {tu : Int32} {hu : Int32} {pa : Int32} {dy : Int32} {m_refused : Nat → Int32} {m_letter : Nat → Int32} {m_letterAt : Nat → Int32} {m_told : Nat → Int32} {m_at : Int32} {m_statements : Int32} {m_kept : Nat → Int32} {m_isKeeping : Int32} {m_cursor : Int32} {m_answeredMany : Nat → Int32} {m_lastWord : Nat → Int32} {m_answered : Int32} {m_unanswered : Int32} {m_saidWords : Int32} {m_isCalledAtSeven : Int32} {m_isAnsweredAtSeven : Int32} {m_seen : Nat → Int32} {m_weekAnswers : Int32} {m_weekHurt : Int32} {m_week : Nat → Int32} {m_oneHas : Nat → Int32} {m_otherHas : Nat → Int32} (h1 : RM n kd fg tn wd hr od kn tu hu) (h2 : GZ d_kinds d_figures d_tones d_words d_hours d_order d_known) (h3 : TZ d_times d_last) (h4 : TZ n_times n_last) (h5 : GZ k_kinds k_figures k_tones k_words k_hours k_order k_known) (h6 : RI x_imageTaken m_kept k_callers k_kinds k_figures k_tones k_words k_hours k_order k_known k_tune k_hurt k_patience k_day) (h7 : RT len t_letters) (h8 : RR r x_told) (h9 : RF x_refusals m_refused) (h10 : TZ m_answeredMany m_lastWord) (v1 : Int32) : ∃ o o', f_X3_answers (nI n) kd tn tu hu pa x_refusals v1 = o ∧ f_X4_answers m_refused (st3 tu hu pa) kd tn (nI n) v1 = some o' ∧ o'.1 = o.1 ∧ Rel x_imageTaken (nI r) d_callers d_kinds d_figures d_tones d_words d_hours d_order d_known d_tune d_hurt d_patience d_day d_answered d_unanswered d_said d_times d_last (nI n) kd fg tn wd hr od kn tu hu pa dy n_answered n_unanswered n_said n_times n_last t_letters (nI len) x_told (o.2) k_callers k_kinds k_figures k_tones k_words k_hours k_order k_known k_tune k_hurt k_patience k_day k_answered k_unanswered k_said k_times k_last (o'.2) kn (st3 tu hu pa) kd fg tn wd hr (nI n) dy t_letters m_letter m_letterAt m_told (nI len) m_at m_statements m_kept x_imageTaken m_isKeeping m_cursor m_answeredMany m_lastWord 0 m_answered m_unanswered m_saidWords m_isCalledAtSeven m_isAnsweredAtSeven m_seen m_weekAnswers m_weekHurt m_week x_told (nI r) m_oneHas m_otherHas := by
  have hn7 := h1.1.1
  by_cases hno : f_X3_callerNo (nI n) v1 = 0
  · obtain ⟨c, hc, rfl⟩ := call_nat hn7 hno
    have hc7 : c < 7 := by omega
    obtain ⟨k, f, t, w, h, q1, q2, q3, q4, q5, q6, q7, q8, q9, q10⟩ := h1.1.2 c hc
    obtain ⟨u, hu9, q11⟩ := h1.2.1
    unfold f_X3_answers f_X4_answers
    rw [if_pos hno, call_is hn7 hc, if_neg nz1, bi_s (ans_m hu pa hc7 q1 q3 hu9 q6 q8 q11)]
    rcases ans_or kd tn tu hu pa (nI c) with q | q
    · rw [q, if_pos rfl]
      exact ⟨_, _, rfl, rfl, rfl, mkRel h1 h2 h3 h4 h5 h6 h7 h8 h9 h10⟩
    · rw [q, if_neg nz1]
      exact ⟨_, _, rfl, rfl, rfl, mkRel h1 h2 h3 h4 h5 h6 h7 h8 h9 h10⟩
  · have ha : f_X4_isCaller (nI n) v1 = 0 := Decidable.byContradiction (fun q => hno (by rw [call_eq, if_neg q]))
    have e1 : f_X3_callerNo (nI n) v1 = -1 := by rw [call_eq, if_pos ha]
    obtain ⟨fm, e, hf⟩ := ref_ok h9 no1
    unfold f_X3_answers f_X4_answers
    rw [if_neg hno, if_pos ha, bi_s e, e1]
    exact ⟨_, _, rfl, rfl, rfl, mkRel h1 h2 h3 h4 h5 h6 h7 h8 hf h10⟩
theorem won_c {n : Nat} {kd fg tn wd hr : Nat → Int32} (tu hu pa : Int32) (hF : OkF n kd fg tn wd hr) (kn : Nat → Int32) {c : Nat} (hc : c < n) : f_X0_wordOrNone kd tn wd kn tu hu pa (nI c) = some (if f_X0_wouldAnswer kd tn tu hu pa (nI c) = 0 then -9 else wS (kd c) (wd c) kn) := by
  have hn7 := hF.1
  obtain ⟨k, f, t, w, h, q1, q2, q3, q4, q5, q6, q7, q8, q9, q10⟩ := hF.2 c hc
  unfold f_X0_wordOrNone
  rw [word_c kn (show c < 7 by omega) q1 q6]
  simp only [bi_some, if_some]
set_option maxHeartbeats 2000000 in
theorem sim_says {n len r : Nat} {x_imageTaken : Int32} {d_callers : Int32} {d_kinds : Nat → Int32} {d_figures : Nat → Int32} {d_tones : Nat → Int32} {d_words : Nat → Int32} {d_hours : Nat → Int32} {d_order : Nat → Int32} {d_known : Nat → Int32} {d_tune : Int32} {d_hurt : Int32} {d_patience : Int32} {d_day : Int32} {d_answered : Int32} {d_unanswered : Int32} {d_said : Int32} {d_times : Nat → Int32} {d_last : Nat → Int32} {n_answered : Int32} {n_unanswered : Int32} {n_said : Int32} {n_times : Nat → Int32} {n_last : Nat → Int32} {t_letters : Nat → Int32} {x_told : Nat → Int32} {x_refusals : Nat → Int32} {k_callers : Int32} {k_kinds : Nat → Int32} {k_figures : Nat → Int32} {k_tones : Nat → Int32} {k_words : Nat → Int32} {k_hours : Nat → Int32} {k_order : Nat → Int32} {k_known : Nat → Int32} {k_tune : Int32} {k_hurt : Int32} {k_patience : Int32} {k_day : Int32} {k_answered : Int32} {k_unanswered : Int32} {k_said : Int32} {k_times : Nat → Int32} {k_last : Nat → Int32} {kd : Nat → Int32} {fg : Nat → Int32} {tn : Nat → Int32} {wd : Nat → Int32} {hr : Nat → Int32} {od : Nat → Int32} {kn : Nat → Int32} {tu : Int32} {hu : Int32} {pa : Int32} {dy : Int32} {m_refused : Nat → Int32} {m_letter : Nat → Int32} {m_letterAt : Nat → Int32} {m_told : Nat → Int32} {m_at : Int32} {m_statements : Int32} {m_kept : Nat → Int32} {m_isKeeping : Int32} {m_cursor : Int32} {m_answeredMany : Nat → Int32} {m_lastWord : Nat → Int32} {m_answered : Int32} {m_unanswered : Int32} {m_saidWords : Int32} {m_isCalledAtSeven : Int32} {m_isAnsweredAtSeven : Int32} {m_seen : Nat → Int32} {m_weekAnswers : Int32} {m_weekHurt : Int32} {m_week : Nat → Int32} {m_oneHas : Nat → Int32} {m_otherHas : Nat → Int32} (h1 : RM n kd fg tn wd hr od kn tu hu) (h2 : GZ d_kinds d_figures d_tones d_words d_hours d_order d_known) (h3 : TZ d_times d_last) (h4 : TZ n_times n_last) (h5 : GZ k_kinds k_figures k_tones k_words k_hours k_order k_known) (h6 : RI x_imageTaken m_kept k_callers k_kinds k_figures k_tones k_words k_hours k_order k_known k_tune k_hurt k_patience k_day) (h7 : RT len t_letters) (h8 : RR r x_told) (h9 : RF x_refusals m_refused) (h10 : TZ m_answeredMany m_lastWord) (v1 : Int32) : ∃ o o', f_X3_says (nI n) kd tn wd kn tu hu pa x_refusals v1 = some o ∧ f_X4_says m_refused kn (st3 tu hu pa) kd tn wd (nI n) v1 = some o' ∧ o'.1 = o.1 ∧ Rel x_imageTaken (nI r) d_callers d_kinds d_figures d_tones d_words d_hours d_order d_known d_tune d_hurt d_patience d_day d_answered d_unanswered d_said d_times d_last (nI n) kd fg tn wd hr od kn tu hu pa dy n_answered n_unanswered n_said n_times n_last t_letters (nI len) x_told (o.2) k_callers k_kinds k_figures k_tones k_words k_hours k_order k_known k_tune k_hurt k_patience k_day k_answered k_unanswered k_said k_times k_last (o'.2) kn (st3 tu hu pa) kd fg tn wd hr (nI n) dy t_letters m_letter m_letterAt m_told (nI len) m_at m_statements m_kept x_imageTaken m_isKeeping m_cursor m_answeredMany m_lastWord 0 m_answered m_unanswered m_saidWords m_isCalledAtSeven m_isAnsweredAtSeven m_seen m_weekAnswers m_weekHurt m_week x_told (nI r) m_oneHas m_otherHas := by
  have hn7 := h1.1.1
  by_cases hno : f_X3_callerNo (nI n) v1 = 0
  · obtain ⟨c, hc, rfl⟩ := call_nat hn7 hno
    have hc7 : c < 7 := by omega
    obtain ⟨k, f, t, w, h, q1, q2, q3, q4, q5, q6, q7, q8, q9, q10⟩ := h1.1.2 c hc
    obtain ⟨u, hu9, q11⟩ := h1.2.1
    unfold f_X3_says f_X4_says
    rw [if_pos hno, call_is hn7 hc, if_neg nz1, bi_s (ans_m hu pa hc7 q1 q3 hu9 q6 q8 q11), bi_s (won_c tu hu pa h1.1 kn hc), bi_s (word_m kn hc7)]
    rcases ans_or kd tn tu hu pa (nI c) with q | q
    · rw [q, if_pos rfl, if_pos rfl]
      exact ⟨_, _, rfl, rfl, rfl, mkRel h1 h2 h3 h4 h5 h6 h7 h8 h9 h10⟩
    · rw [q, if_neg nz1, if_neg nz1]
      exact ⟨_, _, rfl, rfl, rfl, mkRel h1 h2 h3 h4 h5 h6 h7 h8 h9 h10⟩
  · have ha : f_X4_isCaller (nI n) v1 = 0 := Decidable.byContradiction (fun q => hno (by rw [call_eq, if_neg q]))
    have e1 : f_X3_callerNo (nI n) v1 = -1 := by rw [call_eq, if_pos ha]
    obtain ⟨fm, e, hf⟩ := ref_ok h9 no1
    unfold f_X3_says f_X4_says
    rw [if_neg hno, if_pos ha, bi_s e, e1]
    exact ⟨_, _, rfl, rfl, rfl, mkRel h1 h2 h3 h4 h5 h6 h7 h8 hf h10⟩
set_option maxHeartbeats 2000000 in
theorem sim_count {n len r : Nat} {x_imageTaken : Int32} {d_callers : Int32} {d_kinds : Nat → Int32} {d_figures : Nat → Int32} {d_tones : Nat → Int32} {d_words : Nat → Int32} {d_hours : Nat → Int32} {d_order : Nat → Int32} {d_known : Nat → Int32} {d_tune : Int32} {d_hurt : Int32} {d_patience : Int32} {d_day : Int32} {d_answered : Int32} {d_unanswered : Int32} {d_said : Int32} {d_times : Nat → Int32} {d_last : Nat → Int32} {n_answered : Int32} {n_unanswered : Int32} {n_said : Int32} {n_times : Nat → Int32} {n_last : Nat → Int32} {t_letters : Nat → Int32} {x_told : Nat → Int32} {x_refusals : Nat → Int32} {k_callers : Int32} {k_kinds : Nat → Int32} {k_figures : Nat → Int32} {k_tones : Nat → Int32} {k_words : Nat → Int32} {k_hours : Nat → Int32} {k_order : Nat → Int32} {k_known : Nat → Int32} {k_tune : Int32} {k_hurt : Int32} {k_patience : Int32} {k_day : Int32} {k_answered : Int32} {k_unanswered : Int32} {k_said : Int32} {k_times : Nat → Int32} {k_last : Nat → Int32} {kd : Nat → Int32} {fg : Nat → Int32} {tn : Nat → Int32} {wd : Nat → Int32} {hr : Nat → Int32} {od : Nat → Int32} {kn : Nat → Int32} {tu : Int32} {hu : Int32} {pa : Int32} {dy : Int32} {m_refused : Nat → Int32} {m_letter : Nat → Int32} {m_letterAt : Nat → Int32} {m_told : Nat → Int32} {m_at : Int32} {m_statements : Int32} {m_kept : Nat → Int32} {m_isKeeping : Int32} {m_cursor : Int32} {m_answeredMany : Nat → Int32} {m_lastWord : Nat → Int32} {m_answered : Int32} {m_unanswered : Int32} {m_saidWords : Int32} {m_isCalledAtSeven : Int32} {m_isAnsweredAtSeven : Int32} {m_seen : Nat → Int32} {m_weekAnswers : Int32} {m_weekHurt : Int32} {m_week : Nat → Int32} {m_oneHas : Nat → Int32} {m_otherHas : Nat → Int32} (h1 : RM n kd fg tn wd hr od kn tu hu) (h2 : GZ d_kinds d_figures d_tones d_words d_hours d_order d_known) (h3 : TZ d_times d_last) (h4 : TZ n_times n_last) (h5 : GZ k_kinds k_figures k_tones k_words k_hours k_order k_known) (h6 : RI x_imageTaken m_kept k_callers k_kinds k_figures k_tones k_words k_hours k_order k_known k_tune k_hurt k_patience k_day) (h7 : RT len t_letters) (h8 : RR r x_told) (h9 : RF x_refusals m_refused) (h10 : TZ m_answeredMany m_lastWord) (v1 : Int32) : ∃ o o', f_X3_count (nI r) (nI n) kn tu hu pa dy (nI len) x_refusals v1 = some o ∧ f_X4_count m_refused kn (st3 tu hu pa) (nI n) dy (nI len) (nI r) v1 = some o' ∧ o' = o ∧ Rel x_imageTaken (nI r) d_callers d_kinds d_figures d_tones d_words d_hours d_order d_known d_tune d_hurt d_patience d_day d_answered d_unanswered d_said d_times d_last (nI n) kd fg tn wd hr od kn tu hu pa dy n_answered n_unanswered n_said n_times n_last t_letters (nI len) x_told x_refusals k_callers k_kinds k_figures k_tones k_words k_hours k_order k_known k_tune k_hurt k_patience k_day k_answered k_unanswered k_said k_times k_last m_refused kn (st3 tu hu pa) kd fg tn wd hr (nI n) dy t_letters m_letter m_letterAt m_told (nI len) m_at m_statements m_kept x_imageTaken m_isKeeping m_cursor m_answeredMany m_lastWord 0 m_answered m_unanswered m_saidWords m_isCalledAtSeven m_isAnsweredAtSeven m_seen m_weekAnswers m_weekHurt m_week x_told (nI r) m_oneHas m_otherHas := by
  have key : f_X4_count m_refused kn (st3 tu hu pa) (nI n) dy (nI len) (nI r) v1 = f_X3_count (nI r) (nI n) kn tu hu pa dy (nI len) x_refusals v1 := by
    unfold f_X3_count f_X4_count
    rw [sum_c, sum_m, silent_m, st3_0, st3_1, st3_2]
    by_cases hi : f_X4_isIn v1 11 16 = 0
    · rw [if_pos hi]
      have hlast : (if v1 < (11 : Int32) then some (-9 : Int32) else if (16 : Int32) < v1 then some (-9) else some (f_at 6 x_refusals (v1 - 11))) = some (-9) := by
        unfold f_X4_isIn at hi
        by_cases h1 : v1 < 11
        · rw [if_pos h1]
        · rw [if_neg h1] at hi ⊢
          by_cases h2 : 16 < v1
          · rw [if_pos h2]
          · rw [if_neg h2] at hi; exact absurd hi nz1
      rw [hlast]
    · have hj : ∃ j, j < 6 ∧ v1 = nI (j + 11) := by
        unfold f_X4_isIn at hi
        by_cases h1 : v1 < 11
        · rw [if_pos h1] at hi; exact absurd rfl hi
        · rw [if_neg h1] at hi
          by_cases h2 : 16 < v1
          · rw [if_pos h2] at hi; exact absurd rfl hi
          · obtain ⟨k, g1, g2, g3⟩ := bound_nat 11 16 (by omega) (by omega) (v := v1) ⟨Int32.not_lt.mp h1, Int32.not_lt.mp h2⟩
            exact ⟨k - 11, by omega, by rw [g3]; congr 1; omega⟩
      obtain ⟨j, hj6, rfl⟩ := hj
      rw [if_neg hi]
      have e1 : nI (j + 11) - 10 = nI (j + 1) := pk_sub (a := j + 11) (b := 10) (by omega)
      have e2 : nI (j + 11) - 11 = nI j := pk_sub (a := j + 11) (b := 11) (by omega)
      rw [e1, e2, gu_t (inB_n (by omega)), cl_n (by omega), at_n hj6, h9 j hj6]
      have hne : ∀ k, k < 9 → ¬ nI (j + 11) = nI k := fun k hk q => by
        have := (nI_eq (by omega) (by omega)).mp q
        omega
      rw [if_neg (show ¬ nI (j + 11) = 0 from hne 0 (by omega)), if_neg (show ¬ nI (j + 11) = 1 from hne 1 (by omega)), if_neg (show ¬ nI (j + 11) = 2 from hne 2 (by omega)), if_neg (show ¬ nI (j + 11) = 3 from hne 3 (by omega)), if_neg (show ¬ nI (j + 11) = 4 from hne 4 (by omega)), if_neg (show ¬ nI (j + 11) = 5 from hne 5 (by omega)), if_neg (show ¬ nI (j + 11) = 6 from hne 6 (by omega)), if_neg (show ¬ nI (j + 11) = 7 from hne 7 (by omega)), if_neg (show ¬ nI (j + 11) = 8 from hne 8 (by omega)), if_neg (show ¬ nI (j + 11) < 11 from nI_nlt (a := j + 11) (b := 11) (by omega) (by omega)), if_neg (show ¬ (16 : Int32) < nI (j + 11) from nI_nlt (a := 16) (b := j + 11) (by omega) (by omega))]
  have hs : ∃ o, f_X3_count (nI r) (nI n) kn tu hu pa dy (nI len) x_refusals v1 = some o := by
    unfold f_X3_count
    rw [sum_c]
    simp only [bi_some, if_some]
    exact ⟨_, rfl⟩
  obtain ⟨q, hq⟩ := hs
  exact ⟨q, q, hq, key.trans hq, rfl, mkRel h1 h2 h3 h4 h5 h6 h7 h8 h9 h10⟩
