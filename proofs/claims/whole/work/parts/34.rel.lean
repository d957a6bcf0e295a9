def RM (n : Nat) (kd fg tn wd hr od kn : Nat → Int32) (tu hu : Int32) : Prop := OkF n kd fg tn wd hr ∧ OkT tu ∧ FZ kd fg tn wd hr ∧ OkO n hr od ∧ Zr 7 od ∧ Zr 8 kn ∧ HR hu
def GZ (kd fg tn wd hr od kn : Nat → Int32) : Prop := FZ kd fg tn wd hr ∧ Zr 7 od ∧ Zr 8 kn
def TZ (t l : Nat → Int32) : Prop := Zr 7 t ∧ Zr 7 l
def RI (it : Int32) (kept : Nat → Int32) (kc : Int32) (kd fg tn wd hr od kn : Nat → Int32) (tu hu pa dy : Int32) : Prop := it = 0 ∨ (it = 1 ∧ ∃ n, kc = nI n ∧ RM n kd fg tn wd hr od kn tu hu ∧ Sv kept 0 kn (st3 tu hu pa) kd fg tn wd hr (nI n) dy)
def RT (len : Nat) (lt : Nat → Int32) : Prop := len ≤ 96 ∧ ∀ i, i < len → ∃ b, b < 256 ∧ lt i = nI b
def RR (r : Nat) (told : Nat → Int32) : Prop := r ≤ 12 ∧ ∀ i, i < r → ∃ v, v < 100 ∧ told i = nI v
def RF (fx fm : Nat → Int32) : Prop := ∀ j, j < 6 → fx j = fm (j + 1)
def Rel (x_imageTaken : Int32) (x_toldCount : Int32) (d_callers : Int32) (d_kinds : Nat → Int32) (d_figures : Nat → Int32) (d_tones : Nat → Int32) (d_words : Nat → Int32) (d_hours : Nat → Int32) (d_order : Nat → Int32) (d_known : Nat → Int32) (d_tune : Int32) (d_hurt : Int32) (d_patience : Int32) (d_day : Int32) (d_answered : Int32) (d_unanswered : Int32) (d_said : Int32) (d_times : Nat → Int32) (d_last : Nat → Int32) (n_callers : Int32) (n_kinds : Nat → Int32) (n_figures : Nat → Int32) (n_tones : Nat → Int32) (n_words : Nat → Int32) (n_hours : Nat → Int32) (n_order : Nat → Int32) (n_known : Nat → Int32) (n_tune : Int32) (n_hurt : Int32) (n_patience : Int32) (n_day : Int32) (n_answered : Int32) (n_unanswered : Int32) (n_said : Int32) (n_times : Nat → Int32) (n_last : Nat → Int32) (t_letters : Nat → Int32) (t_length : Int32) (x_told : Nat → Int32) (x_refusals : Nat → Int32) (k_callers : Int32) (k_kinds : Nat → Int32) (k_figures : Nat → Int32) (k_tones : Nat → Int32) (k_words : Nat → Int32) (k_hours : Nat → Int32) (k_order : Nat → Int32) (k_known : Nat → Int32) (k_tune : Int32) (k_hurt : Int32) (k_patience : Int32) (k_day : Int32) (k_answered : Int32) (k_unanswered : Int32) (k_said : Int32) (k_times : Nat → Int32) (k_last : Nat → Int32) (m_refused : Nat → Int32) (m_known : Nat → Int32) (m_setting : Nat → Int32) (m_kind : Nat → Int32) (m_figure : Nat → Int32) (m_tone : Nat → Int32) (m_word : Nat → Int32) (m_hours : Nat → Int32) (m_callers : Int32) (m_day : Int32) (m_tape : Nat → Int32) (m_letter : Nat → Int32) (m_letterAt : Nat → Int32) (m_told : Nat → Int32) (m_taped : Int32) (m_at : Int32) (m_statements : Int32) (m_kept : Nat → Int32) (m_hasImage : Int32) (m_isKeeping : Int32) (m_cursor : Int32) (m_answeredMany : Nat → Int32) (m_lastWord : Nat → Int32) (m_away : Int32) (m_answered : Int32) (m_unanswered : Int32) (m_saidWords : Int32) (m_isCalledAtSeven : Int32) (m_isAnsweredAtSeven : Int32) (m_seen : Nat → Int32) (m_weekAnswers : Int32) (m_weekHurt : Int32) (m_week : Nat → Int32) (m_row : Nat → Int32) (m_rowMany : Int32) (m_oneHas : Nat → Int32) (m_otherHas : Nat → Int32) : Prop := ∃ n len r : Nat, n_callers = nI n ∧ m_callers = nI n ∧ t_length = nI len ∧ m_taped = nI len ∧ x_toldCount = nI r ∧ m_rowMany = nI r ∧ m_kind = n_kinds ∧ m_figure = n_figures ∧ m_tone = n_tones ∧ m_word = n_words ∧ m_hours = n_hours ∧ m_known = n_known ∧ m_setting = st3 n_tune n_hurt n_patience ∧ m_day = n_day ∧ m_tape = t_letters ∧ m_row = x_told ∧ m_hasImage = x_imageTaken ∧ m_away = 0 ∧ RM n n_kinds n_figures n_tones n_words n_hours n_order n_known n_tune n_hurt ∧ GZ d_kinds d_figures d_tones d_words d_hours d_order d_known ∧ TZ d_times d_last ∧ TZ n_times n_last ∧ GZ k_kinds k_figures k_tones k_words k_hours k_order k_known ∧ RI x_imageTaken m_kept k_callers k_kinds k_figures k_tones k_words k_hours k_order k_known k_tune k_hurt k_patience k_day ∧ RT len t_letters ∧ RR r x_told ∧ RF x_refusals m_refused ∧ TZ m_answeredMany m_lastWord
theorem mkRel {n len r : Nat} {x_imageTaken : Int32} {d_callers : Int32} {d_kinds : Nat → Int32} {d_figures : Nat → Int32} {d_tones : Nat → Int32} {d_words : Nat → Int32} {d_hours : Nat → Int32} {d_order : Nat → Int32} {d_known : Nat → Int32} {d_tune : Int32} {d_hurt : Int32} {d_patience : Int32} {d_day : Int32} {d_answered : Int32} {d_unanswered : Int32} {d_said : Int32} {d_times : Nat → Int32} {d_last : Nat → Int32} {n_answered : Int32} {n_unanswered : Int32} {n_said : Int32} {n_times : Nat → Int32} {n_last : Nat → Int32} {t_letters : Nat → Int32} {x_told : Nat → Int32} {x_refusals : Nat → Int32} {k_callers : Int32} {k_kinds : Nat → Int32} {k_figures : Nat → Int32} {k_tones : Nat → Int32} {k_words : Nat → Int32} {k_hours : Nat → Int32} {k_order : Nat → Int32} {k_known : Nat → Int32} {k_tune : Int32} {k_hurt : Int32} {k_patience : Int32} {k_day : Int32} {k_answered : Int32} {k_unanswered : Int32} {k_said : Int32} {k_times : Nat → Int32} {k_last : Nat → Int32} {kd : Nat → Int32} {fg : Nat → Int32} {tn : Nat → Int32} {wd : Nat → Int32} {hr : Nat → Int32} {od : Nat → Int32} {kn : Nat → Int32} {tu : Int32} {hu : Int32} {pa : Int32} {dy : Int32} {m_refused : Nat → Int32} {m_letter : Nat → Int32} {m_letterAt : Nat → Int32} {m_told : Nat → Int32} {m_at : Int32} {m_statements : Int32} {m_kept : Nat → Int32} {m_isKeeping : Int32} {m_cursor : Int32} {m_answeredMany : Nat → Int32} {m_lastWord : Nat → Int32} {m_answered : Int32} {m_unanswered : Int32} {m_saidWords : Int32} {m_isCalledAtSeven : Int32} {m_isAnsweredAtSeven : Int32} {m_seen : Nat → Int32} {m_weekAnswers : Int32} {m_weekHurt : Int32} {m_week : Nat → Int32} {m_oneHas : Nat → Int32} {m_otherHas : Nat → Int32} (h1 : RM n kd fg tn wd hr od kn tu hu) (h2 : GZ d_kinds d_figures d_tones d_words d_hours d_order d_known) (h3 : TZ d_times d_last) (h4 : TZ n_times n_last) (h5 : GZ k_kinds k_figures k_tones k_words k_hours k_order k_known) (h6 : RI x_imageTaken m_kept k_callers k_kinds k_figures k_tones k_words k_hours k_order k_known k_tune k_hurt k_patience k_day) (h7 : RT len t_letters) (h8 : RR r x_told) (h9 : RF x_refusals m_refused) (h10 : TZ m_answeredMany m_lastWord) : Rel x_imageTaken (nI r) d_callers d_kinds d_figures d_tones d_words d_hours d_order d_known d_tune d_hurt d_patience d_day d_answered d_unanswered d_said d_times d_last (nI n) kd fg tn wd hr od kn tu hu pa dy n_answered n_unanswered n_said n_times n_last t_letters (nI len) x_told x_refusals k_callers k_kinds k_figures k_tones k_words k_hours k_order k_known k_tune k_hurt k_patience k_day k_answered k_unanswered k_said k_times k_last m_refused kn (st3 tu hu pa) kd fg tn wd hr (nI n) dy t_letters m_letter m_letterAt m_told (nI len) m_at m_statements m_kept x_imageTaken m_isKeeping m_cursor m_answeredMany m_lastWord 0 m_answered m_unanswered m_saidWords m_isCalledAtSeven m_isAnsweredAtSeven m_seen m_weekAnswers m_weekHurt m_week x_told (nI r) m_oneHas m_otherHas :=
  ⟨n, len, r, rfl, rfl, rfl, rfl, rfl, rfl, rfl, rfl, rfl, rfl, rfl, rfl, rfl, rfl, rfl, rfl, rfl, rfl, h1, h2, h3, h4, h5, h6, h7, h8, h9, h10⟩
theorem RI.same {it : Int32} {kept kept' : Nat → Int32} {kc : Int32} {kd fg tn wd hr od kn : Nat → Int32} {tu hu pa dy : Int32} (h : RI it kept kc kd fg tn wd hr od kn tu hu pa dy) (e : ∀ k, k < 50 → kept' k = kept k) : RI it kept' kc kd fg tn wd hr od kn tu hu pa dy := by
  rcases h with h | ⟨h1, n, h2, h3, h4⟩
  · exact Or.inl h
  · exact Or.inr ⟨h1, n, h2, h3, h4.same (fun k _ hk => e k (by omega))⟩
def No (v : Int32) : Prop := v = -1 ∨ v = -2 ∨ v = -3 ∨ v = -4 ∨ v = -6
theorem ref_ok {fx fm : Nat → Int32} (h : RF fx fm) {v : Int32} (hv : No v) : ∃ fm', f_X4_no fm v = some (v, fm') ∧ RF (f_X3_refuse fx v).2 fm' := by
  have key : ∀ j, j < 6 → ∀ v : Int32, -v = nI (j + 1) → -v - 1 = nI j → ∃ fm', f_X4_no fm v = some (v, fm') ∧ RF (f_X3_refuse fx v).2 fm' := by
    intro j hj v e1 e2
    unfold f_X4_no f_X3_refuse
    rw [e2, e1, gu_t (inB_n (by omega)), gu_t (inB_n (by omega)), cl_n (by omega)]
    refine ⟨_, rfl, ?_⟩
    rw [put_n hj, at_n hj]
    intro i hi
    show (if i = j then fx j + 1 else fx i) = (if i + 1 = j + 1 then fm (j + 1) + 1 else fm (i + 1))
    by_cases e : i = j
    · rw [if_pos e, if_pos (by omega), h j hj]
    · rw [if_neg e, if_neg (by omega), h i hi]
  rcases hv with rfl | rfl | rfl | rfl | rfl
  · exact key 0 (by omega) _ (by decide) (by decide)
  · exact key 1 (by omega) _ (by decide) (by decide)
  · exact key 2 (by omega) _ (by decide) (by decide)
  · exact key 3 (by omega) _ (by decide) (by decide)
  · exact key 5 (by omega) _ (by decide) (by decide)
theorem range_b (v lo hi : Int32) : f_X3_rangeNo v lo hi = f_X4_bound v lo hi := by
  unfold f_X3_rangeNo f_X4_bound
  simp only [i_le, i_lt]
theorem bound_no (v lo hi : Int32) : f_X4_bound v lo hi = 0 ∨ No (f_X4_bound v lo hi) := by
  unfold f_X4_bound
  (repeat' split)
  · exact Or.inl rfl
  · exact Or.inr (by simp [No])
  · exact Or.inr (by simp [No])
theorem bound_in {v lo hi : Int32} (h : f_X4_bound v lo hi = 0) : lo ≤ v ∧ v ≤ hi := by
  unfold f_X4_bound at h
  by_cases h1 : lo ≤ v
  · rw [if_pos h1] at h
    by_cases h2 : v ≤ hi
    · exact ⟨h1, h2⟩
    · rw [if_neg h2] at h; exact absurd h (by decide)
  · rw [if_neg h1] at h; exact absurd h (by decide)
theorem bound_nat {v : Int32} (lo hi : Nat) (hl : lo ≤ hi) (hh : hi < 2147483648) (h : nI lo ≤ v ∧ v ≤ nI hi) : ∃ k, lo ≤ k ∧ k ≤ hi ∧ v = nI k := by
  obtain ⟨h1, h2⟩ := h
  rw [i_le] at h1 h2
  rw [nI_toInt (by omega)] at h1
  rw [nI_toInt (by omega)] at h2
  obtain ⟨j, hj, e⟩ := nI_of (x := v) (by rw [i_lt]; have : (0 : Int32).toInt = 0 := rfl; omega)
  rw [e, nI_toInt hj] at h1 h2
  exact ⟨j, by omega, by omega, e⟩
