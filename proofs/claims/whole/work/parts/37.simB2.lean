def bt (x : Int32) (i : Nat) : Bool := x.toBitVec.getLsbD i
theorem b_ext {x y : Int32} (h : ∀ i, i < 32 → bt x i = bt y i) : x = y := Int32.toBitVec_inj.mp (BitVec.eq_of_getLsbD_eq (fun i hi => h i hi))
theorem b_or (x y : Int32) (i : Nat) : bt (x ||| y) i = (bt x i || bt y i) := by unfold bt; rw [Int32.toBitVec_or, BitVec.getLsbD_or]
theorem b_and (x y : Int32) (i : Nat) : bt (x &&& y) i = (bt x i && bt y i) := by unfold bt; rw [Int32.toBitVec_and, BitVec.getLsbD_and]
theorem b_one : ∀ w : Fin 8, ∀ i : Fin 32, bt ((1 : Int32) <<< (nI w.val &&& 31)) i.val = decide (i.val = w.val) := by decide +kernel
theorem b_not : ∀ w : Fin 8, ∀ i : Fin 32, bt (((1 : Int32) <<< (nI w.val &&& 31)) ^^^ (-1)) i.val = !decide (i.val = w.val) := by decide +kernel
theorem b_zero : ∀ i : Fin 32, bt 0 i.val = false := by decide +kernel
theorem or_z (x : Int32) : x ||| 0 = x := b_ext (fun i hi => by rw [b_or, b_zero ⟨i, hi⟩, Bool.or_false])
theorem wS_in {n : Nat} {kd fg tn wd hr : Nat → Int32} (hF : OkF n kd fg tn wd hr) (kn : Nat → Int32) {c : Nat} (hc : c < n) : ∃ x, x < 8 ∧ wS (kd c) (wd c) kn = nI x := by
  obtain ⟨k, f, t, w, h, q1, q2, q3, q4, q5, q6, q7, q8, q9, q10⟩ := hF.2 c hc
  unfold wS
  rw [q9]
  split
  · refine ⟨(w + 1) % 8, by omega, ?_⟩
    rw [nI_1]
    exact pk_rem (d := 8) (by omega) (by omega) (by omega)
  · split
    · exact ⟨w, q4, rfl⟩
    · split
      · exact ⟨w, q4, rfl⟩
      · rename_i h3
        rcases bB_or kn (nI w) with h | ⟨x, hx, h⟩
        · exact absurd h h3
        · exact ⟨x, hx, h⟩
/-- the word said to c now, or -9 -/
def won (kd tn wd kn : Nat → Int32) (tu hu pa : Int32) (c : Nat) : Int32 := if f_X0_wouldAnswer kd tn tu hu pa (nI c) = 0 then -9 else wS (kd c) (wd c) kn
def hS (kd tn wd kn : Nat → Int32) (tu hu pa word : Int32) : Nat → Int32
  | 0 => 0
  | c + 1 => if won kd tn wd kn tu hu pa c = word then hS kd tn wd kn tu hu pa word c ||| ((1 : Int32) <<< (nI c &&& 31)) else hS kd tn wd kn tu hu pa word c
theorem hear_ok {n : Nat} {kd fg tn wd hr : Nat → Int32} (tu hu pa : Int32) (hF : OkF n kd fg tn wd hr) (kn : Nat → Int32) (word : Int32) : f_X3_hearersOf (nI n) kd tn wd kn tu hu pa word = some (hS kd tn wd kn tu hu pa word n) := by
  have h7 := hF.1
  unfold f_X3_hearersOf
  rw [lp_for (fun c => (hS kd tn wd kn tu hu pa word c, nI c)) n (b := hS kd tn wd kn tu hu pa word n) ?_ ?_ (by omega) (by rfl)]
  · rfl
  · intro c hc
    dsimp only
    unfold f_X3_hearersOf_L4
    rw [if_neg (nI_ge hc (by omega)), bi_s (won_c tu hu pa hF kn hc), nI_1]
    show (if won kd tn wd kn tu hu pa c = word then _ else _) = some (Sum.inl ((if won kd tn wd kn tu hu pa c = word then hS kd tn wd kn tu hu pa word c ||| ((1 : Int32) <<< (nI c &&& 31)) else hS kd tn wd kn tu hu pa word c), nI (c + 1)))
    by_cases h : won kd tn wd kn tu hu pa c = word
    · rw [if_pos h, if_pos h]
    · rw [if_neg h, if_neg h]
  · dsimp only
    unfold f_X3_hearersOf_L4
    rw [if_pos (nI_le (Nat.le_refl n) (by omega))]
theorem n9_ne {w : Nat} (hw : w < 2147483648) : ¬ (-9 : Int32) = nI w := fun e => by
  have := congrArg Int32.toInt e
  rw [nI_toInt (by omega)] at this
  have e9 : (-9 : Int32).toInt = -9 := rfl
  omega
set_option maxHeartbeats 2000000 in
theorem sim_whose {n len r : Nat} {x_imageTaken : Int32} {d_callers : Int32} {d_kinds : Nat → Int32} {d_figures : Nat → Int32} {d_tones : Nat → Int32} {d_words : Nat → Int32} {d_hours : Nat → Int32} {d_order : Nat → Int32} {d_known : Nat → Int32} {d_tune : Int32} {d_hurt : Int32} {d_patience : Int32} {d_day : Int32} {d_answered : Int32} {d_unanswered : Int32} {d_said : Int32} {d_times : Nat → Int32} {d_last : Nat → Int32} {n_answered : Int32} {n_unanswered : Int32} {n_said : Int32} {n_times : Nat → Int32} {n_last : Nat → Int32} {t_letters : Nat → Int32} {x_told : Nat → Int32} {x_refusals : Nat → Int32} {k_callers : Int32} {k_kinds : Nat → Int32} {k_figures : Nat → Int32} {k_tones : Nat → Int32} {k_words : Nat → Int32} {k_hours : Nat → Int32} {k_order : Nat → Int32} {k_known : Nat → Int32} {k_tune : Int32} {k_hurt : Int32} {k_patience : Int32} {k_day : Int32} {k_answered : Int32} {k_unanswered : Int32} {k_said : Int32} {k_times : Nat → Int32} {k_last : Nat → Int32} {kd : Nat → Int32} {fg : Nat → Int32} {tn : Nat → Int32} {wd : Nat → Int32} {hr : Nat → Int32} {od : Nat → Int32} {kn : Nat → Int32} {tu : Int32} {hu : Int32} {pa : Int32} {dy : Int32} {m_refused : Nat → Int32} {m_letter : Nat → Int32} {m_letterAt : Nat → Int32} {m_told : Nat → Int32} {m_at : Int32} {m_statements : Int32} {m_kept : Nat → Int32} {m_isKeeping : Int32} {m_cursor : Int32} {m_answeredMany : Nat → Int32} {m_lastWord : Nat → Int32} {m_answered : Int32} {m_unanswered : Int32} {m_saidWords : Int32} {m_isCalledAtSeven : Int32} {m_isAnsweredAtSeven : Int32} {m_seen : Nat → Int32} {m_weekAnswers : Int32} {m_weekHurt : Int32} {m_week : Nat → Int32} {m_oneHas : Nat → Int32} {m_otherHas : Nat → Int32} (h1 : RM n kd fg tn wd hr od kn tu hu) (h2 : GZ d_kinds d_figures d_tones d_words d_hours d_order d_known) (h3 : TZ d_times d_last) (h4 : TZ n_times n_last) (h5 : GZ k_kinds k_figures k_tones k_words k_hours k_order k_known) (h6 : RI x_imageTaken m_kept k_callers k_kinds k_figures k_tones k_words k_hours k_order k_known k_tune k_hurt k_patience k_day) (h7 : RT len t_letters) (h8 : RR r x_told) (h9 : RF x_refusals m_refused) (h10 : TZ m_answeredMany m_lastWord) (v1 : Int32) : ∃ o o', f_X3_whose (nI n) kd tn wd kn tu hu pa x_refusals v1 = some o ∧ f_X4_whose m_refused kn (st3 tu hu pa) kd tn wd (nI n) v1 = some o' ∧ o'.1 = o.1 ∧ Rel x_imageTaken (nI r) d_callers d_kinds d_figures d_tones d_words d_hours d_order d_known d_tune d_hurt d_patience d_day d_answered d_unanswered d_said d_times d_last (nI n) kd fg tn wd hr od kn tu hu pa dy n_answered n_unanswered n_said n_times n_last t_letters (nI len) x_told (o.2) k_callers k_kinds k_figures k_tones k_words k_hours k_order k_known k_tune k_hurt k_patience k_day k_answered k_unanswered k_said k_times k_last (o'.2) kn (st3 tu hu pa) kd fg tn wd hr (nI n) dy t_letters m_letter m_letterAt m_told (nI len) m_at m_statements m_kept x_imageTaken m_isKeeping m_cursor m_answeredMany m_lastWord 0 m_answered m_unanswered m_saidWords m_isCalledAtSeven m_isAnsweredAtSeven m_seen m_weekAnswers m_weekHurt m_week x_told (nI r) m_oneHas m_otherHas := by
  have hn7 := h1.1.1
  by_cases hno : f_X3_wordNo v1 = 0
  · obtain ⟨w, hw, rfl⟩ := word_nat hno
    have hm : lp (fun z : Int32 × Int32 => f_X4_whose_L17 (nI w) kn (st3 tu hu pa) kd tn wd (nI n) z.1 z.2) 1000 (0, 0) = some (hS kd tn wd kn tu hu pa (nI w) n) := by
      refine lp_for (fun c => (hS kd tn wd kn tu hu pa (nI w) c, nI c)) n ?_ ?_ (by omega) (by rfl)
      · intro c hc
        have hc7 : c < 7 := by omega
        obtain ⟨k, f, t, w', h, q1, q2, q3, q4, q5, q6, q7, q8, q9, q10⟩ := h1.1.2 c hc
        obtain ⟨u, hu9, q11⟩ := h1.2.1
        dsimp only
        unfold f_X4_whose_L17 f_X4_whose_J49 f_X4_whose_J50
        rw [if_neg (nI_ge hc (by omega)), bi_s (ans_m hu pa hc7 q1 q3 hu9 q6 q8 q11), bi_s (word_m kn hc7), nI_1, or_z]
        show _ = some (Sum.inl ((if won kd tn wd kn tu hu pa c = nI w then hS kd tn wd kn tu hu pa (nI w) c ||| ((1 : Int32) <<< (nI c &&& 31)) else hS kd tn wd kn tu hu pa (nI w) c), nI (c + 1)))
        unfold won
        rcases ans_or kd tn tu hu pa (nI c) with q | q
        · rw [q, if_pos rfl, if_pos rfl, if_neg (n9_ne (by omega))]
        · rw [q, if_neg nz1, if_neg nz1]
          by_cases h : wS (kd c) (wd c) kn = nI w
          · rw [if_pos h, if_pos h]
          · rw [if_neg h, if_neg h]
      · dsimp only
        unfold f_X4_whose_L17
        rw [if_pos (nI_le (Nat.le_refl n) (by omega))]
    unfold f_X3_whose f_X4_whose
    rw [if_pos hno, word_is hw, if_neg nz1, bi_s (hear_ok tu hu pa h1.1 kn (nI w)), bi_s hm]
    exact ⟨_, _, rfl, rfl, rfl, mkRel h1 h2 h3 h4 h5 h6 h7 h8 h9 h10⟩
  · have ha : f_X4_isWord v1 = 0 := Decidable.byContradiction (fun q => hno (by rw [word_eq, if_neg q]))
    have e1 : f_X3_wordNo v1 = -1 := by rw [word_eq, if_pos ha]
    obtain ⟨fm, e, hf⟩ := ref_ok h9 no1
    unfold f_X3_whose f_X4_whose
    rw [if_neg hno, if_pos ha, bi_s e, e1]
    exact ⟨_, _, rfl, rfl, rfl, mkRel h1 h2 h3 h4 h5 h6 h7 h8 hf h10⟩
def cal (wd : Nat → Int32) (w : Int32) : Nat → Bool
  | 0 => false
  | c + 1 => cal wd w c || decide (wd c = w)
theorem cal_iff {wd : Nat → Int32} {w : Int32} : ∀ n, cal wd w n = true ↔ ∃ c, c < n ∧ wd c = w
  | 0 => ⟨fun h => absurd h (by simp [cal]), fun ⟨c, h, _⟩ => absurd h (by omega)⟩
  | n + 1 => by
    unfold cal
    rw [Bool.or_eq_true, cal_iff n, decide_eq_true_eq]
    constructor
    · rintro (⟨c, h1, h2⟩ | h)
      · exact ⟨c, by omega, h2⟩
      · exact ⟨n, by omega, h⟩
    · rintro ⟨c, h1, h2⟩
      by_cases e : c = n
      · right; rw [← e]; exact h2
      · left; exact ⟨c, by omega, h2⟩
theorem called_ok {n : Nat} (hn : n ≤ 7) (wd : Nat → Int32) (w : Int32) : f_X0_isCalled (nI n) wd w = some (if cal wd w n = true then 1 else 0) := by
  unfold f_X0_isCalled
  obtain ⟨b, e, hb⟩ := lp_hoare (f := fun z : Int32 => f_X0_isCalled_L2 w (nI n) wd z) (fun i a => a = nI i ∧ cal wd w i = false) (fun b => b = if cal wd w n = true then 1 else 0) n (by
    rintro i _ hi ⟨rfl, h0⟩
    unfold f_X0_isCalled_L2
    by_cases hlt : i < n
    · rw [if_neg (nI_ge hlt (by omega)), at_n (show i < 7 by omega)]
      by_cases h : wd i = w
      · right
        rw [if_pos h]
        refine ⟨1, rfl, ?_⟩
        rw [if_pos ((cal_iff n).mpr ⟨i, hlt, h⟩)]
      · left
        rw [if_neg h]
        refine ⟨hlt, _, rfl, nI_1 i, ?_⟩
        unfold cal
        rw [h0, decide_eq_false h]
        rfl
    · right
      have : i = n := by omega
      subst this
      rw [if_pos (nI_le (Nat.le_refl i) (by omega))]
      exact ⟨0, rfl, by rw [h0]; rfl⟩) 1000 0 (0 : Int32) (Nat.zero_le _) (by omega) ⟨rfl, rfl⟩
  rw [e, hb]
def nvS (kn wd : Nat → Int32) (n : Nat) : Nat → Int32
  | 0 => 0
  | w + 1 => if kn w = 0 ∧ cal wd (nI w) n = false then nvS kn wd n w ||| ((1 : Int32) <<< (nI w &&& 31)) else nvS kn wd n w
theorem nvS_b (kn wd : Nat → Int32) (n : Nat) : ∀ m, m ≤ 8 → ∀ i, i < 32 → bt (nvS kn wd n m) i = decide (i < m ∧ kn i = 0 ∧ cal wd (nI i) n = false)
  | 0, _, i, hi => by
    rw [show nvS kn wd n 0 = 0 from rfl, b_zero ⟨i, hi⟩, decide_eq_false (by omega)]
  | m + 1, hm, i, hi => by
    have ih := nvS_b kn wd n m (by omega) i hi
    unfold nvS
    by_cases h : kn m = 0 ∧ cal wd (nI m) n = false
    · rw [if_pos h, b_or, ih, b_one ⟨m, by omega⟩ ⟨i, hi⟩, ← Bool.decide_or]
      refine decide_eq_decide.mpr ?_
      constructor
      · rintro (⟨q1, q2⟩ | q)
        · exact ⟨by omega, q2⟩
        · have q : i = m := q
          subst q
          exact ⟨by omega, h⟩
      · rintro ⟨q1, q2⟩
        by_cases e : i = m
        · exact Or.inr e
        · exact Or.inl ⟨by omega, q2⟩
    · rw [if_neg h, ih]
      refine decide_eq_decide.mpr ?_
      constructor
      · rintro ⟨q1, q2⟩
        exact ⟨by omega, q2⟩
      · rintro ⟨q1, q2⟩
        refine ⟨?_, q2⟩
        have : i ≠ m := fun e => h (e ▸ q2)
        omega
def nmS (kn : Nat → Int32) : Nat → Int32
  | 0 => 0
  | w + 1 => nmS kn w ||| (if kn w = 0 then ((1 : Int32) <<< (nI w &&& 31)) else 0)
theorem nmS_b (kn : Nat → Int32) : ∀ m, m ≤ 8 → ∀ i, i < 32 → bt (nmS kn m) i = decide (i < m ∧ kn i = 0)
  | 0, _, i, hi => by
    rw [show nmS kn 0 = 0 from rfl, b_zero ⟨i, hi⟩, decide_eq_false (by omega)]
  | m + 1, hm, i, hi => by
    have ih := nmS_b kn m (by omega) i hi
    unfold nmS
    by_cases h : kn m = 0
    · rw [if_pos h, b_or, ih, b_one ⟨m, by omega⟩ ⟨i, hi⟩, ← Bool.decide_or]
      refine decide_eq_decide.mpr ?_
      constructor
      · rintro (⟨q1, q2⟩ | q)
        · exact ⟨by omega, q2⟩
        · have q : i = m := q
          subst q
          exact ⟨by omega, h⟩
      · rintro ⟨q1, q2⟩
        by_cases e : i = m
        · exact Or.inr e
        · exact Or.inl ⟨by omega, q2⟩
    · rw [if_neg h, or_z, ih]
      refine decide_eq_decide.mpr ?_
      constructor
      · rintro ⟨q1, q2⟩
        exact ⟨by omega, q2⟩
      · rintro ⟨q1, q2⟩
        refine ⟨?_, q2⟩
        have : i ≠ m := fun e => h (e ▸ q2)
        omega
def ncS (x : Int32) (wd : Nat → Int32) : Nat → Int32
  | 0 => x
  | c + 1 => ncS x wd c &&& (((1 : Int32) <<< (wd c &&& 31)) ^^^ (-1))
theorem ncS_b (x : Int32) (wd : Nat → Int32) : ∀ n, (∀ c, c < n → ∃ w, w < 8 ∧ wd c = nI w) → ∀ i, i < 32 → bt (ncS x wd n) i = (bt x i && !cal wd (nI i) n)
  | 0, _, i, hi => by
    rw [show ncS x wd 0 = x from rfl]
    simp [cal]
  | n + 1, hw, i, hi => by
    have ih := ncS_b x wd n (fun c hc => hw c (by omega)) i hi
    obtain ⟨w, hw8, e⟩ := hw n (by omega)
    unfold ncS cal
    rw [b_and, ih, e, b_not ⟨w, hw8⟩ ⟨i, hi⟩, Bool.and_assoc, Bool.not_or]
    congr 2
    show (!decide (i = w)) = !decide (nI w = nI i)
    congr 1
    refine decide_eq_decide.mpr ?_
    constructor
    · rintro rfl; rfl
    · intro q; exact ((nI_eq (by omega) (by omega)).mp q).symm
set_option maxHeartbeats 2000000 in
theorem sim_never {n len r : Nat} {x_imageTaken : Int32} {d_callers : Int32} {d_kinds : Nat → Int32} {d_figures : Nat → Int32} {d_tones : Nat → Int32} {d_words : Nat → Int32} {d_hours : Nat → Int32} {d_order : Nat → Int32} {d_known : Nat → Int32} {d_tune : Int32} {d_hurt : Int32} {d_patience : Int32} {d_day : Int32} {d_answered : Int32} {d_unanswered : Int32} {d_said : Int32} {d_times : Nat → Int32} {d_last : Nat → Int32} {n_answered : Int32} {n_unanswered : Int32} {n_said : Int32} {n_times : Nat → Int32} {n_last : Nat → Int32} {t_letters : Nat → Int32} {x_told : Nat → Int32} {x_refusals : Nat → Int32} {k_callers : Int32} {k_kinds : Nat → Int32} {k_figures : Nat → Int32} {k_tones : Nat → Int32} {k_words : Nat → Int32} {k_hours : Nat → Int32} {k_order : Nat → Int32} {k_known : Nat → Int32} {k_tune : Int32} {k_hurt : Int32} {k_patience : Int32} {k_day : Int32} {k_answered : Int32} {k_unanswered : Int32} {k_said : Int32} {k_times : Nat → Int32} {k_last : Nat → Int32} {kd : Nat → Int32} {fg : Nat → Int32} {tn : Nat → Int32} {wd : Nat → Int32} {hr : Nat → Int32} {od : Nat → Int32} {kn : Nat → Int32} {tu : Int32} {hu : Int32} {pa : Int32} {dy : Int32} {m_refused : Nat → Int32} {m_letter : Nat → Int32} {m_letterAt : Nat → Int32} {m_told : Nat → Int32} {m_at : Int32} {m_statements : Int32} {m_kept : Nat → Int32} {m_isKeeping : Int32} {m_cursor : Int32} {m_answeredMany : Nat → Int32} {m_lastWord : Nat → Int32} {m_answered : Int32} {m_unanswered : Int32} {m_saidWords : Int32} {m_isCalledAtSeven : Int32} {m_isAnsweredAtSeven : Int32} {m_seen : Nat → Int32} {m_weekAnswers : Int32} {m_weekHurt : Int32} {m_week : Nat → Int32} {m_oneHas : Nat → Int32} {m_otherHas : Nat → Int32} (h1 : RM n kd fg tn wd hr od kn tu hu) (h2 : GZ d_kinds d_figures d_tones d_words d_hours d_order d_known) (h3 : TZ d_times d_last) (h4 : TZ n_times n_last) (h5 : GZ k_kinds k_figures k_tones k_words k_hours k_order k_known) (h6 : RI x_imageTaken m_kept k_callers k_kinds k_figures k_tones k_words k_hours k_order k_known k_tune k_hurt k_patience k_day) (h7 : RT len t_letters) (h8 : RR r x_told) (h9 : RF x_refusals m_refused) (h10 : TZ m_answeredMany m_lastWord)  : ∃ o o', f_X3_never (nI n) wd kn = some o ∧ f_X4_never kn wd (nI n) = some o' ∧ o' = o ∧ Rel x_imageTaken (nI r) d_callers d_kinds d_figures d_tones d_words d_hours d_order d_known d_tune d_hurt d_patience d_day d_answered d_unanswered d_said d_times d_last (nI n) kd fg tn wd hr od kn tu hu pa dy n_answered n_unanswered n_said n_times n_last t_letters (nI len) x_told x_refusals k_callers k_kinds k_figures k_tones k_words k_hours k_order k_known k_tune k_hurt k_patience k_day k_answered k_unanswered k_said k_times k_last m_refused kn (st3 tu hu pa) kd fg tn wd hr (nI n) dy t_letters m_letter m_letterAt m_told (nI len) m_at m_statements m_kept x_imageTaken m_isKeeping m_cursor m_answeredMany m_lastWord 0 m_answered m_unanswered m_saidWords m_isCalledAtSeven m_isAnsweredAtSeven m_seen m_weekAnswers m_weekHurt m_week x_told (nI r) m_oneHas m_otherHas := by
  have hn7 := h1.1.1
  have hw8 : ∀ c, c < n → ∃ w, w < 8 ∧ wd c = nI w := fun c hc => by
    obtain ⟨k, f, t, w, h, q1, q2, q3, q4, q5, q6, q7, q8, q9, q10⟩ := h1.1.2 c hc
    exact ⟨w, q4, q9⟩
  have hc : f_X3_never (nI n) wd kn = some (nvS kn wd n 8) := by
    unfold f_X3_never
    rw [lp_for (fun w => (nvS kn wd n w, nI w)) 8 (b := nvS kn wd n 8) ?_ ?_ (by omega) (by rfl)]
    · rfl
    · intro w hw
      dsimp only
      unfold f_X3_never_L4
      rw [if_neg (show ¬ (8 : Int32) ≤ nI w from gL 8 hw), at_n hw, bi_s (called_ok hn7 wd (nI w)), nI_1]
      show _ = some (Sum.inl ((if kn w = 0 ∧ cal wd (nI w) n = false then nvS kn wd n w ||| ((1 : Int32) <<< (nI w &&& 31)) else nvS kn wd n w), nI (w + 1)))
      by_cases h : kn w = 0
      · rw [if_pos h]
        cases hcal : cal wd (nI w) n
        · simp [h]
        · simp [h]
      · rw [if_neg h, if_neg (fun q => h q.1)]
    · dsimp only
      unfold f_X3_never_L4
      rw [if_pos (show (8 : Int32) ≤ nI 8 from lL 8 (Nat.le_refl 8))]
  have hm1 : lp (fun z : Int32 × Int32 => f_X4_never_L4 kn z.1 z.2) 1000 (0, 0) = some (nmS kn 8) := by
    refine lp_for (fun w => (nmS kn w, nI w)) 8 ?_ ?_ (by omega) (by rfl)
    · intro w hw
      dsimp only
      unfold f_X4_never_L4 f_X4_never_J27
      rw [if_neg (show ¬ (8 : Int32) ≤ nI w from gL 8 hw), gu_t (inB_n hw), cl_n (by omega), nI_1]
      show _ = some (Sum.inl (nmS kn w ||| (if kn w = 0 then ((1 : Int32) <<< (nI w &&& 31)) else 0), nI (w + 1)))
      by_cases h : kn w = 0
      · rw [if_pos h, if_pos h]
      · rw [if_neg h, if_neg h]
    · dsimp only
      unfold f_X4_never_L4
      rw [if_pos (show (8 : Int32) ≤ nI 8 from lL 8 (Nat.le_refl 8))]
  have hm2 : lp (fun z : Int32 × Int32 => f_X4_never_L37 wd (nI n) z.1 z.2) 1000 (nmS kn 8, 0) = some (ncS (nmS kn 8) wd n) := by
    refine lp_for (fun c => (ncS (nmS kn 8) wd c, nI c)) n ?_ ?_ (by omega) (by rfl)
    · intro c hc
      dsimp only
      unfold f_X4_never_L37
      rw [if_neg (nI_ge hc (by omega)), gu_t (inB_n (show c < 7 by omega)), cl_n (by omega), nI_1]
      rfl
    · dsimp only
      unfold f_X4_never_L37
      rw [if_pos (nI_le (Nat.le_refl n) (by omega))]
  have hm : f_X4_never kn wd (nI n) = some (ncS (nmS kn 8) wd n) := by
    unfold f_X4_never
    rw [bi_s hm1, bi_s hm2]
  have heq : ncS (nmS kn 8) wd n = nvS kn wd n 8 := by
    refine b_ext (fun i hi => ?_)
    rw [ncS_b _ wd n hw8 i hi, nmS_b kn 8 (by omega) i hi, nvS_b kn wd n 8 (by omega) i hi]
    cases hcal : cal wd (nI i) n
    · simp
    · simp
  rw [heq] at hm
  exact ⟨_, _, hc, hm, rfl, mkRel h1 h2 h3 h4 h5 h6 h7 h8 h9 h10⟩
def pop (a : Nat) : Nat := (List.range 7).countP (fun i => a.testBit i)
theorem pop_s : ∀ m : Fin 7, ∀ a : Fin 128, a.val < 2 ^ m.val → pop (a.val + 2 ^ m.val) = pop a.val + 1 ∧ nI a.val ||| ((1 : Int32) <<< (nI m.val &&& 31)) = nI (a.val + 2 ^ m.val) := by decide +kernel
theorem pop_c : ∀ a : Fin 128, f_bitCount (nI a.val) = nI (pop a.val) := by decide +kernel
def ct (p : Nat → Prop) [DecidablePred p] : Nat → Nat
  | 0 => 0
  | m + 1 => ct p m + if p m then 1 else 0
theorem ct_le (p : Nat → Prop) [DecidablePred p] : ∀ m, ct p m ≤ m
  | 0 => Nat.le_refl _
  | m + 1 => by
    have := ct_le p m
    unfold ct
    split <;> omega
theorem hS_pop (kd tn wd kn : Nat → Int32) (tu hu pa word : Int32) : ∀ m, m ≤ 7 → ∃ a, a < 2 ^ m ∧ hS kd tn wd kn tu hu pa word m = nI a ∧ pop a = ct (fun q => won kd tn wd kn tu hu pa q = word) m
  | 0, _ => ⟨0, by omega, rfl, rfl⟩
  | m + 1, hm => by
    obtain ⟨a, h1, h2, h3⟩ := hS_pop kd tn wd kn tu hu pa word m (by omega)
    have h128 : 2 ^ m ≤ 2 ^ 6 := Nat.pow_le_pow_right (by omega) (by omega)
    have hp : 2 ^ (m + 1) = 2 ^ m * 2 := Nat.pow_succ 2 m
    obtain ⟨g1, g2⟩ := pop_s ⟨m, by omega⟩ ⟨a, by omega⟩ h1
    unfold hS ct
    by_cases h : won kd tn wd kn tu hu pa m = word
    · rw [if_pos h, if_pos h, h2]
      exact ⟨a + 2 ^ m, by omega, g2, by rw [← h3]; exact g1⟩
    · rw [if_neg h, if_neg h]
      exact ⟨a, by omega, h2, h3⟩
/-- to how many it would say what it says to c -/
def alk (kd tn wd kn : Nat → Int32) (tu hu pa : Int32) (n c : Nat) : Nat := ct (fun q => won kd tn wd kn tu hu pa q = wS (kd c) (wd c) kn) n
theorem alk_m {n : Nat} {kd fg tn wd hr : Nat → Int32} {tu : Int32} (hu pa : Int32) (hF : OkF n kd fg tn wd hr) (hT : OkT tu) (kn : Nat → Int32) {c : Nat} (hc : c < n) : f_X4_alikeMany kn (st3 tu hu pa) kd tn wd (nI n) (nI c) = some (nI (alk kd tn wd kn tu hu pa n c)) := by
  have h7 := hF.1
  obtain ⟨x, hx, ex⟩ := wS_in hF kn hc
  obtain ⟨u, hu9, q11⟩ := hT
  unfold f_X4_alikeMany
  rw [lp_for (fun q => (nI (ct (fun q => won kd tn wd kn tu hu pa q = wS (kd c) (wd c) kn) q), nI q)) n (b := nI (alk kd tn wd kn tu hu pa n c)) ?_ ?_ (by omega) (by rfl)]
  · rfl
  · intro q hq
    have hq7 : q < 7 := by omega
    obtain ⟨k, f, t, w', h, q1, q2, q3, q4, q5, q6, q7, q8, q9, q10⟩ := hF.2 q hq
    dsimp only
    unfold f_X4_alikeMany_L4 f_X4_alikeMany_J38 f_X4_alikeMany_J39
    rw [if_neg (nI_ge hq (by omega)), bi_s (ans_m hu pa hq7 q1 q3 hu9 q6 q8 q11), bi_s (word_m kn hq7), bi_s (word_m kn (show c < 7 by omega)), nI_1]
    show _ = some (Sum.inl (nI (ct (fun q => won kd tn wd kn tu hu pa q = wS (kd c) (wd c) kn) q + if won kd tn wd kn tu hu pa q = wS (kd c) (wd c) kn then 1 else 0), nI (q + 1)))
    unfold won
    rcases ans_or kd tn tu hu pa (nI q) with ha | ha
    · rw [ha, if_pos rfl]
      simp only [if_true]
      rw [if_neg (show ¬ (-9 : Int32) = wS (kd c) (wd c) kn by rw [ex]; exact n9_ne (by omega))]
      have e0 : ∀ a : Nat, nI a + 0 = nI (a + 0) := fun a => nI_add a 0
      rw [e0]
    · rw [ha, if_neg nz1]
      simp only [nz1, if_false]
      by_cases h : wS (kd q) (wd q) kn = wS (kd c) (wd c) kn
      · rw [if_pos h, if_pos h, nI_1]
      · rw [if_neg h, if_neg h]
        have e0 : ∀ a : Nat, nI a + 0 = nI (a + 0) := fun a => nI_add a 0
        rw [e0]
  · dsimp only
    unfold f_X4_alikeMany_L4
    rw [if_pos (nI_le (Nat.le_refl n) (by omega))]
    rfl
theorem alk_le (kd tn wd kn : Nat → Int32) (tu hu pa : Int32) (n c : Nat) : alk kd tn wd kn tu hu pa n c ≤ n := ct_le _ n
def tmS (kd tn wd kn : Nat → Int32) (tu hu pa : Int32) (n : Nat) : Nat → Int32 × Nat
  | 0 => (-9, 8)
  | c + 1 => if f_X0_wouldAnswer kd tn tu hu pa (nI c) = 0 then tmS kd tn wd kn tu hu pa n c else if (tmS kd tn wd kn tu hu pa n c).2 ≤ alk kd tn wd kn tu hu pa n c then tmS kd tn wd kn tu hu pa n c else (nI c, alk kd tn wd kn tu hu pa n c)
theorem tmS_inv (kd tn wd kn : Nat → Int32) (tu hu pa : Int32) (n : Nat) : ∀ m, m ≤ n → tmS kd tn wd kn tu hu pa n m = (-9, 8) ∨ ∃ c, c < n ∧ tmS kd tn wd kn tu hu pa n m = (nI c, alk kd tn wd kn tu hu pa n c)
  | 0, _ => Or.inl rfl
  | m + 1, hm => by
    have ih := tmS_inv kd tn wd kn tu hu pa n m (by omega)
    unfold tmS
    split
    · exact ih
    · split
      · exact ih
      · exact Or.inr ⟨m, by omega, rfl⟩
set_option maxHeartbeats 2000000 in
theorem sim_tellsMost {n len r : Nat} {x_imageTaken : Int32} {d_callers : Int32} {d_kinds : Nat → Int32} {d_figures : Nat → Int32} {d_tones : Nat → Int32} {d_words : Nat → Int32} {d_hours : Nat → Int32} {d_order : Nat → Int32} {d_known : Nat → Int32} {d_tune : Int32} {d_hurt : Int32} {d_patience : Int32} {d_day : Int32} {d_answered : Int32} {d_unanswered : Int32} {d_said : Int32} {d_times : Nat → Int32} {d_last : Nat → Int32} {n_answered : Int32} {n_unanswered : Int32} {n_said : Int32} {n_times : Nat → Int32} {n_last : Nat → Int32} {t_letters : Nat → Int32} {x_told : Nat → Int32} {x_refusals : Nat → Int32} {k_callers : Int32} {k_kinds : Nat → Int32} {k_figures : Nat → Int32} {k_tones : Nat → Int32} {k_words : Nat → Int32} {k_hours : Nat → Int32} {k_order : Nat → Int32} {k_known : Nat → Int32} {k_tune : Int32} {k_hurt : Int32} {k_patience : Int32} {k_day : Int32} {k_answered : Int32} {k_unanswered : Int32} {k_said : Int32} {k_times : Nat → Int32} {k_last : Nat → Int32} {kd : Nat → Int32} {fg : Nat → Int32} {tn : Nat → Int32} {wd : Nat → Int32} {hr : Nat → Int32} {od : Nat → Int32} {kn : Nat → Int32} {tu : Int32} {hu : Int32} {pa : Int32} {dy : Int32} {m_refused : Nat → Int32} {m_letter : Nat → Int32} {m_letterAt : Nat → Int32} {m_told : Nat → Int32} {m_at : Int32} {m_statements : Int32} {m_kept : Nat → Int32} {m_isKeeping : Int32} {m_cursor : Int32} {m_answeredMany : Nat → Int32} {m_lastWord : Nat → Int32} {m_answered : Int32} {m_unanswered : Int32} {m_saidWords : Int32} {m_isCalledAtSeven : Int32} {m_isAnsweredAtSeven : Int32} {m_seen : Nat → Int32} {m_weekAnswers : Int32} {m_weekHurt : Int32} {m_week : Nat → Int32} {m_oneHas : Nat → Int32} {m_otherHas : Nat → Int32} (h1 : RM n kd fg tn wd hr od kn tu hu) (h2 : GZ d_kinds d_figures d_tones d_words d_hours d_order d_known) (h3 : TZ d_times d_last) (h4 : TZ n_times n_last) (h5 : GZ k_kinds k_figures k_tones k_words k_hours k_order k_known) (h6 : RI x_imageTaken m_kept k_callers k_kinds k_figures k_tones k_words k_hours k_order k_known k_tune k_hurt k_patience k_day) (h7 : RT len t_letters) (h8 : RR r x_told) (h9 : RF x_refusals m_refused) (h10 : TZ m_answeredMany m_lastWord)  : ∃ o o', f_X3_tellsMost (nI n) kd tn wd kn tu hu pa = some o ∧ f_X4_tellsMost kn (st3 tu hu pa) kd tn wd (nI n) = some o' ∧ o' = o ∧ Rel x_imageTaken (nI r) d_callers d_kinds d_figures d_tones d_words d_hours d_order d_known d_tune d_hurt d_patience d_day d_answered d_unanswered d_said d_times d_last (nI n) kd fg tn wd hr od kn tu hu pa dy n_answered n_unanswered n_said n_times n_last t_letters (nI len) x_told x_refusals k_callers k_kinds k_figures k_tones k_words k_hours k_order k_known k_tune k_hurt k_patience k_day k_answered k_unanswered k_said k_times k_last m_refused kn (st3 tu hu pa) kd fg tn wd hr (nI n) dy t_letters m_letter m_letterAt m_told (nI len) m_at m_statements m_kept x_imageTaken m_isKeeping m_cursor m_answeredMany m_lastWord 0 m_answered m_unanswered m_saidWords m_isCalledAtSeven m_isAnsweredAtSeven m_seen m_weekAnswers m_weekHurt m_week x_told (nI r) m_oneHas m_otherHas := by
  have hn7 := h1.1.1
  have hc : f_X3_tellsMost (nI n) kd tn wd kn tu hu pa = some (tmS kd tn wd kn tu hu pa n n).1 := by
    unfold f_X3_tellsMost
    rw [lp_for (fun c => ((tmS kd tn wd kn tu hu pa n c).1, nI (tmS kd tn wd kn tu hu pa n c).2, nI c)) n (b := (tmS kd tn wd kn tu hu pa n n).1) ?_ ?_ (by omega) (by rfl)]
    · rfl
    · intro c hc
      dsimp only
      unfold f_X3_tellsMost_L8
      rw [if_neg (nI_ge hc (by omega)), bi_s (won_c tu hu pa h1.1 kn hc), bi_s (hear_ok tu hu pa h1.1 kn _), nI_1]
      show _ = some (Sum.inl ((if f_X0_wouldAnswer kd tn tu hu pa (nI c) = 0 then tmS kd tn wd kn tu hu pa n c else if (tmS kd tn wd kn tu hu pa n c).2 ≤ alk kd tn wd kn tu hu pa n c then tmS kd tn wd kn tu hu pa n c else (nI c, alk kd tn wd kn tu hu pa n c)).1, nI (if f_X0_wouldAnswer kd tn tu hu pa (nI c) = 0 then tmS kd tn wd kn tu hu pa n c else if (tmS kd tn wd kn tu hu pa n c).2 ≤ alk kd tn wd kn tu hu pa n c then tmS kd tn wd kn tu hu pa n c else (nI c, alk kd tn wd kn tu hu pa n c)).2, nI (c + 1)))
      rcases ans_or kd tn tu hu pa (nI c) with ha | ha
      · rw [ha, if_pos rfl, if_pos rfl]
      · rw [ha, if_neg nz1, if_neg nz1, if_neg nz1]
        obtain ⟨a, g1, g2, g3⟩ := hS_pop kd tn wd kn tu hu pa (wS (kd c) (wd c) kn) n hn7
        have h128 : 2 ^ n ≤ 2 ^ 7 := Nat.pow_le_pow_right (by omega) hn7
        have e1 : f_bitCount (hS kd tn wd kn tu hu pa (wS (kd c) (wd c) kn) n) = nI (alk kd tn wd kn tu hu pa n c) := by
          rw [g2, pop_c ⟨a, by omega⟩, g3]; rfl
        rw [e1]
        have hal := alk_le kd tn wd kn tu hu pa n c
        have hb : (tmS kd tn wd kn tu hu pa n c).2 ≤ 8 := by
          rcases tmS_inv kd tn wd kn tu hu pa n c (by omega) with q | ⟨d, hd, q⟩
          · rw [q]; exact Nat.le_refl 8
          · rw [q]; have := alk_le kd tn wd kn tu hu pa n d; show alk kd tn wd kn tu hu pa n d ≤ 8; omega
        by_cases h : (tmS kd tn wd kn tu hu pa n c).2 ≤ alk kd tn wd kn tu hu pa n c
        · rw [if_pos h, if_pos (nI_le h (by omega))]
        · rw [if_neg h, if_neg (nI_ge (by omega) (by omega))]
    · dsimp only
      unfold f_X3_tellsMost_L8
      rw [if_pos (nI_le (Nat.le_refl n) (by omega))]
  have hm : f_X4_tellsMost kn (st3 tu hu pa) kd tn wd (nI n) = some (tmS kd tn wd kn tu hu pa n n).1 := by
    unfold f_X4_tellsMost
    rw [lp_for (fun c => ((tmS kd tn wd kn tu hu pa n c).1, nI c)) n (b := (tmS kd tn wd kn tu hu pa n n).1) ?_ ?_ (by omega) (by rfl)]
    · rfl
    · intro c hc
      have hc7 : c < 7 := by omega
      obtain ⟨k, f, t, w', h, q1, q2, q3, q4, q5, q6, q7, q8, q9, q10⟩ := h1.1.2 c hc
      obtain ⟨u, hu9, q11⟩ := h1.2.1
      dsimp only
      unfold f_X4_tellsMost_L5 f_X4_tellsMost_J38
      rw [if_neg (nI_ge hc (by omega)), bi_s (ans_m hu pa hc7 q1 q3 hu9 q6 q8 q11), nI_1]
      show _ = some (Sum.inl ((if f_X0_wouldAnswer kd tn tu hu pa (nI c) = 0 then tmS kd tn wd kn tu hu pa n c else if (tmS kd tn wd kn tu hu pa n c).2 ≤ alk kd tn wd kn tu hu pa n c then tmS kd tn wd kn tu hu pa n c else (nI c, alk kd tn wd kn tu hu pa n c)).1, nI (c + 1)))
      rcases ans_or kd tn tu hu pa (nI c) with ha | ha
      · rw [ha, if_pos rfl, if_pos rfl]
      · rw [ha, if_neg nz1, if_neg nz1]
        have hal := alk_le kd tn wd kn tu hu pa n c
        rcases tmS_inv kd tn wd kn tu hu pa n c (by omega) with q | ⟨d, hd, q⟩
        · rw [q, if_pos (show (-9 : Int32) < 0 by decide), if_neg (show ¬ (8 ≤ alk kd tn wd kn tu hu pa n c) by omega)]
        · have hal2 := alk_le kd tn wd kn tu hu pa n d
          rw [q, if_neg (nI_pos (by omega)), bi_s (alk_m hu pa h1.1 h1.2.1 kn hc), bi_s (alk_m hu pa h1.1 h1.2.1 kn hd)]
          show _ = some (Sum.inl ((if alk kd tn wd kn tu hu pa n d ≤ alk kd tn wd kn tu hu pa n c then (nI d, alk kd tn wd kn tu hu pa n d) else (nI c, alk kd tn wd kn tu hu pa n c)).1, nI (c + 1)))
          by_cases h : alk kd tn wd kn tu hu pa n d ≤ alk kd tn wd kn tu hu pa n c
          · rw [if_pos h, if_pos (nI_le h (by omega))]
          · rw [if_neg h, if_neg (nI_ge (by omega) (by omega))]
    · dsimp only
      unfold f_X4_tellsMost_L5
      rw [if_pos (nI_le (Nat.le_refl n) (by omega))]
  exact ⟨_, _, hc, hm, rfl, mkRel h1 h2 h3 h4 h5 h6 h7 h8 h9 h10⟩
