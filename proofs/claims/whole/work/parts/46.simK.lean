def cw (n k : Nat) (i : Nat) : Nat := if i = 0 then k / n / n else if i = 1 then k / n % n else k % n
theorem cw_lt {n k : Nat} (h : k < n * n * n) (i : Nat) : (cw n (k)) i < n := by
  have hn : 0 < n := Nat.pos_of_ne_zero (fun e => by rw [e] at h; exact absurd h (Nat.not_lt_zero _))
  unfold cw
  split
  · exact Nat.div_lt_of_lt_mul (Nat.div_lt_of_lt_mul (by rw [← Nat.mul_assoc]; exact h))
  · split <;> exact Nat.mod_lt _ hn
theorem n343 {n : Nat} (h : n ≤ 7) : n * n * n ≤ 343 := Nat.mul_le_mul (Nat.mul_le_mul h h) h
theorem base_n {n : Nat} (h : n ≤ 7) (h0 : 0 < n) : (if (1 : Int32) < nI n then nI n else 1) = nI n := by
  by_cases h1 : n = 1
  · subst h1; decide
  · rw [if_pos (show (1 : Int32) < nI n from nI_lt (a := 1) (b := n) (by omega) (by omega))]
theorem nzc_n {n : Nat} (h : n ≤ 7) (h0 : 0 < n) : nz (nI n) = true := decide_eq_true (nI_ne0 h0 (by omega))
theorem dv_n {n k : Nat} (h : n ≤ 7) (h0 : 0 < n) (hk : k < 343) : nI k / nI n = nI (k / n) := pk_div (by omega) (by omega) (by omega)
theorem rm_n {n k : Nat} (h : n ≤ 7) (h0 : 0 < n) (hk : k < 343) : nI k - nI k / nI n * nI n = nI (k % n) := pk_rem (by omega) (by omega) (by omega)
theorem dl_n {n k : Nat} (hk : k < 343) : k / n < 343 := Nat.lt_of_le_of_lt (Nat.div_le_self k n) hk
theorem inRow_n {n k : Nat} (h : n ≤ 7) (h0 : 0 < n) (hk : k < 343) {i : Nat} (hi : i < 3) : f_X3_inRow (nI n) (nI k) (nI i) = some (nI ((cw n (k)) i)) := by
  unfold f_X3_inRow cw
  simp only [base_n h h0, gu_t (nzc_n h h0)]
  rw [rm_n h h0 hk, dv_n h h0 hk, rm_n h h0 (dl_n hk), dv_n h h0 (dl_n hk)]
  by_cases i0 : i = 0
  · subst i0; rfl
  · rw [if_neg (nI_ne0 (by omega) (by omega)), if_neg i0]
    by_cases i1 : i = 1
    · subst i1; rfl
    · rw [if_neg (show ¬ nI i = 1 from fun q => i1 ((nI_eq (b := 1) (by omega) (by omega)).mp q)), if_neg i1]
theorem lays_n {n k : Nat} (h : n ≤ 7) (h0 : 0 < n) (hk : k < 343) (week : Nat → Int32) : ∃ w, f_X4_laysWeek (nI n) week (nI k) = some w ∧ ∀ i, i < 3 → w i = nI ((cw n (k)) i) := by
  unfold f_X4_laysWeek
  simp only [gu_t (nzc_n h h0)]
  rw [rm_n h h0 hk, dv_n h h0 hk, rm_n h h0 (dl_n hk), dv_n h h0 (dl_n hk)]
  refine ⟨_, rfl, fun i hi => ?_⟩
  have : i = 0 ∨ i = 1 ∨ i = 2 := by omega
  rcases this with rfl | rfl | rfl <;> rfl
theorem oneD_an (kd fg tn wd : Nat → Int32) (tu pa : Int32) (c : Nat) (kn : Nat → Int32) (hu : Int32) : AN (oneD kd fg tn wd tu pa c kn hu).2.2 1 := by
  have h1 := cD_an kd fg tn wd tu pa c (kn, hu, 0, 0, 0, z0, z0) (b := 0) ⟨0, Nat.le_refl 0, rfl⟩
  rw [cD_ans] at h1
  unfold oneD
  dsimp only at h1 ⊢
  rwa [Int32.zero_add] at h1
theorem wk_an (kd fg tn wd : Nat → Int32) (tu pa : Int32) (cs : Nat → Nat) (kn : Nat → Int32) (hu : Int32) : ∀ m, AN (wkS kd fg tn wd tu pa cs kn hu m).2.2 m
  | 0 => ⟨0, Nat.le_refl 0, rfl⟩
  | m + 1 => by
    obtain ⟨a, ha, e1⟩ := wk_an kd fg tn wd tu pa cs kn hu m
    obtain ⟨b, hb, e2⟩ := oneD_an kd fg tn wd tu pa (cs m) (wkS kd fg tn wd tu pa cs kn hu m).1 (wkS kd fg tn wd tu pa cs kn hu m).2.1
    refine ⟨a + b, by omega, ?_⟩
    rw [wkS]
    dsimp only
    rw [e1, e2, nI_add]
theorem sub_i {a u : Nat} (ha : a < 1000) (hu : u < 1000) : (nI a - nI u).toInt = (a : Int) - (u : Int) := by
  rw [Int32.toInt_sub, nI_toInt (by omega), nI_toInt (by omega)]
  exact Int.bmod_eq_of_le (by omega) (by omega)
theorem wor {a u b w : Nat} (ha : a ≤ 3) (hu : u ≤ 99) (hb : b ≤ 3) (hw : w ≤ 99) : (nI a * 100 - nI u ≤ nI b * 100 - nI w) ↔ a * 100 + w ≤ b * 100 + u := by
  rw [show nI a * 100 = nI (a * 100) from pk_mul a 100, show nI b * 100 = nI (b * 100) from pk_mul b 100, i_le, sub_i (by omega) (by omega), sub_i (by omega) (by omega)]
  omega
/-- the best row so far -/
def bst (a u : Nat → Nat) : Nat → Nat
  | 0 => 0
  | i + 1 => if i = 0 then 0 else if a i * 100 + u (bst a u i) ≤ a (bst a u i) * 100 + u i then bst a u i else i
theorem bst_lt (a u : Nat → Nat) : ∀ i, 0 < i → bst a u i < i
  | 0, h => absurd h (by omega)
  | i + 1, _ => by
    rw [bst]
    split
    · omega
    · split
      · have := bst_lt a u i (by omega); omega
      · omega
set_option maxHeartbeats 400000 in
theorem thinkWeek_c {n : Nat} {kd fg tn wd hr od kn : Nat → Int32} (tu hu pa dy : Int32) (hF : OkF n kd fg tn wd hr) (hz : FZ kd fg tn wd hr) (hz2 : Zr 7 od) (hz3 : Zr 8 kn) {od7 : Nat → Int32} (eo : f_X0_moveAllTo (nI n) hr od 7 = some ((fl 7 7 hr), od7)) (ho : OkO n (fl 7 7 hr) od7) {D : GX} (hD : DZ D) (h0 : 0 < n) {k : Nat} (hk : k < 343) : f_X3_thinkWeekOf D.2.1 D.2.2.1 D.2.2.2.1 D.2.2.2.2.1 D.2.2.2.2.2.1 D.2.2.2.2.2.2.1 D.2.2.2.2.2.2.2.1 D.2.2.2.2.2.2.2.2.2.2.2.2.2.2.2.1 D.2.2.2.2.2.2.2.2.2.2.2.2.2.2.2.2 (nI n) kd fg tn wd hr od kn tu hu pa dy (nI k) = some (GD n kd fg tn wd (fl 7 7 hr) od7 tu pa (wkX n kd fg tn wd (fl 7 7 hr) tu pa (cw n (k)) kn hu dy 3)) := by
  have hl : lp (fun z : Int32 × (Nat → Int32) × Int32 × Int32 × Int32 × Int32 × Int32 × (Nat → Int32) × (Nat → Int32) => f_X3_thinkWeekOf_L15 (nI k) (nI n) kd fg tn wd (fl 7 7 hr) od7 tu pa (nI n) z.1 z.2.1 z.2.2.1 z.2.2.2.1 z.2.2.2.2.1 z.2.2.2.2.2.1 z.2.2.2.2.2.2.1 z.2.2.2.2.2.2.2.1 z.2.2.2.2.2.2.2.2) 1000 (0, kn, hu, dy, 0, 0, 0, z0, l9) = some (wkX n kd fg tn wd (fl 7 7 hr) tu pa (cw n (k)) kn hu dy 3) := by
    refine lp_for (fun i => (nI i, (wkX n kd fg tn wd (fl 7 7 hr) tu pa (cw n (k)) kn hu dy i))) 3 ?_ ?_ (by omega) rfl
    · intro i hi
      dsimp only
      unfold f_X3_thinkWeekOf_L15
      rw [if_neg (show ¬ (3 : Int32) ≤ nI i from gL 3 hi), bi_s (inRow_n hF.1 h0 hk hi), day_c (all7 hF) ho ((1 : Int32) <<< (nI ((cw n (k)) i) &&& 31)) (wkX n kd fg tn wd (fl 7 7 hr) tu pa (cw n (k)) kn hu dy i), bi_some, nI_1]
      rfl
    · dsimp only
      unfold f_X3_thinkWeekOf_L15
      rw [if_pos (show (3 : Int32) ≤ nI 3 from lL 3 (Nat.le_refl 3))]
  unfold f_X3_thinkWeekOf
  rw [bi_s (think_D (nI n) tu hu pa dy hD hz hz2 hz3)]
  dsimp only
  rw [bi_s eo, bi_s hl]
  rfl
set_option maxHeartbeats 4000000 in
set_option maxRecDepth 4000 in
theorem sim_bestWeek {n len r : Nat} {x_imageTaken : Int32} {d_callers : Int32} {d_kinds : Nat → Int32} {d_figures : Nat → Int32} {d_tones : Nat → Int32} {d_words : Nat → Int32} {d_hours : Nat → Int32} {d_order : Nat → Int32} {d_known : Nat → Int32} {d_tune : Int32} {d_hurt : Int32} {d_patience : Int32} {d_day : Int32} {d_answered : Int32} {d_unanswered : Int32} {d_said : Int32} {d_times : Nat → Int32} {d_last : Nat → Int32} {n_answered : Int32} {n_unanswered : Int32} {n_said : Int32} {n_times : Nat → Int32} {n_last : Nat → Int32} {t_letters : Nat → Int32} {x_told : Nat → Int32} {x_refusals : Nat → Int32} {k_callers : Int32} {k_kinds : Nat → Int32} {k_figures : Nat → Int32} {k_tones : Nat → Int32} {k_words : Nat → Int32} {k_hours : Nat → Int32} {k_order : Nat → Int32} {k_known : Nat → Int32} {k_tune : Int32} {k_hurt : Int32} {k_patience : Int32} {k_day : Int32} {k_answered : Int32} {k_unanswered : Int32} {k_said : Int32} {k_times : Nat → Int32} {k_last : Nat → Int32} {kd : Nat → Int32} {fg : Nat → Int32} {tn : Nat → Int32} {wd : Nat → Int32} {hr : Nat → Int32} {od : Nat → Int32} {kn : Nat → Int32} {tu : Int32} {hu : Int32} {pa : Int32} {dy : Int32} {m_refused : Nat → Int32} {m_letter : Nat → Int32} {m_letterAt : Nat → Int32} {m_told : Nat → Int32} {m_at : Int32} {m_statements : Int32} {m_kept : Nat → Int32} {m_isKeeping : Int32} {m_cursor : Int32} {m_answeredMany : Nat → Int32} {m_lastWord : Nat → Int32} {m_answered : Int32} {m_unanswered : Int32} {m_saidWords : Int32} {m_isCalledAtSeven : Int32} {m_isAnsweredAtSeven : Int32} {m_seen : Nat → Int32} {m_weekAnswers : Int32} {m_weekHurt : Int32} {m_week : Nat → Int32} {m_oneHas : Nat → Int32} {m_otherHas : Nat → Int32} (h1 : RM n kd fg tn wd hr od kn tu hu) (h2 : GZ d_kinds d_figures d_tones d_words d_hours d_order d_known) (h3 : TZ d_times d_last) (h4 : TZ n_times n_last) (h5 : GZ k_kinds k_figures k_tones k_words k_hours k_order k_known) (h6 : RI x_imageTaken m_kept k_callers k_kinds k_figures k_tones k_words k_hours k_order k_known k_tune k_hurt k_patience k_day) (h7 : RT len t_letters) (h8 : RR r x_told) (h9 : RF x_refusals m_refused) (h10 : TZ m_answeredMany m_lastWord) (v1 : Int32) : ∃ o o', f_X3_bestWeek d_callers d_kinds d_figures d_tones d_words d_hours d_order d_known d_tune d_hurt d_patience d_day d_answered d_unanswered d_said d_times d_last (nI n) kd fg tn wd hr od kn tu hu pa dy x_refusals v1 = some o ∧ f_X4_bestWeek m_refused kn (st3 tu hu pa) kd fg tn wd hr (nI n) dy m_kept m_isKeeping m_cursor m_answeredMany m_lastWord 0 m_answered m_unanswered m_saidWords m_isCalledAtSeven m_isAnsweredAtSeven m_weekAnswers m_weekHurt m_week v1 = some o' ∧ o'.1 = o.1 ∧ Rel x_imageTaken (nI r) (o.2.1) (o.2.2.1) (o.2.2.2.1) (o.2.2.2.2.1) (o.2.2.2.2.2.1) (o.2.2.2.2.2.2.1) (o.2.2.2.2.2.2.2.1) (o.2.2.2.2.2.2.2.2.1) (o.2.2.2.2.2.2.2.2.2.1) (o.2.2.2.2.2.2.2.2.2.2.1) (o.2.2.2.2.2.2.2.2.2.2.2.1) (o.2.2.2.2.2.2.2.2.2.2.2.2.1) (o.2.2.2.2.2.2.2.2.2.2.2.2.2.1) (o.2.2.2.2.2.2.2.2.2.2.2.2.2.2.1) (o.2.2.2.2.2.2.2.2.2.2.2.2.2.2.2.1) (o.2.2.2.2.2.2.2.2.2.2.2.2.2.2.2.2.1) (o.2.2.2.2.2.2.2.2.2.2.2.2.2.2.2.2.2.1) (nI n) kd fg tn wd hr od kn tu hu pa dy n_answered n_unanswered n_said n_times n_last t_letters (nI len) x_told (o.2.2.2.2.2.2.2.2.2.2.2.2.2.2.2.2.2.2) k_callers k_kinds k_figures k_tones k_words k_hours k_order k_known k_tune k_hurt k_patience k_day k_answered k_unanswered k_said k_times k_last (o'.2.1) (o'.2.2.1) (o'.2.2.2.1) (o'.2.2.2.2.1) (o'.2.2.2.2.2.1) (o'.2.2.2.2.2.2.1) (o'.2.2.2.2.2.2.2.1) (o'.2.2.2.2.2.2.2.2.1) (o'.2.2.2.2.2.2.2.2.2.1) (o'.2.2.2.2.2.2.2.2.2.2.1) t_letters m_letter m_letterAt m_told (nI len) m_at m_statements (o'.2.2.2.2.2.2.2.2.2.2.2.1) x_imageTaken (o'.2.2.2.2.2.2.2.2.2.2.2.2.1) (o'.2.2.2.2.2.2.2.2.2.2.2.2.2.1) (o'.2.2.2.2.2.2.2.2.2.2.2.2.2.2.1) (o'.2.2.2.2.2.2.2.2.2.2.2.2.2.2.2.1) (o'.2.2.2.2.2.2.2.2.2.2.2.2.2.2.2.2.1) (o'.2.2.2.2.2.2.2.2.2.2.2.2.2.2.2.2.2.1) (o'.2.2.2.2.2.2.2.2.2.2.2.2.2.2.2.2.2.2.1) (o'.2.2.2.2.2.2.2.2.2.2.2.2.2.2.2.2.2.2.2.1) (o'.2.2.2.2.2.2.2.2.2.2.2.2.2.2.2.2.2.2.2.2.1) (o'.2.2.2.2.2.2.2.2.2.2.2.2.2.2.2.2.2.2.2.2.2.1) m_seen (o'.2.2.2.2.2.2.2.2.2.2.2.2.2.2.2.2.2.2.2.2.2.2.1) (o'.2.2.2.2.2.2.2.2.2.2.2.2.2.2.2.2.2.2.2.2.2.2.2.1) (o'.2.2.2.2.2.2.2.2.2.2.2.2.2.2.2.2.2.2.2.2.2.2.2.2) x_told (nI r) m_oneHas m_otherHas := by
  have hn7 := h1.1.1
  have h1' := h1
  obtain ⟨g1, g2, g3, g4, g5, g6, g7⟩ := h1

  have hr0 := range_or v1 (-1) 2
  have hrb := range_b v1 (-1) 2
  unfold f_X3_bestWeek f_X4_bestWeek
  by_cases hw : f_X3_rangeNo v1 (-1) 2 = 0
  · rw [if_pos hw, ← hrb, if_pos hw]
    by_cases hn0 : n = 0
    · subst hn0
      have el : lp (fun z : Int32 × Int32 × Int32 × Int32 × Int32 × (Nat → Int32) × (Nat → Int32) × (Nat → Int32) × (Nat → Int32) × (Nat → Int32) × (Nat → Int32) × (Nat → Int32) × Int32 × Int32 × Int32 × Int32 × Int32 × Int32 × Int32 × (Nat → Int32) × (Nat → Int32) => f_X3_bestWeek_L55 ((nI 0 * nI 0) * nI 0) (nI 0) kd fg tn wd hr od kn tu hu pa dy z.1 z.2.1 z.2.2.1 z.2.2.2.1 z.2.2.2.2.1 z.2.2.2.2.2.1 z.2.2.2.2.2.2.1 z.2.2.2.2.2.2.2.1 z.2.2.2.2.2.2.2.2.1 z.2.2.2.2.2.2.2.2.2.1 z.2.2.2.2.2.2.2.2.2.2.1 z.2.2.2.2.2.2.2.2.2.2.2.1 z.2.2.2.2.2.2.2.2.2.2.2.2.1 z.2.2.2.2.2.2.2.2.2.2.2.2.2.1 z.2.2.2.2.2.2.2.2.2.2.2.2.2.2.1 z.2.2.2.2.2.2.2.2.2.2.2.2.2.2.2.1 z.2.2.2.2.2.2.2.2.2.2.2.2.2.2.2.2.1 z.2.2.2.2.2.2.2.2.2.2.2.2.2.2.2.2.2.1 z.2.2.2.2.2.2.2.2.2.2.2.2.2.2.2.2.2.2.1 z.2.2.2.2.2.2.2.2.2.2.2.2.2.2.2.2.2.2.2.1 z.2.2.2.2.2.2.2.2.2.2.2.2.2.2.2.2.2.2.2.2) 1000 (-9, 0, -9, 0, d_callers, d_kinds, d_figures, d_tones, d_words, d_hours, d_order, d_known, d_tune, d_hurt, d_patience, d_day, d_answered, d_unanswered, d_said, d_times, d_last) = some (-9, -9, d_callers, d_kinds, d_figures, d_tones, d_words, d_hours, d_order, d_known, d_tune, d_hurt, d_patience, d_day, d_answered, d_unanswered, d_said, d_times, d_last) := by
        refine lp_for (fun _ => (-9, 0, -9, 0, d_callers, d_kinds, d_figures, d_tones, d_words, d_hours, d_order, d_known, d_tune, d_hurt, d_patience, d_day, d_answered, d_unanswered, d_said, d_times, d_last)) 0 (fun i hi => absurd hi (Nat.not_lt_zero _)) ?_ (by omega) rfl
        dsimp only
        unfold f_X3_bestWeek_L55
        rw [if_pos (show (nI 0 * nI 0) * nI 0 ≤ 0 by decide)]
      rw [bi_s el, if_pos (show nI 0 = 0 by decide)]
      dsimp only
      by_cases hv : v1 = -1
      · rw [if_pos hv]
        exact ⟨_, _, rfl, rfl, rfl, mkRel h1' h2 h3 h4 h5 h6 h7 h8 h9 h10⟩
      · rw [if_neg hv, if_pos rfl]
        exact ⟨_, _, rfl, rfl, rfl, mkRel h1' h2 h3 h4 h5 h6 h7 h8 h9 h10⟩
    · have h0 : 0 < n := Nat.pos_of_ne_zero hn0
      have hN := n343 hn7
      have hNN : (nI n * nI n) * nI n = nI (n * n * n) := by rw [show nI n * nI n = nI (n * n) from pk_mul n n, show nI (n * n) * nI n = nI (n * n * n) from pk_mul (n * n) n]
      obtain ⟨od7, eo, ho, hzo⟩ := move7 g1 g5
      have hwx := fun k (hk : k < n * n * n) => wk_X (tu := tu) (pa := pa) (all7 g1) (cs := (cw n (k))) (hu := hu) dy g6 g7 3 (fun i _ => cw_lt hk i)
      have haf : ∃ af uf : Nat → Nat, ∀ k, k < n * n * n → (wkS kd fg tn wd tu pa (cw n (k)) kn hu 3).2.2 = nI (af k) ∧ (wkS kd fg tn wd tu pa (cw n (k)) kn hu 3).2.1 = nI (uf k) ∧ af k ≤ 3 ∧ uf k ≤ 99 := by
        have hh : ∀ k, ∃ p : Nat × Nat, k < n * n * n → (wkS kd fg tn wd tu pa (cw n (k)) kn hu 3).2.2 = nI p.1 ∧ (wkS kd fg tn wd tu pa (cw n (k)) kn hu 3).2.1 = nI p.2 ∧ p.1 ≤ 3 ∧ p.2 ≤ 99 := by
          intro k
          by_cases hk : k < n * n * n
          · obtain ⟨q1, q2, q3, q4, q5⟩ := hwx k hk
            obtain ⟨u, hu1, hu2⟩ := q2
            obtain ⟨a, ha1, ha2⟩ := wk_an kd fg tn wd tu pa (cw n (k)) kn hu 3
            exact ⟨(a, u), fun _ => ⟨ha2, by rw [← q4, hu2], ha1, hu1⟩⟩
          · exact ⟨(0, 0), fun q => absurd q hk⟩
        exact ⟨fun k => (hh k).choose.1, fun k => (hh k).choose.2, fun k hk => (hh k).choose_spec hk⟩
      obtain ⟨af, uf, hau⟩ := haf
      have hb0 : 0 < n * n * n := Nat.mul_pos (Nat.mul_pos h0 h0) h0
      have hc : ∃ D : GX, DZ D ∧ lp (fun z : Int32 × Int32 × Int32 × Int32 × Int32 × (Nat → Int32) × (Nat → Int32) × (Nat → Int32) × (Nat → Int32) × (Nat → Int32) × (Nat → Int32) × (Nat → Int32) × Int32 × Int32 × Int32 × Int32 × Int32 × Int32 × Int32 × (Nat → Int32) × (Nat → Int32) => f_X3_bestWeek_L55 ((nI n * nI n) * nI n) (nI n) kd fg tn wd hr od kn tu hu pa dy z.1 z.2.1 z.2.2.1 z.2.2.2.1 z.2.2.2.2.1 z.2.2.2.2.2.1 z.2.2.2.2.2.2.1 z.2.2.2.2.2.2.2.1 z.2.2.2.2.2.2.2.2.1 z.2.2.2.2.2.2.2.2.2.1 z.2.2.2.2.2.2.2.2.2.2.1 z.2.2.2.2.2.2.2.2.2.2.2.1 z.2.2.2.2.2.2.2.2.2.2.2.2.1 z.2.2.2.2.2.2.2.2.2.2.2.2.2.1 z.2.2.2.2.2.2.2.2.2.2.2.2.2.2.1 z.2.2.2.2.2.2.2.2.2.2.2.2.2.2.2.1 z.2.2.2.2.2.2.2.2.2.2.2.2.2.2.2.2.1 z.2.2.2.2.2.2.2.2.2.2.2.2.2.2.2.2.2.1 z.2.2.2.2.2.2.2.2.2.2.2.2.2.2.2.2.2.2.1 z.2.2.2.2.2.2.2.2.2.2.2.2.2.2.2.2.2.2.2.1 z.2.2.2.2.2.2.2.2.2.2.2.2.2.2.2.2.2.2.2.2) 1000 (-9, 0, -9, 0, d_callers, d_kinds, d_figures, d_tones, d_words, d_hours, d_order, d_known, d_tune, d_hurt, d_patience, d_day, d_answered, d_unanswered, d_said, d_times, d_last) = some (nI (bst af uf (n * n * n)), nI (af (bst af uf (n * n * n))), D) := by
        obtain ⟨b, e, D, hD, rfl⟩ := lp_hoare (f := (fun z : Int32 × Int32 × Int32 × Int32 × Int32 × (Nat → Int32) × (Nat → Int32) × (Nat → Int32) × (Nat → Int32) × (Nat → Int32) × (Nat → Int32) × (Nat → Int32) × Int32 × Int32 × Int32 × Int32 × Int32 × Int32 × Int32 × (Nat → Int32) × (Nat → Int32) => f_X3_bestWeek_L55 ((nI n * nI n) * nI n) (nI n) kd fg tn wd hr od kn tu hu pa dy z.1 z.2.1 z.2.2.1 z.2.2.2.1 z.2.2.2.2.1 z.2.2.2.2.2.1 z.2.2.2.2.2.2.1 z.2.2.2.2.2.2.2.1 z.2.2.2.2.2.2.2.2.1 z.2.2.2.2.2.2.2.2.2.1 z.2.2.2.2.2.2.2.2.2.2.1 z.2.2.2.2.2.2.2.2.2.2.2.1 z.2.2.2.2.2.2.2.2.2.2.2.2.1 z.2.2.2.2.2.2.2.2.2.2.2.2.2.1 z.2.2.2.2.2.2.2.2.2.2.2.2.2.2.1 z.2.2.2.2.2.2.2.2.2.2.2.2.2.2.2.1 z.2.2.2.2.2.2.2.2.2.2.2.2.2.2.2.2.1 z.2.2.2.2.2.2.2.2.2.2.2.2.2.2.2.2.2.1 z.2.2.2.2.2.2.2.2.2.2.2.2.2.2.2.2.2.2.1 z.2.2.2.2.2.2.2.2.2.2.2.2.2.2.2.2.2.2.2.1 z.2.2.2.2.2.2.2.2.2.2.2.2.2.2.2.2.2.2.2.2)) (fun i a => ∃ D : GX, DZ D ∧ ((i = 0 ∧ a = (-9, 0, -9, nI i, D)) ∨ (0 < i ∧ a = (nI (bst af uf i), nI (af (bst af uf i)) * 100 - nI (uf (bst af uf i)), nI (af (bst af uf i)), nI i, D)))) (fun b => ∃ D : GX, DZ D ∧ b = (nI (bst af uf (n * n * n)), nI (af (bst af uf (n * n * n))), D)) (n * n * n) (by
          rintro i _ hi ⟨D, hD, hor⟩
          by_cases hlt : i < n * n * n
          · left
            obtain ⟨q1, q2, q3, q4, q5⟩ := hwx i hlt
            obtain ⟨r1, r2, r3, r4⟩ := hau i hlt
            have hD' : DZ (GD n kd fg tn wd (fl 7 7 hr) od7 tu pa (wkX n kd fg tn wd (fl 7 7 hr) tu pa (cw n (i)) kn hu dy 3)) := ⟨⟨g3.all7, hzo, q1.1⟩, q1.2.1, q1.2.2⟩
            have et := thinkWeek_c tu hu pa dy g1 g3 g5 g6 eo ho hD h0 (k := i) (by omega)
            rw [r2] at q4
            rw [r1] at q5
            have ew : (GD n kd fg tn wd (fl 7 7 hr) od7 tu pa (wkX n kd fg tn wd (fl 7 7 hr) tu pa (cw n (i)) kn hu dy 3)).2.2.2.2.2.2.2.2.2.2.2.2.1 * 100 - (GD n kd fg tn wd (fl 7 7 hr) od7 tu pa (wkX n kd fg tn wd (fl 7 7 hr) tu pa (cw n (i)) kn hu dy 3)).2.2.2.2.2.2.2.2.2.1 = nI (af i) * 100 - nI (uf i) := by
              rw [← q5, ← q4]; rfl
            have ea : (GD n kd fg tn wd (fl 7 7 hr) od7 tu pa (wkX n kd fg tn wd (fl 7 7 hr) tu pa (cw n (i)) kn hu dy 3)).2.2.2.2.2.2.2.2.2.2.2.2.1 = nI (af i) := q5
            refine ⟨hlt, ?_⟩
            generalize (GD n kd fg tn wd (fl 7 7 hr) od7 tu pa (wkX n kd fg tn wd (fl 7 7 hr) tu pa (cw n (i)) kn hu dy 3)) = D' at et ew ea hD'
            rcases hor with ⟨rfl, rfl⟩ | ⟨hp, rfl⟩
            · dsimp only
              unfold f_X3_bestWeek_L55 f_X3_bestWeek_J104
              rw [hNN, if_neg (nI_ge hlt (by omega)), bi_s et, if_pos rfl, ew, ea, nI_1]
              exact ⟨_, rfl, D', hD', Or.inr ⟨by omega, by rw [show bst af uf (0 + 1) = 0 from rfl, ← ea] <;> rfl⟩⟩
            · dsimp only
              unfold f_X3_bestWeek_L55 f_X3_bestWeek_J104
              have hbl := bst_lt af uf i hp
              obtain ⟨s1, s2, s3, s4⟩ := hau (bst af uf i) (by omega)
              have hwo := wor r3 r4 s3 s4
              rw [hNN, if_neg (nI_ge hlt (by omega)), bi_s et, if_neg (fun q => n9_ne (w := (bst af uf i)) (by omega) q.symm), ew, ea, nI_1]
              have eb : (bst af uf (i + 1)) = if i = 0 then 0 else if af i * 100 + uf (bst af uf i) ≤ af (bst af uf i) * 100 + uf i then (bst af uf i) else i := by rw [bst]
              rw [if_neg (show ¬ i = 0 by omega)] at eb
              by_cases hle : af i * 100 + uf (bst af uf i) ≤ af (bst af uf i) * 100 + uf i
              · rw [if_pos hle] at eb
                rw [if_pos (hwo.mpr hle)]
                exact ⟨_, rfl, D', hD', Or.inr ⟨by omega, by rw [eb, ← ea] <;> rfl⟩⟩
              · rw [if_neg hle] at eb
                rw [if_neg (fun q => hle (hwo.mp q))]
                exact ⟨_, rfl, D', hD', Or.inr ⟨by omega, by rw [eb, ← ea] <;> rfl⟩⟩
          · right
            have ei : i = n * n * n := by omega
            rcases hor with ⟨e0, -⟩ | ⟨hp, rfl⟩
            · omega
            · dsimp only
              unfold f_X3_bestWeek_L55
              rw [hNN, if_pos (nI_le (by omega) (by omega))]
              exact ⟨_, rfl, D, hD, by rw [ei]⟩) 1000 0 (-9, 0, -9, 0, (d_callers, d_kinds, d_figures, d_tones, d_words, d_hours, d_order, d_known, d_tune, d_hurt, d_patience, d_day, d_answered, d_unanswered, d_said, d_times, d_last)) (Nat.zero_le _) (by omega) ⟨(d_callers, d_kinds, d_figures, d_tones, d_words, d_hours, d_order, d_known, d_tune, d_hurt, d_patience, d_day, d_answered, d_unanswered, d_said, d_times, d_last), ⟨h2, h3⟩, Or.inl ⟨rfl, rfl⟩⟩
        exact ⟨D, hD, e⟩
      have hm : ∃ (kept : Nat → Int32) (ik cu : Int32) (am lw : Nat → Int32) (an un sa f1 f2 wa wh : Int32) (wk : Nat → Int32), (∀ j, j < 50 → kept j = m_kept j) ∧ TZ am lw ∧ lp (fun z : Int32 × Int32 × Int32 × Int32 × (Nat → Int32) × (Nat → Int32) × (Nat → Int32) × (Nat → Int32) × (Nat → Int32) × (Nat → Int32) × (Nat → Int32) × Int32 × Int32 × (Nat → Int32) × Int32 × Int32 × (Nat → Int32) × (Nat → Int32) × Int32 × Int32 × Int32 × Int32 × Int32 × Int32 × Int32 × Int32 × (Nat → Int32) => f_X4_bestWeek_L38 z.1 z.2.1 z.2.2.1 z.2.2.2.1 z.2.2.2.2.1 z.2.2.2.2.2.1 z.2.2.2.2.2.2.1 z.2.2.2.2.2.2.2.1 z.2.2.2.2.2.2.2.2.1 z.2.2.2.2.2.2.2.2.2.1 z.2.2.2.2.2.2.2.2.2.2.1 z.2.2.2.2.2.2.2.2.2.2.2.1 z.2.2.2.2.2.2.2.2.2.2.2.2.1 z.2.2.2.2.2.2.2.2.2.2.2.2.2.1 z.2.2.2.2.2.2.2.2.2.2.2.2.2.2.1 z.2.2.2.2.2.2.2.2.2.2.2.2.2.2.2.1 z.2.2.2.2.2.2.2.2.2.2.2.2.2.2.2.2.1 z.2.2.2.2.2.2.2.2.2.2.2.2.2.2.2.2.2.1 z.2.2.2.2.2.2.2.2.2.2.2.2.2.2.2.2.2.2.1 z.2.2.2.2.2.2.2.2.2.2.2.2.2.2.2.2.2.2.2.1 z.2.2.2.2.2.2.2.2.2.2.2.2.2.2.2.2.2.2.2.2.1 z.2.2.2.2.2.2.2.2.2.2.2.2.2.2.2.2.2.2.2.2.2.1 z.2.2.2.2.2.2.2.2.2.2.2.2.2.2.2.2.2.2.2.2.2.2.1 z.2.2.2.2.2.2.2.2.2.2.2.2.2.2.2.2.2.2.2.2.2.2.2.1 z.2.2.2.2.2.2.2.2.2.2.2.2.2.2.2.2.2.2.2.2.2.2.2.2.1 z.2.2.2.2.2.2.2.2.2.2.2.2.2.2.2.2.2.2.2.2.2.2.2.2.2.1 z.2.2.2.2.2.2.2.2.2.2.2.2.2.2.2.2.2.2.2.2.2.2.2.2.2.2) 1000 (0, -1, 0, 0, kn, st3 tu hu pa, kd, fg, tn, wd, hr, nI n, dy, m_kept, m_isKeeping, m_cursor, m_answeredMany, m_lastWord, 0, m_answered, m_unanswered, m_saidWords, m_isCalledAtSeven, m_isAnsweredAtSeven, m_weekAnswers, m_weekHurt, m_week) = some (nI (bst af uf (n * n * n)), nI (af (bst af uf (n * n * n))), kn, st3 tu hu pa, kd, fg, tn, wd, hr, nI n, dy, kept, ik, cu, am, lw, 0, an, un, sa, f1, f2, wa, wh, wk) := by
        obtain ⟨b, e, Q⟩ := lp_hoare (f := (fun z : Int32 × Int32 × Int32 × Int32 × (Nat → Int32) × (Nat → Int32) × (Nat → Int32) × (Nat → Int32) × (Nat → Int32) × (Nat → Int32) × (Nat → Int32) × Int32 × Int32 × (Nat → Int32) × Int32 × Int32 × (Nat → Int32) × (Nat → Int32) × Int32 × Int32 × Int32 × Int32 × Int32 × Int32 × Int32 × Int32 × (Nat → Int32) => f_X4_bestWeek_L38 z.1 z.2.1 z.2.2.1 z.2.2.2.1 z.2.2.2.2.1 z.2.2.2.2.2.1 z.2.2.2.2.2.2.1 z.2.2.2.2.2.2.2.1 z.2.2.2.2.2.2.2.2.1 z.2.2.2.2.2.2.2.2.2.1 z.2.2.2.2.2.2.2.2.2.2.1 z.2.2.2.2.2.2.2.2.2.2.2.1 z.2.2.2.2.2.2.2.2.2.2.2.2.1 z.2.2.2.2.2.2.2.2.2.2.2.2.2.1 z.2.2.2.2.2.2.2.2.2.2.2.2.2.2.1 z.2.2.2.2.2.2.2.2.2.2.2.2.2.2.2.1 z.2.2.2.2.2.2.2.2.2.2.2.2.2.2.2.2.1 z.2.2.2.2.2.2.2.2.2.2.2.2.2.2.2.2.2.1 z.2.2.2.2.2.2.2.2.2.2.2.2.2.2.2.2.2.2.1 z.2.2.2.2.2.2.2.2.2.2.2.2.2.2.2.2.2.2.2.1 z.2.2.2.2.2.2.2.2.2.2.2.2.2.2.2.2.2.2.2.2.1 z.2.2.2.2.2.2.2.2.2.2.2.2.2.2.2.2.2.2.2.2.2.1 z.2.2.2.2.2.2.2.2.2.2.2.2.2.2.2.2.2.2.2.2.2.2.1 z.2.2.2.2.2.2.2.2.2.2.2.2.2.2.2.2.2.2.2.2.2.2.2.1 z.2.2.2.2.2.2.2.2.2.2.2.2.2.2.2.2.2.2.2.2.2.2.2.2.1 z.2.2.2.2.2.2.2.2.2.2.2.2.2.2.2.2.2.2.2.2.2.2.2.2.2.1 z.2.2.2.2.2.2.2.2.2.2.2.2.2.2.2.2.2.2.2.2.2.2.2.2.2.2)) (fun i a => ∃ (kept : Nat → Int32) (ik cu : Int32) (am lw : Nat → Int32) (an un sa f1 f2 wa wh : Int32) (wk : Nat → Int32), (∀ j, j < 50 → kept j = m_kept j) ∧ TZ am lw ∧ ((i = 0 ∧ a = (0, -1, 0, nI i, kn, st3 tu hu pa, kd, fg, tn, wd, hr, nI n, dy, kept, ik, cu, am, lw, 0, an, un, sa, f1, f2, wa, wh, wk)) ∨ (0 < i ∧ a = (nI (bst af uf i), nI (af (bst af uf i)), nI (uf (bst af uf i)), nI i, kn, st3 tu hu pa, kd, fg, tn, wd, hr, nI n, dy, kept, ik, cu, am, lw, 0, an, un, sa, f1, f2, wa, wh, wk)))) (fun b => ∃ (kept : Nat → Int32) (ik cu : Int32) (am lw : Nat → Int32) (an un sa f1 f2 wa wh : Int32) (wk : Nat → Int32), (∀ j, j < 50 → kept j = m_kept j) ∧ TZ am lw ∧ b = (nI (bst af uf (n * n * n)), nI (af (bst af uf (n * n * n))), kn, st3 tu hu pa, kd, fg, tn, wd, hr, nI n, dy, kept, ik, cu, am, lw, 0, an, un, sa, f1, f2, wa, wh, wk)) (n * n * n) (by
          rintro i _ hi ⟨kept, ik, cu, am, lw, an, un, sa, f1, f2, wa, wh, wk, hk, hal, hor⟩
          by_cases hlt : i < n * n * n
          · left
            obtain ⟨r1, r2, r3, r4⟩ := hau i hlt
            obtain ⟨w', el, hwl⟩ := lays_n hn7 h0 (k := i) (by omega) wk
            obtain ⟨am', lw', an', un', sa', f1', f2', eg, hg⟩ := goesWeek_m (m := 3) (pa := pa) g1 g2 g3 g6 g7 dy kept hal 0 an un sa f1 f2 (week := w') (cs := (cw n (i))) (by omega) (fun j hj => ⟨cw_lt hlt j, hwl j hj⟩)
            rw [r1, r2] at eg
            have hk' : ∀ j, j < 50 → kA kept 50 kn (st3 tu hu pa) kd fg tn wd hr (nI n) dy j = m_kept j := fun j hj => by rw [kA_out (by omega), hk j hj]
            refine ⟨hlt, ?_⟩
            generalize kA kept 50 kn (st3 tu hu pa) kd fg tn wd hr (nI n) dy = kept' at eg hk'
            have eg' : f_X4_goesWeek kn (st3 tu hu pa) kd fg tn wd hr (nI n) dy kept am lw 0 an un sa f1 f2 w' 3 = _ := eg
            rcases hor with ⟨rfl, rfl⟩ | ⟨hp, rfl⟩
            · dsimp only
              unfold f_X4_bestWeek_L38 f_X4_bestWeek_J98
              rw [hNN, if_neg (nI_ge hlt (by omega)), bi_s el, bi_s eg']
              dsimp only
              rw [if_neg (show ¬ nI (af 0) < -1 from fun q => by rw [i_lt, nI_toInt (by omega)] at q; have : (-1 : Int32).toInt = -1 := rfl; omega), if_neg (show ¬ nI (af 0) = -1 from fun q => by have q := congrArg Int32.toInt q; rw [nI_toInt (by omega)] at q; have : (-1 : Int32).toInt = -1 := rfl; omega), nI_1]
              exact ⟨_, rfl, kept', _, _, am', lw', an', un', sa', f1', f2', _, _, w', hk', hg, Or.inr ⟨by omega, rfl⟩⟩
            · dsimp only
              unfold f_X4_bestWeek_L38 f_X4_bestWeek_J98
              have hbl := bst_lt af uf i hp
              obtain ⟨s1, s2, s3, s4⟩ := hau (bst af uf i) (by omega)
              have eb : (bst af uf (i + 1)) = if i = 0 then 0 else if af i * 100 + uf (bst af uf i) ≤ af (bst af uf i) * 100 + uf i then (bst af uf i) else i := by rw [bst]
              rw [if_neg (show ¬ i = 0 by omega)] at eb
              rw [hNN, if_neg (nI_ge hlt (by omega)), bi_s el, bi_s eg']
              dsimp only
              rw [nI_1]
              by_cases c1 : af i < af (bst af uf i)
              · rw [if_pos (by omega)] at eb
                rw [if_pos (nI_lt c1 (by omega))]
                exact ⟨_, rfl, kept', _, _, am', lw', an', un', sa', f1', f2', _, _, w', hk', hg, Or.inr ⟨by omega, by rw [eb]⟩⟩
              · rw [if_neg (nI_nlt (by omega) (by omega))]
                by_cases c2 : af i = af (bst af uf i)
                · rw [if_pos (by rw [c2])]
                  by_cases c3 : uf i < uf (bst af uf i)
                  · rw [if_neg (by omega)] at eb
                    rw [if_pos (nI_lt c3 (by omega))]
                    exact ⟨_, rfl, kept', _, _, am', lw', an', un', sa', f1', f2', _, _, w', hk', hg, Or.inr ⟨by omega, by rw [eb]⟩⟩
                  · rw [if_pos (by omega)] at eb
                    rw [if_neg (nI_nlt (by omega) (by omega))]
                    exact ⟨_, rfl, kept', _, _, am', lw', an', un', sa', f1', f2', _, _, w', hk', hg, Or.inr ⟨by omega, by rw [eb]⟩⟩
                · rw [if_neg (by omega)] at eb
                  rw [if_neg (fun q => c2 ((nI_eq (by omega) (by omega)).mp q))]
                  exact ⟨_, rfl, kept', _, _, am', lw', an', un', sa', f1', f2', _, _, w', hk', hg, Or.inr ⟨by omega, by rw [eb]⟩⟩
          · right
            have ei : i = n * n * n := by omega
            rcases hor with ⟨e0, -⟩ | ⟨hp, rfl⟩
            · omega
            · dsimp only
              unfold f_X4_bestWeek_L38
              rw [hNN, if_pos (nI_le (by omega) (by omega))]
              exact ⟨_, rfl, kept, ik, cu, am, lw, an, un, sa, f1, f2, wa, wh, wk, hk, hal, by rw [ei]⟩) 1000 0 (0, -1, 0, 0, kn, st3 tu hu pa, kd, fg, tn, wd, hr, nI n, dy, m_kept, m_isKeeping, m_cursor, m_answeredMany, m_lastWord, 0, m_answered, m_unanswered, m_saidWords, m_isCalledAtSeven, m_isAnsweredAtSeven, m_weekAnswers, m_weekHurt, m_week) (Nat.zero_le _) (by omega) ⟨m_kept, m_isKeeping, m_cursor, m_answeredMany, m_lastWord, m_answered, m_unanswered, m_saidWords, m_isCalledAtSeven, m_isAnsweredAtSeven, m_weekAnswers, m_weekHurt, m_week, fun _ _ => rfl, h10, Or.inl ⟨rfl, rfl⟩⟩
        obtain ⟨kept, ik, cu, am, lw, an, un, sa, f1, f2, wa, wh, wk, hk, hal, rfl⟩ := Q
        exact ⟨kept, ik, cu, am, lw, an, un, sa, f1, f2, wa, wh, wk, hk, hal, e⟩
      obtain ⟨D, hD, ec⟩ := hc
      obtain ⟨kept, ik, cu, am, lw, an, un, sa, f1, f2, wa, wh, wk, hk, hal, em⟩ := hm
      have hbl := bst_lt af uf (n * n * n) hb0
      generalize (bst af uf (n * n * n)) = best at ec em hbl
      obtain ⟨w', el, hwl⟩ := lays_n hn7 h0 (k := best) (by omega) wk
      rw [bi_s ec, if_neg (nI_ne0 h0 (by omega)), bi_s em]
      dsimp only
      rw [bi_s el]
      have hvv : v1 = -1 ∨ ∃ i, i ≤ 2 ∧ v1 = nI i := by
        rw [hrb] at hw
        obtain ⟨b1, b2⟩ := bound_in hw
        by_cases hp : 0 ≤ v1
        · obtain ⟨i, -, hi, e⟩ := bound_nat 0 2 (by omega) (by omega) ⟨hp, b2⟩
          exact Or.inr ⟨i, hi, e⟩
        · left
          rw [i_le] at b1 hp
          have q1 : (-1 : Int32).toInt = -1 := rfl
          have q2 : (0 : Int32).toInt = 0 := rfl
          exact Int32.toInt_inj.mp (by omega)
      rcases hvv with rfl | ⟨i, hi, rfl⟩
      · rw [if_pos rfl, if_neg (show ¬ (0 : Int32) ≤ -1 by decide)]
        exact ⟨_, _, rfl, rfl, rfl, mkRel h1' hD.1 hD.2 h4 h5 (h6.same hk) h7 h8 h9 hal⟩
      · rw [if_neg (show ¬ nI i = -1 from fun q => by have q := congrArg Int32.toInt q; rw [nI_toInt (by omega)] at q; have : (-1 : Int32).toInt = -1 := rfl; omega), if_neg (fun q => n9_ne (w := best) (by omega) q.symm), bi_s (inRow_n hn7 h0 (by omega) (show i < 3 by omega)), if_pos (nI_pos' (by omega)), gu_t (inB_n (by omega)), cl_n (by omega), hwl i (by omega)]
        exact ⟨_, _, rfl, rfl, rfl, mkRel h1' hD.1 hD.2 h4 h5 (h6.same hk) h7 h8 h9 hal⟩
  · have hno : No (f_X3_rangeNo v1 (-1) 2) := hr0.resolve_left hw
    rw [if_neg hw, ← hrb, if_neg hw]
    generalize f_X3_rangeNo v1 (-1) 2 = w at hno
    obtain ⟨fm, e, hf⟩ := ref_ok h9 hno
    rw [bi_s e]
    exact ⟨_, _, rfl, rfl, rfl, mkRel h1' h2 h3 h4 h5 h6 h7 h8 hf h10⟩
