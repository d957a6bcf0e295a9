theorem bit_one : ∀ c d : Fin 7, ((((1 : Int32) <<< (nI c.val &&& 31)) >>> (nI d.val &&& 31)) &&& 1 = 0) ↔ d.val ≠ c.val := by decide +kernel
theorem stp_no {kd fg tn wd hr : Nat → Int32} {tu pa : Int32} {c d : Nat} (hc : c < 7) (hd : d < 7) (h : d ≠ c) (S : SS) : (stp kd fg tn wd hr tu pa ((1 : Int32) <<< (nI c &&& 31))) S d = S := by
  unfold stp
  rw [if_pos ((bit_one ⟨c, hc⟩ ⟨d, hd⟩).mpr h)]
theorem bk_one {kd fg tn wd hr : Nat → Int32} {tu pa : Int32} {c h : Nat} (hc : c < 7) (S : SS) : ∀ m, m ≤ 7 → (bk m hr h).foldl (stp kd fg tn wd hr tu pa ((1 : Int32) <<< (nI c &&& 31))) S = if c < m ∧ hr c = nI h then (stp kd fg tn wd hr tu pa ((1 : Int32) <<< (nI c &&& 31))) S c else S
  | 0, _ => by rw [if_neg (by omega)]; rfl
  | m + 1, hm => by
    rw [bk_s, List.foldl_append, bk_one hc S m (by omega)]
    by_cases e : c = m
    · subst e
      rw [if_neg (fun q => by omega)]
      by_cases he : hr c = nI h
      · rw [if_pos he, if_pos ⟨by omega, he⟩]; rfl
      · rw [if_neg he, if_neg (fun q => he q.2)]; rfl
    · have h2 : ∀ S : SS, (if hr m = nI h then [m] else []).foldl (stp kd fg tn wd hr tu pa ((1 : Int32) <<< (nI c &&& 31))) S = S := by
        intro S
        split
        · show (stp kd fg tn wd hr tu pa ((1 : Int32) <<< (nI c &&& 31))) S m = S
          exact stp_no hc (by omega) (fun q => e q.symm) S
        · rfl
      rw [h2]
      by_cases h3 : c < m ∧ hr c = nI h
      · rw [if_pos h3, if_pos ⟨by omega, h3.2⟩]
      · rw [if_neg h3, if_neg (fun q => h3 ⟨by omega, q.2⟩)]
theorem oL_one {n : Nat} {kd fg tn wd hr : Nat → Int32} {tu pa : Int32} (hn : n ≤ 7) {c h0 : Nat} (hc : c < n) (hh : h0 < 24) (he : hr c = nI h0) (S : SS) : ∀ M, M ≤ 24 → (oL n hr M).foldl (stp kd fg tn wd hr tu pa ((1 : Int32) <<< (nI c &&& 31))) S = if h0 < M then (stp kd fg tn wd hr tu pa ((1 : Int32) <<< (nI c &&& 31))) S c else S
  | 0, _ => by rw [if_neg (by omega)]; rfl
  | M + 1, hM => by
    rw [oL_s, List.foldl_append, oL_one hn hc hh he S M (by omega), bk_one (by omega) _ n hn]
    have e2 : (c < n ∧ hr c = nI M) ↔ h0 = M := by
      rw [he]
      exact ⟨fun q => (nI_eq (by omega) (by omega)).mp q.2, fun q => ⟨hc, by rw [q]⟩⟩
    by_cases e : h0 = M
    · rw [if_pos (e2.mpr e), if_neg (by omega), if_pos (by omega)]
    · rw [if_neg (fun q => e (e2.mp q))]
      by_cases h3 : h0 < M
      · rw [if_pos h3, if_pos (by omega)]
      · rw [if_neg h3, if_neg (by omega)]
/-- one calls at seven, nobody else: what it knows, its hurt, whether it answered -/
def oneD (kd fg tn wd : Nat → Int32) (tu pa : Int32) (c : Nat) (kn : Nat → Int32) (hu : Int32) : (Nat → Int32) × Int32 × Int32 :=
  let z := cD kd fg tn wd tu pa c (kn, hu, 0, 0, 0, z0, z0)
  (eK z.2.1 (eH z.2.2.1 1 (if z.1 = 0 then 0 else 1)), eH z.2.2.1 1 (if z.1 = 0 then 0 else 1), z.1)
theorem cD_ans (kd fg tn wd : Nat → Int32) (tu pa : Int32) (c : Nat) (D : DD) : (cD kd fg tn wd tu pa c D).2.2.2.1 = D.2.2.1 + (cD kd fg tn wd tu pa c D).1 := by
  unfold cD
  split
  · exact (Int32.add_zero _).symm
  · rfl
theorem one_T {n : Nat} {kd fg tn wd hr : Nat → Int32} {tu pa : Int32} (hn : n ≤ 7) {c : Nat} (hc : c < n) (he : hr c = nI 7) (X : DX) : (dT n kd fg tn wd hr tu pa ((1 : Int32) <<< (nI c &&& 31)) X).1 = (oneD kd fg tn wd tu pa c X.1 X.2.1).1 ∧ (dT n kd fg tn wd hr tu pa ((1 : Int32) <<< (nI c &&& 31)) X).2.1 = (oneD kd fg tn wd tu pa c X.1 X.2.1).2.1 ∧ (dT n kd fg tn wd hr tu pa ((1 : Int32) <<< (nI c &&& 31)) X).2.2.2.1 = X.2.2.2.1 + (oneD kd fg tn wd tu pa c X.1 X.2.1).2.2 := by
  have h1 : dayS n kd fg tn wd hr tu pa ((1 : Int32) <<< (nI c &&& 31)) X = (stp kd fg tn wd hr tu pa ((1 : Int32) <<< (nI c &&& 31))) (0, 0, X.1, X.2.1, X.2.2.2.1, X.2.2.2.2.1, X.2.2.2.2.2.1, X.2.2.2.2.2.2.1, X.2.2.2.2.2.2.2) c := by
    unfold dayS
    rw [oL_one hn hc (by omega) he _ 24 (by omega), if_pos (by omega)]
  obtain ⟨e1, e2, e3⟩ := cD_kh (kd := kd) (fg := fg) (tn := tn) (wd := wd) (tu := tu) (pa := pa) (c := c) (D := (X.1, X.2.1, X.2.2.2.1, X.2.2.2.2.1, X.2.2.2.2.2.1, X.2.2.2.2.2.2.1, X.2.2.2.2.2.2.2)) (E := (X.1, X.2.1, 0, 0, 0, z0, z0)) rfl rfl
  have ea := cD_ans kd fg tn wd tu pa c (X.1, X.2.1, X.2.2.2.1, X.2.2.2.2.1, X.2.2.2.2.2.1, X.2.2.2.2.2.2.1, X.2.2.2.2.2.2.2)
  have h2 : (stp kd fg tn wd hr tu pa ((1 : Int32) <<< (nI c &&& 31))) (0, 0, X.1, X.2.1, X.2.2.2.1, X.2.2.2.2.1, X.2.2.2.2.2.1, X.2.2.2.2.2.2.1, X.2.2.2.2.2.2.2) c = (1, (if (cD kd fg tn wd tu pa c (X.1, X.2.1, X.2.2.2.1, X.2.2.2.2.1, X.2.2.2.2.2.1, X.2.2.2.2.2.2.1, X.2.2.2.2.2.2.2)).1 = 0 then 0 else 1), (cD kd fg tn wd tu pa c (X.1, X.2.1, X.2.2.2.1, X.2.2.2.2.1, X.2.2.2.2.2.1, X.2.2.2.2.2.2.1, X.2.2.2.2.2.2.2)).2) := by
    unfold stp
    rw [if_neg (fun q => (bit_one ⟨c, by omega⟩ ⟨c, by omega⟩).mp q rfl), if_pos (show hr c = 7 from he)]
    rfl
  unfold dT oneD
  rw [h1, h2]
  dsimp only
  rw [e1, e2, e3, ea, e1]
  exact ⟨rfl, rfl, rfl⟩
theorem all7 {n : Nat} {kd fg tn wd hr : Nat → Int32} (hF : OkF n kd fg tn wd hr) : OkF n kd fg tn wd (fl 7 7 hr) := ⟨hF.1, fun c hc => by
  have h7 := hF.1
  obtain ⟨k, f, t, w, h, q1, q2, q3, q4, q5, q6, q7, q8, q9, q10⟩ := hF.2 c hc
  exact ⟨k, f, t, w, 7, q1, q2, q3, q4, by omega, q6, q7, q8, q9, if_pos (by omega)⟩⟩
theorem move7 {n : Nat} {kd fg tn wd hr od : Nat → Int32} (hF : OkF n kd fg tn wd hr) (hz : Zr 7 od) : ∃ od', f_X0_moveAllTo (nI n) hr od 7 = some ((fl 7 7 hr), od') ∧ OkO n (fl 7 7 hr) od' ∧ Zr 7 od' := by
  obtain ⟨od', e, h1, h2⟩ := arr_ok hF.1 (all7 hF).hs od hz
  refine ⟨od', ?_, h1, h2⟩
  unfold f_X0_moveAllTo
  rw [bi_s (fill_ok 7 7 hr (by omega)), bi_s e]
theorem FZ.all7 {kd fg tn wd hr : Nat → Int32} (hz : FZ kd fg tn wd hr) : FZ kd fg tn wd (fl 7 7 hr) := ⟨hz.1, hz.2.1, hz.2.2.1, hz.2.2.2.1, fl_Z hz.2.2.2.2 (by omega)⟩
def hlS (kd fg tn wd : Nat → Int32) (tu pa : Int32) (c : Nat) (kn : Nat → Int32) (hu : Int32) : Nat → (Nat → Int32) × Int32
  | 0 => (kn, hu)
  | i + 1 => ((oneD kd fg tn wd tu pa c (hlS kd fg tn wd tu pa c kn hu i).1 (hlS kd fg tn wd tu pa c kn hu i).2).1, (oneD kd fg tn wd tu pa c (hlS kd fg tn wd tu pa c kn hu i).1 (hlS kd fg tn wd tu pa c kn hu i).2).2.1)
theorem hl_X {n : Nat} {kd fg tn wd hr : Nat → Int32} {tu pa : Int32} (hn : n ≤ 7) {c : Nat} (hc : c < n) (he : hr c = nI 7) (X : DX) : ∀ i, (dI n kd fg tn wd hr tu pa ((1 : Int32) <<< (nI c &&& 31)) i X).1 = (hlS kd fg tn wd tu pa c X.1 X.2.1 i).1 ∧ (dI n kd fg tn wd hr tu pa ((1 : Int32) <<< (nI c &&& 31)) i X).2.1 = (hlS kd fg tn wd tu pa c X.1 X.2.1 i).2
  | 0 => ⟨rfl, rfl⟩
  | i + 1 => by
    obtain ⟨h1, h2⟩ := hl_X hn hc he X i
    obtain ⟨e1, e2, -⟩ := one_T (kd := kd) (fg := fg) (tn := tn) (wd := wd) (tu := tu) (pa := pa) hn hc he (dI n kd fg tn wd hr tu pa ((1 : Int32) <<< (nI c &&& 31)) i X)
    rw [h1, h2] at e1 e2
    have hs : hlS kd fg tn wd tu pa c X.1 X.2.1 (i + 1) = ((oneD kd fg tn wd tu pa c (hlS kd fg tn wd tu pa c X.1 X.2.1 i).1 (hlS kd fg tn wd tu pa c X.1 X.2.1 i).2).1, (oneD kd fg tn wd tu pa c (hlS kd fg tn wd tu pa c X.1 X.2.1 i).1 (hlS kd fg tn wd tu pa c X.1 X.2.1 i).2).2.1) := by rw [hlS]
    have hd : dI n kd fg tn wd hr tu pa ((1 : Int32) <<< (nI c &&& 31)) (i + 1) X = dT n kd fg tn wd hr tu pa ((1 : Int32) <<< (nI c &&& 31)) (dI n kd fg tn wd hr tu pa ((1 : Int32) <<< (nI c &&& 31)) i X) := by rw [dI]
    rw [hs, hd]
    dsimp only
    exact ⟨e1, e2⟩
set_option maxHeartbeats 4000000 in
set_option maxRecDepth 4000 in
theorem sim_heals {n len r : Nat} {x_imageTaken : Int32} {d_callers : Int32} {d_kinds : Nat → Int32} {d_figures : Nat → Int32} {d_tones : Nat → Int32} {d_words : Nat → Int32} {d_hours : Nat → Int32} {d_order : Nat → Int32} {d_known : Nat → Int32} {d_tune : Int32} {d_hurt : Int32} {d_patience : Int32} {d_day : Int32} {d_answered : Int32} {d_unanswered : Int32} {d_said : Int32} {d_times : Nat → Int32} {d_last : Nat → Int32} {n_answered : Int32} {n_unanswered : Int32} {n_said : Int32} {n_times : Nat → Int32} {n_last : Nat → Int32} {t_letters : Nat → Int32} {x_told : Nat → Int32} {x_refusals : Nat → Int32} {k_callers : Int32} {k_kinds : Nat → Int32} {k_figures : Nat → Int32} {k_tones : Nat → Int32} {k_words : Nat → Int32} {k_hours : Nat → Int32} {k_order : Nat → Int32} {k_known : Nat → Int32} {k_tune : Int32} {k_hurt : Int32} {k_patience : Int32} {k_day : Int32} {k_answered : Int32} {k_unanswered : Int32} {k_said : Int32} {k_times : Nat → Int32} {k_last : Nat → Int32} {kd : Nat → Int32} {fg : Nat → Int32} {tn : Nat → Int32} {wd : Nat → Int32} {hr : Nat → Int32} {od : Nat → Int32} {kn : Nat → Int32} {tu : Int32} {hu : Int32} {pa : Int32} {dy : Int32} {m_refused : Nat → Int32} {m_letter : Nat → Int32} {m_letterAt : Nat → Int32} {m_told : Nat → Int32} {m_at : Int32} {m_statements : Int32} {m_kept : Nat → Int32} {m_isKeeping : Int32} {m_cursor : Int32} {m_answeredMany : Nat → Int32} {m_lastWord : Nat → Int32} {m_answered : Int32} {m_unanswered : Int32} {m_saidWords : Int32} {m_isCalledAtSeven : Int32} {m_isAnsweredAtSeven : Int32} {m_seen : Nat → Int32} {m_weekAnswers : Int32} {m_weekHurt : Int32} {m_week : Nat → Int32} {m_oneHas : Nat → Int32} {m_otherHas : Nat → Int32} (h1 : RM n kd fg tn wd hr od kn tu hu) (h2 : GZ d_kinds d_figures d_tones d_words d_hours d_order d_known) (h3 : TZ d_times d_last) (h4 : TZ n_times n_last) (h5 : GZ k_kinds k_figures k_tones k_words k_hours k_order k_known) (h6 : RI x_imageTaken m_kept k_callers k_kinds k_figures k_tones k_words k_hours k_order k_known k_tune k_hurt k_patience k_day) (h7 : RT len t_letters) (h8 : RR r x_told) (h9 : RF x_refusals m_refused) (h10 : TZ m_answeredMany m_lastWord) (v1 : Int32) : ∃ o o', f_X3_heals d_callers d_kinds d_figures d_tones d_words d_hours d_order d_known d_tune d_hurt d_patience d_day d_answered d_unanswered d_said d_times d_last (nI n) kd fg tn wd hr od kn tu hu pa dy x_refusals v1 = some o ∧ f_X4_heals m_refused kn (st3 tu hu pa) kd fg tn wd hr (nI n) dy m_kept m_isKeeping m_cursor m_answeredMany m_lastWord 0 m_answered m_unanswered m_saidWords m_isCalledAtSeven m_isAnsweredAtSeven v1 = some o' ∧ o'.1 = o.1 ∧ Rel x_imageTaken (nI r) (o.2.1) (o.2.2.1) (o.2.2.2.1) (o.2.2.2.2.1) (o.2.2.2.2.2.1) (o.2.2.2.2.2.2.1) (o.2.2.2.2.2.2.2.1) (o.2.2.2.2.2.2.2.2.1) (o.2.2.2.2.2.2.2.2.2.1) (o.2.2.2.2.2.2.2.2.2.2.1) (o.2.2.2.2.2.2.2.2.2.2.2.1) (o.2.2.2.2.2.2.2.2.2.2.2.2.1) (o.2.2.2.2.2.2.2.2.2.2.2.2.2.1) (o.2.2.2.2.2.2.2.2.2.2.2.2.2.2.1) (o.2.2.2.2.2.2.2.2.2.2.2.2.2.2.2.1) (o.2.2.2.2.2.2.2.2.2.2.2.2.2.2.2.2.1) (o.2.2.2.2.2.2.2.2.2.2.2.2.2.2.2.2.2.1) (nI n) kd fg tn wd hr od kn tu hu pa dy n_answered n_unanswered n_said n_times n_last t_letters (nI len) x_told (o.2.2.2.2.2.2.2.2.2.2.2.2.2.2.2.2.2.2) k_callers k_kinds k_figures k_tones k_words k_hours k_order k_known k_tune k_hurt k_patience k_day k_answered k_unanswered k_said k_times k_last (o'.2.1) (o'.2.2.1) (o'.2.2.2.1) (o'.2.2.2.2.1) (o'.2.2.2.2.2.1) (o'.2.2.2.2.2.2.1) (o'.2.2.2.2.2.2.2.1) (o'.2.2.2.2.2.2.2.2.1) (o'.2.2.2.2.2.2.2.2.2.1) (o'.2.2.2.2.2.2.2.2.2.2.1) t_letters m_letter m_letterAt m_told (nI len) m_at m_statements (o'.2.2.2.2.2.2.2.2.2.2.2.1) x_imageTaken (o'.2.2.2.2.2.2.2.2.2.2.2.2.1) (o'.2.2.2.2.2.2.2.2.2.2.2.2.2.1) (o'.2.2.2.2.2.2.2.2.2.2.2.2.2.2.1) (o'.2.2.2.2.2.2.2.2.2.2.2.2.2.2.2.1) (o'.2.2.2.2.2.2.2.2.2.2.2.2.2.2.2.2.1) (o'.2.2.2.2.2.2.2.2.2.2.2.2.2.2.2.2.2.1) (o'.2.2.2.2.2.2.2.2.2.2.2.2.2.2.2.2.2.2.1) (o'.2.2.2.2.2.2.2.2.2.2.2.2.2.2.2.2.2.2.2.1) (o'.2.2.2.2.2.2.2.2.2.2.2.2.2.2.2.2.2.2.2.2.1) (o'.2.2.2.2.2.2.2.2.2.2.2.2.2.2.2.2.2.2.2.2.2) m_seen m_weekAnswers m_weekHurt m_week x_told (nI r) m_oneHas m_otherHas := by
  have hn7 := h1.1.1
  have h1' := h1
  obtain ⟨g1, g2, g3, g4, g5, g6, g7⟩ := h1

  have hv := call_or (nI n) v1
  unfold f_X3_heals f_X4_heals f_X4_heals_J79
  by_cases hw : f_X3_callerNo (nI n) v1 = 0
  · obtain ⟨c, hcn, rfl⟩ := call_nat hn7 hw
    have hc7 : c < 7 := by omega
    obtain ⟨od7, eo, ho, hzo⟩ := move7 g1 g5
    let p : Nat → Bool := fun i => decide ((hlS kd fg tn wd tu pa c kn hu i).2 = 0)
    have hzi := fun i => dI_z (tu := tu) (pa := pa) (who := ((1 : Int32) <<< (nI c &&& 31))) (all7 g1) (X0_z (hu := hu) (dy := dy) g6) g7 i
    have hx := fun i => hl_X (kd := kd) (fg := fg) (tn := tn) (wd := wd) (tu := tu) (pa := pa) hn7 hcn (hr := (fl 7 7 hr)) (if_pos hc7) (X0 kn hu dy) i
    have hc : ∃ X : DX, ZX X ∧ lp (fun z : Int32 × DX => f_X3_heals_L31 (nI c) (nI n) kd fg tn wd (fl 7 7 hr) od7 tu pa x_refusals z.1 z.2.1 z.2.2.1 z.2.2.2.1 z.2.2.2.2.1 z.2.2.2.2.2.1 z.2.2.2.2.2.2.1 z.2.2.2.2.2.2.2.1 z.2.2.2.2.2.2.2.2) 1000 (0, X0 kn hu dy) = some (sr p 201 0, nI n, kd, fg, tn, wd, (fl 7 7 hr), od7, X.1, tu, X.2.1, pa, X.2.2.1, X.2.2.2.1, X.2.2.2.2.1, X.2.2.2.2.2.1, X.2.2.2.2.2.2.1, X.2.2.2.2.2.2.2, x_refusals) := by
      obtain ⟨b, e, X, hX, rfl⟩ := lp_hoare (f := (fun z : Int32 × DX => f_X3_heals_L31 (nI c) (nI n) kd fg tn wd (fl 7 7 hr) od7 tu pa x_refusals z.1 z.2.1 z.2.2.1 z.2.2.2.1 z.2.2.2.2.1 z.2.2.2.2.2.1 z.2.2.2.2.2.2.1 z.2.2.2.2.2.2.2.1 z.2.2.2.2.2.2.2.2)) (fun i a => a = (nI i, (dI n kd fg tn wd (fl 7 7 hr) tu pa ((1 : Int32) <<< (nI c &&& 31)) i (X0 kn hu dy))) ∧ sr p 201 0 = sr p (201 - i) i) (fun b => ∃ X : DX, ZX X ∧ b = (sr p 201 0, nI n, kd, fg, tn, wd, (fl 7 7 hr), od7, X.1, tu, X.2.1, pa, X.2.2.1, X.2.2.2.1, X.2.2.2.2.1, X.2.2.2.2.2.1, X.2.2.2.2.2.2.1, X.2.2.2.2.2.2.2, x_refusals)) 201 (by
        rintro i _ hi ⟨rfl, hsr⟩
        dsimp only
        unfold f_X3_heals_L31
        by_cases hlt : i < 201
        · rw [if_neg (show ¬ (200 : Int32) < nI i from nI_nlt (a := 200) (b := i) (by omega) (by omega))]
          have e61 : 201 - i = (201 - (i + 1)) + 1 := by omega
          rw [e61] at hsr
          by_cases h0 : (dI n kd fg tn wd (fl 7 7 hr) tu pa ((1 : Int32) <<< (nI c &&& 31)) i (X0 kn hu dy)).2.1 = 0
          · right
            rw [if_pos h0]
            refine ⟨_, rfl, (dI n kd fg tn wd (fl 7 7 hr) tu pa ((1 : Int32) <<< (nI c &&& 31)) i (X0 kn hu dy)), (hzi i).1, ?_⟩
            rw [hsr, sr_f (show p i = true from decide_eq_true (by rw [← h0]; exact (hx i).2.symm))]
          · left
            rw [if_neg h0, day_c (all7 g1) ho ((1 : Int32) <<< (nI c &&& 31)) (dI n kd fg tn wd (fl 7 7 hr) tu pa ((1 : Int32) <<< (nI c &&& 31)) i (X0 kn hu dy)), bi_some, nI_1]
            refine ⟨hlt, _, rfl, rfl, ?_⟩
            rw [hsr, sr_s (show p i = false from decide_eq_false (fun q => h0 (by rw [← q]; exact (hx i).2)))]
        · right
          have : i = 201 := by omega
          subst this
          rw [if_pos (show (200 : Int32) < nI 201 by decide)]
          refine ⟨_, rfl, (dI n kd fg tn wd (fl 7 7 hr) tu pa ((1 : Int32) <<< (nI c &&& 31)) 201 (X0 kn hu dy)), (hzi 201).1, ?_⟩
          rw [hsr]
          rfl) 1000 0 (0, X0 kn hu dy) (Nat.zero_le _) (by omega) ⟨rfl, rfl⟩
      exact ⟨X, hX, e⟩
    let Y0 : DX := (kn, hu, dy, m_answered, m_unanswered, m_saidWords, m_answeredMany, m_lastWord)
    have hF7 : OkF n kd fg tn wd (upd hr c 7) := g1.hour (h := 7) (by omega)
    have hyi := fun i => dI_z (tu := tu) (pa := pa) (who := ((1 : Int32) <<< (nI c &&& 31))) hF7 (X := Y0) ⟨g6, h10.1, h10.2⟩ g7 i
    have hy := fun i => hl_X (kd := kd) (fg := fg) (tn := tn) (wd := wd) (tu := tu) (pa := pa) hn7 hcn (hr := upd hr c 7) pk_us Y0 i
    have hm : ∃ (Y : DX) (f1' f2' : Int32), ZX Y ∧ lp (fun z : Int32 × Int32 × (Nat → Int32) × (Nat → Int32) × Int32 × (Nat → Int32) × (Nat → Int32) × Int32 × Int32 × Int32 × Int32 × Int32 => f_X4_heals_L42 kd fg tn wd (upd hr c 7) (nI n) (((1 : Int32) <<< (nI c &&& 31)) ^^^ (-1)) z.1 z.2.1 z.2.2.1 z.2.2.2.1 z.2.2.2.2.1 z.2.2.2.2.2.1 z.2.2.2.2.2.2.1 z.2.2.2.2.2.2.2.1 z.2.2.2.2.2.2.2.2.1 z.2.2.2.2.2.2.2.2.2.1 z.2.2.2.2.2.2.2.2.2.2.1 z.2.2.2.2.2.2.2.2.2.2.2) 1000 (-9, 0, kn, st3 tu hu pa, dy, m_answeredMany, m_lastWord, m_answered, m_unanswered, m_saidWords, m_isCalledAtSeven, m_isAnsweredAtSeven) = some (sr p 201 0, Y.1, st3 tu Y.2.1 pa, Y.2.2.1, Y.2.2.2.2.2.2.1, Y.2.2.2.2.2.2.2, Y.2.2.2.1, Y.2.2.2.2.1, Y.2.2.2.2.2.1, f1', f2') := by
      obtain ⟨b, e, Y, f1', f2', hY, rfl⟩ := lp_hoare (f := (fun z : Int32 × Int32 × (Nat → Int32) × (Nat → Int32) × Int32 × (Nat → Int32) × (Nat → Int32) × Int32 × Int32 × Int32 × Int32 × Int32 => f_X4_heals_L42 kd fg tn wd (upd hr c 7) (nI n) (((1 : Int32) <<< (nI c &&& 31)) ^^^ (-1)) z.1 z.2.1 z.2.2.1 z.2.2.2.1 z.2.2.2.2.1 z.2.2.2.2.2.1 z.2.2.2.2.2.2.1 z.2.2.2.2.2.2.2.1 z.2.2.2.2.2.2.2.2.1 z.2.2.2.2.2.2.2.2.2.1 z.2.2.2.2.2.2.2.2.2.2.1 z.2.2.2.2.2.2.2.2.2.2.2)) (fun i a => ∃ (is f1 f2 : Int32), a = (is, nI i, (dI n kd fg tn wd (upd hr c 7) tu pa ((1 : Int32) <<< (nI c &&& 31)) i Y0).1, st3 tu (dI n kd fg tn wd (upd hr c 7) tu pa ((1 : Int32) <<< (nI c &&& 31)) i Y0).2.1 pa, (dI n kd fg tn wd (upd hr c 7) tu pa ((1 : Int32) <<< (nI c &&& 31)) i Y0).2.2.1, (dI n kd fg tn wd (upd hr c 7) tu pa ((1 : Int32) <<< (nI c &&& 31)) i Y0).2.2.2.2.2.2.1, (dI n kd fg tn wd (upd hr c 7) tu pa ((1 : Int32) <<< (nI c &&& 31)) i Y0).2.2.2.2.2.2.2, (dI n kd fg tn wd (upd hr c 7) tu pa ((1 : Int32) <<< (nI c &&& 31)) i Y0).2.2.2.1, (dI n kd fg tn wd (upd hr c 7) tu pa ((1 : Int32) <<< (nI c &&& 31)) i Y0).2.2.2.2.1, (dI n kd fg tn wd (upd hr c 7) tu pa ((1 : Int32) <<< (nI c &&& 31)) i Y0).2.2.2.2.2.1, f1, f2) ∧ ((is = -9 ∧ sr p 201 0 = sr p (201 - i) i) ∨ ∃ j, j < 201 ∧ is = nI j ∧ sr p 201 0 = nI j)) (fun b => ∃ (Y : DX) (f1' f2' : Int32), ZX Y ∧ b = (sr p 201 0, Y.1, st3 tu Y.2.1 pa, Y.2.2.1, Y.2.2.2.2.2.2.1, Y.2.2.2.2.2.2.2, Y.2.2.2.1, Y.2.2.2.2.1, Y.2.2.2.2.2.1, f1', f2')) 201 (by
        rintro i _ hi ⟨is, f1, f2, rfl, hor⟩
        dsimp only
        unfold f_X4_heals_L42 f_X4_heals_J68
        by_cases hlt : i < 201
        · rw [if_neg (show ¬ (201 : Int32) ≤ nI i from gL 201 hlt)]
          rcases hor with ⟨rfl, hsr⟩ | ⟨j, hj, rfl, hsr⟩
          · left
            have e61 : 201 - i = (201 - (i + 1)) + 1 := by omega
            rw [e61] at hsr
            rw [if_neg (show ¬ (0 : Int32) ≤ -9 by decide), st3_1, bi_s (day_m hF7 g2 (Bits.one hn7 hcn) (dI n kd fg tn wd (upd hr c 7) tu pa ((1 : Int32) <<< (nI c &&& 31)) i Y0)), bi_s (day_m hF7 g2 (Bits.one hn7 hcn) (dI n kd fg tn wd (upd hr c 7) tu pa ((1 : Int32) <<< (nI c &&& 31)) i Y0)), nI_1]
            dsimp only
            by_cases h0 : (dI n kd fg tn wd (upd hr c 7) tu pa ((1 : Int32) <<< (nI c &&& 31)) i Y0).2.1 = 0
            · rw [if_pos h0]
              refine ⟨hlt, _, rfl, nI i, _, _, rfl, Or.inr ⟨i, hlt, rfl, ?_⟩⟩
              rw [hsr, sr_f (show p i = true from decide_eq_true (by rw [← h0]; exact (hy i).2.symm))]
            · rw [if_neg h0]
              refine ⟨hlt, _, rfl, -9, _, _, rfl, Or.inl ⟨rfl, ?_⟩⟩
              rw [hsr, sr_s (show p i = false from decide_eq_false (fun q => h0 (by rw [← q]; exact (hy i).2)))]
          · right
            rw [if_pos (show (0 : Int32) ≤ nI j from nI_pos' (by omega))]
            exact ⟨_, rfl, (dI n kd fg tn wd (upd hr c 7) tu pa ((1 : Int32) <<< (nI c &&& 31)) i Y0), f1, f2, (hyi i).1, by rw [hsr]⟩
        · right
          have : i = 201 := by omega
          subst this
          rw [if_pos (show (201 : Int32) ≤ nI 201 from lL 201 (Nat.le_refl 201))]
          refine ⟨_, rfl, (dI n kd fg tn wd (upd hr c 7) tu pa ((1 : Int32) <<< (nI c &&& 31)) 201 Y0), f1, f2, (hyi 201).1, ?_⟩
          rcases hor with ⟨rfl, hsr⟩ | ⟨j, hj, rfl, hsr⟩
          · rw [hsr]; rfl
          · rw [hsr]) 1000 0 (-9, 0, kn, st3 tu hu pa, dy, m_answeredMany, m_lastWord, m_answered, m_unanswered, m_saidWords, m_isCalledAtSeven, m_isAnsweredAtSeven) (Nat.zero_le _) (by omega) ⟨-9, m_isCalledAtSeven, m_isAnsweredAtSeven, rfl, Or.inl ⟨rfl, rfl⟩⟩
      exact ⟨Y, f1', f2', hY, e⟩
    obtain ⟨X, hX, ec⟩ := hc
    obtain ⟨Y, f1', f2', hY, em'⟩ := hm
    rw [if_pos hw, call_is hn7 hcn, if_neg nz1, bi_s (think_c (nI n) tu hu pa dy h2.1 h2.2.1 h2.2.2 h3.1 h3.2 g3 g5 g6)]
    dsimp only
    rw [bi_s eo, bi_s (keep1 kn (st3 tu hu pa) kd fg tn wd hr m_kept (nI n) dy)]
    dsimp only
    rw [gu_t (inB_n hc7), cl_n (show c < 2147483648 by omega), bi_s em']
    dsimp only
    rw [bi_s (back1 hY.1 (st3_z _ _ _) g3.1 g3.2.1 g3.2.2.1 g3.2.2.2.1 (g3.2.2.2.2.upd hc7) g6 (st3_z _ _ _) g3.1 g3.2.1 g3.2.2.1 g3.2.2.2.1 g3.2.2.2.2 kA_in)]
    exact ⟨_, _, ec, rfl, rfl, mkRel h1' ⟨g3.all7, hzo, hX.1⟩ ⟨hX.2.1, hX.2.2⟩ h4 h5 (h6.same (fun j hj => kA_out (by omega))) h7 h8 h9 ⟨hY.2.1, hY.2.2⟩⟩
  · have ha : f_X4_isCaller (nI n) v1 = 0 := Decidable.byContradiction (fun q => hw (by rw [call_eq, if_neg q]))
    have e1 : f_X3_callerNo (nI n) v1 = -1 := by rw [call_eq, if_pos ha]
    obtain ⟨fm, e, hf⟩ := ref_ok h9 no1
    rw [if_neg hw, if_pos ha, bi_s e, e1]
    exact ⟨_, _, rfl, rfl, rfl, mkRel h1' h2 h3 h4 h5 h6 h7 h8 hf h10⟩
