def anyB (p : Nat → Bool) : Nat → Bool
  | 0 => false
  | m + 1 => anyB p m || p m
theorem chk {f : Int32 × Int32 → Option ((Int32 × Int32) ⊕ Int32)} {r : Nat} {bad : Nat → Bool} (hr : r ≤ 12) (h1 : ∀ i, i < r → f (0, nI i) = some (.inl (if bad i = true then -3 else 0, nI (i + 1)))) (h2 : ∀ i v, i < r → ¬ v = 0 → f (v, nI i) = some (.inr v)) (h3 : ∀ v, f (v, nI r) = some (.inr v)) (w : Int32) : lp f 1000 (w, 0) = some (if w = 0 then (if anyB bad r = true then -3 else 0) else w) := by
  by_cases hw : w = 0
  · subst hw
    obtain ⟨b, e, rfl⟩ := lp_hoare (f := f) (fun i a => a = ((if anyB bad i = true then -3 else 0), nI i) ∧ (anyB bad i = true → anyB bad r = true)) (fun b => b = (if anyB bad r = true then -3 else 0)) r (by
      rintro i _ hi ⟨rfl, hb⟩
      by_cases hlt : i < r
      · by_cases ha : anyB bad i = true
        · right
          rw [if_pos ha, h2 i (-3) hlt (by decide)]
          exact ⟨_, rfl, by rw [if_pos (hb ha)]⟩
        · left
          rw [if_neg ha, h1 i hlt]
          have ea : anyB bad (i + 1) = bad i := by
            show (anyB bad i || bad i) = bad i
            rw [show anyB bad i = false by simpa using ha]; rfl
          refine ⟨hlt, _, rfl, ?_, ?_⟩
          · rw [ea]
          · have mono : ∀ d, anyB bad (i + 1) = true → anyB bad (i + 1 + d) = true := by
              intro d h
              induction d with
              | zero => exact h
              | succ d ih => show (anyB bad (i + 1 + d) || bad (i + 1 + d)) = true; rw [ih]; rfl
            intro h
            have := mono (r - (i + 1)) h
            rwa [show i + 1 + (r - (i + 1)) = r by omega] at this
      · right
        have : i = r := by omega
        subst this
        rw [h3]
        exact ⟨_, rfl, rfl⟩) 1000 0 (0, 0) (Nat.zero_le _) (by omega) ⟨rfl, fun h => Bool.noConfusion (show false = true from h)⟩
    rw [e, if_pos rfl]
  · rw [if_neg hw]
    have : f (w, 0) = some (.inr w) := by
      by_cases h0 : 0 < r
      · exact h2 0 w h0 hw
      · have e : r = 0 := by omega
        subst e
        exact h3 w
    unfold lp
    rw [this]
theorem anyB_n {p : Nat → Bool} : ∀ {m : Nat}, anyB p m = false → ∀ i, i < m → p i = false
  | 0, _, i, h => absurd h (by omega)
  | m + 1, e, i, h => by
    have e' : (anyB p m || p m) = false := e
    rw [Bool.or_eq_false_iff] at e'
    by_cases hi : i = m
    · rw [hi]; exact e'.2
    · exact anyB_n e'.1 i (by omega)
/-- a row of ids called at seven, one a day: what it knows, its hurt, the answers -/
def wkS (kd fg tn wd : Nat → Int32) (tu pa : Int32) (cs : Nat → Nat) (kn : Nat → Int32) (hu : Int32) : Nat → (Nat → Int32) × Int32 × Int32
  | 0 => (kn, hu, 0)
  | i + 1 => ((oneD kd fg tn wd tu pa (cs (i)) (wkS kd fg tn wd tu pa cs kn hu (i)).1 (wkS kd fg tn wd tu pa cs kn hu (i)).2.1).1, (oneD kd fg tn wd tu pa (cs (i)) (wkS kd fg tn wd tu pa cs kn hu (i)).1 (wkS kd fg tn wd tu pa cs kn hu (i)).2.1).2.1, (wkS kd fg tn wd tu pa cs kn hu (i)).2.2 + (oneD kd fg tn wd tu pa (cs (i)) (wkS kd fg tn wd tu pa cs kn hu (i)).1 (wkS kd fg tn wd tu pa cs kn hu (i)).2.1).2.2)
def wkX (n : Nat) (kd fg tn wd hr : Nat → Int32) (tu pa : Int32) (cs : Nat → Nat) (kn : Nat → Int32) (hu dy : Int32) : Nat → DX
  | 0 => X0 kn hu dy
  | i + 1 => dT n kd fg tn wd hr tu pa ((1 : Int32) <<< (nI (cs i) &&& 31)) (wkX n kd fg tn wd hr tu pa cs kn hu dy i)
theorem wk_X {n : Nat} {kd fg tn wd hr : Nat → Int32} {tu pa : Int32} (hF : OkF n kd fg tn wd (fl 7 7 hr)) {cs : Nat → Nat} {kn : Nat → Int32} {hu : Int32} (dy : Int32) (hk : Zr 8 kn) (hh : HR hu) : ∀ m, (∀ i, i < m → cs i < n) → ZX (wkX n kd fg tn wd (fl 7 7 hr) tu pa cs kn hu dy (m)) ∧ HR (wkX n kd fg tn wd (fl 7 7 hr) tu pa cs kn hu dy (m)).2.1 ∧ (wkX n kd fg tn wd (fl 7 7 hr) tu pa cs kn hu dy (m)).1 = (wkS kd fg tn wd tu pa cs kn hu (m)).1 ∧ (wkX n kd fg tn wd (fl 7 7 hr) tu pa cs kn hu dy (m)).2.1 = (wkS kd fg tn wd tu pa cs kn hu (m)).2.1 ∧ (wkX n kd fg tn wd (fl 7 7 hr) tu pa cs kn hu dy (m)).2.2.2.1 = (wkS kd fg tn wd tu pa cs kn hu (m)).2.2
  | 0, _ => ⟨X0_z hk, hh, rfl, rfl, rfl⟩
  | m + 1, hc => by
    obtain ⟨q1, q2, q3, q4, q5⟩ := wk_X hF dy hk hh m (fun i hi => hc i (by omega))
    have hcm := hc m (by omega)
    have h7 := hF.1
    obtain ⟨e1, e2, e3⟩ := one_T (kd := kd) (fg := fg) (tn := tn) (wd := wd) (hr := (fl 7 7 hr)) (tu := tu) (pa := pa) hF.1 hcm (if_pos (show cs m < 7 by omega)) (wkX n kd fg tn wd (fl 7 7 hr) tu pa cs kn hu dy (m))
    rw [q3, q4, q5] at e3
    rw [q3, q4] at e1 e2
    have hz := dT_z (tu := tu) (pa := pa) (who := ((1 : Int32) <<< (nI (cs m) &&& 31))) hF q1 q2
    refine ⟨hz.1, hz.2, ?_, ?_, ?_⟩
    · rw [wkX, wkS]; dsimp only; exact e1
    · rw [wkX, wkS]; dsimp only; exact e2
    · rw [wkX, wkS]; dsimp only; exact e3
set_option maxHeartbeats 400000 in
/-- the model goes through a row -/
theorem goesWeek_m {n m : Nat} {kd fg tn wd hr : Nat → Int32} {tu pa : Int32} (hF : OkF n kd fg tn wd hr) (hT : OkT tu) (hZ : FZ kd fg tn wd hr) {kn : Nat → Int32} (hk8 : Zr 8 kn) {hu : Int32} (hh : HR hu) (dy : Int32) (kept : Nat → Int32) {am lw : Nat → Int32} (hal : TZ am lw) (aw an un sa f1 f2 : Int32) {week : Nat → Int32} {cs : Nat → Nat} (hm : m ≤ 12) (hc : ∀ i, i < m → cs i < n ∧ week i = nI (cs i)) : ∃ (am' lw' : Nat → Int32) (an' un' sa' f1' f2' : Int32), f_X4_goesWeek kn (st3 tu hu pa) kd fg tn wd hr (nI n) dy kept am lw aw an un sa f1 f2 week (nI m) = some (kn, st3 tu hu pa, kd, fg, tn, wd, hr, nI n, dy, kA kept 50 kn (st3 tu hu pa) kd fg tn wd hr (nI n) dy, 0, 98, am', lw', 0, an', un', sa', f1', f2', (wkS kd fg tn wd tu pa cs kn hu (m)).2.2, (wkS kd fg tn wd tu pa cs kn hu (m)).2.1) ∧ TZ am' lw' := by
  have hn7 := hF.1
  obtain ⟨b, e, k', H', d', am', lw', aw', an', un', sa', f1', f2', rfl, b1, b2, b3, b4, b5⟩ := lp_hoare (f := (fun z : Int32 × (Nat → Int32) × (Nat → Int32) × (Nat → Int32) × Int32 × (Nat → Int32) × (Nat → Int32) × Int32 × Int32 × Int32 × Int32 × Int32 × Int32 × Int32 => f_X4_goesWeek_L13 (nI m) kd fg tn wd (nI n) week z.1 z.2.1 z.2.2.1 z.2.2.2.1 z.2.2.2.2.1 z.2.2.2.2.2.1 z.2.2.2.2.2.2.1 z.2.2.2.2.2.2.2.1 z.2.2.2.2.2.2.2.2.1 z.2.2.2.2.2.2.2.2.2.1 z.2.2.2.2.2.2.2.2.2.2.1 z.2.2.2.2.2.2.2.2.2.2.2.1 z.2.2.2.2.2.2.2.2.2.2.2.2.1 z.2.2.2.2.2.2.2.2.2.2.2.2.2)) (fun i a => ∃ (k' H' : Nat → Int32) (u' d' : Int32) (am' lw' : Nat → Int32) (aw' an' un' sa' f1' f2' : Int32), a = (nI i, k', st3 tu u' pa, H', d', am', lw', aw', an', un', sa', f1', f2', (wkS kd fg tn wd tu pa cs kn hu (i)).2.2) ∧ OkF n kd fg tn wd H' ∧ Zr 7 H' ∧ TZ am' lw' ∧ Zr 8 k' ∧ HR u' ∧ k' = (wkS kd fg tn wd tu pa cs kn hu (i)).1 ∧ u' = (wkS kd fg tn wd tu pa cs kn hu (i)).2.1) (fun b => ∃ (k' H' : Nat → Int32) (d' : Int32) (am' lw' : Nat → Int32) (aw' an' un' sa' f1' f2' : Int32), b = (k', st3 tu (wkS kd fg tn wd tu pa cs kn hu (m)).2.1 pa, H', d', am', lw', aw', an', un', sa', f1', f2', (wkS kd fg tn wd tu pa cs kn hu (m)).2.2) ∧ OkF n kd fg tn wd H' ∧ Zr 7 H' ∧ TZ am' lw' ∧ Zr 8 k' ∧ k' = (wkS kd fg tn wd tu pa cs kn hu (m)).1) m (by
    rintro i _ hi ⟨k', H', u', d', am', lw', aw', an', un', sa', f1', f2', rfl, b1, b2, b3, b4, b5, b6, b7⟩
    dsimp only
    unfold f_X4_goesWeek_L13
    by_cases hlt : i < m
    · left
      obtain ⟨hci, ew⟩ := hc i hlt
      have hc7 : cs i < 7 := by omega
      have hF7 : OkF n kd fg tn wd (upd H' (cs i) 7) := b1.hour (h := 7) (by omega)
      obtain ⟨g1, g2, eg⟩ := goes_m (kd := kd) (fg := fg) (tn := tn) (wd := wd) (tu := tu) (pa := pa) hF7 hT (Bits.one hn7 hci) k' u' d' b3.1 b3.2 f1' f2' (k := 1) (by omega)
      have hz := dI_z (tu := tu) (pa := pa) (who := ((1 : Int32) <<< (nI (cs i) &&& 31))) hF7 (X0_z (hu := u') (dy := d') b4) b5 1
      obtain ⟨e1, e2, e3⟩ := one_T (kd := kd) (fg := fg) (tn := tn) (wd := wd) (hr := upd H' (cs i) 7) (tu := tu) (pa := pa) hn7 hci pk_us (X0 k' u' d')
      have hd1 : dI n kd fg tn wd (upd H' (cs i) 7) tu pa ((1 : Int32) <<< (nI (cs i) &&& 31)) 1 (X0 k' u' d') = dT n kd fg tn wd (upd H' (cs i) 7) tu pa ((1 : Int32) <<< (nI (cs i) &&& 31)) (X0 k' u' d') := by rw [dI, dI]
      rw [← hd1] at e1 e2 e3
      generalize dI n kd fg tn wd (upd H' (cs i) 7) tu pa ((1 : Int32) <<< (nI (cs i) &&& 31)) 1 (X0 k' u' d') = Y at eg hz e1 e2 e3
      have hs : (wkS kd fg tn wd tu pa cs kn hu (i + 1)) = ((oneD kd fg tn wd tu pa (cs (i)) (wkS kd fg tn wd tu pa cs kn hu (i)).1 (wkS kd fg tn wd tu pa cs kn hu (i)).2.1).1, (oneD kd fg tn wd tu pa (cs (i)) (wkS kd fg tn wd tu pa cs kn hu (i)).1 (wkS kd fg tn wd tu pa cs kn hu (i)).2.1).2.1, (wkS kd fg tn wd tu pa cs kn hu (i)).2.2 + (oneD kd fg tn wd tu pa (cs (i)) (wkS kd fg tn wd tu pa cs kn hu (i)).1 (wkS kd fg tn wd tu pa cs kn hu (i)).2.1).2.2) := by rw [wkS]
      have e1' : Y.1 = (oneD kd fg tn wd tu pa (cs i) k' u').1 := e1
      have e2' : Y.2.1 = (oneD kd fg tn wd tu pa (cs i) k' u').2.1 := e2
      have e3' : Y.2.2.2.1 = (oneD kd fg tn wd tu pa (cs i) k' u').2.2 := e3.trans (Int32.zero_add _)
      rw [if_neg (nI_ge hlt (by omega)), gu_t (inB_n (by omega)), gu_t (inB_n (by omega)), cl_n (by omega), ew, gu_t (inB_n hc7), cl_n (show cs i < 2147483648 by omega)]
      have eg' : f_X4_goes k' (st3 tu u' pa) kd fg tn wd (upd H' (cs i) 7) (nI n) d' am' lw' (((1 : Int32) <<< (nI (cs i) &&& 31)) ^^^ -1) f1' f2' 1 = _ := eg
      rw [bi_s eg', nI_1]
      refine ⟨hlt, _, rfl, Y.1, upd H' (cs i) 7, Y.2.1, Y.2.2.1, Y.2.2.2.2.2.2.1, Y.2.2.2.2.2.2.2, (((1 : Int32) <<< (nI (cs i) &&& 31)) ^^^ -1), Y.2.2.2.1, Y.2.2.2.2.1, Y.2.2.2.2.2.1, g1, g2, ?_, hF7, b2.upd hc7, ⟨hz.1.2.1, hz.1.2.2⟩, hz.1.1, hz.2, ?_, ?_⟩
      · rw [hs, ← b6, ← b7]
        dsimp only
        rw [← e3']
      · rw [hs, ← b6, ← b7]
        dsimp only
        rw [e1']
      · rw [hs, ← b6, ← b7]
        dsimp only
        rw [e2']
    · right
      have : i = m := by omega
      subst this
      rw [if_pos (nI_le (Nat.le_refl i) (by omega))]
      subst b7
      exact ⟨_, rfl, k', H', d', am', lw', aw', an', un', sa', f1', f2', rfl, b1, b2, b3, b4, b6⟩) 1000 0 (0, kn, st3 tu hu pa, hr, dy, am, lw, aw, an, un, sa, f1, f2, 0) (Nat.zero_le _) (by omega) ⟨kn, hr, hu, dy, am, lw, aw, an, un, sa, f1, f2, rfl, hF, hZ.2.2.2.2, hal, hk8, hh, rfl, rfl⟩
  refine ⟨am', lw', an', un', sa', f1', f2', ?_, b3⟩
  unfold f_X4_goesWeek
  rw [bi_s (keep1 kn (st3 tu hu pa) kd fg tn wd hr kept (nI n) dy)]
  dsimp only
  rw [bi_s e]
  dsimp only
  rw [bi_s (back1 b4 (st3_z _ _ _) hZ.1 hZ.2.1 hZ.2.2.1 hZ.2.2.2.1 b2 hk8 (st3_z _ _ _) hZ.1 hZ.2.1 hZ.2.2.1 hZ.2.2.2.1 hZ.2.2.2.2 kA_in), st3_1]
set_option maxHeartbeats 4000000 in
set_option maxRecDepth 4000 in
theorem sim_week {n len r : Nat} {x_imageTaken : Int32} {d_callers : Int32} {d_kinds : Nat → Int32} {d_figures : Nat → Int32} {d_tones : Nat → Int32} {d_words : Nat → Int32} {d_hours : Nat → Int32} {d_order : Nat → Int32} {d_known : Nat → Int32} {d_tune : Int32} {d_hurt : Int32} {d_patience : Int32} {d_day : Int32} {d_answered : Int32} {d_unanswered : Int32} {d_said : Int32} {d_times : Nat → Int32} {d_last : Nat → Int32} {n_answered : Int32} {n_unanswered : Int32} {n_said : Int32} {n_times : Nat → Int32} {n_last : Nat → Int32} {t_letters : Nat → Int32} {x_told : Nat → Int32} {x_refusals : Nat → Int32} {k_callers : Int32} {k_kinds : Nat → Int32} {k_figures : Nat → Int32} {k_tones : Nat → Int32} {k_words : Nat → Int32} {k_hours : Nat → Int32} {k_order : Nat → Int32} {k_known : Nat → Int32} {k_tune : Int32} {k_hurt : Int32} {k_patience : Int32} {k_day : Int32} {k_answered : Int32} {k_unanswered : Int32} {k_said : Int32} {k_times : Nat → Int32} {k_last : Nat → Int32} {kd : Nat → Int32} {fg : Nat → Int32} {tn : Nat → Int32} {wd : Nat → Int32} {hr : Nat → Int32} {od : Nat → Int32} {kn : Nat → Int32} {tu : Int32} {hu : Int32} {pa : Int32} {dy : Int32} {m_refused : Nat → Int32} {m_letter : Nat → Int32} {m_letterAt : Nat → Int32} {m_told : Nat → Int32} {m_at : Int32} {m_statements : Int32} {m_kept : Nat → Int32} {m_isKeeping : Int32} {m_cursor : Int32} {m_answeredMany : Nat → Int32} {m_lastWord : Nat → Int32} {m_answered : Int32} {m_unanswered : Int32} {m_saidWords : Int32} {m_isCalledAtSeven : Int32} {m_isAnsweredAtSeven : Int32} {m_seen : Nat → Int32} {m_weekAnswers : Int32} {m_weekHurt : Int32} {m_week : Nat → Int32} {m_oneHas : Nat → Int32} {m_otherHas : Nat → Int32} (h1 : RM n kd fg tn wd hr od kn tu hu) (h2 : GZ d_kinds d_figures d_tones d_words d_hours d_order d_known) (h3 : TZ d_times d_last) (h4 : TZ n_times n_last) (h5 : GZ k_kinds k_figures k_tones k_words k_hours k_order k_known) (h6 : RI x_imageTaken m_kept k_callers k_kinds k_figures k_tones k_words k_hours k_order k_known k_tune k_hurt k_patience k_day) (h7 : RT len t_letters) (h8 : RR r x_told) (h9 : RF x_refusals m_refused) (h10 : TZ m_answeredMany m_lastWord) (v1 : Int32) : ∃ o o', f_X3_week (nI r) d_callers d_kinds d_figures d_tones d_words d_hours d_order d_known d_tune d_hurt d_patience d_day d_answered d_unanswered d_said d_times d_last (nI n) kd fg tn wd hr od kn tu hu pa dy x_told x_refusals v1 = some o ∧ f_X4_week m_refused kn (st3 tu hu pa) kd fg tn wd hr (nI n) dy m_kept m_isKeeping m_cursor m_answeredMany m_lastWord 0 m_answered m_unanswered m_saidWords m_isCalledAtSeven m_isAnsweredAtSeven m_weekAnswers m_weekHurt m_week x_told (nI r) v1 = some o' ∧ o'.1 = o.1 ∧ Rel x_imageTaken (nI r) (o.2.1) (o.2.2.1) (o.2.2.2.1) (o.2.2.2.2.1) (o.2.2.2.2.2.1) (o.2.2.2.2.2.2.1) (o.2.2.2.2.2.2.2.1) (o.2.2.2.2.2.2.2.2.1) (o.2.2.2.2.2.2.2.2.2.1) (o.2.2.2.2.2.2.2.2.2.2.1) (o.2.2.2.2.2.2.2.2.2.2.2.1) (o.2.2.2.2.2.2.2.2.2.2.2.2.1) (o.2.2.2.2.2.2.2.2.2.2.2.2.2.1) (o.2.2.2.2.2.2.2.2.2.2.2.2.2.2.1) (o.2.2.2.2.2.2.2.2.2.2.2.2.2.2.2.1) (o.2.2.2.2.2.2.2.2.2.2.2.2.2.2.2.2.1) (o.2.2.2.2.2.2.2.2.2.2.2.2.2.2.2.2.2.1) (nI n) kd fg tn wd hr od kn tu hu pa dy n_answered n_unanswered n_said n_times n_last t_letters (nI len) x_told (o.2.2.2.2.2.2.2.2.2.2.2.2.2.2.2.2.2.2) k_callers k_kinds k_figures k_tones k_words k_hours k_order k_known k_tune k_hurt k_patience k_day k_answered k_unanswered k_said k_times k_last (o'.2.1) (o'.2.2.1) (o'.2.2.2.1) (o'.2.2.2.2.1) (o'.2.2.2.2.2.1) (o'.2.2.2.2.2.2.1) (o'.2.2.2.2.2.2.2.1) (o'.2.2.2.2.2.2.2.2.1) (o'.2.2.2.2.2.2.2.2.2.1) (o'.2.2.2.2.2.2.2.2.2.2.1) t_letters m_letter m_letterAt m_told (nI len) m_at m_statements (o'.2.2.2.2.2.2.2.2.2.2.2.1) x_imageTaken (o'.2.2.2.2.2.2.2.2.2.2.2.2.1) (o'.2.2.2.2.2.2.2.2.2.2.2.2.2.1) (o'.2.2.2.2.2.2.2.2.2.2.2.2.2.2.1) (o'.2.2.2.2.2.2.2.2.2.2.2.2.2.2.2.1) (o'.2.2.2.2.2.2.2.2.2.2.2.2.2.2.2.2.1) (o'.2.2.2.2.2.2.2.2.2.2.2.2.2.2.2.2.2.1) (o'.2.2.2.2.2.2.2.2.2.2.2.2.2.2.2.2.2.2.1) (o'.2.2.2.2.2.2.2.2.2.2.2.2.2.2.2.2.2.2.2.1) (o'.2.2.2.2.2.2.2.2.2.2.2.2.2.2.2.2.2.2.2.2.1) (o'.2.2.2.2.2.2.2.2.2.2.2.2.2.2.2.2.2.2.2.2.2.1) m_seen (o'.2.2.2.2.2.2.2.2.2.2.2.2.2.2.2.2.2.2.2.2.2.2.1) (o'.2.2.2.2.2.2.2.2.2.2.2.2.2.2.2.2.2.2.2.2.2.2.2.1) (o'.2.2.2.2.2.2.2.2.2.2.2.2.2.2.2.2.2.2.2.2.2.2.2.2) x_told (nI r) m_oneHas m_otherHas := by
  have hn7 := h1.1.1
  have h1' := h1
  obtain ⟨g1, g2, g3, g4, g5, g6, g7⟩ := h1

  obtain ⟨h8a, h8b⟩ := h8
  have hbad : ∀ i, i < r → (f_at 12 x_told (nI i)) = x_told i := fun i hi => at_n (by omega)
  have hcl := chk (f := fun z : Int32 × Int32 => f_X3_week_L8 (nI r) (nI n) x_told z.1 z.2) (r := r) (bad := fun i => decide (f_X4_isCaller (nI n) (x_told i) = 0)) h8a (fun i hi => by
    dsimp only
    unfold f_X3_week_L8
    rw [if_neg (nI_ge hi (by omega)), if_pos rfl, hbad i hi, has_eq, nI_1]
    by_cases h : f_X4_isCaller (nI n) (x_told i) = 0
    · rw [if_pos h, if_pos (decide_eq_true h)]
    · rw [if_neg h, if_neg (by rw [decide_eq_false h]; decide)]) (fun i v hi hv => by
    dsimp only
    unfold f_X3_week_L8
    rw [if_neg (nI_ge hi (by omega)), if_neg hv]) (fun v => by
    dsimp only
    unfold f_X3_week_L8
    rw [if_pos (nI_le (Nat.le_refl r) (by omega))])
  have hml := chk (f := fun z : Int32 × Int32 => f_X4_week_L18 (nI n) x_told (nI r) z.1 z.2) (r := r) (bad := fun i => decide (f_X4_isCaller (nI n) (x_told i) = 0)) h8a (fun i hi => by
    dsimp only
    unfold f_X4_week_L18
    rw [if_neg (nI_ge hi (by omega)), if_pos rfl, gu_t (inB_n (by omega)), cl_n (by omega), nI_1]
    by_cases h : f_X4_isCaller (nI n) (x_told i) = 0
    · rw [if_pos h, if_pos (decide_eq_true h)]
    · rw [if_neg h, if_neg (by rw [decide_eq_false h]; decide)]) (fun i v hi hv => by
    dsimp only
    unfold f_X4_week_L18
    rw [if_neg (nI_ge hi (by omega)), if_neg hv]) (fun v => by
    dsimp only
    unfold f_X4_week_L18
    rw [if_pos (nI_le (Nat.le_refl r) (by omega))])
  have hw0 := what_eq v1 1
  have hm : ∃ w, (w = 0 ∨ No w) ∧ lp (fun z : Int32 × Int32 => f_X3_week_L8 (nI r) (nI n) x_told z.1 z.2) 1000 (f_X3_whatNo v1 1, 0) = some w ∧ f_X4_week m_refused kn (st3 tu hu pa) kd fg tn wd hr (nI n) dy m_kept m_isKeeping m_cursor m_answeredMany m_lastWord 0 m_answered m_unanswered m_saidWords m_isCalledAtSeven m_isAnsweredAtSeven m_weekAnswers m_weekHurt m_week x_told (nI r) v1 = f_X4_week_J56 v1 w m_refused kn (st3 tu hu pa) kd fg tn wd hr (nI n) dy m_kept m_isKeeping m_cursor m_answeredMany m_lastWord 0 m_answered m_unanswered m_saidWords m_isCalledAtSeven m_isAnsweredAtSeven m_weekAnswers m_weekHurt m_week x_told (nI r) ∧ (w = 0 → ∀ i, i < r → f_X3_callerNo (nI n) (x_told i) = 0) := by
    refine ⟨if f_X3_whatNo v1 1 = 0 then (if anyB (fun i => decide (f_X4_isCaller (nI n) (x_told i) = 0)) r = true then -3 else 0) else f_X3_whatNo v1 1, ?_, hcl _, ?_, ?_⟩
    · rcases what_or v1 1 with h | h
      · rw [if_pos h]
        split
        · exact Or.inr no3
        · exact Or.inl rfl
      · exact Or.inr (by
          rw [if_neg (fun q => by rw [q] at h; revert h; unfold No; decide)]
          exact h)
    · unfold f_X4_week
      by_cases h : f_X4_isIn v1 0 1 = 0
      · rw [if_pos h] at hw0
        rw [if_pos h, bi_s (hml (-2)), hw0]
      · rw [if_neg h] at hw0
        rw [if_neg h, bi_s (hml 0), hw0]
    · intro e i hi
      by_cases h : f_X3_whatNo v1 1 = 0
      · rw [if_pos h] at e
        by_cases ha : anyB (fun i => decide (f_X4_isCaller (nI n) (x_told i) = 0)) r = true
        · rw [if_pos ha] at e; exact absurd e (by decide)
        · have := anyB_n (show anyB (fun i => decide (f_X4_isCaller (nI n) (x_told i) = 0)) r = false by simpa using ha) i hi
          rw [call_eq, if_neg (of_decide_eq_false this)]
      · rw [if_neg h] at e; exact absurd e h
  obtain ⟨w, hwo, ec, em, hall⟩ := hm
  unfold f_X3_week
  rw [bi_s ec, em]
  unfold f_X3_week_J47 f_X4_week_J56
  by_cases hw : w = 0
  · subst hw
    have hall := hall rfl
    have hcs : ∃ cs : Nat → Nat, ∀ i, i < r → cs i < n ∧ x_told i = nI (cs i) := by
      refine ⟨fun i => (x_told i).toNatClampNeg, fun i hi => ?_⟩
      obtain ⟨c, hc, e⟩ := call_nat hn7 (hall i hi)
      dsimp only
      rw [e, cl_n (by omega)]
      exact ⟨hc, rfl⟩
    obtain ⟨cs, hcs⟩ := hcs
    obtain ⟨od7, eo, ho, hzo⟩ := move7 g1 g5
    have hwx := fun m (hm : m ≤ r) => wk_X (tu := tu) (pa := pa) (all7 g1) (cs := cs) (hu := hu) dy g6 g7 m (fun i hi => (hcs i (by omega)).1)
    have hcl2 : lp (fun z : Int32 × (Nat → Int32) × Int32 × Int32 × Int32 × Int32 × Int32 × (Nat → Int32) × (Nat → Int32) => f_X3_week_L72 (nI r) (nI n) kd fg tn wd (fl 7 7 hr) od7 tu pa x_told z.1 z.2.1 z.2.2.1 z.2.2.2.1 z.2.2.2.2.1 z.2.2.2.2.2.1 z.2.2.2.2.2.2.1 z.2.2.2.2.2.2.2.1 z.2.2.2.2.2.2.2.2) 1000 (0, kn, hu, dy, 0, 0, 0, z0, l9) = some (wkX n kd fg tn wd (fl 7 7 hr) tu pa cs kn hu dy (r)) := by
      refine lp_for (fun i => (nI i, (wkX n kd fg tn wd (fl 7 7 hr) tu pa cs kn hu dy (i)))) r ?_ ?_ (by omega) rfl
      · intro i hi
        dsimp only
        unfold f_X3_week_L72
        rw [if_neg (nI_ge hi (by omega)), hbad i hi, (hcs i hi).2, day_c (all7 g1) ho ((1 : Int32) <<< (nI (cs i) &&& 31)) (wkX n kd fg tn wd (fl 7 7 hr) tu pa cs kn hu dy (i)), bi_some, nI_1]
        rfl
      · dsimp only
        unfold f_X3_week_L72
        rw [if_pos (nI_le (Nat.le_refl r) (by omega))]
    obtain ⟨q1, q2, q3, q4, q5⟩ := hwx r (Nat.le_refl r)
    have hrow : lp (fun z : Int32 × (Nat → Int32) => f_X4_week_L68 x_told (nI r) z.1 z.2) 1000 (0, m_week) = some (ff x_told m_week r) := by
      refine lp_for (fun i => (nI i, ff x_told m_week i)) r ?_ ?_ (by omega) (by rw [ff_0]; rfl)
      · intro i hi
        dsimp only
        unfold f_X4_week_L68
        rw [if_neg (nI_ge hi (by omega)), gu_t (inB_n (by omega)), gu_t (inB_n (by omega)), cl_n (by omega), ff_s, nI_1]
      · dsimp only
        unfold f_X4_week_L68
        rw [if_pos (nI_le (Nat.le_refl r) (by omega))]
    obtain ⟨am', lw', an', un', sa', f1', f2', eg, hg⟩ := goesWeek_m (pa := pa) g1 g2 g3 g6 g7 dy m_kept h10 0 m_answered m_unanswered m_saidWords m_isCalledAtSeven m_isAnsweredAtSeven (week := ff x_told m_week r) (cs := cs) h8a (fun i hi => ⟨(hcs i hi).1, by
      rw [← (hcs i hi).2]
      exact if_pos hi⟩)
    rw [if_pos rfl, if_pos rfl, bi_s (think_c (nI n) tu hu pa dy h2.1 h2.2.1 h2.2.2 h3.1 h3.2 g3 g5 g6)]
    dsimp only
    rw [bi_s eo, bi_s hcl2, bi_s hrow, bi_s eg]
    dsimp only
    by_cases hv : v1 = 0
    · rw [if_pos hv, if_pos hv]
      exact ⟨_, _, rfl, rfl, q5.symm, mkRel h1' ⟨g3.all7, hzo, q1.1⟩ ⟨q1.2.1, q1.2.2⟩ h4 h5 (h6.same (fun j hj => kA_out (by omega))) h7 ⟨h8a, h8b⟩ h9 hg⟩
    · rw [if_neg hv, if_neg hv]
      exact ⟨_, _, rfl, rfl, q4.symm, mkRel h1' ⟨g3.all7, hzo, q1.1⟩ ⟨q1.2.1, q1.2.2⟩ h4 h5 (h6.same (fun j hj => kA_out (by omega))) h7 ⟨h8a, h8b⟩ h9 hg⟩
  · have hno : No w := hwo.resolve_left hw
    obtain ⟨fm, e, hf⟩ := ref_ok h9 hno
    rw [if_neg hw, if_neg hw, bi_s e]
    have e1 : (f_X3_refuse x_refusals w).1 = w := rfl
    exact ⟨_, _, rfl, rfl, rfl, mkRel h1' h2 h3 h4 h5 h6 h7 ⟨h8a, h8b⟩ hf h10⟩
