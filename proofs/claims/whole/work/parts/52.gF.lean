def gQ (lt l la t kept : Nat → Int32) (len N pe n : Nat) (kd fg tn wd hr od kn : Nat → Int32) (tu hu pa dy ca cu cs : Int32) (cti cla am lw : Nat → Int32) (an un sa f1 f2 : Int32) (s : Nat) : Prop := ∃ (n' : Nat) (kd' fg' tn' wd' hr' od' kn' : Nat → Int32) (tu' hu' pa' dy' ca' cu' cs' : Int32) (cti' cla' am' lw' : Nat → Int32) (an' un' sa' f1' f2' : Int32), RM n' kd' fg' tn' wd' hr' od' kn' tu' hu' ∧ TZ cti' cla' ∧ TZ am' lw' ∧ (∀ fuel, lp (fun z : Int32 × Int32 × Int32 => f_X2_faultOfSense_L8 lt (nI len) z.1 z.2.1 z.2.2) (fuel + s) (nI n, dy, 0) = lp (fun z : Int32 × Int32 × Int32 => f_X2_faultOfSense_L8 lt (nI len) z.1 z.2.1 z.2.2) fuel (nI n', dy', nI (pS lt len s))) ∧ (∀ fuel, lp (fun z : Int32 × Int32 × Int32 × (Nat → Int32) × (Nat → Int32) × (Nat → Int32) × (Nat → Int32) × (Nat → Int32) × (Nat → Int32) × (Nat → Int32) × Int32 × Int32 × Int32 × Int32 × Int32 × Int32 × Int32 × (Nat → Int32) × (Nat → Int32) => f_X2_comeTo_L4 lt (nI len) (z.1) (z.2.1) (z.2.2.1) (z.2.2.2.1) (z.2.2.2.2.1) (z.2.2.2.2.2.1) (z.2.2.2.2.2.2.1) (z.2.2.2.2.2.2.2.1) (z.2.2.2.2.2.2.2.2.1) (z.2.2.2.2.2.2.2.2.2.1) (z.2.2.2.2.2.2.2.2.2.2.1) (z.2.2.2.2.2.2.2.2.2.2.2.1) (z.2.2.2.2.2.2.2.2.2.2.2.2.1) (z.2.2.2.2.2.2.2.2.2.2.2.2.2.1) (z.2.2.2.2.2.2.2.2.2.2.2.2.2.2.1) (z.2.2.2.2.2.2.2.2.2.2.2.2.2.2.2.1) (z.2.2.2.2.2.2.2.2.2.2.2.2.2.2.2.2.1) (z.2.2.2.2.2.2.2.2.2.2.2.2.2.2.2.2.2.1) (z.2.2.2.2.2.2.2.2.2.2.2.2.2.2.2.2.2.2)) (fuel + s) (0, 0, nI n, kd, fg, tn, wd, hr, od, kn, tu, hu, pa, dy, ca, cu, cs, cti, cla) = lp (fun z : Int32 × Int32 × Int32 × (Nat → Int32) × (Nat → Int32) × (Nat → Int32) × (Nat → Int32) × (Nat → Int32) × (Nat → Int32) × (Nat → Int32) × Int32 × Int32 × Int32 × Int32 × Int32 × Int32 × Int32 × (Nat → Int32) × (Nat → Int32) => f_X2_comeTo_L4 lt (nI len) (z.1) (z.2.1) (z.2.2.1) (z.2.2.2.1) (z.2.2.2.2.1) (z.2.2.2.2.2.1) (z.2.2.2.2.2.2.1) (z.2.2.2.2.2.2.2.1) (z.2.2.2.2.2.2.2.2.1) (z.2.2.2.2.2.2.2.2.2.1) (z.2.2.2.2.2.2.2.2.2.2.1) (z.2.2.2.2.2.2.2.2.2.2.2.1) (z.2.2.2.2.2.2.2.2.2.2.2.2.1) (z.2.2.2.2.2.2.2.2.2.2.2.2.2.1) (z.2.2.2.2.2.2.2.2.2.2.2.2.2.2.1) (z.2.2.2.2.2.2.2.2.2.2.2.2.2.2.2.1) (z.2.2.2.2.2.2.2.2.2.2.2.2.2.2.2.2.1) (z.2.2.2.2.2.2.2.2.2.2.2.2.2.2.2.2.2.1) (z.2.2.2.2.2.2.2.2.2.2.2.2.2.2.2.2.2.2)) fuel (nI s, nI (pS lt len s), nI n', kd', fg', tn', wd', hr', od', kn', tu', hu', pa', dy', ca', cu', cs', cti', cla')) ∧ (∀ fuel, lp (fun z : Int32 × (Nat → Int32) × (Nat → Int32) × (Nat → Int32) × (Nat → Int32) × (Nat → Int32) × (Nat → Int32) × (Nat → Int32) × Int32 × Int32 × (Nat → Int32) × (Nat → Int32) × Int32 × Int32 × Int32 × Int32 × Int32 => f_X4_gorge_L86 l la t 0 (nI pe) (nI N) (kA kept 50 kn (st3 tu hu pa) kd fg tn wd hr (nI n) dy) 1 98 0 (z.1) (z.2.1) (z.2.2.1) (z.2.2.2.1) (z.2.2.2.2.1) (z.2.2.2.2.2.1) (z.2.2.2.2.2.2.1) (z.2.2.2.2.2.2.2.1) (z.2.2.2.2.2.2.2.2.1) (z.2.2.2.2.2.2.2.2.2.1) (z.2.2.2.2.2.2.2.2.2.2.1) (z.2.2.2.2.2.2.2.2.2.2.2.1) (z.2.2.2.2.2.2.2.2.2.2.2.2.1) (z.2.2.2.2.2.2.2.2.2.2.2.2.2.1) (z.2.2.2.2.2.2.2.2.2.2.2.2.2.2.1) (z.2.2.2.2.2.2.2.2.2.2.2.2.2.2.2.1) (z.2.2.2.2.2.2.2.2.2.2.2.2.2.2.2.2)) (fuel + s) (0, kn, st3 tu hu pa, kd, fg, tn, wd, hr, nI n, dy, am, lw, an, un, sa, f1, f2) = lp (fun z : Int32 × (Nat → Int32) × (Nat → Int32) × (Nat → Int32) × (Nat → Int32) × (Nat → Int32) × (Nat → Int32) × (Nat → Int32) × Int32 × Int32 × (Nat → Int32) × (Nat → Int32) × Int32 × Int32 × Int32 × Int32 × Int32 => f_X4_gorge_L86 l la t 0 (nI pe) (nI N) (kA kept 50 kn (st3 tu hu pa) kd fg tn wd hr (nI n) dy) 1 98 0 (z.1) (z.2.1) (z.2.2.1) (z.2.2.2.1) (z.2.2.2.2.1) (z.2.2.2.2.2.1) (z.2.2.2.2.2.2.1) (z.2.2.2.2.2.2.2.1) (z.2.2.2.2.2.2.2.2.1) (z.2.2.2.2.2.2.2.2.2.1) (z.2.2.2.2.2.2.2.2.2.2.1) (z.2.2.2.2.2.2.2.2.2.2.2.1) (z.2.2.2.2.2.2.2.2.2.2.2.2.1) (z.2.2.2.2.2.2.2.2.2.2.2.2.2.1) (z.2.2.2.2.2.2.2.2.2.2.2.2.2.2.1) (z.2.2.2.2.2.2.2.2.2.2.2.2.2.2.2.1) (z.2.2.2.2.2.2.2.2.2.2.2.2.2.2.2.2)) fuel (nI s, kn', st3 tu' hu' pa', kd', fg', tn', wd', hr', nI n', dy', am', lw', an', un', sa', f1', f2'))
def gX (lt l la t kept : Nat → Int32) (len N pe n : Nat) (kd fg tn wd hr od kn : Nat → Int32) (tu hu pa dy ca cu cs : Int32) (cti cla am lw : Nat → Int32) (an un sa f1 f2 : Int32) : Prop := ∃ (K : Nat) (am' lw' : Nat → Int32) (an' un' sa' f1' f2' : Int32), TZ am' lw' ∧ pS lt len K < 1000 ∧ lp (fun z : Int32 × Int32 × Int32 => f_X2_faultOfSense_L8 lt (nI len) z.1 z.2.1 z.2.2) 1000 (nI n, dy, 0) = some (nI (pS lt len K)) ∧ lp (fun z : Int32 × (Nat → Int32) × (Nat → Int32) × (Nat → Int32) × (Nat → Int32) × (Nat → Int32) × (Nat → Int32) × (Nat → Int32) × Int32 × Int32 × (Nat → Int32) × (Nat → Int32) × Int32 × Int32 × Int32 × Int32 × Int32 => f_X4_gorge_L86 l la t 0 (nI pe) (nI N) (kA kept 50 kn (st3 tu hu pa) kd fg tn wd hr (nI n) dy) 1 98 0 (z.1) (z.2.1) (z.2.2.1) (z.2.2.2.1) (z.2.2.2.2.1) (z.2.2.2.2.2.1) (z.2.2.2.2.2.2.1) (z.2.2.2.2.2.2.2.1) (z.2.2.2.2.2.2.2.2.1) (z.2.2.2.2.2.2.2.2.2.1) (z.2.2.2.2.2.2.2.2.2.2.1) (z.2.2.2.2.2.2.2.2.2.2.2.1) (z.2.2.2.2.2.2.2.2.2.2.2.2.1) (z.2.2.2.2.2.2.2.2.2.2.2.2.2.1) (z.2.2.2.2.2.2.2.2.2.2.2.2.2.2.1) (z.2.2.2.2.2.2.2.2.2.2.2.2.2.2.2.1) (z.2.2.2.2.2.2.2.2.2.2.2.2.2.2.2.2)) 1000 (0, kn, st3 tu hu pa, kd, fg, tn, wd, hr, nI n, dy, am, lw, an, un, sa, f1, f2) = some (-2000 - nI (pS lt len K), kn, st3 tu hu pa, kd, fg, tn, wd, hr, nI n, dy, l, la, t, 0, nI pe, nI N, (kA kept 50 kn (st3 tu hu pa) kd fg tn wd hr (nI n) dy), 0, 98, am', lw', an', un', sa', f1', f2')
set_option maxHeartbeats 2000000 in
theorem g_step {lt l la t kept : Nat → Int32} {len N pe n : Nat} {kd fg tn wd hr od kn : Nat → Int32} {tu hu pa dy ca cu cs : Int32} {cti cla am lw : Nat → Int32} {an un sa f1 f2 : Int32} (hR : RT len lt) (hg : gdN lt len N) (hN : N ≤ 34) (hr0 : RdN lt len N l la t) (h1 : RM n kd fg tn wd hr od kn tu hu) {s : Nat} (hs : s < N) (hq : gQ lt l la t kept len N pe n kd fg tn wd hr od kn tu hu pa dy ca cu cs cti cla am lw an un sa f1 f2 s) : gX lt l la t kept len N pe n kd fg tn wd hr od kn tu hu pa dy ca cu cs cti cla am lw an un sa f1 f2 ∨ gQ lt l la t kept len N pe n kd fg tn wd hr od kn tu hu pa dy ca cu cs cti cla am lw an un sa f1 f2 (s + 1) := by
  obtain ⟨n', kd', fg', tn', wd', hr', od', kn', tu', hu', pa', dy', ca', cu', cs', cti', cla', am', lw', an', un', sa', f1', f2', q1, q2, q3, q4, q5, q6⟩ := hq
  have hl := hR.1
  obtain ⟨e1, e2⟩ := hg s hs
  obtain ⟨r1, r2, r3⟩ := hr0 s hs
  have hj : jF lt len (pS lt len s) < 7 := by
    have := jF_le lt len (pS lt len s)
    by_cases h7 : jF lt len (pS lt len s) = 7
    · unfold sF at e1
      rw [if_pos h7] at e1
      exact absurd e1 (by simp)
    · omega
  have hst : f_X2_stepFrom lt (nI len) (nI (pS lt len s)) = some (nI (sLen.getD (jF lt len (pS lt len s)) 0)) := stp_c hl (by omega) hj rfl
  have hnx : nI (pS lt len s) + nI (sLen.getD (jF lt len (pS lt len s)) 0) = nI (pS lt len (s + 1)) := nI_add _ _
  have lx : f_X2_letterAt lt (nI len) (nI (pS lt len s)) = lA lt len (pS lt len s) := lA_c hl (by omega)
  have nx : f_X2_numberAt lt (nI len) (nI (pS lt len s) + 1) = nv lt len (pS lt len s + 1) := by rw [nI_1, nmC hl (by omega)]
  have hsen : ∀ x y, f_X2_faultOfSense_L8 lt (nI len) x y (nI (pS lt len s)) = (if f_X2_isSensible lt (nI len) (nI (pS lt len s)) x y = 0 then some (.inr (nI (pS lt len s))) else some (.inl ((if lA lt len (pS lt len s) = 99 then x + 1 else x), (if lA lt len (pS lt len s) = 100 then y + nv lt len (pS lt len s + 1) else y), nI (pS lt len (s + 1))))) := by
    intro x y
    unfold f_X2_faultOfSense_L8 f_X2_faultOfSense_J46 f_X2_faultOfSense_J70
    rw [if_neg (nI_ge e2 (by omega)), lx, nx]
    simp only [bi_s hst, mx_j hj, hnx]
    by_cases h0 : f_X2_isSensible lt (nI len) (nI (pS lt len s)) x y = 0
    · rw [if_pos h0, if_pos h0]
    · rw [if_neg h0, if_neg h0]
      by_cases c1 : lA lt len (pS lt len s) = 99
      · have c2 : ¬ lA lt len (pS lt len s) = 100 := by rw [c1]; decide
        rw [if_pos c1, if_pos c1, if_neg c2, if_neg c2]
      · rw [if_neg c1, if_neg c1]
        by_cases c2 : lA lt len (pS lt len s) = 100
        · rw [if_pos c2, if_pos c2]
        · rw [if_neg c2, if_neg c2]
  rcases ef_all (s := s) (l := l) (t := t) (ca := ca') (cu := cu') (cs := cs') (an := an') (un := un') (sa := sa') (f1 := f1') (f2 := f2') (pa := pa') (dy := dy') hR e2 (by omega) e1 r1 r3 q1 q2 q3 with ⟨w1, w2⟩ | ⟨w1, n'', kd'', fg'', tn'', wd'', hr'', od'', kn'', tu'', hu'', pa'', dy'', ca'', cu'', cs'', cti'', cla'', am'', lw'', an'', un'', sa'', f1'', f2'', w2, w3, w4, w5, w6, w7, w8⟩
  · left
    have k1 := q4 (999 - s + 1)
    have k2 := q6 (999 - s + 1)
    rw [show 999 - s + 1 + s = 1000 by omega] at k1 k2
    refine ⟨s, am', lw', an', un', sa', f1', f2', q3, by omega, ?_, ?_⟩
    · rw [k1]
      refine lp_r ?_
      dsimp only
      rw [hsen, if_pos w1]
    · rw [k2]
      refine lp_r ?_
      dsimp only
      unfold f_X4_gorge_L86
      obtain ⟨g1, g2, g3, g4, g5, g6, g7⟩ := h1
      obtain ⟨p1, p2, p3, p4, p5, p6, p7⟩ := q1
      rw [if_neg (nI_ge hs (by omega)), bi_s w2]
      dsimp only
      rw [if_pos rfl, bi_s (back1 p6 (st3_z _ _ _) p3.1 p3.2.1 p3.2.2.1 p3.2.2.2.1 p3.2.2.2.2 g6 (st3_z _ _ _) g3.1 g3.2.1 g3.2.2.1 g3.2.2.2.1 g3.2.2.2.2 kA_in), gu_t (inB_n (show s < 48 by omega)), cl_n (by omega), r2]
  · right
    refine ⟨n'', kd'', fg'', tn'', wd'', hr'', od'', kn'', tu'', hu'', pa'', dy'', ca'', cu'', cs'', cti'', cla'', am'', lw'', an'', un'', sa'', f1'', f2'', w4, w5, w6, fun fuel => ?_, fun fuel => ?_, fun fuel => ?_⟩
    · have k1 := q4 (fuel + 1)
      rw [show fuel + 1 + s = fuel + (s + 1) by omega] at k1
      rw [k1, w7, w8]
      refine lp_l ?_
      dsimp only
      rw [hsen, if_neg w1]
    · have k1 := q5 (fuel + 1)
      rw [show fuel + 1 + s = fuel + (s + 1) by omega] at k1
      rw [k1]
      refine lp_l ?_
      dsimp only
      unfold f_X2_comeTo_L4
      rw [if_neg (nI_ge e2 (by omega)), bi_s w2, bi_s hst, mx_j hj, hnx, nI_1]
    · have k1 := q6 (fuel + 1)
      rw [show fuel + 1 + s = fuel + (s + 1) by omega] at k1
      rw [k1]
      refine lp_l ?_
      dsimp only
      unfold f_X4_gorge_L86
      rw [if_neg (nI_ge hs (by omega)), bi_s w3]
      dsimp only
      rw [if_neg nz1, nI_1]
theorem g_all {lt l la t kept : Nat → Int32} {len N pe n : Nat} {kd fg tn wd hr od kn : Nat → Int32} {tu hu pa dy ca cu cs : Int32} {cti cla am lw : Nat → Int32} {an un sa f1 f2 : Int32} (hR : RT len lt) (hg : gdN lt len N) (hN : N ≤ 34) (hr0 : RdN lt len N l la t) (h1 : RM n kd fg tn wd hr od kn tu hu) (h2 : TZ cti cla) (h3 : TZ am lw) : ∀ s, s ≤ N → gX lt l la t kept len N pe n kd fg tn wd hr od kn tu hu pa dy ca cu cs cti cla am lw an un sa f1 f2 ∨ gQ lt l la t kept len N pe n kd fg tn wd hr od kn tu hu pa dy ca cu cs cti cla am lw an un sa f1 f2 s
  | 0, _ => Or.inr ⟨n, kd, fg, tn, wd, hr, od, kn, tu, hu, pa, dy, ca, cu, cs, cti, cla, am, lw, an, un, sa, f1, f2, h1, h2, h3, fun _ => rfl, fun _ => rfl, fun _ => rfl⟩
  | s + 1, hs => by
    rcases g_all hR hg hN hr0 h1 h2 h3 s (by omega) with h | h
    · exact Or.inl h
    · exact g_step hR hg hN hr0 h1 (by omega) h
set_option maxHeartbeats 4000000 in
set_option maxRecDepth 4000 in
theorem sim_gorge {n len r : Nat} {x_imageTaken : Int32} {d_callers : Int32} {d_kinds : Nat → Int32} {d_figures : Nat → Int32} {d_tones : Nat → Int32} {d_words : Nat → Int32} {d_hours : Nat → Int32} {d_order : Nat → Int32} {d_known : Nat → Int32} {d_tune : Int32} {d_hurt : Int32} {d_patience : Int32} {d_day : Int32} {d_answered : Int32} {d_unanswered : Int32} {d_said : Int32} {d_times : Nat → Int32} {d_last : Nat → Int32} {n_answered : Int32} {n_unanswered : Int32} {n_said : Int32} {n_times : Nat → Int32} {n_last : Nat → Int32} {t_letters : Nat → Int32} {x_told : Nat → Int32} {x_refusals : Nat → Int32} {k_callers : Int32} {k_kinds : Nat → Int32} {k_figures : Nat → Int32} {k_tones : Nat → Int32} {k_words : Nat → Int32} {k_hours : Nat → Int32} {k_order : Nat → Int32} {k_known : Nat → Int32} {k_tune : Int32} {k_hurt : Int32} {k_patience : Int32} {k_day : Int32} {k_answered : Int32} {k_unanswered : Int32} {k_said : Int32} {k_times : Nat → Int32} {k_last : Nat → Int32} {kd : Nat → Int32} {fg : Nat → Int32} {tn : Nat → Int32} {wd : Nat → Int32} {hr : Nat → Int32} {od : Nat → Int32} {kn : Nat → Int32} {tu : Int32} {hu : Int32} {pa : Int32} {dy : Int32} {m_refused : Nat → Int32} {m_letter : Nat → Int32} {m_letterAt : Nat → Int32} {m_told : Nat → Int32} {m_at : Int32} {m_statements : Int32} {m_kept : Nat → Int32} {m_isKeeping : Int32} {m_cursor : Int32} {m_answeredMany : Nat → Int32} {m_lastWord : Nat → Int32} {m_answered : Int32} {m_unanswered : Int32} {m_saidWords : Int32} {m_isCalledAtSeven : Int32} {m_isAnsweredAtSeven : Int32} {m_seen : Nat → Int32} {m_weekAnswers : Int32} {m_weekHurt : Int32} {m_week : Nat → Int32} {m_oneHas : Nat → Int32} {m_otherHas : Nat → Int32} (h1 : RM n kd fg tn wd hr od kn tu hu) (h2 : GZ d_kinds d_figures d_tones d_words d_hours d_order d_known) (h3 : TZ d_times d_last) (h4 : TZ n_times n_last) (h5 : GZ k_kinds k_figures k_tones k_words k_hours k_order k_known) (h6 : RI x_imageTaken m_kept k_callers k_kinds k_figures k_tones k_words k_hours k_order k_known k_tune k_hurt k_patience k_day) (h7 : RT len t_letters) (h8 : RR r x_told) (h9 : RF x_refusals m_refused) (h10 : TZ m_answeredMany m_lastWord)  : ∃ o o', f_X3_gorge (nI n) kd fg tn wd hr od kn tu hu pa dy n_answered n_unanswered n_said n_times n_last t_letters (nI len) = some o ∧ f_X4_gorge kn (st3 tu hu pa) kd fg tn wd hr (nI n) dy t_letters m_letter m_letterAt m_told (nI len) m_kept m_isKeeping m_cursor m_answeredMany m_lastWord 0 m_answered m_unanswered m_saidWords m_isCalledAtSeven m_isAnsweredAtSeven = some o' ∧ o'.1 = o.1 ∧ Rel x_imageTaken (nI r) d_callers d_kinds d_figures d_tones d_words d_hours d_order d_known d_tune d_hurt d_patience d_day d_answered d_unanswered d_said d_times d_last (o.2.1) (o.2.2.1) (o.2.2.2.1) (o.2.2.2.2.1) (o.2.2.2.2.2.1) (o.2.2.2.2.2.2.1) (o.2.2.2.2.2.2.2.1) (o.2.2.2.2.2.2.2.2.1) (o.2.2.2.2.2.2.2.2.2.1) (o.2.2.2.2.2.2.2.2.2.2.1) (o.2.2.2.2.2.2.2.2.2.2.2.1) (o.2.2.2.2.2.2.2.2.2.2.2.2.1) (o.2.2.2.2.2.2.2.2.2.2.2.2.2.1) (o.2.2.2.2.2.2.2.2.2.2.2.2.2.2.1) (o.2.2.2.2.2.2.2.2.2.2.2.2.2.2.2.1) (o.2.2.2.2.2.2.2.2.2.2.2.2.2.2.2.2.1) (o.2.2.2.2.2.2.2.2.2.2.2.2.2.2.2.2.2.1) t_letters (o.2.2.2.2.2.2.2.2.2.2.2.2.2.2.2.2.2.2) x_told x_refusals k_callers k_kinds k_figures k_tones k_words k_hours k_order k_known k_tune k_hurt k_patience k_day k_answered k_unanswered k_said k_times k_last m_refused (o'.2.1) (o'.2.2.1) (o'.2.2.2.1) (o'.2.2.2.2.1) (o'.2.2.2.2.2.1) (o'.2.2.2.2.2.2.1) (o'.2.2.2.2.2.2.2.1) (o'.2.2.2.2.2.2.2.2.1) (o'.2.2.2.2.2.2.2.2.2.1) t_letters (o'.2.2.2.2.2.2.2.2.2.2.1) (o'.2.2.2.2.2.2.2.2.2.2.2.1) (o'.2.2.2.2.2.2.2.2.2.2.2.2.1) (o'.2.2.2.2.2.2.2.2.2.2.2.2.2.1) (o'.2.2.2.2.2.2.2.2.2.2.2.2.2.2.1) (o'.2.2.2.2.2.2.2.2.2.2.2.2.2.2.2.1) (o'.2.2.2.2.2.2.2.2.2.2.2.2.2.2.2.2.1) x_imageTaken (o'.2.2.2.2.2.2.2.2.2.2.2.2.2.2.2.2.2.1) (o'.2.2.2.2.2.2.2.2.2.2.2.2.2.2.2.2.2.2.1) (o'.2.2.2.2.2.2.2.2.2.2.2.2.2.2.2.2.2.2.2.1) (o'.2.2.2.2.2.2.2.2.2.2.2.2.2.2.2.2.2.2.2.2.1) 0 (o'.2.2.2.2.2.2.2.2.2.2.2.2.2.2.2.2.2.2.2.2.2.1) (o'.2.2.2.2.2.2.2.2.2.2.2.2.2.2.2.2.2.2.2.2.2.2.1) (o'.2.2.2.2.2.2.2.2.2.2.2.2.2.2.2.2.2.2.2.2.2.2.2.1) (o'.2.2.2.2.2.2.2.2.2.2.2.2.2.2.2.2.2.2.2.2.2.2.2.2.1) (o'.2.2.2.2.2.2.2.2.2.2.2.2.2.2.2.2.2.2.2.2.2.2.2.2.2) m_seen m_weekAnswers m_weekHurt m_week x_told (nI r) m_oneHas m_otherHas := by
  have h1' := h1
  obtain ⟨g1, g2, g3, g4, g5, g6, g7⟩ := h1
  obtain ⟨N, hg, he⟩ := exN (lt := t_letters) h7.1
  have hp := pS_in h7.1 hg N (Nat.le_refl _)
  have hN : N ≤ 34 := by omega
  obtain ⟨c1, c2⟩ := form_C h7 hg
  obtain ⟨d1, d2⟩ := form_M (letter := m_letter) (letterAt := m_letterAt) (told := m_told) h7 hg
  unfold f_X3_gorge f_X4_gorge
  rcases he with he | ⟨he, p, hf⟩
  · obtain ⟨l, la, t, em, hrd⟩ := d1 he
    rw [bi_s (c1 he), if_pos rfl, bi_s em]
    unfold f_X4_gorge_J60 f_X2_faultOfSense
    dsimp only
    rw [if_neg nz1, bi_s (keep1 kn (st3 tu hu pa) kd fg tn wd hr m_kept (nI n) dy)]
    dsimp only
    rcases g_all (pe := pS t_letters len N) (kept := m_kept) (ca := n_answered) (cu := n_unanswered) (cs := n_said) (pa := pa) (dy := dy) (an := m_answered) (un := m_unanswered) (sa := m_saidWords) (f1 := m_isCalledAtSeven) (f2 := m_isAnsweredAtSeven) h7 hg hN hrd h1' h4 h10 N (Nat.le_refl _) with ⟨K, am', lw', an', un', sa', f1', f2', x1, x2, x3, x4⟩ | ⟨n', kd', fg', tn', wd', hr', od', kn', tu', hu', pa', dy', ca', cu', cs', cti', cla', am', lw', an', un', sa', f1', f2', q1, q2, q3, q4, q5, q6⟩
    · rw [bi_s x3]
      unfold f_X3_gorge_J40 f_X3_gorge_J83
      rw [if_pos rfl, if_neg (fun q => n9_ne (w := pS t_letters len K) (by omega) q.symm)]
      exact ⟨_, _, rfl, x4, rfl, mkRel (len := 0) h1' h2 h3 h4 h5 (h6.same (fun j hj => kA_out (by omega))) ⟨Nat.zero_le _, fun i hi => absurd hi (Nat.not_lt_zero _)⟩ h8 h9 x1⟩
    · have k1 := q4 (999 - N + 1)
      have k2 := q5 (999 - N + 1)
      have k3 := q6 (999 - N + 1)
      rw [show 999 - N + 1 + N = 1000 by omega] at k1 k2 k3
      have y1 := k1.trans (lp_r (m := 999 - N) (b := -9) (by
        dsimp only
        unfold f_X2_faultOfSense_L8
        rw [if_pos (nI_le he.2 (by omega))]))
      have y2 := k2.trans (lp_r (m := 999 - N) (b := (nI N, nI n', kd', fg', tn', wd', hr', od', kn', tu', hu', pa', dy', ca', cu', cs', cti', cla')) (by
        dsimp only
        unfold f_X2_comeTo_L4
        rw [if_pos (nI_le he.2 (by omega))]))
      have y3 := k3.trans (lp_r (m := 999 - N) (b := (nI N, kn', st3 tu' hu' pa', kd', fg', tn', wd', hr', nI n', dy', l, la, t, 0, nI (pS t_letters len N), nI N, (kA m_kept 50 kn (st3 tu hu pa) kd fg tn wd hr (nI n) dy), 1, 98, am', lw', an', un', sa', f1', f2')) (by
        dsimp only
        unfold f_X4_gorge_L86
        rw [if_pos (nI_le (Nat.le_refl N) (by omega))]))
      rw [bi_s y1]
      unfold f_X3_gorge_J40 f_X2_comeTo f_X3_gorge_J83
      rw [if_pos rfl, if_pos rfl, bi_s y2]
      dsimp only
      exact ⟨_, _, rfl, y3, rfl, mkRel (len := 0) q1 h2 h3 q2 h5 (h6.same (fun j hj => kA_out (by omega))) ⟨Nat.zero_le _, fun i hi => absurd hi (Nat.not_lt_zero _)⟩ h8 h9 q3⟩
  · obtain ⟨l, la, t, em⟩ := d2 p he hf
    have hpb : p < 2000 := by
      have hx : ∀ (ls : List Int32) (a : Nat), fz t_letters len ls a = some p → p ≤ a + ls.length := by
        intro ls
        induction ls with
        | nil => intro a h; exact absurd h (by simp [fz])
        | cons q ls ih =>
          intro a h
          by_cases ho : okc q (lA t_letters len a) = true
          · rw [fz_t ho] at h
            have := ih _ h
            simp only [List.length_cons]
            omega
          · rw [fz_f ho] at h
            have := Option.some.inj h
            omega
      unfold sF at hf
      by_cases h7' : jF t_letters len (pS t_letters len N) = 7
      · rw [if_pos h7'] at hf
        have := Option.some.inj hf
        omega
      · rw [if_neg h7'] at hf
        have := hx _ _ hf
        have hfm : ∀ j : Fin 8, (fm j.val).length ≤ 8 := by decide
        have := hfm ⟨jF t_letters len (pS t_letters len N), by have := jF_le t_letters len (pS t_letters len N); omega⟩
        dsimp only at this
        omega
    have hn9 : ¬ nI p = -9 := fun q => n9_ne (w := p) (by omega) q.symm
    rw [bi_s (c2 p he hf), if_neg hn9, bi_s em]
    unfold f_X4_gorge_J60 f_X3_gorge_J40 f_X3_gorge_J83
    dsimp only
    rw [if_pos rfl, if_neg hn9]
    exact ⟨_, _, rfl, rfl, rfl, mkRel (len := 0) h1' h2 h3 h4 h5 h6 ⟨Nat.zero_le _, fun i hi => absurd hi (Nat.not_lt_zero _)⟩ h8 h9 h10⟩
