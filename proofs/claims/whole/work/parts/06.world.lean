def hC (G : GP) (q : Nat → Nat) (k : Nat) (g_answered : Int32) (g_unanswered : Int32) (g_said : Int32) (g_times : Nat → Int32) (g_last : Nat → Int32) : va_W := [((q k), .inr (1, [.int g_answered, .int g_unanswered, .int g_said, .ref (q (k + 1)), .ref (q (k + 2))])), ((q (k + 1)), .inl (G.2.1, 7, .inl g_times)), ((q (k + 2)), .inl (G.2.1, 7, .inl g_last))]
def gC (G : GP) (q : Nat → Nat) (k : Nat) (g_callers : Int32) (g_kinds : Nat → Int32) (g_figures : Nat → Int32) (g_tones : Nat → Int32) (g_words : Nat → Int32) (g_hours : Nat → Int32) (g_order : Nat → Int32) (g_known : Nat → Int32) (g_tune : Int32) (g_hurt : Int32) (g_patience : Int32) (g_day : Int32) (g_answered : Int32) (g_unanswered : Int32) (g_said : Int32) (g_times : Nat → Int32) (g_last : Nat → Int32) : va_W := [((q k), .inr (0, [.int g_callers, .ref (q (k + 1)), .ref (q (k + 2)), .ref (q (k + 3)), .ref (q (k + 4)), .ref (q (k + 5)), .ref (q (k + 6)), .ref (q (k + 7)), .int g_tune, .int g_hurt, .int g_patience, .int g_day, .ref (q (k + 8))])), ((q (k + 1)), .inl (G.2.1, 7, .inl g_kinds)), ((q (k + 2)), .inl (G.2.1, 7, .inl g_figures)), ((q (k + 3)), .inl (G.2.1, 7, .inl g_tones)), ((q (k + 4)), .inl (G.2.1, 7, .inl g_words)), ((q (k + 5)), .inl (G.2.1, 7, .inl g_hours)), ((q (k + 6)), .inl (G.2.1, 7, .inl g_order)), ((q (k + 7)), .inl (G.2.1, 8, .inl g_known)), ((q (k + 8)), .inr (1, [.int g_answered, .int g_unanswered, .int g_said, .ref (q (k + 9)), .ref (q (k + 10))])), ((q (k + 9)), .inl (G.2.1, 7, .inl g_times)), ((q (k + 10)), .inl (G.2.1, 7, .inl g_last))]
def tC (G : GP) (q : Nat → Nat) (k : Nat) (t_letters : Nat → Int32) (t_length : Int32) : va_W := [((q k), .inr (2, [.ref (q (k + 1)), .int t_length])), ((q (k + 1)), .inl (G.2.1, 96, .inl t_letters))]
def aC (G : GP) (a nn : Nat) (a_f : Nat → Int32) : va_W := [(a, .inl (G.2.1, nn, .inl a_f))]
def xC (G : GP) (q : Nat → Nat) (x_imageTaken : Int32) (x_toldCount : Int32) (d_callers : Int32) (d_kinds : Nat → Int32) (d_figures : Nat → Int32) (d_tones : Nat → Int32) (d_words : Nat → Int32) (d_hours : Nat → Int32) (d_order : Nat → Int32) (d_known : Nat → Int32) (d_tune : Int32) (d_hurt : Int32) (d_patience : Int32) (d_day : Int32) (d_answered : Int32) (d_unanswered : Int32) (d_said : Int32) (d_times : Nat → Int32) (d_last : Nat → Int32) (n_callers : Int32) (n_kinds : Nat → Int32) (n_figures : Nat → Int32) (n_tones : Nat → Int32) (n_words : Nat → Int32) (n_hours : Nat → Int32) (n_order : Nat → Int32) (n_known : Nat → Int32) (n_tune : Int32) (n_hurt : Int32) (n_patience : Int32) (n_day : Int32) (n_answered : Int32) (n_unanswered : Int32) (n_said : Int32) (n_times : Nat → Int32) (n_last : Nat → Int32) (t_letters : Nat → Int32) (t_length : Int32) (x_told : Nat → Int32) (x_refusals : Nat → Int32) (k_callers : Int32) (k_kinds : Nat → Int32) (k_figures : Nat → Int32) (k_tones : Nat → Int32) (k_words : Nat → Int32) (k_hours : Nat → Int32) (k_order : Nat → Int32) (k_known : Nat → Int32) (k_tune : Int32) (k_hurt : Int32) (k_patience : Int32) (k_day : Int32) (k_answered : Int32) (k_unanswered : Int32) (k_said : Int32) (k_times : Nat → Int32) (k_last : Nat → Int32) : va_W := ((q 0), .inr (3, [.ref (q 12), .ref (q 1), .ref (q 27), .int x_imageTaken, .ref (q 23), .ref (q 25), .int x_toldCount, .ref (q 26)])) :: (gC G q 1 d_callers d_kinds d_figures d_tones d_words d_hours d_order d_known d_tune d_hurt d_patience d_day d_answered d_unanswered d_said d_times d_last ++ (gC G q 12 n_callers n_kinds n_figures n_tones n_words n_hours n_order n_known n_tune n_hurt n_patience n_day n_answered n_unanswered n_said n_times n_last ++ (tC G q 23 t_letters t_length ++ ([((q 25), .inl (G.2.1, 12, .inl x_told)), ((q 26), .inl (G.2.1, 6, .inl x_refusals))] ++ gC G q 27 k_callers k_kinds k_figures k_tones k_words k_hours k_order k_known k_tune k_hurt k_patience k_day k_answered k_unanswered k_said k_times k_last))))
def mC (G : GP) (q : Nat → Nat) (m_refused : Nat → Int32) (m_known : Nat → Int32) (m_setting : Nat → Int32) (m_kind : Nat → Int32) (m_figure : Nat → Int32) (m_tone : Nat → Int32) (m_word : Nat → Int32) (m_hours : Nat → Int32) (m_callers : Int32) (m_day : Int32) (m_tape : Nat → Int32) (m_letter : Nat → Int32) (m_letterAt : Nat → Int32) (m_told : Nat → Int32) (m_taped : Int32) (m_at : Int32) (m_statements : Int32) (m_kept : Nat → Int32) (m_hasImage : Int32) (m_isKeeping : Int32) (m_cursor : Int32) (m_answeredMany : Nat → Int32) (m_lastWord : Nat → Int32) (m_away : Int32) (m_answered : Int32) (m_unanswered : Int32) (m_saidWords : Int32) (m_isCalledAtSeven : Int32) (m_isAnsweredAtSeven : Int32) (m_seen : Nat → Int32) (m_weekAnswers : Int32) (m_weekHurt : Int32) (m_week : Nat → Int32) (m_row : Nat → Int32) (m_rowMany : Int32) (m_oneHas : Nat → Int32) (m_otherHas : Nat → Int32) : va_W := [((q 0), .inr (4, [.ref (q 1), .ref (q 2), .ref (q 3), .ref (q 4), .ref (q 5), .ref (q 6), .ref (q 7), .ref (q 8), .int m_callers, .int m_day, .ref (q 9), .ref (q 10), .ref (q 11), .ref (q 12), .int m_taped, .int m_at, .int m_statements, .ref (q 13), .int m_hasImage, .int m_isKeeping, .int m_cursor, .ref (q 14), .ref (q 15), .int m_away, .int m_answered, .int m_unanswered, .int m_saidWords, .int m_isCalledAtSeven, .int m_isAnsweredAtSeven, .ref (q 16), .int m_weekAnswers, .int m_weekHurt, .ref (q 17), .ref (q 18), .int m_rowMany, .ref (q 19), .ref (q 20)])), ((q 1), .inl (G.2.1, 7, .inl m_refused)), ((q 2), .inl (G.2.1, 8, .inl m_known)), ((q 3), .inl (G.2.1, 3, .inl m_setting)), ((q 4), .inl (G.2.1, 7, .inl m_kind)), ((q 5), .inl (G.2.1, 7, .inl m_figure)), ((q 6), .inl (G.2.1, 7, .inl m_tone)), ((q 7), .inl (G.2.1, 7, .inl m_word)), ((q 8), .inl (G.2.1, 7, .inl m_hours)), ((q 9), .inl (G.2.1, 96, .inl m_tape)), ((q 10), .inl (G.2.1, 48, .inl m_letter)), ((q 11), .inl (G.2.1, 48, .inl m_letterAt)), ((q 12), .inl (G.2.1, 240, .inl m_told)), ((q 13), .inl (G.2.1, 150, .inl m_kept)), ((q 14), .inl (G.2.1, 7, .inl m_answeredMany)), ((q 15), .inl (G.2.1, 7, .inl m_lastWord)), ((q 16), .inl (G.2.1, 11, .inl m_seen)), ((q 17), .inl (G.2.1, 12, .inl m_week)), ((q 18), .inl (G.2.1, 12, .inl m_row)), ((q 19), .inl (G.2.1, 4, .inl m_oneHas)), ((q 20), .inl (G.2.1, 4, .inl m_otherHas))]
theorem lp_b {α β : Type} {f : α → Option (α ⊕ β)} {n : Nat} {y : α ⊕ β} {x : β} {a : α} (hc : (∃ b, y = .inl b ∧ lp f n b = some x) ∨ y = .inr x) (hE : y = .inl a) : lp f n a = some x := by
  rcases hc with ⟨b, h1, h2⟩ | h1
  · rw [hE] at h1; cases h1; exact h2
  · rw [hE] at h1; cases h1
theorem lp_x {α β : Type} {y : α ⊕ β} {P : α → Prop} {x z : β} (hc : (∃ b, y = .inl b ∧ P b) ∨ y = .inr x) (hE : y = .inr z) : x = z := by
  rcases hc with ⟨b, h1, h2⟩ | h1
  · rw [hE] at h1; cases h1
  · rw [hE] at h1; cases h1; rfl
theorem Wx.perm {G : GP} {A : Nat → Prop} {ws ws' : va_W} {s : State} {H : Heap} {locs : List Loc} (hp : ws.Perm ws') (h : Wx G A ws s H locs) : Wx G A ws' s H locs := by
  obtain ⟨⟨h1, h2, h3⟩, h4⟩ := h
  rw [vaP_mem] at h2
  rw [vaD_mem] at h3
  exact ⟨⟨h1, vaP_mem.mpr (fun q hq => h2 q (hp.mem_iff.mpr hq)), vaD_mem.mpr ⟨(hp.map Prod.fst).nodup_iff.mp h3.1, fun q hq => h3.2 q (hp.mem_iff.mpr hq)⟩⟩, h4⟩
section CORE3
variable {p : Program} {l : Launch} {e : Env} {R : Room} {s : State} {m : MethodId} {args : Array Value} {below : List Frame} {meth : Method} {c : Code} {H : Heap} {locs : List Loc} {cells slots : Nat} {Q : State → Prop} {G : GP} {A : Nat → Prop} {cc : ByteArray} {nL : Nat} {own : String} {pc : Nat} {ls : Array Slot} {rest : List Value}
theorem tsw_d {dflt lo hi : Int} {offs : Array Int} {len : Nat} {x : Int32} {tgt n : Nat} (hx : p.tables.exec = Jvm.exec) (hb : c.code = cc) (hdg : decode cc pc = .ok (.tableswitch dflt lo hi offs, len)) (hn : offs.size = n) (hh : hi = lo + n - 1) (h : ∀ j : Nat, j < n → offs[j]? = some dflt ∨ ¬ x.toInt = lo + (j : Int)) (ht : (pc : Int) + dflt = (tgt : Int))
    (k : W p l e R s m args below meth c H locs cells slots Q (F0 m tgt ls rest)) : W p l e R s m args below meth c H locs cells slots Q (F0 m pc ls (.int x :: rest)) := by
  by_cases h1 : x.toInt < lo ∨ hi < x.toInt
  · exact lv_tableOut hx hb hdg h1 ht k
  · have h2 : ¬ x.toInt < lo := fun q => h1 (Or.inl q)
    have h3 : ¬ hi < x.toInt := fun q => h1 (Or.inr q)
    have hj : (x.toInt - lo).toNat < n := by omega
    rcases h _ hj with h4 | h4
    · exact lv_tableIn hx hb hdg h2 h3 h4 ht k
    · exact absurd (by omega) h4
theorem retR {w' : va_W} {v ra : Nat} {cn : String} (K : Cx p s m args meth c A G cc nL own (some (.object cn))) (hw : Wx G A w' s H locs) (hv : v = ra) (hd : decode cc pc = .ok (.areturn, 1)) : W p l e R s m args below meth c H locs 0 0 (MQ below (QR G A w' ra) args s 0 0 A) (F0 m pc ls [.ref v]) := by
  subst hv
  exact W.aret K.1.1 K.1.2.1 K.2.1 (Or.inl ⟨_, rfl⟩) (Or.inr ⟨_, rfl⟩) (fun t ht hW => ⟨⟨(), v, rfl, trivial, rfl, by show Wd G A w' t t.heap; rw [ht]; exact hw.1.moved hW.alike⟩, hw.2.F ht⟩) hw.2.2.2 hd K.2.2.1
end CORE3
def f_at (n : Nat) (f : Nat → Int32) (i : Int32) : Int32 := if 0 ≤ i ∧ i < Int32.ofNat n then f i.toNatClampNeg else 0
def f_put (n : Nat) (f : Nat → Int32) (i v : Int32) : Nat → Int32 := if 0 ≤ i ∧ i < Int32.ofNat n then upd f i.toNatClampNeg v else f
theorem at_in {n : Nat} (hn : n < 2 ^ 31) {i : Int32} (h0 : ¬ i < 0) (h1 : ¬ Int32.ofNat n ≤ i) : vp_in i n ∧ (0 ≤ i ∧ i < Int32.ofNat n) := by
  rcases pk_ix i hn with h | h | ⟨j, hj, rfl⟩
  · exact absurd h h0
  · exact absurd h h1
  · exact ⟨vp_in_nI hj hn, nI_pos' (by omega), nI_lt hj hn⟩
theorem at_out {n : Nat} {i : Int32} (h : i < 0 ∨ Int32.ofNat n ≤ i) : ¬ (0 ≤ i ∧ i < Int32.ofNat n) := by
  rintro ⟨h1, h2⟩
  rw [Int32.le_iff_toInt_le] at h1
  rw [Int32.lt_iff_toInt_lt] at h2
  rcases h with h | h
  · rw [Int32.lt_iff_toInt_lt] at h; omega
  · rw [Int32.le_iff_toInt_le] at h; omega
set_option maxHeartbeats 4000000 in
set_option maxRecDepth 100000 in
theorem c_at (l : Launch) (G : GP) (a nn : Nat) (a_f : Nat → Int32) (v1 : Int32) {o : Int32} (h : f_at nn a_f v1 = o) (hn : nn < 2147483648 := by decide) : CtI l yX3_at cX3_at 2 (some .int) ({ frames := 0, cells := 0, slots := 0, locals := 0 } : Room) G (aC G a nn a_f) [.ref a, .int v1] o (aC G a nn a_f) := by
  refine CtI.of (by decide) (Nat.le_of_ble_eq_true rfl) ?_
  intro p e s m below meth c A ls K hl hw
  have hl : lv_has ls 2 [(0, .ref a), (1, .int v1)] := hl
  generalize ([.ref a, .int v1] : List Value).toArray = args at K ⊢
  have hx := K.1.1
  have hb := K.1.2.1
  unfold f_at at h
  refine lv_iload_n hx hb dX3_at_0 rfl (lv_at hl 1 rfl) ?_
  refine lv_if_lt (tgt := 16) hx hb dX3_at_1 (by decide) (fun h1 => ?_) (fun h1 => ?_)
  · have h := ifn (at_out (Or.inl h1)) h
    subst h
    refine lv_iconst (v := 0) hx hb dX3_at_16 (by decide) ?_
    exact retI K hw rfl dX3_at_17
  · refine lv_iload_n hx hb dX3_at_4 rfl (lv_at hl 1 rfl) ?_
    refine lv_aload_n hx hb dX3_at_5 rfl (lv_at hl 0 rfl) ?_
    refine lenX K hw 0 (Int32.ofNat nn) rfl dX3_at_6 rfl ?_
    refine lv_icmp_ge (tgt := 16) hx hb dX3_at_7 (by decide) (fun h2 => ?_) (fun h2 => ?_)
    · have h := ifn (at_out (Or.inr h2)) h
      subst h
      refine lv_iconst (v := 0) hx hb dX3_at_16 (by decide) ?_
      exact retI K hw rfl dX3_at_17
    · obtain ⟨h3, h4⟩ := at_in hn h1 h2
      have h := ifp h4 h
      subst h
      refine lv_aload_n hx hb dX3_at_10 rfl (lv_at hl 0 rfl) ?_
      refine lv_iload_n hx hb dX3_at_11 rfl (lv_at hl 1 rfl) ?_
      refine ialX K hw 0 h3 dX3_at_12 rfl ?_
      refine lv_goto (tgt := 17) hx hb dX3_at_13 (by decide) ?_
      exact retI K hw rfl dX3_at_17
set_option maxHeartbeats 4000000 in
set_option maxRecDepth 100000 in
theorem c_att (l : Launch) (G : GP) (t : Nat) (v1 : Int32) {o : Int32} (h : f_at 6 (tv t) v1 = o) (ht : t < 5 := by decide) : CtI l yX3_at cX3_at 2 (some .int) ({ frames := 0, cells := 0, slots := 0, locals := 0 } : Room) G ([] : va_W) [.ref (G.2.2.1 t), .int v1] o ([] : va_W) := by
  refine CtI.of (by decide) (Nat.le_of_ble_eq_true rfl) ?_
  intro p e s m below meth c A ls K hl hw
  have hl : lv_has ls 2 [(0, .ref (G.2.2.1 t)), (1, .int v1)] := hl
  generalize ([.ref (G.2.2.1 t), .int v1] : List Value).toArray = args at K ⊢
  have hx := K.1.1
  have hb := K.1.2.1
  have hT := (K.2.2.2.2.2.2.1 t ht).2
  unfold f_at at h
  refine lv_iload_n hx hb dX3_at_0 rfl (lv_at hl 1 rfl) ?_
  refine lv_if_lt (tgt := 16) hx hb dX3_at_1 (by decide) (fun h1 => ?_) (fun h1 => ?_)
  · have h := ifn (at_out (Or.inl h1)) h
    subst h
    refine lv_iconst (v := 0) hx hb dX3_at_16 (by decide) ?_
    exact retI K hw rfl dX3_at_17
  · refine lv_iload_n hx hb dX3_at_4 rfl (lv_at hl 1 rfl) ?_
    refine lv_aload_n hx hb dX3_at_5 rfl (lv_at hl 0 rfl) ?_
    refine va_tlen hx hb hT hw.2 (v := Int32.ofNat 6) rfl dX3_at_6 ?_
    refine lv_icmp_ge (tgt := 16) hx hb dX3_at_7 (by decide) (fun h2 => ?_) (fun h2 => ?_)
    · have h := ifn (at_out (Or.inr h2)) h
      subst h
      refine lv_iconst (v := 0) hx hb dX3_at_16 (by decide) ?_
      exact retI K hw rfl dX3_at_17
    · obtain ⟨h3, h4⟩ := at_in (by decide) h1 h2
      have h := ifp h4 h
      subst h
      refine lv_aload_n hx hb dX3_at_10 rfl (lv_at hl 0 rfl) ?_
      refine lv_iload_n hx hb dX3_at_11 rfl (lv_at hl 1 rfl) ?_
      refine va_ti hx hb hT hw.2 h3 rfl dX3_at_12 ?_
      refine lv_goto (tgt := 17) hx hb dX3_at_13 (by decide) ?_
      exact retI K hw rfl dX3_at_17
set_option maxHeartbeats 4000000 in
set_option maxRecDepth 100000 in
theorem c_put (l : Launch) (G : GP) (a nn : Nat) (a_f : Nat → Int32) (v1 v2 : Int32) {o : Nat → Int32} (h : f_put nn a_f v1 v2 = o) (hn : nn < 2147483648 := by decide) : CtV l yX3_put cX3_put 3 ({ frames := 0, cells := 0, slots := 0, locals := 0 } : Room) G (aC G a nn a_f) [.ref a, .int v1, .int v2] (aC G a nn o) := by
  refine CtV.of (by decide) (Nat.le_of_ble_eq_true rfl) ?_
  intro p e s m below meth c A ls K hl hw
  have hl : lv_has ls 3 [(0, .ref a), (1, .int v1), (2, .int v2)] := hl
  generalize ([.ref a, .int v1, .int v2] : List Value).toArray = args at K ⊢
  have hx := K.1.1
  have hb := K.1.2.1
  unfold f_put at h
  refine lv_iload_n hx hb dX3_put_0 rfl (lv_at hl 1 rfl) ?_
  refine lv_if_lt (tgt := 14) hx hb dX3_put_1 (by decide) (fun h1 => ?_) (fun h1 => ?_)
  · have h := ifn (at_out (Or.inl h1)) h
    subst h
    exact retV K hw dX3_put_14
  · refine lv_iload_n hx hb dX3_put_4 rfl (lv_at hl 1 rfl) ?_
    refine lv_aload_n hx hb dX3_put_5 rfl (lv_at hl 0 rfl) ?_
    refine lenX K hw 0 (Int32.ofNat nn) rfl dX3_put_6 rfl ?_
    refine lv_icmp_ge (tgt := 14) hx hb dX3_put_7 (by decide) (fun h2 => ?_) (fun h2 => ?_)
    · have h := ifn (at_out (Or.inr h2)) h
      subst h
      exact retV K hw dX3_put_14
    · obtain ⟨h3, h4⟩ := at_in hn h1 h2
      have h := ifp h4 h
      subst h
      refine lv_aload_n hx hb dX3_put_10 rfl (lv_at hl 0 rfl) ?_
      refine lv_iload_n hx hb dX3_put_11 rfl (lv_at hl 1 rfl) ?_
      refine lv_iload_n hx hb dX3_put_12 rfl (lv_at hl 2 rfl) ?_
      refine iasX K hw 0 h3 dX3_put_13 rfl (fun H locs hw => ?_)
      exact retV K hw dX3_put_14
