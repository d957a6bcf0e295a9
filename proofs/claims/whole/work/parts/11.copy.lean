set_option maxHeartbeats 4000000 in
set_option maxRecDepth 100000 in
theorem c_copy (l : Launch) (G : GP) (a0 a1 n : Nat) (f g : Nat → Int32) (hn : n < 2147483648) : CtV l yX3_copy cX3_copy 2 ({ frames := 1, cells := 0, slots := 0, locals := 60 } : Room) G [(a0, .inl (G.2.1, n, .inl f)), (a1, .inl (G.2.1, n, .inl g))] [.ref a0, .ref a1] [(a0, .inl (G.2.1, n, .inl f)), (a1, .inl (G.2.1, n, .inl (f_copy n f g)))] := by
  refine CtV.of (by decide) (Nat.le_of_ble_eq_true rfl) ?_
  intro p e s m below meth c A ls K hl hw
  have hl : lv_has ls 2 [(0, .ref a0), (1, .ref a1)] := hl
  generalize ([.ref a0, .ref a1] : List Value).toArray = args at K ⊢
  have hx := K.1.1
  have hb := K.1.2.1
  have hml := K.1.2.2.1.trans hl.1.symm
  have hts := K.1.2.2.2.2
  refine lv_aload_n hx hb dX3_copy_0 rfl (lv_at hl 0 rfl) ?_
  refine lv_iconst (v := 0) hx hb dX3_copy_1 (by decide) ?_
  refine lv_aload_n hx hb dX3_copy_2 rfl (lv_at hl 1 rfl) ?_
  refine lv_iconst (v := 0) hx hb dX3_copy_3 (by decide) ?_
  refine lv_aload_n hx hb dX3_copy_4 rfl (lv_at hl 0 rfl) ?_
  refine lenX K hw 0 (Int32.ofNat n) rfl dX3_copy_5 rfl ?_
  refine lv_aload_n hx hb dX3_copy_6 rfl (lv_at hl 1 rfl) ?_
  refine lenX K hw 1 (Int32.ofNat n) rfl dX3_copy_7 rfl ?_
  refine va_mmin hx hb hml K.1.2.2.2.1 (hts _ lk_X3_236) (hts _ st_Mathmin) (hts _ ini_J9) (hts _ cd_Mathmin) (Nat.le_of_ble_eq_true rfl) (Nat.le_of_ble_eq_true rfl) (Nat.zero_le _) (Nat.zero_le _) dX3_copy_8 ?_
  have he : (if Int32.ofNat n < Int32.ofNat n then Int32.ofNat n else Int32.ofNat n) = nI n := by split <;> rfl
  rw [he]
  have hc : (nI n).toNatClampNeg = n := nI_clamp hn
  refine va_copyi (ty := .int) hx hb hml K.1.2.2.2.1 (hts _ lk_X3_239) (hts _ nat_arraycopyName) (hts _ st_arraycopyName) (hts _ ini_J10) hw.1.1 hw.1.2.1 hw.1.2.2 hw.2 0 1 0 0 rfl rfl rfl rfl rfl (by decide) (by decide) (nI_pos hn) (by rw [hc, sb_cl0]; omega) (by rw [hc, sb_cl0]; omega) (fun _ _ => rfl) (Nat.le_of_ble_eq_true rfl) (by decide) dX3_copy_11 (fun H locs hP hD hS => ?_)
  rw [hc, sb_cl0] at hP hD
  exact retV K ⟨⟨hw.1.1, hP, hD⟩, hS⟩ dX3_copy_14
section CALL2
variable {p : Program} {l : Launch} {e : Env} {R : Room} {s : State} {m : MethodId} {args : Array Value} {below : List Frame} {meth : Method} {c : Code} {H : Heap} {locs : List Loc} {cells slots : Nat} {Q : State → Prop} {G : GP} {A : Nat → Prop} {cc : ByteArray} {nL : Nat} {own : String} {rt : Option FieldType} {pc : Nat} {ls : Array Slot} {rest : List Value} {ws : va_W} {idx : Nat}
/-- a row copied into another of the same length, wherever the two lie -/
theorem callCopy {host : String} (K : Cx p s m args meth c A G cc nL own rt) (i j : Nat) {a0 a1 n : Nat} {f g : Nat → Int32} (lk : (own, idx, yX3_copy, host) ∈ NM) (hR : RmOk ({ frames := 1, cells := 0, slots := 0, locals := 60 } : Room) R 2) (hn : n < 2147483648) (hij : (i == j) = false) (hw : Wx G A ws s H locs) (hd : decode cc pc = .ok (.invokestatic idx, 3)) (hsz : ls.size = nL) (hf : cells ≤ R.cells ∧ slots ≤ R.slots) (h0 : ws[i]? = some (a0, .inl (G.2.1, n, .inl f))) (h1 : ws[j]? = some (a1, .inl (G.2.1, n, .inl g))) (hroom : (rest.map fun v => v.category).sum ≤ 8)
    (kk : ∀ (H1 : Heap) (locs1 : List Loc), Wx G A (ws.set j (a1, .inl (G.2.1, n, .inl (f_copy n f g)))) s H1 locs1 → W p l e R s m args below meth c H1 locs1 cells slots Q (F0 m (pc + 3) ls rest)) : W p l e R s m args below meth c H locs cells slots Q (F0 m pc ls (.ref a1 :: .ref a0 :: rest)) := by
  have hne : i ≠ j := by simpa using hij
  have hP := hw.1.2.1
  have hD := hw.1.2.2
  have hPc := hP.sub (ws' := [(a0, .inl (G.2.1, n, .inl f)), (a1, .inl (G.2.1, n, .inl g))]) [i, j] (by simp [h0, h1])
  have hDc := hD.sub (ws' := [(a0, .inl (G.2.1, n, .inl f)), (a1, .inl (G.2.1, n, .inl g))]) [i, j] (by simp [va_nd, hne]) (by simp [h0, h1])
  have hF := va_free (wc := [(a0, .inl (G.2.1, n, .inl f)), (a1, .inl (G.2.1, n, .inl g))]) hD hw.2 K.2.2.2.1 [i, j] (by simp [h0, h1])
  have hts := K.1.2.2.2.2
  obtain ⟨m1, m3, m4, m5⟩ := mt_yX3_copy
  have hpre : ∀ U : State, U.heap = H → s.WarmedH U.vm → PcS G [(a0, .inl (G.2.1, n, .inl f)), (a1, .inl (G.2.1, n, .inl g))] H.size [.ref a0, .ref a1] ([.ref a0, .ref a1] : List Value).toArray U := by
    intro U hU hW
    refine ⟨rfl, by rw [hU], ?_, ?_⟩
    · rw [hU]; exact ⟨hw.1.1.moved hW.alike, hPc, hDc.weaken (fun _ _ _ _ => trivial)⟩
    · rw [hU]; exact ((K.2.2.2.2.kept hw.2.2.1).narrow hF).warm hW
  refine va_callv (va_runSN (n := 2) (As := [.ref a0, .ref a1]) K.1 (c_copy l G a0 a1 n f g hn H.size) ⟨va_cnB 2 hts (good_cons m4) rfl hR.1 hR.2.1 (K.2.2.2.2.2.1 _ lk) (hts _ m3) m5 ⟨hR.2.2.1, hR.2.2.2⟩, hts _ m1, trivial⟩ ⟨PcS.blind, hpre⟩ rfl rfl hsz rfl (lv_room hroom) hd hf) hw.2 (fun q _ h => hF q h) hF ?_
  intro u t H1 locs1 ht hvm hp hB hz hk hS
  rw [ht] at hB
  refine kk H1 locs1 ⟨⟨hw.1.1, ?_, ?_⟩, hS⟩
  · intro k q hq
    rw [List.getElem?_set] at hq
    by_cases hjk : j = k
    · subst hjk
      rw [if_pos rfl] at hq
      have hlt : j < ws.length := (List.getElem?_eq_some_iff.mp h1).1
      rw [if_pos hlt] at hq
      cases hq
      exact hB.2.1 1 _ rfl
    · rw [if_neg hjk] at hq
      by_cases hik : i = k
      · subst hik
        rw [h0] at hq
        cases hq
        exact hB.2.1 0 _ rfl
      · refine (hP k q hq).kept (hk q.1 (hP k q hq).lt (fun hc => ?_))
        rcases vaA_mem.mp hc with hm | hm
        · simp only [List.map_cons, List.map_nil, List.mem_cons, List.not_mem_nil, or_false] at hm
          rcases hm with hm | hm
          · exact hik (hD.1 i k _ _ h0 hq hm.symm)
          · exact hjk (hD.1 j k _ _ h1 hq hm.symm)
        · have := (hP k q hq).lt
          omega
  · rw [vaD_mem] at hD ⊢
    have hm : (ws.set j (a1, .inl (G.2.1, n, .inl (f_copy n f g)))).map Prod.fst = ws.map Prod.fst := by
      rw [List.map_set]
      apply List.ext_getElem?
      intro k
      rw [List.getElem?_set]
      by_cases hjk : j = k
      · subst hjk
        simp only [if_true, List.length_map]
        rw [if_pos (List.getElem?_eq_some_iff.mp h1).1, List.getElem?_map, h1]; rfl
      · rw [if_neg hjk]
    refine ⟨by rw [hm]; exact hD.1, fun q hq => ?_⟩
    have : q.1 ∈ ws.map Prod.fst := by rw [← hm]; exact List.mem_map_of_mem hq
    obtain ⟨z, hz1, hz2⟩ := List.mem_map.mp this
    rw [← hz2]; exact hD.2 z hz1
end CALL2
theorem permK {α : Type} (x : α) (M N T U V : List α) : (x :: (M ++ (N ++ (T ++ (U ++ V))))).Perm ((V ++ N) ++ (x :: (M ++ (T ++ U)))) := by
  have h1 : (x :: (M ++ (N ++ (T ++ (U ++ V))))).Perm (x :: (M ++ (T ++ (U ++ (V ++ N))))) := by
    refine List.Perm.cons x (List.Perm.append_left M ?_)
    have := List.perm_append_comm (l₁ := N) (l₂ := T ++ (U ++ V))
    simpa [List.append_assoc] using this
  refine h1.trans ?_
  have h2 := List.perm_append_comm (l₁ := x :: (M ++ (T ++ U))) (l₂ := V ++ N)
  simpa [List.append_assoc] using h2
theorem permN {α : Type} (x : α) (M N T U V : List α) : (x :: (M ++ (N ++ (T ++ (U ++ V))))).Perm ((N ++ V) ++ (x :: (M ++ (T ++ U)))) := by
  refine (permK x M N T U V).trans ?_
  exact List.Perm.append_right _ List.perm_append_comm
