/-! all runs -/
theorem am_lookup {α β : Type} [BEq α] [LawfulBEq α] {a : α} {b : β} : ∀ {l : List (α × β)}, List.lookup a l = some b → (a, b) ∈ l
  | [], h => by cases h
  | (k, v) :: l, h => by
    rw [List.lookup_cons] at h
    split at h
    · rename_i hk
      cases h
      rw [eq_of_beq hk]
      exact List.mem_cons_self
    · exact List.mem_cons_of_mem _ (am_lookup h)
theorem am_fe_of {y pc : Nat} {q : Bool × Bool × Instr × List Nat} (h : am_fe y pc = some q) : ∃ r, am_Ts[y]? = some r ∧ q.1 = r.2.2.2.2.1 ∧ q.2.1 = r.2.2.2.2.2.1 ∧ am_dec r.2.1 pc q.2.2.1 = true ∧ am_chkI r.1.cls r.1.name pc q.2.2.1 q.2.2.2 = true ∧ am_chkT r.2.2.2.1 q.2.2.1 = true := by
  unfold am_fe at h
  split at h
  · rename_i r hr
    split at h
    · rename_i w hw
      cases h
      have h1 := am_Q r (List.mem_of_getElem? hr)
      unfold am_chkR at h1
      have h2 := List.all_eq_true.mp h1 _ (am_lookup hw)
      simp only [Bool.and_eq_true] at h2
      exact ⟨r, hr, rfl, rfl, h2.1, h2.2.1, h2.2.2⟩
    · cases h
  · cases h
theorem am_chkM_of {r : am_Row} {p : Nat × List Nat} (h : am_chkM r p = true) : (r.1.cls ≠ "java/lang/invoke/MethodHandle" ∧ r.1.cls ≠ "java/lang/invoke/VarHandle") ∧ plainFor r.1 = true ∧ r.2.2.1 ≤ 20 ∧ r.2.2.2.2.2.1 = decide (r.2.2.2.1 = some .boolean) ∧ Cond.initialized r.1.cls ∈ am_ws ∧ (p.1 = 0 → Cond.instanceMethod r.1 ∈ am_ws ∧ Cond.selects r.1.cls r.1 r.1 ∈ am_ws) ∧ (p.1 = 1 → Cond.instanceMethod r.1 ∈ am_ws ∧ r.1.name = "<init>" ∧ r.2.2.2.1 = none) ∧ (p.1 = 2 → Cond.static r.1 ∈ am_ws) := by
  unfold am_chkM at h
  simp only [Bool.and_eq_true, decide_eq_true_eq] at h
  obtain ⟨h1, h2, h3, h4, h5, h6⟩ := h
  refine ⟨⟨h1, h2⟩, h3, Nat.le_of_ble_eq_true h4, h5, ?_⟩
  split at h6
  · simp only [Bool.and_eq_true, decide_eq_true_eq] at h6
    obtain ⟨a, b, c, d⟩ := h6
    exact ⟨am_wd_in b, fun _ => ⟨am_wd_in a, am_wd_in c⟩, fun e => (by cases e), fun e => (by cases e)⟩
  · simp only [Bool.and_eq_true, decide_eq_true_eq] at h6
    obtain ⟨a, b, c, d⟩ := h6
    exact ⟨am_wd_in b, fun e => (by cases e), fun _ => ⟨am_wd_in a, c, d⟩, fun e => (by cases e)⟩
  · simp only [Bool.and_eq_true] at h6
    obtain ⟨a, b⟩ := h6
    exact ⟨am_wd_in b, fun e => (by cases e), fun e => (by cases e), fun _ => am_wd_in a⟩
  · cases h6
theorem am_np_of {r : am_Row} {n : Nat} (h : am_np r n = true) : ∀ sig, parseMethodDescriptor r.1.desc = some sig → n = sig.parameters.length := by
  intro sig hs
  unfold am_np at h
  rw [hs] at h
  exact (Nat.eq_of_beq_eq_true h).symm
theorem am_pu_map {b S0 : Nat} (v : Option Value) (r : List Value) : (am_pu v r).map (am_cv b S0) = (v.map (am_cv b S0)).toList ++ r.map (am_cv b S0) := by
  cases v <;> rfl
section RUNS
variable {p : Program} {l : Launch} {e : Env} {R : Room} {s : State} {m : MethodId} {args : Array Value} {below : List Frame} {meth : Method} {c : Code} {Q : State → Prop} {D : va_G} {cy : Nat → ClassId} {X : am_X} {b S0 : Nat} {H : Heap} {locs : List Loc} {cells slots mc ms : Nat}
theorem am_callW {pc : Nat} {ls : Array Slot} {st0 rest : List Value} {v : Option Value} {σ' : am_M} {a : Array Value} (hr : va_Run p l e R s m args below meth c H locs cells slots mc ms (F0 m pc ls st0) rest (am_Qc D cy b S0 v σ' a) (fun q => S0 ≤ q)) (hS : va_S (fun q => S0 ≤ q) s.heap H locs)
    (kk : ∀ (H1 : Heap) (locs1 : List Loc), am_H D cy S0 σ' H1 → va_S (fun q => S0 ≤ q) s.heap H1 locs1 → W p l e R s m args below meth c H1 locs1 (cells + mc) (slots + ms) Q (F0 m (pc + 3) ls ((v.map (am_cv b S0)).toList ++ rest))) : W p l e R s m args below meth c H locs cells slots Q (F0 m pc ls st0) := by
  intro T hT X
  obtain ⟨v', st₀, t, T', L, h0, X', hL, e1, e2, ⟨hv, hh, hz, hk⟩, st⟩ := hr T hT X
  cases hv
  rw [h0] at hz hk
  obtain ⟨t2, a1, b1⟩ := kk T'.heap (locs ++ L) (by rw [e1]; exact hh)
    ⟨Nat.le_trans hS.1 (by rw [e1]; exact hz), fun q h1 h2 => by rw [e1, hk q (Nat.lt_of_lt_of_le h1 hS.1) h2]; exact hS.2.1 q h1 h2, fun q hq => by
      rcases List.mem_append.mp hq with h | h
      · exact hS.2.2 q h
      · exact hL q h⟩ T' rfl X'
  exact ⟨t2, st t2 a1, b1⟩
theorem am_blind {as : List Value} {σ : am_M} : FrameBlind (am_Pc D cy b S0 as σ) := fun a U g mk q => ⟨q.1, q.2.1, am_Env_same (s := U) (U := U.calling g mk a) rfl q.2.2⟩
theorem am_good (rz : am_Row) (h : am_cd rz ∈ am_ws) : GoodIn am_ws (am_cd rz :: am_ws) := fun w hw => by
  have h1 : w ∈ am_ws := by
    rcases List.mem_cons.mp hw with h2 | h2
    · rw [h2]; exact h
    · exact h2
  exact ⟨h1, good_of_word (List.mem_filter.mp h1).2⟩
theorem am_mL {z : Nat} {rz : am_Row} (h : am_Ts[z]? = some rz) : rz.2.2.1 ≤ 11 := by
  have h1 : (am_Ts.all fun r => Nat.ble r.2.2.1 11) = true := by decide +kernel
  exact Nat.le_of_ble_eq_true (List.all_eq_true.mp h1 _ (List.mem_of_getElem? h))
theorem am_callB {own : String} {ix d n w z : Nat} {rz : am_Row} {pz : Nat × List Nat} (hmL : rz.2.2.1 ≤ 11) (hts : ∀ w ∈ am_ws, w.before args s = true) (hR : d + 1 + 1 ≤ R.frames ∧ 30 * (d + 1) + 40 ≤ R.locals) (hM : am_okM rz pz) (hw : am_wd w (.methodLink own ix rz.1) = true) (hnp : am_np rz n = true) : CallB R s args own ix rz.1 rz.2.1 rz.2.2.1 rz.2.2.2.1 (am_cd rz :: am_ws) (am_rm d mc ms) mc ms n := by
  obtain ⟨h1, h2, h3, h4, h5, -⟩ := am_chkM_of hM.1
  refine ⟨rfl, rfl, hR.1, ?_, pay_in hts (am_good rz hM.2), List.mem_cons_self, hts _ hM.2, hts _ h5, h1, am_np_of hnp, hts _ (am_wd_in hw)⟩
  show 8 + (rz.2.2.1 + 11) + (30 * d + 40) ≤ R.locals
  omega
theorem am_callN {own : String} {ix d n w z : Nat} {rz : am_Row} {pz : Nat × List Nat} (hmL : rz.2.2.1 ≤ 11) (hts : ∀ w ∈ am_ws, w.before args s = true) (hE : am_Env D cy s) (hR : d + 1 + 1 ≤ R.frames ∧ 30 * (d + 1) + 40 ≤ R.locals) (hM : am_okM rz pz) (hw : Cond.methodLinkNest own ix rz.1 "SoundToll" ∈ am_nest) (hnp : am_np rz n = true) : va_CN R s args own ix rz.1 "SoundToll" rz.2.1 rz.2.2.1 rz.2.2.2.1 (am_cd rz :: am_ws) (am_rm d mc ms) mc ms n := by
  obtain ⟨h1, h2, h3, h4, h5, -⟩ := am_chkM_of hM.1
  refine ⟨⟨rfl, rfl, hR.1, ?_, pay_in hts (am_good rz hM.2), List.mem_cons_self⟩, hts _ hM.2, hts _ h5, h1, am_np_of hnp, va_Nw.use rfl (hE.2.1 _ hw)⟩
  show 8 + (rz.2.2.1 + 11) + (30 * d + 40) ≤ R.locals
  omega
end RUNS
set_option maxHeartbeats 4000000 in
theorem am_PW_all (X : am_X) (D : va_G) (cy : Nat → ClassId) (b S0 : Nat) (l : Launch) : ∀ n, am_PW X D cy b S0 l n := by
  intro n
  induction n with
  | zero => intro d y pc L st σ v σ' r hr h; cases h
  | succ n ih =>
    intro d y pc L st σ v σ' r hr hrun p e R s m args below meth c Q H locs ls cells slots C hH hS hL hR hA hcs hcl hsl hret
    rw [am_run_succ] at hrun
    cases ha : am_at X y pc L st σ with
    | none => rw [ha] at hrun; cases hrun
    | some a =>
      rw [ha] at hrun
      unfold am_at at ha
      split at ha
      · rename_i q hq
        obtain ⟨r', hr', hg, hbz, hdec, hchk, hT⟩ := am_fe_of hq
        cases hr.symm.trans hr'
        obtain ⟨g, bz, ins, x⟩ := q
        dsimp only at hg hbz hdec hchk hT ha
        subst hg
        subst hbz
        have hp := am_step_post ha
        rcases a with q | q | q
        · obtain ⟨pc', L', st', σ1⟩ := q
          dsimp only at hrun
          have hl := am_run_len X n _ _ _ _ _ _ _ _ hrun
          have hp1 : (am_S σ).length ≤ (am_S σ1).length ∧ am_nS σ ≤ am_nS σ1 := hp
          refine sm_all C ins x pc L st σ pc' L' st' σ1 H locs ls cells slots hdec hchk ha hH hS hL ⟨by omega, by omega⟩ hA hcs (by omega) (by omega) ?_
          intro H' locs' ls' cells' slots' hH' hS' hL' hcs' hsl'
          exact ih d y pc' L' st' σ1 v σ' r hr hrun p e R s m args below meth c Q H' locs' ls' cells' slots' C hH' hS' hL' hR hA hcs' (by omega) (by omega) (fun pcr ins H'' locs'' ls'' cells'' slots'' h1 h2 h3 h4 h5 h6 h7 => hret pcr ins H'' locs'' ls'' cells'' slots'' h1 h2 h3 h4 h5 h6 (by omega))
        · obtain ⟨v1, σ1⟩ := q
          dsimp only at hrun
          cases hrun
          obtain ⟨h1, h2, h3⟩ := hp
          dsimp only at h1 h2 h3
          subst h3
          rw [h2]
          have := hret pc ins H locs ls cells slots hdec hT h1 hH hS hcs rfl
          have e1 : (v.map (am_cv b S0)).toList = v.toList.map (am_cv b S0) := by cases v <;> rfl
          rw [e1] at this
          exact this
        · cases d with
          | zero => cases hrun
          | succ d' =>
            obtain ⟨z, as, rest, pc'⟩ := q
            dsimp only at hrun
            cases he : am_ent z as with
            | none => rw [he] at hrun; cases hrun
            | some L2 =>
              rw [he] at hrun
              dsimp only at hrun
              cases hrz : am_run X n d' z 0 L2 [] σ with
              | none => rw [hrz] at hrun; cases hrun
              | some w =>
                rw [hrz] at hrun
                obtain ⟨w1, w2⟩ := w
                dsimp only at hrun
                have hl1 := am_run_len X n _ _ _ _ _ _ _ _ hrz
                have hl2 := am_run_len X n _ _ _ _ _ _ _ _ hrun
                obtain ⟨hx, hb, hrt, hml, hown, hts, hE, hlk, hini, hscr⟩ := id C
                obtain ⟨hpc, hrl, hkind⟩ := hp
                dsimp only at hpc hrl hkind
                subst hpc
                have hcat : ((rest.map (am_cv b S0)).map fun v => v.category).sum ≤ 8 := by
                  have := am_cats (rest.map (am_cv b S0))
                  rw [List.length_map] at this
                  omega
                have hsz := hL.2.1.1
                have hfr : cells + ((am_S w2).length - (am_S σ).length) ≤ R.cells ∧ slots + (am_nS w2 - am_nS σ) ≤ R.slots := ⟨by omega, by omega⟩
                have kk : ∀ (H1 : Heap) (locs1 : List Loc), am_H D cy S0 w2 H1 → va_S (fun q => S0 ≤ q) s.heap H1 locs1 → W p l e R s m args below meth c H1 locs1 (cells + ((am_S w2).length - (am_S σ).length)) (slots + (am_nS w2 - am_nS σ)) Q (F0 m (pc + 3) ls ((w1.map (am_cv b S0)).toList ++ rest.map (am_cv b S0))) := by
                  intro H1 locs1 hH1 hS1
                  rw [← am_pu_map]
                  exact ih (d' + 1) y (pc + 3) L (am_pu w1 rest) w2 v σ' r hr hrun p e R s m args below meth c Q H1 locs1 ls _ _ C hH1 hS1 hL hR hA (by omega) (by omega) (by omega) (fun pcr ins H'' locs'' ls'' cells'' slots'' h1 h2 h3 h4 h5 h6 h7 => hret pcr ins H'' locs'' ls'' cells'' slots'' h1 h2 h3 h4 h5 h6 (by omega))
                rcases hkind with ⟨ix, n0, ci, wk, o, as0, rfl, rfl, rfl, rfl, hkd, hn0⟩ | ⟨ix, k0, n0, wk, o, as0, rfl, rfl, rfl, rfl, hn0⟩ | ⟨ix, k0, n0, wk, rfl, rfl, rfl, hn0⟩
                · dsimp only [am_chkI] at hchk
                  split at hchk
                  · rename_i rz pz qc hz hpz hqc
                    simp only [Bool.and_eq_true, decide_eq_true_eq] at hchk
                    obtain ⟨hz0, hp0, hwd, hnp, hcls⟩ := hchk
                    have hz0 : 0 < z := Nat.le_of_ble_eq_true hz0
                    have hM := am_mtd hz0 hz hpz
                    obtain ⟨m1, m2, m3, m4, m5, m6, m7, m8⟩ := am_chkM_of hM.1
                    have hp0 := Nat.eq_of_beq_eq_true hp0
                    have hlt := am_cl_lt hqc
                    have hat := am_W_in (cy := cy) (S0 := S0) (am_kd_S hkd (by omega))
                    rw [am_E_obj hlt] at hat
                    have hrecv := va_recv hE.1 hH.1 hqc hat
                    rw [hcls] at hrecv
                    have met := am_met ih hz0 hz m2 m4 he hrz
                    have hstk : (as0.reverse ++ Value.ref o :: rest).map (am_cv b S0) = (as0.map (am_cv b S0)).reverse ++ Value.ref (S0 + o) :: rest.map (am_cv b S0) := by
                      rw [List.map_append, List.map_reverse]
                      rfl
                    rw [hstk]
                    exact am_callW (va_runV (As := as0.map (am_cv b S0)) (rest := rest.map (am_cv b S0)) (b := S0 + o) ⟨hx, hb, hml, hown, hts⟩ met ⟨am_callB (z := z) (am_mL hz) hts hR hM hwd hnp, hts _ (m6 hp0).1, hts _ (m6 hp0).2⟩ ⟨am_blind, hrecv, fun U hU hW => ⟨rfl, by rw [hU]; exact hH, am_Env_warm hW hE⟩⟩ rfl (by rw [List.length_map]; exact hn0) hsz rfl (lv_room hcat) (am_dec_1 hdec rfl rfl) hfr) hS kk
                  · cases hchk
                · have hstk : (as0.reverse ++ Value.ref o :: rest).map (am_cv b S0) = (as0.map (am_cv b S0)).reverse ++ Value.ref (S0 + o) :: rest.map (am_cv b S0) := by
                    rw [List.map_append, List.map_reverse]
                    rfl
                  rw [hstk]
                  dsimp only [am_chkI] at hchk
                  split at hchk
                  · rename_i heq
                    cases heq
                  · rename_i heq
                    cases heq
                    split at hchk
                    · rename_i rz pz hz hpz
                      simp only [Bool.and_eq_true] at hchk
                      obtain ⟨hz0, hp0, hwd, hnp⟩ := hchk
                      have hz0 : 0 < z := Nat.le_of_ble_eq_true hz0
                      have hM := am_mtd hz0 hz hpz
                      obtain ⟨m1, m2, m3, m4, m5, m6, m7, m8⟩ := am_chkM_of hM.1
                      have hp0 := Nat.eq_of_beq_eq_true hp0
                      obtain ⟨i1, i2, i3⟩ := m7 hp0
                      have met := am_met ih hz0 hz m2 m4 he hrz
                      have cb := am_callB (mc := (am_S w2).length - (am_S σ).length) (ms := am_nS w2 - am_nS σ) (z := z) (am_mL hz) hts hR hM hwd hnp
                      rw [i3] at cb
                      exact am_callW (va_runI (As := as0.map (am_cv b S0)) (rest := rest.map (am_cv b S0)) (b := S0 + o) ⟨hx, hb, hml, hown, hts⟩ met ⟨cb, i2, hts _ i1⟩ ⟨am_blind, fun U hU hW => ⟨rfl, by rw [hU]; exact hH, am_Env_warm hW hE⟩⟩ rfl (by rw [List.length_map]; exact hn0) hsz rfl (lv_room hcat) (am_dec_1 hdec rfl rfl) hfr) hS kk
                    · cases hchk
                  · rename_i heq
                    cases heq
                    split at hchk
                    · rename_i rz pz qn hz hpz hqn
                      simp only [Bool.and_eq_true, decide_eq_true_eq] at hchk
                      obtain ⟨hz0, hp0, hnp, hqe⟩ := hchk
                      have hz0 : 0 < z := Nat.le_of_ble_eq_true hz0
                      have hM := am_mtd hz0 hz hpz
                      obtain ⟨m1, m2, m3, m4, m5, m6, m7, m8⟩ := am_chkM_of hM.1
                      have hp0 := Nat.eq_of_beq_eq_true hp0
                      obtain ⟨i1, i2, i3⟩ := m7 hp0
                      have met := am_met ih hz0 hz m2 m4 he hrz
                      have cb := am_callN (mc := (am_S w2).length - (am_S σ).length) (ms := am_nS w2 - am_nS σ) (w := 0) (z := z) (am_mL hz) hts hE hR hM (by rw [← hqe]; exact List.mem_of_getElem? hqn) hnp
                      rw [i3] at cb
                      exact am_callW (va_runIN (As := as0.map (am_cv b S0)) (rest := rest.map (am_cv b S0)) (b := S0 + o) ⟨hx, hb, hml, hown, hts⟩ met ⟨cb, i2, hts _ i1⟩ ⟨am_blind, fun U hU hW => ⟨rfl, by rw [hU]; exact hH, am_Env_warm hW hE⟩⟩ rfl (by rw [List.length_map]; exact hn0) hsz rfl (lv_room hcat) (am_dec_1 hdec rfl rfl) hfr) hS kk
                    · cases hchk
                  · first | (exact absurd rfl (‹∀ (k z n w : Nat), _ = [k, z, n, w] → False› _ _ _ _)) | simp_all
                · have hstk : (as.reverse ++ rest).map (am_cv b S0) = (as.map (am_cv b S0)).reverse ++ rest.map (am_cv b S0) := by
                    rw [List.map_append, List.map_reverse]
                  rw [hstk]
                  dsimp only [am_chkI] at hchk
                  split at hchk
                  · rename_i heq
                    cases heq
                  · rename_i heq
                    cases heq
                    split at hchk
                    · rename_i rz pz hz hpz
                      simp only [Bool.and_eq_true] at hchk
                      obtain ⟨hz0, hp0, hwd, hnp⟩ := hchk
                      have hz0 : 0 < z := Nat.le_of_ble_eq_true hz0
                      have hM := am_mtd hz0 hz hpz
                      obtain ⟨m1, m2, m3, m4, m5, m6, m7, m8⟩ := am_chkM_of hM.1
                      have hp0 := Nat.eq_of_beq_eq_true hp0
                      have met := am_met ih hz0 hz m2 m4 he hrz
                      exact am_callW (va_runS (As := as.map (am_cv b S0)) (rest := rest.map (am_cv b S0)) ⟨hx, hb, hml, hown, hts⟩ met ⟨am_callB (z := z) (am_mL hz) hts hR hM hwd hnp, hts _ (m8 hp0)⟩ ⟨am_blind, fun U hU hW => ⟨rfl, by rw [hU]; exact hH, am_Env_warm hW hE⟩⟩ rfl (by rw [List.length_map]; exact hn0) hsz rfl (lv_room hcat) (am_dec_1 hdec rfl rfl) hfr) hS kk
                    · cases hchk
                  · rename_i heq
                    cases heq
                    split at hchk
                    · rename_i rz pz qn hz hpz hqn
                      simp only [Bool.and_eq_true, decide_eq_true_eq] at hchk
                      obtain ⟨hz0, hp0, hnp, hqe⟩ := hchk
                      have hz0 : 0 < z := Nat.le_of_ble_eq_true hz0
                      have hM := am_mtd hz0 hz hpz
                      obtain ⟨m1, m2, m3, m4, m5, m6, m7, m8⟩ := am_chkM_of hM.1
                      have hp0 := Nat.eq_of_beq_eq_true hp0
                      have met := am_met ih hz0 hz m2 m4 he hrz
                      exact am_callW (va_runSN (As := as.map (am_cv b S0)) (rest := rest.map (am_cv b S0)) ⟨hx, hb, hml, hown, hts⟩ met ⟨am_callN (w := 0) (z := z) (am_mL hz) hts hE hR hM (by rw [← hqe]; exact List.mem_of_getElem? hqn) hnp, hts _ (m8 hp0), trivial⟩ ⟨am_blind, fun U hU hW => ⟨rfl, by rw [hU]; exact hH, am_Env_warm hW hE⟩⟩ rfl (by rw [List.length_map]; exact hn0) hsz rfl (lv_room hcat) (am_dec_1 hdec rfl rfl) hfr) hS kk
                    · cases hchk
                  · first | (exact absurd rfl (‹∀ (k z n w : Nat), _ = [k, z, n, w] → False› _ _ _ _)) | simp_all
      · cases ha
