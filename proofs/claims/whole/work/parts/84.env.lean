/-! what the tables say at the law's start -/
theorem st_nt : (am_nest.all fun w => w.onTables) = true := by decide +kernel
theorem st_env {s : State} {args : Array Value} (hts : ∀ w ∈ lw_tbl, w.before args s = true) : ∃ D cy, am_Env D cy s := by
  have hw : ∀ w ∈ am_ws, w.before args s = true := fun w h => hts w (List.mem_filter.mp h).1
  have key : ∀ c : Nat, ∃ z : ClassId × (Nat → Nat), ∀ q, vwCl[c]? = some q → u_Kn s q.1 q.2.1 q.2.2 z.1 z.2 := by
    intro c
    cases h : vwCl[c]? with
    | none => exact ⟨((0 : Nat), fun _ => 0), fun q e => by cases e⟩
    | some q =>
      obtain ⟨h1, -, -, h4, -⟩ := am_cls h
      obtain ⟨cC, iS, hK⟩ := u_known hw h1 (hw _ h4)
      exact ⟨(cC, iS), fun q' e => by cases e; exact hK⟩
  obtain ⟨f, hf⟩ := Classical.axiomOfChoice key
  obtain ⟨c0, k0, p0, a1, a2, a3⟩ := Cond.arrayClass_spec (hw _ (am_wd_in am_acI))
  obtain ⟨c1, k1, p1, b1, b2, b3⟩ := Cond.arrayClass_spec (hw _ (am_wd_in am_acB))
  obtain ⟨c2, k2, p2, d1, d2, d3⟩ := Cond.arrayClass_spec (hw _ (am_wd_in am_acZ))
  obtain ⟨pg, cg, kg, g1, -, g2, g3, g4⟩ := Cond.arrayOver_spec (hts _ (List.mem_of_getElem? am_ovG))
  obtain ⟨pt, ct, kt, t1, -, t2, t3, t4⟩ := Cond.arrayOver_spec (hts _ (List.mem_of_getElem? am_ovT))
  obtain ⟨pi, ci, ki, i1, -, i2, i3, i4⟩ := arrayOverA_spec (t := .int) (hts _ (List.mem_of_getElem? am_ovI))
  refine ⟨(fun c => (f c).1, fun c => (f c).2), fun k => match k with | 0 => c0 | 1 => c1 | 2 => c2 | 3 => cg | 4 => ct | _ => ci, ⟨fun c q h => hf c q h, ?_⟩, ?_, va_AO.of (hts _ (List.mem_of_getElem? am_ovG)), va_AO.of (hts _ (List.mem_of_getElem? am_ovT)), (show (Cond.arrayOver (.array .int)).before #[] s = true from hts _ (List.mem_of_getElem? am_ovI))⟩
  · intro k q hq
    match k, hq with
    | 0, hq => cases hq; exact ⟨fun n z => ⟨fun k h => (by cases h), k0, a2, p0, a3⟩, a1⟩
    | 1, hq => cases hq; exact ⟨fun n z => ⟨fun k h => (by cases h), k1, b2, p1, b3⟩, b1⟩
    | 2, hq => cases hq; exact ⟨fun n z => ⟨fun k h => (by cases h), k2, d2, p2, d3⟩, d1⟩
    | 3, hq => cases hq; exact ⟨fun n z => ⟨fun k h => (by cases h), kg, g2, pg, g3⟩, kg, pg, g2, g3, g1, g4⟩
    | 4, hq => cases hq; exact ⟨fun n z => ⟨fun k h => (by cases h), kt, t2, pt, t3⟩, kt, pt, t2, t3, t1, t4⟩
    | 5, hq => cases hq; exact ⟨fun n z => ⟨fun k h => (by cases h), ki, i2, pi, i3⟩, i4⟩
    | k + 6, hq => cases hq
  · intro w h
    obtain ⟨k, hk⟩ := List.getElem?_of_mem h
    have hl : k < 13 := (List.getElem?_eq_some_iff.mp hk).1
    have e := of_decide_eq_true (List.all_eq_true.mp am_nst k (List.mem_range.mpr hl))
    have e2 : am_nest.getD k .tt = w := by rw [List.getD_eq_getElem?_getD, hk]; rfl
    rw [e2] at e
    exact va_Nw.of (List.all_eq_true.mp st_nt w h) (hts _ (List.mem_of_getElem? e))
