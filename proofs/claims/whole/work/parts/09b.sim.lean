/-! one step, further: switches, arrays, fields, new cells -/
theorem am_toI {k : Nat} (h : k < 2 ^ 31) (x : Int32) : x = Int32.ofNat k ↔ x.toInt = (k : Int) :=
  ⟨fun e => by rw [e]; exact nI_toInt h, fun e => Int32.toInt_inj.mp (by rw [e]; exact (nI_toInt h).symm)⟩
theorem am_tsw_ok (pc : Nat) (x : Int32) (d : Nat) : ∀ (os : List Int) (r : List Nat) (lo : Int), am_tsw pc lo os r = true → 0 ≤ lo → lo + os.length ≤ 2000001 →
    (∀ (j : Nat) (off : Int), os[j]? = some off → x.toInt = lo + j → (pc : Int) + off = (am_sw x d r : Int)) ∧ ((x.toInt < lo ∨ lo + os.length ≤ x.toInt) → am_sw x d r = d) := by
  intro os
  induction os with
  | nil =>
    intro r lo h _ _
    match r, h with
    | [], _ => exact ⟨fun j off hj => by simp at hj, fun _ => rfl⟩
  | cons o os ih =>
    intro r lo h h0 h1
    match r, h with
    | k :: t :: r, h =>
      simp only [am_tsw, Bool.and_eq_true, decide_eq_true_eq] at h
      obtain ⟨e1, e2, e3⟩ := h
      rw [List.length_cons] at h1
      obtain ⟨i1, i2⟩ := ih r (lo + 1) e3 (by omega) (by omega)
      have hx := am_toI (k := k) (by omega) x
      refine ⟨fun j off hj hxj => ?_, fun hr => ?_⟩
      · cases j with
        | zero =>
          cases hj
          rw [am_sw, if_pos (hx.mpr (by omega))]
          exact e2
        | succ j =>
          rw [am_sw, if_neg (fun e => by have := hx.mp e; omega)]
          exact i1 j off hj (by omega)
      · rw [List.length_cons] at hr
        rw [am_sw, if_neg (fun e => by have := hx.mp e; omega)]
        exact i2 (by omega)
theorem am_lsw_ok (pc : Nat) (x : Int32) (d : Nat) (df : Int) (hdf : (pc : Int) + df = (d : Int)) : ∀ (ps : List (Int × Int)) (r : List Nat), am_lsw pc ps r = true → (pc : Int) + Op.lookupswitch.offset ps df x.toInt = (am_sw x d r : Int) := by
  intro ps
  induction ps with
  | nil =>
    intro r h
    match r, h with
    | [], _ => exact hdf
  | cons q ps ih =>
    intro r h
    obtain ⟨v, o⟩ := q
    match r, h with
    | k :: t :: r, h =>
      simp only [am_lsw, Bool.and_eq_true, decide_eq_true_eq] at h
      obtain ⟨e1, e2, e3, e4⟩ := h
      have e2 : k < 2000000000 := Nat.le_of_ble_eq_true e2
      have hx := am_toI (k := k) (by omega) x
      rw [Op.lookupswitch.offset_cons, am_sw]
      by_cases he : v = x.toInt
      · rw [if_pos he, if_pos (hx.mpr (by omega))]
        exact e3
      · rw [if_neg he, if_neg (fun e => by have := hx.mp e; omega)]
        exact ih r e4
theorem am_u_row {α : Type} (f : Nat → Nat → α) (o k : Nat) (v : α) : am_u f o k v o = fun j => if j = k then v else f o j := by
  funext j
  unfold am_u
  by_cases h : j = k
  · rw [if_pos ⟨rfl, h⟩, if_pos h]
  · rw [if_neg (fun q => h q.2), if_neg h]
theorem am_u_ne {α : Type} (f : Nat → Nat → α) (o k : Nat) (v : α) {a : Nat} (h : a ≠ o) : am_u f o k v a = f a := by
  funext j
  exact if_neg (fun q => h q.1)
theorem am_ix_of {σ : am_M} {c o : Nat} {i : Int32} (h : am_ix σ c o i = true) (hc : c ≠ 99) : (am_S σ)[o]? = some (c, am_ln σ o) ∧ vp_in i (am_ln σ o) := by
  unfold am_ix at h
  simp only [Bool.and_eq_true, Bool.not_eq_true', decide_eq_true_eq, decide_eq_false_iff_not] at h
  obtain ⟨h1, h2, h3⟩ := h
  exact ⟨am_kd_S (Nat.eq_of_beq_eq_true h1) hc, fun q => by rcases q with q | q; exact h2 q; omega⟩
theorem am_cv_rf (b S0 : Nat) (r : Option Nat) : am_cv b S0 (va_rf r) = va_rf (r.map (S0 + ·)) := by
  cases r <;> rfl
theorem am_fV_eq (b S0 : Nat) (σ : am_M) (ci k o t : Nat) (ht : t = am_tc (am_dc ci k)) : am_fV S0 ci k (σ.1 o) (σ.2.1 o) (σ.2.2.1 o) = am_cv b S0 (am_fv σ t o k) := by
  subst ht
  unfold am_fV am_fv
  generalize am_tc (am_dc ci k) = t
  match t with
  | 0 => rfl
  | 1 => rfl
  | 2 => rfl
  | 3 => exact (am_cv_rf b S0 _).symm
  | _ + 4 => rfl
theorem am_E_obj {cy : Nat → ClassId} {S0 ci n : Nat} {fi : Nat → Int32} {fj : Nat → Int64} {fr : Nat → Option Nat} (h : ci < 20) : am_E cy S0 fi fj fr (ci, n) = .inr (ci, (List.range n).map (fun k => am_fV S0 ci k fi fj fr)) := by
  unfold am_E
  rw [if_neg (by show ¬ ci = 20; omega), if_neg (by show ¬ ci = 21; omega), if_neg (by show ¬ ci = 22; omega), if_neg (by show ¬ ci = 23; omega), if_neg (by show ¬ ci = 24; omega), if_neg (by show ¬ ci = 25; omega)]
theorem am_cl_lt {ci : Nat} {q : vw_C} (h : vwCl[ci]? = some q) : ci < 20 := Nat.lt_trans ((List.getElem?_eq_some_iff.mp h).1) (by decide)
/-- one cell written: the new picture -/
theorem am_H_set {D : va_G} {cy : Nat → ClassId} {S0 : Nat} {σ σ' : am_M} {H H1 : Heap} {o : Nat} {q : Nat × Nat} {x : va_E} (h : am_H D cy S0 σ H) (ho : (am_S σ)[o]? = some q) (hS : am_S σ' = am_S σ) (h1 : ∀ a, a ≠ o → σ'.1 a = σ.1 a) (h2 : ∀ a, a ≠ o → σ'.2.1 a = σ.2.1 a) (h3 : ∀ a, a ≠ o → σ'.2.2.1 a = σ.2.2.1 a) (hP : va_P D vwCl ((am_W cy S0 σ).set o (S0 + o, x)) H1) (hx : x = am_E cy S0 (σ'.1 o) (σ'.2.1 o) (σ'.2.2.1 o) q) (hz : H1.size = H.size) : am_H D cy S0 σ' H1 := by
  refine ⟨?_, ?_, ?_⟩
  · rw [am_W_set hS ho h1 h2 h3, ← hx]
    exact hP
  · rw [hz, hS]
    exact h.2.1
  · intro a w hw
    rw [hS] at hw
    exact h.2.2 a w hw
theorem am_cats (v : List Value) : (v.map fun v => v.category).sum ≤ 2 * v.length := by
  induction v with
  | nil => exact Nat.le_refl _
  | cons a v ih =>
    rw [List.map_cons, List.sum_cons, List.length_cons]
    have : a.category ≤ 2 := by cases a <;> simp [Value.category]
    omega
section SM2
variable {p : Program} {l : Launch} {e : Env} {R : Room} {s : State} {m : MethodId} {args : Array Value} {below : List Frame} {meth : Method} {c : Code} {Q : State → Prop} {D : va_G} {cy : Nat → ClassId} {X : am_X} {b S0 y : Nat} {r : am_Row}
theorem am_szW {H1 : Heap} {locs : List Loc} {cells slots : Nat} {g : JFrame} (k : H1.size ≤ s.heap.size + cells → W p l e R s m args below meth c H1 locs cells slots Q g) : W p l e R s m args below meth c H1 locs cells slots Q g :=
  fun T hT X => k (by rw [← hT]; exact X.same.2.2.1) T hT X
theorem am_szE {S0 : Nat} {σ : am_M} {H H1 : Heap} {A : Nat → Prop} {locs : List Loc} {cells : Nat} (h : H.size = S0 + (am_S σ).length) (hcs : s.heap.size + cells = S0 + (am_S σ).length) (hS : va_S A H H1 locs) (hz : H1.size ≤ s.heap.size + cells) : H1.size = H.size := by
  have := hS.1
  omega
theorem sm_tableswitch {df lo hi : Int} {offs : Array Int} (hC : am_C p s m args meth c D cy X b S0 y r) : am_Sim p l e R s m args below meth c Q D cy X b S0 y r (.tableswitch df lo hi offs) := by
  intro x pc L st σ pc' L' st' σ' H locs ls cells slots hd hk h hH hS hL hR hA hcs hcl hsl kk
  have hC0 := hC
  obtain ⟨hx, hb, -, hml, hown, hts, hE, -, hini, hscr⟩ := hC
  dsimp only [am_step] at h
  split at h
  · rename_i d ts a r
    cases h
    simp only [am_chkI, Bool.and_eq_true, decide_eq_true_eq] at hk
    obtain ⟨h1, h2, h3, h4, h5⟩ := hk
    obtain ⟨n, hdec, -⟩ := am_dec_of hd
    have hlen : offs.toList.length = offs.size := Array.length_toList
    obtain ⟨T1, T2⟩ := am_tsw_ok pc a d offs.toList ts lo h5 h2 (by rw [hlen]; omega)
    by_cases hr : a.toInt < lo ∨ hi < a.toInt
    · have e := T2 (by rw [hlen]; omega)
      rw [e] at kk
      exact lv_tableOut hx hb hdec hr h1 (kk _ _ _ _ _ hH hS hL hcs rfl)
    · have hj : (a.toInt - lo).toNat < offs.size := by omega
      have ho : offs[(a.toInt - lo).toNat]? = some offs[(a.toInt - lo).toNat] := Array.getElem?_eq_getElem hj
      exact lv_tableIn hx hb hdec (fun q => hr (Or.inl q)) (fun q => hr (Or.inr q)) ho (T1 (a.toInt - lo).toNat _ (by rw [Array.getElem?_toList]; exact ho) (by omega)) (kk _ _ _ _ _ hH hS hL hcs rfl)
  · cases h
theorem sm_lookupswitch {df : Int} {ps : Array (Int × Int)} (hC : am_C p s m args meth c D cy X b S0 y r) : am_Sim p l e R s m args below meth c Q D cy X b S0 y r (.lookupswitch df ps) := by
  intro x pc L st σ pc' L' st' σ' H locs ls cells slots hd hk h hH hS hL hR hA hcs hcl hsl kk
  have hC0 := hC
  obtain ⟨hx, hb, -, hml, hown, hts, hE, -, hini, hscr⟩ := hC
  dsimp only [am_step] at h
  split at h
  · rename_i d ts a r
    cases h
    simp only [am_chkI, Bool.and_eq_true, decide_eq_true_eq] at hk
    obtain ⟨h1, h2, h3⟩ := hk
    obtain ⟨n, hdec, -⟩ := am_dec_of hd
    exact lv_lookup hx hb hdec h3 rfl (am_lsw_ok pc a d df h1 ps.toList ts h2) (kk _ _ _ _ _ hH hS hL hcs rfl)
  · cases h
theorem sm_arraylength (hC : am_C p s m args meth c D cy X b S0 y r) : am_Sim p l e R s m args below meth c Q D cy X b S0 y r (.arraylength) := by
  intro x pc L st σ pc' L' st' σ' H locs ls cells slots hd hk h hH hS hL hR hA hcs hcl hsl kk
  have hC0 := hC
  obtain ⟨hx, hb, -, hml, hown, hts, hE, -, hini, hscr⟩ := hC
  dsimp only [am_step] at h
  split at h
  · split at h
    · rename_i hy
      cases h
      obtain ⟨s1, s2, s3⟩ := hscr (Nat.eq_of_beq_eq_true hy)
      exact va_slen hx hb s1 s2 (Nat.not_le.mpr s3) hS (am_dec_1 hd rfl rfl) (kk _ _ _ _ _ hH hS hL hcs rfl)
    · cases h
  · cases h
theorem sm_iaload (hC : am_C p s m args meth c D cy X b S0 y r) : am_Sim p l e R s m args below meth c Q D cy X b S0 y r (.iaload) := by
  intro x pc L st σ pc' L' st' σ' H locs ls cells slots hd hk h hH hS hL hR hA hcs hcl hsl kk
  have hC0 := hC
  obtain ⟨hx, hb, -, hml, hown, hts, hE, -, hini, hscr⟩ := hC
  dsimp only [am_step] at h
  split at h
  · split at h
    · rename_i hi
      cases h
      obtain ⟨h1, h2⟩ := am_ix_of hi (by decide)
      exact va_iald hx hb hE.1 hH.1 _ 0 (am_W_in h1) rfl h2 (am_dec_1 hd rfl rfl) (kk _ _ _ _ _ hH hS hL hcs rfl)
    · cases h
  · split at h
    · rename_i hi
      cases h
      simp only [Bool.and_eq_true, Bool.not_eq_true', decide_eq_true_eq, decide_eq_false_iff_not] at hi
      obtain ⟨s1, s2, s3⟩ := hscr (Nat.eq_of_beq_eq_true hi.1)
      exact va_sld hx hb s1 s2 (Nat.not_le.mpr s3) hS (fun q => by rcases q with q | q; exact hi.2.1 q; omega) (am_dec_1 hd rfl rfl) (kk _ _ _ _ _ hH hS hL hcs rfl)
    · cases h
  · cases h
theorem sm_baload (hC : am_C p s m args meth c D cy X b S0 y r) : am_Sim p l e R s m args below meth c Q D cy X b S0 y r (.baload) := by
  intro x pc L st σ pc' L' st' σ' H locs ls cells slots hd hk h hH hS hL hR hA hcs hcl hsl kk
  have hC0 := hC
  obtain ⟨hx, hb, -, hml, hown, hts, hE, -, hini, hscr⟩ := hC
  dsimp only [am_step] at h
  split at h
  · split at h
    · rename_i hi
      cases h
      rw [Bool.and_eq_true, Bool.or_eq_true] at hi
      obtain ⟨hc, hi⟩ := hi
      rcases hc with hc | hc
      · have hc := Nat.eq_of_beq_eq_true hc
        subst hc
        obtain ⟨h1, h2⟩ := am_ix_of hi (by decide)
        exact va_bald hx hb hE.1 hH.1 _ 1 (am_W_in h1) rfl h2 (am_dec_1 hd rfl rfl) (kk _ _ _ _ _ hH hS hL hcs rfl)
      · have hc := Nat.eq_of_beq_eq_true hc
        subst hc
        obtain ⟨h1, h2⟩ := am_ix_of hi (by decide)
        exact va_zald hx hb hE.1 hH.1 _ 2 (am_W_in h1) rfl h2 (am_dec_1 hd rfl rfl) (kk _ _ _ _ _ hH hS hL hcs rfl)
    · cases h
  · cases h
theorem sm_aaload (hC : am_C p s m args meth c D cy X b S0 y r) : am_Sim p l e R s m args below meth c Q D cy X b S0 y r (.aaload) := by
  intro x pc L st σ pc' L' st' σ' H locs ls cells slots hd hk h hH hS hL hR hA hcs hcl hsl kk
  have hC0 := hC
  obtain ⟨hx, hb, -, hml, hown, hts, hE, -, hini, hscr⟩ := hC
  dsimp only [am_step] at h
  split at h
  · split at h
    · rename_i cc i o rr hi
      cases h
      have kk1 : W p l e R s m args below meth c H locs cells slots Q (F0 m (pc + 1) ls (va_rf ((σ.2.2.1 o i.toNatClampNeg).map (S0 + ·)) :: rr.map (am_cv b S0))) := by
        have := kk _ _ _ _ _ hH hS hL hcs rfl
        rw [List.map_cons, am_cv_rf] at this
        exact this
      simp only [am_chkI, Bool.or_eq_true] at hk
      rcases hk with hc | hc | hc
      · have hc := Nat.eq_of_beq_eq_true hc
        subst hc
        obtain ⟨h1, h2⟩ := am_ix_of hi (by decide)
        exact va_aldq hx hb hE.1 hH.1 _ 3 (am_W_in h1) rfl h2 (am_dec_1 hd rfl rfl) kk1
      · have hc := Nat.eq_of_beq_eq_true hc
        subst hc
        obtain ⟨h1, h2⟩ := am_ix_of hi (by decide)
        exact va_aldq hx hb hE.1 hH.1 _ 4 (am_W_in h1) rfl h2 (am_dec_1 hd rfl rfl) kk1
      · have hc := Nat.eq_of_beq_eq_true hc
        subst hc
        obtain ⟨h1, h2⟩ := am_ix_of hi (by decide)
        have hlt : i.toNatClampNeg < am_ln σ o := Nat.not_le.mp fun q => h2 (Or.inr q)
        have hat := am_W_in (cy := cy) (S0 := S0) h1
        exact W.aald (v := va_rf ((σ.2.2.1 o i.toNatClampNeg).map (S0 + ·))) (ty := .array .int) hx hb (hH.1 _ _ hat) ((hE.1.2 5 _ rfl).1 (am_ln σ o) (fun j => va_rf ((σ.2.2.1 o j).map (S0 + ·)))) rfl (fun q => by cases q) (by show ¬ (i < 0 ∨ (arrV _ _ _).slots.size ≤ _); rw [arrV_size]; exact h2) (by show (arrV _ _ _).slots[_]? = _; rw [arrV_read _ _ hlt]) rfl rfl (am_dec_1 hd rfl rfl) kk1
    · cases h
  · cases h
theorem am_lt_size {D : va_G} {cy : Nat → ClassId} {S0 : Nat} {σ : am_M} {o : Nat} {x : va_E} {H1 : Heap} (hP : va_P D vwCl ((am_W cy S0 σ).set o (S0 + o, x)) H1) (_ : va_D (fun q => S0 ≤ q) (am_W cy S0 σ)) : S0 + (am_S σ).length ≤ H1.size ∨ (am_S σ).length = 0 := by
  have hl : (am_W cy S0 σ).length = (am_S σ).length := by unfold am_W; rw [List.length_map, List.length_zipIdx]
  cases hn : (am_S σ).length with
  | zero => exact Or.inr rfl
  | succ n =>
    left
    have h4 : n < (am_S σ).length := by omega
    have h5 := am_W_in (cy := cy) (S0 := S0) (List.getElem?_eq_getElem h4)
    by_cases ho : o = n
    · subst ho
      have : ((am_W cy S0 σ).set o (S0 + o, x))[o]? = some (S0 + o, x) := by rw [List.getElem?_set, if_pos rfl, if_pos (by omega)]
      have := (hP _ _ this).lt
      show S0 + (o + 1) ≤ H1.size
      have h6 : S0 + o < H1.size := this
      omega
    · have : ((am_W cy S0 σ).set o (S0 + o, x))[n]? = some (S0 + n, am_E cy S0 (σ.1 n) (σ.2.1 n) (σ.2.2.1 n) (am_S σ)[n]) := by rw [List.getElem?_set, if_neg ho]; exact h5
      have h6 : S0 + n < H1.size := (hP _ _ this).lt
      omega
theorem sm_iastore (hC : am_C p s m args meth c D cy X b S0 y r) : am_Sim p l e R s m args below meth c Q D cy X b S0 y r (.iastore) := by
  intro x pc L st σ pc' L' st' σ' H locs ls cells slots hd hk h hH hS hL hR hA hcs hcl hsl kk
  have hC0 := hC
  obtain ⟨hx, hb, -, hml, hown, hts, hE, -, hini, hscr⟩ := hC
  dsimp only [am_step] at h
  split at h
  · split at h
    · rename_i hi
      cases h
      obtain ⟨h1, h2⟩ := am_ix_of hi (by decide)
      refine va_iast hx hb hE.1 hH.1 am_W_D hS _ 0 (am_W_in h1) rfl h2 (am_dec_1 hd rfl rfl) (fun H1 locs1 hP1 hD1 hS1 => am_szW (fun hz => ?_))
      have hz1 : H1.size = H.size := by have h8 := am_lt_size hP1 am_W_D; have h9 := hH.2.1; have hq := (List.getElem?_eq_some_iff.mp h1).1; omega
      refine kk _ _ _ _ _ (am_H_set hH h1 rfl (fun a ha => am_u_ne _ _ _ _ ha) (fun _ _ => rfl) (fun _ _ => rfl) hP1 ?_ hz1) hS1 hL hcs rfl
      show _ = am_E cy S0 (am_u σ.1 _ _ _ _) _ _ _
      rw [am_u_row]
      rfl
    · cases h
  · cases h
theorem sm_bastore (hC : am_C p s m args meth c D cy X b S0 y r) : am_Sim p l e R s m args below meth c Q D cy X b S0 y r (.bastore) := by
  intro x pc L st σ pc' L' st' σ' H locs ls cells slots hd hk h hH hS hL hR hA hcs hcl hsl kk
  have hC0 := hC
  obtain ⟨hx, hb, -, hml, hown, hts, hE, -, hini, hscr⟩ := hC
  dsimp only [am_step] at h
  split at h
  · split at h
    · rename_i hi
      cases h
      obtain ⟨h1, h2⟩ := am_ix_of hi (by decide)
      refine va_bast hx hb hE.1 hH.1 am_W_D hS _ 1 (am_W_in h1) rfl h2 (am_dec_1 hd rfl rfl) (fun H1 locs1 hP1 hD1 hS1 => am_szW (fun hz => ?_))
      have hz1 : H1.size = H.size := by have h8 := am_lt_size hP1 am_W_D; have h9 := hH.2.1; have hq := (List.getElem?_eq_some_iff.mp h1).1; omega
      refine kk _ _ _ _ _ (am_H_set hH h1 rfl (fun a ha => am_u_ne _ _ _ _ ha) (fun _ _ => rfl) (fun _ _ => rfl) hP1 ?_ hz1) hS1 hL hcs rfl
      show _ = am_E cy S0 (am_u σ.1 _ _ _ _) _ _ _
      rw [am_u_row]
      rfl
    · cases h
  · split at h
    · rename_i hi
      cases h
      obtain ⟨h1, h2⟩ := am_ix_of hi (by decide)
      refine va_zast hx hb hE.1 hH.1 am_W_D hS _ 2 (am_W_in h1) rfl h2 (am_dec_1 hd rfl rfl) (fun H1 locs1 hP1 hD1 hS1 => am_szW (fun hz => ?_))
      have hz1 : H1.size = H.size := by have h8 := am_lt_size hP1 am_W_D; have h9 := hH.2.1; have hq := (List.getElem?_eq_some_iff.mp h1).1; omega
      refine kk _ _ _ _ _ (am_H_set hH h1 rfl (fun a ha => am_u_ne _ _ _ _ ha) (fun _ _ => rfl) (fun _ _ => rfl) hP1 ?_ hz1) hS1 hL hcs rfl
      show _ = am_E cy S0 (am_u σ.1 _ _ _ _) _ _ _
      rw [am_u_row]
      rfl
    · cases h
  · cases h
theorem sm_aastore (hC : am_C p s m args meth c D cy X b S0 y r) : am_Sim p l e R s m args below meth c Q D cy X b S0 y r (.aastore) := by
  intro x pc L st σ pc' L' st' σ' H locs ls cells slots hd hk h hH hS hL hR hA hcs hcl hsl kk
  have hC0 := hC
  obtain ⟨hx, hb, -, hml, hown, hts, hE, -, hini, hscr⟩ := hC
  dsimp only [am_step] at h
  split at h
  · split at h
    · rename_i v i o rr hi
      cases h
      rw [Bool.and_eq_true] at hi
      obtain ⟨hi, hv⟩ := hi
      have hv := Nat.eq_of_beq_eq_true hv
      have fin : ∀ {q : Nat × Nat} {ci : Nat} {x : va_E}, (am_S σ)[o]? = some q → ∀ (H1 : Heap) (locs1 : List Loc), va_P D vwCl ((am_W cy S0 σ).set o (S0 + o, x)) H1 → va_S (fun q => S0 ≤ q) s.heap H1 locs1 → x = am_E cy S0 (σ.1 o) (σ.2.1 o) (va_up (σ.2.2.1 o) i.toNatClampNeg (some v)) q → W p l e R s m args below meth c H1 locs1 cells slots Q (F0 m (pc + 1) ls (st'.map (am_cv b S0))) := by
        intro q ci x h1 H1 locs1 hP1 hS1 hx1
        refine am_szW (fun hz => ?_)
        have hz1 : H1.size = H.size := by have h8 := am_lt_size hP1 am_W_D; have h9 := hH.2.1; have hq := (List.getElem?_eq_some_iff.mp h1).1; omega
        refine kk _ _ _ _ _ (am_H_set hH h1 rfl (fun _ _ => rfl) (fun _ _ => rfl) (fun a ha => am_u_ne _ _ _ _ ha) hP1 ?_ hz1) hS1 hL hcs rfl
        rw [hx1]
        show _ = am_E cy S0 _ _ (am_u σ.2.2.1 _ _ _ _) _
        rw [am_u_row]
        rfl
      have mp : ∀ (f : Nat → Option Nat) (k : Nat), va_up (fun j => (f j).map (S0 + ·)) k (some (S0 + v)) = fun j => ((va_up f k (some v)) j).map (S0 + ·) := by
        intro f k
        funext j
        unfold va_up
        by_cases hj : j = k
        · rw [if_pos hj, if_pos hj]
          rfl
        · rw [if_neg hj, if_neg hj]
      simp only [am_chkI, Bool.or_eq_true, Bool.and_eq_true] at hk
      rcases hk with ⟨hc, hc2⟩ | ⟨hc, hc2⟩
      · have hc := Nat.eq_of_beq_eq_true hc
        subst hc
        have hc2 := Nat.eq_of_beq_eq_true hc2
        subst hc2
        obtain ⟨h1, h2⟩ := am_ix_of hi (by decide)
        have h3 := am_W_in (cy := cy) (S0 := S0) (am_kd_S hv (by decide))
        rw [am_E_obj (by decide)] at h3
        refine va_astq hx hb hE.1 hH.1 am_W_D hS _ 3 _ 1 (am_W_in h1) rfl h3 rfl h2 (am_dec_1 hd rfl rfl) (fun H1 locs1 hP1 hD1 hS1 => fin (ci := 0) h1 H1 locs1 hP1 hS1 ?_)
        rw [mp]
        rfl
      · have hc := Nat.eq_of_beq_eq_true hc
        subst hc
        have hc2 := Nat.eq_of_beq_eq_true hc2
        subst hc2
        obtain ⟨h1, h2⟩ := am_ix_of hi (by decide)
        have h3 := am_W_in (cy := cy) (S0 := S0) (am_kd_S hv (by decide))
        rw [am_E_obj (by decide)] at h3
        refine va_astq hx hb hE.1 hH.1 am_W_D hS _ 4 _ 7 (am_W_in h1) rfl h3 rfl h2 (am_dec_1 hd rfl rfl) (fun H1 locs1 hP1 hD1 hS1 => fin (ci := 0) h1 H1 locs1 hP1 hS1 ?_)
        rw [mp]
        rfl
    · cases h
  · cases h
theorem am_fl_of {own : String} {i ci k w : Nat} (h : am_fl own i ci k w = true) : ∃ q, vwCl[ci]? = some q ∧ k < q.2.2 ∧ Cond.fieldLink own i (q.2.1 k).1 (q.2.1 k).2.1 (q.2.1 k).2.2.1 ∈ am_ws := by
  unfold am_fl at h
  split at h
  · rename_i q hq
    rw [Bool.and_eq_true] at h
    exact ⟨q, hq, Nat.le_of_ble_eq_true h.1, am_wd_in h.2⟩
  · cases h
theorem am_fs_at {S0 ci n k : Nat} {fi : Nat → Int32} {fj : Nat → Int64} {fr : Nat → Option Nat} (hk : k < n) : ((List.range n).map (fun k => am_fV S0 ci k fi fj fr))[k]? = some (am_fV S0 ci k fi fj fr) := by
  rw [List.getElem?_map, List.getElem?_range hk]
  rfl
theorem sm_getfield {ix : Nat} (hC : am_C p s m args meth c D cy X b S0 y r) : am_Sim p l e R s m args below meth c Q D cy X b S0 y r (.getfield ix) := by
  intro x pc L st σ pc' L' st' σ' H locs ls cells slots hd hk h hH hS hL hR hA hcs hcl hsl kk
  have hC0 := hC
  obtain ⟨hx, hb, -, hml, hown, hts, hE, -, hini, hscr⟩ := hC
  dsimp only [am_step] at h
  split at h
  · rename_i ci k t w o rr
    split at h
    · rename_i hkd
      cases h
      simp only [am_chkI, Bool.and_eq_true] at hk
      obtain ⟨hf, ht⟩ := hk
      obtain ⟨q, hq, hkq, hlk⟩ := am_fl_of hf
      have hlt := am_cl_lt hq
      have h1 := am_kd_S hkd (by omega)
      have hn : am_ln σ o = q.2.2 := hH.2.2 _ _ h1 q hq
      have h3 := am_W_in (cy := cy) (S0 := S0) h1
      rw [am_E_obj hlt] at h3
      obtain ⟨q1, q2, q3⟩ := q
      have hokc := am_cls hq
      refine va_get (D := D) (cl := vwCl) (tys := am_ty cy) (C := q1) (T := q2) (N := q3) (Ts := am_ws) hx hb hts hokc.1 hown hE.1 hH.1 o h3 hq k hkq (hts _ hlk) (fun _ h9 => h9) (am_fs_at (by rw [hn]; exact hkq)) (am_dec_1 hd rfl rfl) ?_
      rw [am_fV_eq b S0 σ ci k o t (Nat.eq_of_beq_eq_true ht)]
      exact kk _ _ _ _ _ hH hS hL hcs rfl
    · cases h
  · cases h
theorem am_set_fs {S0 ci n k : Nat} {fi fi' : Nat → Int32} {fj fj' : Nat → Int64} {fr fr' : Nat → Option Nat} {v : Value} (h1 : ∀ j, j ≠ k → fi' j = fi j) (h2 : ∀ j, j ≠ k → fj' j = fj j) (h3 : ∀ j, j ≠ k → fr' j = fr j) (hv : am_fV S0 ci k fi' fj' fr' = v) : ((List.range n).map (fun k => am_fV S0 ci k fi fj fr)).set k v = (List.range n).map (fun k => am_fV S0 ci k fi' fj' fr') := by
  apply List.ext_getElem?
  intro j
  rw [List.getElem?_set, List.length_map, List.length_range, List.getElem?_map, List.getElem?_map]
  by_cases hj : k = j
  · subst hj
    rw [if_pos rfl]
    by_cases hl : k < n
    · rw [if_pos hl, List.getElem?_range hl, Option.map_some, hv]
    · rw [if_neg hl, List.getElem?_eq_none (by rw [List.length_range]; omega)]
      rfl
  · rw [if_neg hj]
    by_cases hl : j < n
    · rw [List.getElem?_range hl, Option.map_some, Option.map_some]
      unfold am_fV
      rw [h1 j (fun e => hj e.symm), h2 j (fun e => hj e.symm), h3 j (fun e => hj e.symm)]
    · rw [List.getElem?_eq_none (by rw [List.length_range]; omega)]
      rfl
theorem am_fin_of {own nm : String} {ci k : Nat} {q : vw_C} (hq : vwCl[ci]? = some q) (h : am_fin own nm ci k = true) : (q.2.1 k).2.2.2 = false ∨ ((q.2.1 k).2.2.2 = true ∧ nm = "<init>" ∧ (q.2.1 k).1 = own) := by
  unfold am_fin at h
  rw [hq] at h
  simp only [Bool.or_eq_true, Bool.not_eq_true', Bool.and_eq_true, decide_eq_true_eq] at h
  cases hf : (q.2.1 k).2.2.2 with
  | false => exact Or.inl rfl
  | true =>
    rcases h with h | h
    · rw [hf] at h
      cases h
    · exact Or.inr ⟨rfl, h.1, h.2⟩
theorem am_put (hC : am_C p s m args meth c D cy X b S0 y r) {pc ix ci k w o : Nat} {σ σ' : am_M} {H : Heap} {locs : List Loc} {ls : Array Slot} {cells slots : Nat} {rr : List Value} {v : Value} (hd : am_dec r.2.1 pc (.putfield ix) = true) (hf : am_fl r.1.cls ix ci k w = true) (hfin : am_fin r.1.cls r.1.name ci k = true) (hkd : am_kd σ o = ci) (hH : am_H D cy S0 σ H) (hS : va_S (fun q => S0 ≤ q) s.heap H locs) (hcs : s.heap.size + cells = S0 + (am_S σ).length)
    {ty : FieldType} (hty : parseFieldDescriptor (am_dc ci k) = some ty) (hn : narrow ty v = v) (hfit : fits ty v = true) (e1 : am_S σ' = am_S σ) (e2 : ∀ a j, a ≠ o ∨ j ≠ k → σ'.1 a j = σ.1 a j) (e3 : ∀ a j, a ≠ o ∨ j ≠ k → σ'.2.1 a j = σ.2.1 a j) (e4 : ∀ a j, a ≠ o ∨ j ≠ k → σ'.2.2.1 a j = σ.2.2.1 a j) (hv : am_fV S0 ci k (σ'.1 o) (σ'.2.1 o) (σ'.2.2.1 o) = v)
    (kk : ∀ (H' : Heap) (locs' : List Loc), am_H D cy S0 σ' H' → va_S (fun q => S0 ≤ q) s.heap H' locs' → W p l e R s m args below meth c H' locs' cells slots Q (F0 m (pc + 3) ls rr)) : W p l e R s m args below meth c H locs cells slots Q (F0 m pc ls (v :: .ref (S0 + o) :: rr)) := by
  obtain ⟨hx, hb, -, hml, hown, hts, hE, -, hini, hscr⟩ := hC
  obtain ⟨q, hq, hkq, hlk⟩ := am_fl_of hf
  have hlt := am_cl_lt hq
  have h1 := am_kd_S hkd (by omega)
  have hn2 : am_ln σ o = q.2.2 := hH.2.2 _ _ h1 q hq
  have h3 := am_W_in (cy := cy) (S0 := S0) h1
  rw [am_E_obj hlt] at h3
  have hokc := am_cls hq
  have hfi := am_fin_of hq hfin
  obtain ⟨q1, q2, q3⟩ := q
  obtain ⟨c1, ⟨ty0, c2, c2b⟩, c3, c4, c5⟩ := hokc
  have hdd : parseFieldDescriptor (q2 k).2.2.1 = some ty := by
    unfold am_dc at hty
    rw [hq] at hty
    exact hty
  have hk2 : ∀ (H1 : Heap) (locs1 : List Loc), va_P D vwCl ((am_W cy S0 σ).set o (S0 + o, .inr (ci, ((List.range (am_ln σ o)).map (fun k => am_fV S0 ci k (σ.1 o) (σ.2.1 o) (σ.2.2.1 o))).set k v))) H1 → va_D (fun q => S0 ≤ q) ((am_W cy S0 σ).set o (S0 + o, .inr (ci, ((List.range (am_ln σ o)).map (fun k => am_fV S0 ci k (σ.1 o) (σ.2.1 o) (σ.2.2.1 o))).set k v))) → va_S (fun q => S0 ≤ q) s.heap H1 locs1 → W p l e R s m args below meth c H1 locs1 cells slots Q (F0 m (pc + 3) ls rr) := by
    intro H1 locs1 hP1 hD1 hS1
    refine am_szW (fun hz => ?_)
    have hz1 : H1.size = H.size := by have h8 := am_lt_size hP1 am_W_D; have h9 := hH.2.1; have hq := (List.getElem?_eq_some_iff.mp h1).1; omega
    refine kk _ _ (am_H_set hH h1 e1 (fun a ha => funext fun j => e2 a j (Or.inl ha)) (fun a ha => funext fun j => e3 a j (Or.inl ha)) (fun a ha => funext fun j => e4 a j (Or.inl ha)) hP1 ?_ hz1) hS1
    rw [am_E_obj hlt, am_set_fs (fun j hj => e2 o j (Or.inr hj)) (fun j hj => e3 o j (Or.inr hj)) (fun j hj => e4 o j (Or.inr hj)) hv]
  rcases hfi with hf0 | ⟨hf1, hnm, hdecl⟩
  · exact va_put (D := D) (cl := vwCl) (tys := am_ty cy) (C := q1) (T := q2) (N := q3) (Ts := am_ws) hx hb hts c1 ty0 c2 c3 hown hE.1 hH.1 am_W_D hS o h3 hq k hkq (hts _ hlk) (fun _ h9 => h9) hf0 hdd hn hfit (by rw [List.length_map, List.length_range, hn2]; exact hkq) (am_dec_1 hd rfl rfl) hk2
  · exact va_putF (D := D) (cl := vwCl) (tys := am_ty cy) (C := q1) (T := q2) (N := q3) (Ts := am_ws) hx hb hts c1 ty0 c2 c3 hown hE.1 hH.1 am_W_D hS o h3 hq k hkq (hts _ hlk) (fun _ h9 => h9) hf1 (hini hnm) hdecl hdd hn hfit (by rw [List.length_map, List.length_range, hn2]; exact hkq) (am_dec_1 hd rfl rfl) hk2
theorem am_u_off {α : Type} (f : Nat → Nat → α) (o k : Nat) (v : α) {a j : Nat} (h : a ≠ o ∨ j ≠ k) : am_u f o k v a j = f a j := by
  unfold am_u
  rw [if_neg (fun q => by rcases h with h | h; exact h q.1; exact h q.2)]
theorem am_u_at {α : Type} (f : Nat → Nat → α) (o k : Nat) (v : α) : am_u f o k v o k = v := if_pos ⟨rfl, rfl⟩
theorem am_tc_of0 {ci k : Nat} {d : String} (h : am_dc ci k = d) : am_tc (am_dc ci k) = am_tc d := by rw [h]
theorem am_fV_0 {S0 ci k : Nat} {fi : Nat → Int32} {fj : Nat → Int64} {fr : Nat → Option Nat} (h : am_tc (am_dc ci k) = 0) : am_fV S0 ci k fi fj fr = .int (fi k) := by unfold am_fV; rw [h]; rfl
theorem am_fV_2 {S0 ci k : Nat} {fi : Nat → Int32} {fj : Nat → Int64} {fr : Nat → Option Nat} (h : am_tc (am_dc ci k) = 2) : am_fV S0 ci k fi fj fr = .long (fj k) := by unfold am_fV; rw [h]; rfl
theorem am_fV_3 {S0 ci k : Nat} {fi : Nat → Int32} {fj : Nat → Int64} {fr : Nat → Option Nat} (h : am_tc (am_dc ci k) = 3) : am_fV S0 ci k fi fj fr = va_rf ((fr k).map (S0 + ·)) := by unfold am_fV; rw [h]; rfl
theorem am_tp3 {d : String} (h : am_tp d 3 = true) : (∃ ty, parseFieldDescriptor d = some ty ∧ ((∃ n, ty = .object n) ∨ ∃ t, ty = .array t)) ∧ am_tc d = 3 := by
  change (match parseFieldDescriptor d with
    | some (.object _) => true
    | some (.array _) => true
    | _ => false) = true at h
  constructor
  · split at h
    · rename_i n hn
      exact ⟨_, hn, Or.inl ⟨n, rfl⟩⟩
    · rename_i n hn
      exact ⟨_, hn, Or.inr ⟨n, rfl⟩⟩
    · cases h
  · unfold am_tc
    by_cases h1 : d = "J"
    · subst h1
      exact absurd h (by decide +kernel)
    · by_cases h2 : d = "I"
      · subst h2
        exact absurd h (by decide +kernel)
      · by_cases h3 : d = "Z"
        · subst h3
          exact absurd h (by decide +kernel)
        · rw [if_neg h1, if_neg h2, if_neg h3]
theorem sm_putfield {ix : Nat} (hC : am_C p s m args meth c D cy X b S0 y r) : am_Sim p l e R s m args below meth c Q D cy X b S0 y r (.putfield ix) := by
  intro x pc L st σ pc' L' st' σ' H locs ls cells slots hd hk h hH hS hL hR hA hcs hcl hsl kk
  have hC0 := hC
  obtain ⟨hx, hb, -, hml, hown, hts, hE, -, hini, hscr⟩ := hC
  dsimp only [am_step] at h
  split at h
  · rename_i ci k w v o rr
    split at h
    · rename_i hkd
      cases h
      simp only [am_chkI, Bool.and_eq_true] at hk
      obtain ⟨hf, ht, hfin⟩ := hk
      have hdc : am_dc ci k = "I" := of_decide_eq_true ht
      exact am_put hC0 (ty := .int) (σ' := am_wI σ o k v) hd hf hfin hkd hH hS hcs (by rw [hdc]; decide +kernel) rfl rfl rfl (fun _ _ h => am_u_off _ _ _ _ h) (fun _ _ _ => rfl) (fun _ _ _ => rfl) (by rw [am_fV_0 (by rw [hdc]; decide +kernel)]; exact congrArg Value.int (am_u_at _ _ _ _)) (fun H' locs' h1 h2 => kk _ _ _ _ _ h1 h2 hL hcs rfl)
    · cases h
  · rename_i ci k w v o rr
    split at h
    · rename_i hkd
      cases h
      simp only [am_chkI, Bool.and_eq_true] at hk
      obtain ⟨hf, ht, hfin⟩ := hk
      have hdc : am_dc ci k = "Z" := of_decide_eq_true ht
      have hnr : narrow .boolean (.int v) = .int v ∧ fits .boolean (.int v) = true := by
        rcases hkd.2 with rfl | rfl <;> exact ⟨by decide +kernel, by decide +kernel⟩
      exact am_put hC0 (ty := .boolean) (σ' := am_wI σ o k v) hd hf hfin hkd.1 hH hS hcs (by rw [hdc]; decide +kernel) hnr.1 hnr.2 rfl (fun _ _ h => am_u_off _ _ _ _ h) (fun _ _ _ => rfl) (fun _ _ _ => rfl) (by rw [am_fV_0 (by rw [hdc]; decide +kernel)]; exact congrArg Value.int (am_u_at _ _ _ _)) (fun H' locs' h1 h2 => kk _ _ _ _ _ h1 h2 hL hcs rfl)
    · cases h
  · rename_i ci k w v o rr
    split at h
    · rename_i hkd
      cases h
      simp only [am_chkI, Bool.and_eq_true] at hk
      obtain ⟨hf, ht, hfin⟩ := hk
      have hdc : am_dc ci k = "J" := of_decide_eq_true ht
      exact am_put hC0 (ty := .long) (σ' := am_wJ σ o k v) hd hf hfin hkd hH hS hcs (by rw [hdc]; decide +kernel) rfl rfl rfl (fun _ _ _ => rfl) (fun _ _ h => am_u_off _ _ _ _ h) (fun _ _ _ => rfl) (by rw [am_fV_2 (by rw [hdc]; decide +kernel)]; exact congrArg Value.long (am_u_at _ _ _ _)) (fun H' locs' h1 h2 => kk _ _ _ _ _ h1 h2 hL hcs rfl)
    · cases h
  · rename_i ci k w v o rr
    split at h
    · rename_i hkd
      cases h
      simp only [am_chkI, Bool.and_eq_true] at hk
      obtain ⟨hf, ht, hfin⟩ := hk
      obtain ⟨⟨ty, hty, hrt⟩, htc⟩ := am_tp3 ht
      exact am_put hC0 (ty := ty) (σ' := am_wR σ o k (some v)) hd hf hfin hkd hH hS hcs hty (by rcases hrt with ⟨n, rfl⟩ | ⟨n, rfl⟩ <;> rfl) (by rcases hrt with ⟨n, rfl⟩ | ⟨n, rfl⟩ <;> rfl) rfl (fun _ _ _ => rfl) (fun _ _ _ => rfl) (fun _ _ h => am_u_off _ _ _ _ h) (by rw [am_fV_3 htc]; show va_rf (Option.map _ (am_u _ _ _ _ _ _)) = _; rw [am_u_at]; rfl) (fun H' locs' h1 h2 => kk _ _ _ _ _ h1 h2 hL hcs rfl)
    · cases h
  · cases h
theorem am_fV_none {S0 ci k : Nat} : am_fV S0 ci k (fun _ => 0) (fun _ => 0) (fun _ => none) = am_fV 0 ci k (fun _ => 0) (fun _ => 0) (fun _ => none) := by
  unfold am_fV
  split <;> rfl
theorem am_nS_new (σ : am_M) (c n : Nat) : am_nS (am_new σ c n) = am_nS σ + n := by
  show ((am_S σ ++ [(c, n)]).map (·.2)).sum = _
  rw [List.map_append, List.sum_append]
  rfl
theorem am_S_new (σ : am_M) (c n : Nat) : (am_S (am_new σ c n)).length = (am_S σ).length + 1 := by
  show (am_S σ ++ [(c, n)]).length = _
  rw [List.length_append]
  rfl
theorem sm_new {ix : Nat} (hC : am_C p s m args meth c D cy X b S0 y r) : am_Sim p l e R s m args below meth c Q D cy X b S0 y r (.new ix) := by
  intro x pc L st σ pc' L' st' σ' H locs ls cells slots hd hk h hH hS hL hR hA hcs hcl hsl kk
  have hC0 := hC
  obtain ⟨hx, hb, -, hml, hown, hts, hE, -, hini, hscr⟩ := hC
  dsimp only [am_step] at h
  split at h
  · rename_i ci n w
    cases h
    rw [am_S_new] at hcl
    rw [am_nS_new] at hsl
    simp only [am_chkI] at hk
    split at hk
    · rename_i q hq
      rw [Bool.and_eq_true] at hk
      obtain ⟨hn, hw⟩ := hk
      have hn := Nat.eq_of_beq_eq_true hn
      have hlt := am_cl_lt hq
      have hokc := am_cls hq
      obtain ⟨q1, q2, q3⟩ := q
      obtain ⟨c1, ⟨ty0, c2, c2b⟩, c3, c4, c5⟩ := hokc
      have hn : q3 = n := hn
      subst hn
      refine va_new (D := D) (cl := vwCl) (tys := am_ty cy) (C := q1) (T := q2) (N := q3) (Ts := am_ws) (fs := (List.range q3).map (fun k => am_fV S0 ci k (fun _ => 0) (fun _ => 0) (fun _ => none))) hx hb hts c1 ty0 c2 hown (hts _ (am_wd_in hw)) (hts _ c4) (hts _ c5) hE.1 hH.1 am_W_D hS (fun q h9 => Nat.le_trans hA h9) hq (fun j hj => ?_) (by omega) (by omega) (am_dec_1 hd rfl rfl) (fun qa H1 hP1 hD1 hS1 => am_szW (fun hz => ?_))
      · rw [c2b j hj, ← am_fV_none (S0 := S0)]
        unfold vp_V
        rw [List.getD_eq_getElem?_getD, am_fs_at hj]
        rfl
      · have hz2 : H1.size ≤ S0 + (am_S σ).length + 1 := by omega
        have hqa := am_next hP1 hD1 hz2
        subst hqa
        exact kk _ _ _ _ _ (am_H_new hH.2.2 hP1 hD1 hz2 (am_E_obj hlt).symm (fun q h9 => by rw [hq] at h9; cases h9; rfl)) hS1 hL (by rw [am_S_new]; omega) (by rw [am_nS_new]; omega)
    · cases hk
  · cases h
theorem sm_newarray {at_ : ArrayType} (hC : am_C p s m args meth c D cy X b S0 y r) : am_Sim p l e R s m args below meth c Q D cy X b S0 y r (.newarray at_) := by
  intro x pc L st σ pc' L' st' σ' H locs ls cells slots hd hk h hH hS hL hR hA hcs hcl hsl kk
  have hC0 := hC
  obtain ⟨hx, hb, -, hml, hown, hts, hE, -, hini, hscr⟩ := hC
  dsimp only [am_step] at h
  split at h
  · rename_i cc n rr
    split at h
    · rename_i hn
      cases h
      rw [am_S_new] at hcl
      rw [am_nS_new] at hsl
      simp only [Bool.and_eq_true, Bool.not_eq_true', decide_eq_false_iff_not] at hn
      obtain ⟨hn0, hn1⟩ := hn
      have hn1 : n.toNatClampNeg < 1000 := Nat.le_of_ble_eq_true hn1
      simp only [am_chkI, Bool.and_eq_true] at hk
      obtain ⟨hk1, hk2⟩ := hk
      have hk1 := Nat.eq_of_beq_eq_true hk1
      have hk2 : cc < 23 := Nat.le_of_ble_eq_true hk2
      subst hk1
      cases at_
      case int =>
        refine va_newa (D := D) (cl := vwCl) (tys := am_ty cy) (atype := .int) (ty := .int) (a0 := (n.toNatClampNeg, .inl (fun _ => 0))) hx hb (hts _ (am_wd_in am_acI)) rfl hE.1 hH.1 am_W_D hS (fun q h9 => Nat.le_trans hA h9) (fun cA => rfl) hn0 rfl (by show n.toNatClampNeg * 4 ≤ 536870912; omega) (by omega) (by omega) (am_dec_1 hd rfl rfl) (fun qa cA H1 hK1 hP1 hD1 hS1 => am_szW (fun hz => ?_))
        have hz2 : H1.size ≤ S0 + (am_S σ).length + 1 := by omega
        have hqa := am_next hP1 hD1 hz2
        subst hqa
        have hcA : cA = cy 0 := Option.some.inj (((hK1.2 6 (cA, .int) rfl).2 : s.vm.findClass _ = some cA).symm.trans ((hE.1.2 0 (cy 0, .int) rfl).2 : s.vm.findClass _ = some (cy 0)))
        subst hcA
        exact kk _ _ _ _ _ (am_H_new hH.2.2 hP1 hD1 hz2 rfl (fun q h9 => by cases h9)) hS1 hL (by rw [am_S_new]; omega) (by rw [am_nS_new]; omega)
      case byte =>
        refine va_newa (D := D) (cl := vwCl) (tys := am_ty cy) (atype := .byte) (ty := .byte) (a0 := (n.toNatClampNeg, .inl (fun _ => 0))) hx hb (hts _ (am_wd_in am_acB)) rfl hE.1 hH.1 am_W_D hS (fun q h9 => Nat.le_trans hA h9) (fun cA => rfl) hn0 rfl (by show n.toNatClampNeg * 1 ≤ 536870912; omega) (by omega) (by omega) (am_dec_1 hd rfl rfl) (fun qa cA H1 hK1 hP1 hD1 hS1 => am_szW (fun hz => ?_))
        have hz2 : H1.size ≤ S0 + (am_S σ).length + 1 := by omega
        have hqa := am_next hP1 hD1 hz2
        subst hqa
        have hcA : cA = cy 1 := Option.some.inj (((hK1.2 6 (cA, .byte) rfl).2 : s.vm.findClass _ = some cA).symm.trans ((hE.1.2 1 (cy 1, .byte) rfl).2 : s.vm.findClass _ = some (cy 1)))
        subst hcA
        exact kk _ _ _ _ _ (am_H_new hH.2.2 hP1 hD1 hz2 rfl (fun q h9 => by cases h9)) hS1 hL (by rw [am_S_new]; omega) (by rw [am_nS_new]; omega)
      case boolean =>
        refine va_newa (D := D) (cl := vwCl) (tys := am_ty cy) (atype := .boolean) (ty := .boolean) (a0 := (n.toNatClampNeg, .inl (fun _ => 0))) hx hb (hts _ (am_wd_in am_acZ)) rfl hE.1 hH.1 am_W_D hS (fun q h9 => Nat.le_trans hA h9) (fun cA => rfl) hn0 rfl (by show n.toNatClampNeg * 1 ≤ 536870912; omega) (by omega) (by omega) (am_dec_1 hd rfl rfl) (fun qa cA H1 hK1 hP1 hD1 hS1 => am_szW (fun hz => ?_))
        have hz2 : H1.size ≤ S0 + (am_S σ).length + 1 := by omega
        have hqa := am_next hP1 hD1 hz2
        subst hqa
        have hcA : cA = cy 2 := Option.some.inj (((hK1.2 6 (cA, .boolean) rfl).2 : s.vm.findClass _ = some cA).symm.trans ((hE.1.2 2 (cy 2, .boolean) rfl).2 : s.vm.findClass _ = some (cy 2)))
        subst hcA
        exact kk _ _ _ _ _ (am_H_new hH.2.2 hP1 hD1 hz2 rfl (fun q h9 => by cases h9)) hS1 hL (by rw [am_S_new]; omega) (by rw [am_nS_new]; omega)
      all_goals (exact absurd hk2 (by decide))
    · cases h
  · cases h
theorem sm_anewarray {ix : Nat} (hC : am_C p s m args meth c D cy X b S0 y r) : am_Sim p l e R s m args below meth c Q D cy X b S0 y r (.anewarray ix) := by
  intro x pc L st σ pc' L' st' σ' H locs ls cells slots hd hk h hH hS hL hR hA hcs hcl hsl kk
  have hC0 := hC
  obtain ⟨hx, hb, -, hml, hown, hts, hE, -, hini, hscr⟩ := hC
  dsimp only [am_step] at h
  split at h
  · rename_i cc w n rr
    split at h
    · rename_i hn
      cases h
      rw [am_S_new] at hcl
      rw [am_nS_new] at hsl
      simp only [Bool.and_eq_true, Bool.not_eq_true', decide_eq_false_iff_not] at hn
      obtain ⟨hn0, hn1⟩ := hn
      have hn1 : n.toNatClampNeg < 1000 := Nat.le_of_ble_eq_true hn1
      dsimp only [am_chkI] at hk
      split at hk
      · rename_i heq
        cases heq
        refine va_newq (D := D) (cl := vwCl) (tys := am_ty cy) (C := "SoundToll$Gate") hx hb hown (hts _ (am_wd_in hk)) hE.2.2.1 hE.1 hH.1 am_W_D hS (fun q h9 => Nat.le_trans hA h9) hn0 rfl (by omega) (by omega) (by omega) (am_dec_1 hd rfl rfl) (fun qa cA H1 hK1 hP1 hD1 hS1 => am_szW (fun hz => ?_))
        have hz2 : H1.size ≤ S0 + (am_S σ).length + 1 := by omega
        have hqa := am_next hP1 hD1 hz2
        subst hqa
        have hcA : cA = cy 3 := by
          obtain ⟨_, _, _, _, _, g1⟩ := (hK1.2 6 (cA, .object "SoundToll$Gate") rfl).2
          obtain ⟨_, _, _, _, _, g2⟩ := (hE.1.2 3 (cy 3, .object "SoundToll$Gate") rfl).2
          exact Option.some.inj (g1.symm.trans g2)
        subst hcA
        exact kk _ _ _ _ _ (am_H_new hH.2.2 hP1 hD1 hz2 rfl (fun q h9 => by cases h9)) hS1 hL (by rw [am_S_new]; omega) (by rw [am_nS_new]; omega)
      · rename_i heq
        cases heq
        refine va_newq (D := D) (cl := vwCl) (tys := am_ty cy) (C := "SoundToll$Tune") hx hb hown (hts _ (am_wd_in hk)) hE.2.2.2.1 hE.1 hH.1 am_W_D hS (fun q h9 => Nat.le_trans hA h9) hn0 rfl (by omega) (by omega) (by omega) (am_dec_1 hd rfl rfl) (fun qa cA H1 hK1 hP1 hD1 hS1 => am_szW (fun hz => ?_))
        have hz2 : H1.size ≤ S0 + (am_S σ).length + 1 := by omega
        have hqa := am_next hP1 hD1 hz2
        subst hqa
        have hcA : cA = cy 4 := by
          obtain ⟨_, _, _, _, _, g1⟩ := (hK1.2 6 (cA, .object "SoundToll$Tune") rfl).2
          obtain ⟨_, _, _, _, _, g2⟩ := (hE.1.2 4 (cy 4, .object "SoundToll$Tune") rfl).2
          exact Option.some.inj (g1.symm.trans g2)
        subst hcA
        exact kk _ _ _ _ _ (am_H_new hH.2.2 hP1 hD1 hz2 rfl (fun q h9 => by cases h9)) hS1 hL (by rw [am_S_new]; omega) (by rw [am_nS_new]; omega)
      · cases hk
      · first | (exact absurd rfl (‹∀ a b : Nat, _ = [a, b] → False› _ _)) | simp_all
    · cases h
  · cases h
theorem sm_invokespecial {ix : Nat} (hC : am_C p s m args meth c D cy X b S0 y r) : am_Sim p l e R s m args below meth c Q D cy X b S0 y r (.invokespecial ix) := by
  intro x pc L st σ pc' L' st' σ' H locs ls cells slots hd hk h hH hS hL hR hA hcs hcl hsl kk
  have hC0 := hC
  obtain ⟨hx, hb, -, hml, hown, hts, hE, -, hini, hscr⟩ := hC
  dsimp only [am_step] at h
  split at h
  · split at h
    · rename_i w o rr hl
      cases h
      dsimp only [am_chkI] at hk
      refine W.objInit hx hb hown (hts _ (am_wd_in hk)) (hts _ (am_wd_in am_obI)) (hts _ (am_wd_in am_obC)) rfl (by rw [hml]; exact hL.2.1.1) rfl (am_dec_1 hd rfl rfl) hR.1 ?_ (kk _ _ _ _ _ hH hS hL hcs rfl)
      have h8 := am_cats (List.map (am_cv b S0) st')
      rw [List.length_map] at h8
      have h9 : st'.length ≤ 4 := Nat.le_of_ble_eq_true hl
      show 2 * 0 + _ + 12 ≤ _
      omega
    · cases h
  · split at h
    · split at h <;> cases h
    · cases h
  · cases h
theorem am_fits_bool {v : Int32} (h : v = 0 ∨ v = 1) : fits .boolean (.int v) = true := by
  rcases h with rfl | rfl <;> decide +kernel
theorem sm_invokestatic {ix : Nat} (hC : am_C p s m args meth c D cy X b S0 y r) : am_Sim p l e R s m args below meth c Q D cy X b S0 y r (.invokestatic ix) := by
  intro x pc L st σ pc' L' st' σ' H locs ls cells slots hd hk h hH hS hL hR hA hcs hcl hsl kk
  have hC0 := hC
  obtain ⟨hx, hb, -, hml, hown, hts, hE, -, hini, hscr⟩ := hC
  dsimp only [am_step] at h
  split at h
  · rename_i cc w n j ob i oa rr
    split at h
    · rename_i hc
      obtain ⟨hl, ka, kb, hcc, i0, j0, n0, ha, hb2⟩ := hc
      cases h
      dsimp only [am_chkI] at hk
      have h8 := am_cats (List.map (am_cv b S0) st')
      rw [List.length_map] at h8
      have h9 : st'.length ≤ 4 := Nat.le_of_ble_eq_true hl
      have hloc : ((List.map (am_cv b S0) st').map fun v => v.category).sum + (nativeFrameWords "java/lang/System" "arraycopy" 5 + 11) ≤ R.locals := by
        have : nativeFrameWords "java/lang/System" "arraycopy" 5 = 7 := by decide +kernel
        omega
      have fin : ∀ {q : Nat × Nat} {x : va_E}, (am_S σ)[ob]? = some q → ∀ (H1 : Heap) (locs1 : List Loc), va_P D vwCl ((am_W cy S0 σ).set ob (S0 + ob, x)) H1 → va_S (fun q => S0 ≤ q) s.heap H1 locs1 → x = am_E cy S0 (va_cpy (σ.1 oa) (σ.1 ob) i.toNatClampNeg j.toNatClampNeg n.toNatClampNeg) (σ.2.1 ob) (σ.2.2.1 ob) q → W p l e R s m args below meth c H1 locs1 cells slots Q (F0 m (pc + 3) ls (st'.map (am_cv b S0))) := by
        intro q x h1 H1 locs1 hP1 hS1 hx1
        refine am_szW (fun hz => ?_)
        have hz1 : H1.size = H.size := by have h8 := am_lt_size hP1 am_W_D; have h9 := hH.2.1; have hq := (List.getElem?_eq_some_iff.mp h1).1; omega
        refine kk _ _ _ _ _ (am_H_set hH h1 rfl (fun a ha => funext fun k => if_neg (fun q => ha q.1)) (fun _ _ => rfl) (fun _ _ => rfl) hP1 ?_ hz1) hS1 hL hcs rfl
        rw [hx1]
        show _ = am_E cy S0 (am_cpy σ.1 _ _ _ _ _ _) _ _ _
        congr 1
        funext k
        unfold va_cpy am_cpy
        by_cases hk9 : j.toNatClampNeg ≤ k ∧ k < j.toNatClampNeg + n.toNatClampNeg
        · rw [if_pos hk9, if_pos ⟨rfl, hk9⟩]
        · rw [if_neg hk9, if_neg (fun q => hk9 q.2)]
      rcases hcc with hcc | ⟨hcc, hall⟩
      · subst hcc
        have h1 := am_kd_S ka (by decide)
        have h2 := am_kd_S kb (by decide)
        exact va_copyi hx hb (by rw [hml]; exact hL.2.1.1.symm) hown (hts _ (am_wd_in hk)) (hts _ (am_wd_in am_cpN)) (hts _ (am_wd_in am_cpS)) (hts _ (am_wd_in am_cpI)) hE.1 hH.1 am_W_D hS oa ob 0 0 (am_W_in h1) (am_W_in h2) rfl rfl rfl i0 j0 n0 ha hb2 (fun _ _ => rfl) hR.1 hloc (am_dec_1 hd rfl rfl) (fun H1 locs1 hP1 hD1 hS1 => fin h2 H1 locs1 hP1 hS1 rfl)
      · subst hcc
        have h1 := am_kd_S ka (by decide)
        have h2 := am_kd_S kb (by decide)
        refine va_copyi hx hb (by rw [hml]; exact hL.2.1.1.symm) hown (hts _ (am_wd_in hk)) (hts _ (am_wd_in am_cpN)) (hts _ (am_wd_in am_cpS)) (hts _ (am_wd_in am_cpI)) hE.1 hH.1 am_W_D hS oa ob 2 2 (am_W_in h1) (am_W_in h2) rfl rfl rfl i0 j0 n0 ha hb2 (fun k hk9 => ?_) hR.1 hloc (am_dec_1 hd rfl rfl) (fun H1 locs1 hP1 hD1 hS1 => fin h2 H1 locs1 hP1 hS1 rfl)
        have := List.all_eq_true.mp hall k (List.mem_range.mpr hk9)
        simp only [Bool.or_eq_true, decide_eq_true_eq] at this
        exact am_fits_bool this
    · cases h
  · split at h <;> cases h
  · cases h
end SM2
