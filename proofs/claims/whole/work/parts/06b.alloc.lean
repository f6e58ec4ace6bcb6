/-! Making objects -/
def HB (N : Nat) (h : HP) : Prop := (∀ o k, h.2.2 o k ≤ N) ∧ ∀ o, N < o → ∀ k, h.1 o k = 0 ∧ h.2.1 o k = 0 ∧ h.2.2 o k = 0
theorem HB.up {N : Nat} {h : HP} (b : HB N h) : HB (N + 1) h := ⟨fun o k => Nat.le_succ_of_le (b.1 o k), fun o ho => b.2 o (by omega)⟩
theorem HB.putI {N : Nat} {h : HP} {o k : Nat} {x : Int32} (b : HB N h) (ho : o ≤ N) : HB N (uI h o k x) := by
  refine ⟨b.1, fun o' h' k' => ⟨?_, (b.2 o' h' k').2.1, (b.2 o' h' k').2.2⟩⟩
  show up2 h.1 o k x o' k' = 0
  rw [up2_o (by omega)]
  exact (b.2 o' h' k').1
theorem HB.putL {N : Nat} {h : HP} {o k : Nat} {x : Int64} (b : HB N h) (ho : o ≤ N) : HB N (uL h o k x) := by
  refine ⟨b.1, fun o' h' k' => ⟨(b.2 o' h' k').1, ?_, (b.2 o' h' k').2.2⟩⟩
  show up2 h.2.1 o k x o' k' = 0
  rw [up2_o (by omega)]
  exact (b.2 o' h' k').2.1
theorem HB.putR {N : Nat} {h : HP} {o k r : Nat} (b : HB N h) (ho : o ≤ N) (hr : r ≤ N) : HB N (uR h o k r) := by
  refine ⟨fun o' k' => ?_, fun o' h' k' => ⟨(b.2 o' h' k').1, (b.2 o' h' k').2.1, ?_⟩⟩
  · show up2 h.2.2 o k r o' k' ≤ N
    unfold up2
    split
    · split
      · exact hr
      · exact b.1 o' k'
    · exact b.1 o' k'
  · show up2 h.2.2 o k r o' k' = 0
    rw [up2_o (by omega)]
    exact (b.2 o' h' k').2.2
theorem sl_mono {a b : Nat} (h : a ≤ b) : sl a ≤ sl b := by
  induction h with
  | refl => exact Nat.le_refl _
  | step _ ih => exact Nat.le_trans ih (Nat.le_add_right _ _)
def dvz (t : Nat) : Value := if t = 1 then .long 0 else if t = 2 then .null else .int 0
def FD (ci : Nat) : Prop := ∃ (C : String) (T : u_T) (n : Nat) (ty : Nat → FieldType), vwCl[ci]? = some (C, T, n) ∧ (∀ w ∈ u_ws C T n, w ∈ TG) ∧ (∀ j, j < n → parseFieldDescriptor (T j).2.2.1 = some (ty j)) ∧ fnn ci = n ∧ (∀ j, j < n → defaultValue (ty j) = dvz (ftc ci j)) ∧ C = RC ci
def adn (ad : Nat → Nat) (N q : Nat) : Nat → Nat := fun o => if o = N + 1 then q else ad o
theorem adn_o {ad : Nat → Nat} {N q o : Nat} (h : o ≠ N + 1) : adn ad N q o = ad o := if_neg h
theorem adn_s {ad : Nat → Nat} {N q : Nat} : adn ad N q (N + 1) = q := if_pos rfl
theorem en_adn {cA : Nat → ClassId} {ad : Nat → Nat} {N q : Nat} {h : HP} {o : Nat} {p : Nat × Nat} (hb : ∀ k, h.2.2 o k ≤ N) : en cA (adn ad N q) h o p = en cA ad h o p := by
  have e1 : ∀ k, rv (adn ad N q) (h.2.2 o k) = rv ad (h.2.2 o k) := by
    intro k
    have := hb k
    unfold rv
    rw [adn_o (by omega)]
  have e2 : (fun i => if h.2.2 o i = 0 then none else some (adn ad N q (h.2.2 o i))) = (fun i => if h.2.2 o i = 0 then none else some (ad (h.2.2 o i))) := by
    funext i
    have := hb i
    rw [adn_o (by omega)]
  have e3 : ∀ ci, flds (adn ad N q) h o ci = flds ad h o ci := by
    intro ci
    unfold flds
    congr 1
    funext k
    unfold fv
    rw [e1]
  unfold en
  rw [e2, e3]
theorem wl_adn {cA : Nat → ClassId} {ad : Nat → Nat} {N q : Nat} {h : HP} (hb : HB N h) : wl cA (adn ad N q) N h = wl cA ad N h := by
  unfold wl
  apply List.map_congr_left
  intro i hi
  have := List.mem_range.mp hi
  rw [en_adn (fun k => hb.1 _ k), adn_o (by omega)]
theorem wl_succ {cA : Nat → ClassId} {ad : Nat → Nat} {N q : Nat} {h : HP} (hb : HB N h) : wl cA (adn ad N q) (N + 1) h = wl cA ad N h ++ [(q, en cA ad h (N + 1) (sk (N + 1)))] := by
  rw [← wl_adn (cA := cA) (ad := ad) (q := q) hb]
  unfold wl
  rw [List.range_succ, List.map_append]
  congr 1
  simp only [List.map_cons, List.map_nil, adn_s]
  rw [en_adn (fun k => hb.1 _ k)]
def okr (N : Nat) (v : Value) : Prop := v ≠ .ref (N + 1)
theorem cv_adn {ad : Nat → Nat} {N q : Nat} {v : Value} (h : okr N v) : cv (adn ad N q) v = cv ad v := by
  cases v with
  | ref o => exact congrArg Value.ref (adn_o (fun e => h (by rw [e])))
  | _ => rfl
theorem cvs_adn {ad : Nat → Nat} {N q : Nat} {st : List Value} (h : ∀ v ∈ st, okr N v) : st.map (cv (adn ad N q)) = st.map (cv ad) := List.map_congr_left fun v hv => cv_adn (h v hv)
theorem lm_adn {ad : Nat → Nat} {N q : Nat} {ls : List (Nat × Value)} (h : ∀ v ∈ ls, okr N v.2) : lm (adn ad N q) ls = lm ad ls := List.map_congr_left fun v hv => by rw [cv_adn (h v hv)]
theorem ag_adn {N0 N q : Nat} {ad0 ad : Nat → Nat} (h : ag N0 N ad0 ad) (h0 : N0 ≤ N) : ag N0 (N + 1) ad0 (adn ad N q) := by
  intro o ho
  rw [adn_o (by omega)]
  exact h o (by omega)
theorem adW_adn {ad : Nat → Nat} {N q : Nat} (h : N + 1 < 1000) : adW (adn ad N q) = adW ad := funext fun i => adn_o (by omega)
section EV6
variable {d : Nat} {μ : MI} {N0 : Nat} {v : Option Value} {N' : Nat} {h' : HP} {pc : Nat} {N : Nat} {ls : List (Nat × Value)} {st : List Value} {h : HP}
theorem e_new {idx ci : Nat} (hd : decode μ.2.1 pc = .ok (.new idx, 3)) (hf : FD ci) (hcl : Cond.classLink μ.1.cls idx (RC ci) ∈ TG) (hins : Cond.instantiable (RC ci) (fnn ci) ∈ TG) (hini : Cond.initialized (RC ci) ∈ TG) (hsk : sk (N + 1) = (0, ci)) (hb : HB N h) (hN : N0 ≤ N ∧ N + 1 ≤ N' ∧ N + 1 < 1000) (hls : ∀ v ∈ ls, okr N v.2) (hst : ∀ v ∈ st, okr N v) {pc2 : Nat} (hp2 : pc + 3 = pc2) (k : Ev d μ N0 v N' h' pc2 (N + 1) ls (.ref (N + 1) :: st) h) : Ev d μ N0 v N' h' pc N ls st h := by
  subst hp2
  intro p l e s m args below meth c D cA ad0 ad A H locs lsA C G sw P Dj S L
  obtain ⟨Cn, T, n, ty, hc, hin, hty, hn, hdv, rfl⟩ := hf
  have m1 := sl_mono hN.1
  have m2 := sl_mono hN.2.1
  have e2 : sl (N + 1) = sl N + fnn ci := by show sl N + skz (sk (N + 1)) = _; rw [hsk]; rfl
  subst hn
  have e3 : flds ad h (N + 1) ci = (List.range (fnn ci)).map (fun j => dvz (ftc ci j)) := by
    unfold flds
    apply List.map_congr_left
    intro j _
    obtain ⟨z1, z2, z3⟩ := hb.2 (N + 1) (by omega) j
    unfold fv dvz rv
    rw [z1, z2, z3]
    simp
  refine va_new (ci := ci) (fs := flds ad h (N + 1) ci) C.1 C.2.1 C.2.2.2.2.2.1 hin ty hty C.2.2.2.2.1 (C.2.2.2.2.2.1 _ hcl) (C.2.2.2.2.2.1 _ hins) (C.2.2.2.2.2.1 _ hini) C.2.2.2.2.2.2.2.2.1 P Dj S C.2.2.2.2.2.2.2.2.2 hc ?_ ?_ ?_ hd (fun q H1 P1 D1 S1 => ?_)
  · intro j hj
    rw [hdv j hj, e3]
    simp [vp_V, hj]
  · show N - N0 + 1 ≤ N' - N0
    omega
  · show sl N - sl N0 + fnn ci ≤ sl N' - sl N0
    omega
  · have e1 : wl cA (adn ad N q) (N + 1) h = wl cA ad N h ++ [(q, .inr (ci, flds ad h (N + 1) ci))] := by
      rw [wl_succ hb, hsk]; rfl
    rw [← e1] at P1 D1
    have hk := k p l e s m args below meth c D cA ad0 (adn ad N q) A H1 locs lsA C (ag_adn G hN.1) (by rw [adW_adn hN.2.2]; exact sw) P1 D1 S1 (by rw [lm_adn hls]; exact L)
    rw [List.map_cons, cvs_adn hst] at hk
    rw [show N - N0 + 1 = N + 1 - N0 by omega, show sl N - sl N0 + fnn ci = sl (N + 1) - sl N0 by omega]
    have e4 : cv (adn ad N q) (.ref (N + 1)) = .ref q := congrArg Value.ref adn_s
    rw [e4] at hk
    exact hk
theorem e_newI {m0 : Nat} {n : Int32} (hd : decode μ.2.1 pc = .ok (.newarray .int, 2)) (hm : n.toNatClampNeg = m0) (hn : ¬ n < 0) (hby : m0 * componentBytes .int ≤ 536870912) (hac : Cond.arrayClass .int ∈ TG) (hsk : sk (N + 1) = (1, m0)) (hb : HB N h) (hN : N0 ≤ N ∧ N + 1 ≤ N' ∧ N + 1 < 1000) (hls : ∀ v ∈ ls, okr N v.2) (hst : ∀ v ∈ st, okr N v) {pc2 : Nat} (hp2 : pc + 2 = pc2) (k : Ev d μ N0 v N' h' pc2 (N + 1) ls (.ref (N + 1) :: st) h) : Ev d μ N0 v N' h' pc N ls (.int n :: st) h := by
  subst hp2
  intro p l e s m args below meth c D cA ad0 ad A H locs lsA C G sw P Dj S L
  have m1 := sl_mono hN.1
  have m2 := sl_mono hN.2.1
  have e2 : sl (N + 1) = sl N + m0 := by show sl N + skz (sk (N + 1)) = _; rw [hsk]; rfl
  have e3 : h.1 (N + 1) = fun _ => 0 := by
    funext j
    have z := hb.2 (N + 1) (by omega) j
    exact z.1
  refine va_newa (atype := .int) (ty := .int) (a0 := (m0, .inl (h.1 (N + 1)))) C.1 C.2.1 (C.2.2.2.2.2.1 _ hac) rfl C.2.2.2.2.2.2.2.2.1 P Dj S C.2.2.2.2.2.2.2.2.2 ?_ hn hm hby ?_ ?_ hd (fun q cB H1 K1 P1 D1 S1 => ?_)
  · intro cB
    rw [vp_cell_i, e3]
    rfl
  · show N - N0 + 1 ≤ N' - N0
    omega
  · show sl N - sl N0 + m0 ≤ sl N' - sl N0
    omega
  · have f1 : va_RA s cB .int := (K1.2 7 (cB, .int) rfl).2
    have f2 : va_RA s (cA 1) .int := (C.2.2.2.2.2.2.2.2.1.2 0 (cA 1, .int) rfl).2
    have f3 : cB = cA 1 := Option.some.inj (f1.symm.trans f2)
    subst f3
    have e1 : wl cA (adn ad N q) (N + 1) h = wl cA ad N h ++ [(q, .inl (cA 1, (m0, .inl (h.1 (N + 1)))))] := by
      rw [wl_succ hb, hsk]; rfl
    rw [← e1] at P1 D1
    have hk := k p l e s m args below meth c D cA ad0 (adn ad N q) A H1 locs lsA C (ag_adn G hN.1) (by rw [adW_adn hN.2.2]; exact sw) P1 D1 S1 (by rw [lm_adn hls]; exact L)
    rw [List.map_cons, cvs_adn hst] at hk
    rw [show N - N0 + 1 = N + 1 - N0 by omega, show sl N - sl N0 + m0 = sl (N + 1) - sl N0 by omega]
    have e4 : cv (adn ad N q) (.ref (N + 1)) = .ref q := congrArg Value.ref adn_s
    rw [e4] at hk
    exact hk
theorem e_newL {m0 : Nat} {n : Int32} (hd : decode μ.2.1 pc = .ok (.newarray .long, 2)) (hm : n.toNatClampNeg = m0) (hn : ¬ n < 0) (hby : m0 * componentBytes .long ≤ 536870912) (hac : Cond.arrayClass .long ∈ TG) (hsk : sk (N + 1) = (2, m0)) (hb : HB N h) (hN : N0 ≤ N ∧ N + 1 ≤ N' ∧ N + 1 < 1000) (hls : ∀ v ∈ ls, okr N v.2) (hst : ∀ v ∈ st, okr N v) {pc2 : Nat} (hp2 : pc + 2 = pc2) (k : Ev d μ N0 v N' h' pc2 (N + 1) ls (.ref (N + 1) :: st) h) : Ev d μ N0 v N' h' pc N ls (.int n :: st) h := by
  subst hp2
  intro p l e s m args below meth c D cA ad0 ad A H locs lsA C G sw P Dj S L
  have m1 := sl_mono hN.1
  have m2 := sl_mono hN.2.1
  have e2 : sl (N + 1) = sl N + m0 := by show sl N + skz (sk (N + 1)) = _; rw [hsk]; rfl
  have e3 : h.2.1 (N + 1) = fun _ => 0 := by
    funext j
    have z := hb.2 (N + 1) (by omega) j
    exact z.2.1
  refine va_newa (atype := .long) (ty := .long) (a0 := (m0, .inr (.inl (h.2.1 (N + 1))))) C.1 C.2.1 (C.2.2.2.2.2.1 _ hac) rfl C.2.2.2.2.2.2.2.2.1 P Dj S C.2.2.2.2.2.2.2.2.2 ?_ hn hm hby ?_ ?_ hd (fun q cB H1 K1 P1 D1 S1 => ?_)
  · intro cB
    rw [vp_cell_l, e3]
    rfl
  · show N - N0 + 1 ≤ N' - N0
    omega
  · show sl N - sl N0 + m0 ≤ sl N' - sl N0
    omega
  · have f1 : va_RA s cB .long := (K1.2 7 (cB, .long) rfl).2
    have f2 : va_RA s (cA 2) .long := (C.2.2.2.2.2.2.2.2.1.2 1 (cA 2, .long) rfl).2
    have f3 : cB = cA 2 := Option.some.inj (f1.symm.trans f2)
    subst f3
    have e1 : wl cA (adn ad N q) (N + 1) h = wl cA ad N h ++ [(q, .inl (cA 2, (m0, .inr (.inl (h.2.1 (N + 1))))))] := by
      rw [wl_succ hb, hsk]; rfl
    rw [← e1] at P1 D1
    have hk := k p l e s m args below meth c D cA ad0 (adn ad N q) A H1 locs lsA C (ag_adn G hN.1) (by rw [adW_adn hN.2.2]; exact sw) P1 D1 S1 (by rw [lm_adn hls]; exact L)
    rw [List.map_cons, cvs_adn hst] at hk
    rw [show N - N0 + 1 = N + 1 - N0 by omega, show sl N - sl N0 + m0 = sl (N + 1) - sl N0 by omega]
    have e4 : cv (adn ad N q) (.ref (N + 1)) = .ref q := congrArg Value.ref adn_s
    rw [e4] at hk
    exact hk
theorem e_newC {m0 : Nat} {n : Int32} (hd : decode μ.2.1 pc = .ok (.newarray .char, 2)) (hm : n.toNatClampNeg = m0) (hn : ¬ n < 0) (hby : m0 * componentBytes .char ≤ 536870912) (hac : Cond.arrayClass .char ∈ TG) (hsk : sk (N + 1) = (3, m0)) (hb : HB N h) (hN : N0 ≤ N ∧ N + 1 ≤ N' ∧ N + 1 < 1000) (hls : ∀ v ∈ ls, okr N v.2) (hst : ∀ v ∈ st, okr N v) {pc2 : Nat} (hp2 : pc + 2 = pc2) (k : Ev d μ N0 v N' h' pc2 (N + 1) ls (.ref (N + 1) :: st) h) : Ev d μ N0 v N' h' pc N ls (.int n :: st) h := by
  subst hp2
  intro p l e s m args below meth c D cA ad0 ad A H locs lsA C G sw P Dj S L
  have m1 := sl_mono hN.1
  have m2 := sl_mono hN.2.1
  have e2 : sl (N + 1) = sl N + m0 := by show sl N + skz (sk (N + 1)) = _; rw [hsk]; rfl
  have e3 : h.1 (N + 1) = fun _ => 0 := by
    funext j
    have z := hb.2 (N + 1) (by omega) j
    exact z.1
  refine va_newa (atype := .char) (ty := .char) (a0 := (m0, .inl (h.1 (N + 1)))) C.1 C.2.1 (C.2.2.2.2.2.1 _ hac) rfl C.2.2.2.2.2.2.2.2.1 P Dj S C.2.2.2.2.2.2.2.2.2 ?_ hn hm hby ?_ ?_ hd (fun q cB H1 K1 P1 D1 S1 => ?_)
  · intro cB
    rw [vp_cell_i, e3]
    rfl
  · show N - N0 + 1 ≤ N' - N0
    omega
  · show sl N - sl N0 + m0 ≤ sl N' - sl N0
    omega
  · have f1 : va_RA s cB .char := (K1.2 7 (cB, .char) rfl).2
    have f2 : va_RA s (cA 3) .char := (C.2.2.2.2.2.2.2.2.1.2 2 (cA 3, .char) rfl).2
    have f3 : cB = cA 3 := Option.some.inj (f1.symm.trans f2)
    subst f3
    have e1 : wl cA (adn ad N q) (N + 1) h = wl cA ad N h ++ [(q, .inl (cA 3, (m0, .inl (h.1 (N + 1)))))] := by
      rw [wl_succ hb, hsk]; rfl
    rw [← e1] at P1 D1
    have hk := k p l e s m args below meth c D cA ad0 (adn ad N q) A H1 locs lsA C (ag_adn G hN.1) (by rw [adW_adn hN.2.2]; exact sw) P1 D1 S1 (by rw [lm_adn hls]; exact L)
    rw [List.map_cons, cvs_adn hst] at hk
    rw [show N - N0 + 1 = N + 1 - N0 by omega, show sl N - sl N0 + m0 = sl (N + 1) - sl N0 by omega]
    have e4 : cv (adn ad N q) (.ref (N + 1)) = .ref q := congrArg Value.ref adn_s
    rw [e4] at hk
    exact hk
theorem e_newZ {m0 : Nat} {n : Int32} (hd : decode μ.2.1 pc = .ok (.newarray .boolean, 2)) (hm : n.toNatClampNeg = m0) (hn : ¬ n < 0) (hby : m0 * componentBytes .boolean ≤ 536870912) (hac : Cond.arrayClass .boolean ∈ TG) (hsk : sk (N + 1) = (4, m0)) (hb : HB N h) (hN : N0 ≤ N ∧ N + 1 ≤ N' ∧ N + 1 < 1000) (hls : ∀ v ∈ ls, okr N v.2) (hst : ∀ v ∈ st, okr N v) {pc2 : Nat} (hp2 : pc + 2 = pc2) (k : Ev d μ N0 v N' h' pc2 (N + 1) ls (.ref (N + 1) :: st) h) : Ev d μ N0 v N' h' pc N ls (.int n :: st) h := by
  subst hp2
  intro p l e s m args below meth c D cA ad0 ad A H locs lsA C G sw P Dj S L
  have m1 := sl_mono hN.1
  have m2 := sl_mono hN.2.1
  have e2 : sl (N + 1) = sl N + m0 := by show sl N + skz (sk (N + 1)) = _; rw [hsk]; rfl
  have e3 : h.1 (N + 1) = fun _ => 0 := by
    funext j
    have z := hb.2 (N + 1) (by omega) j
    exact z.1
  refine va_newa (atype := .boolean) (ty := .boolean) (a0 := (m0, .inl (h.1 (N + 1)))) C.1 C.2.1 (C.2.2.2.2.2.1 _ hac) rfl C.2.2.2.2.2.2.2.2.1 P Dj S C.2.2.2.2.2.2.2.2.2 ?_ hn hm hby ?_ ?_ hd (fun q cB H1 K1 P1 D1 S1 => ?_)
  · intro cB
    rw [vp_cell_i, e3]
    rfl
  · show N - N0 + 1 ≤ N' - N0
    omega
  · show sl N - sl N0 + m0 ≤ sl N' - sl N0
    omega
  · have f1 : va_RA s cB .boolean := (K1.2 7 (cB, .boolean) rfl).2
    have f2 : va_RA s (cA 4) .boolean := (C.2.2.2.2.2.2.2.2.1.2 3 (cA 4, .boolean) rfl).2
    have f3 : cB = cA 4 := Option.some.inj (f1.symm.trans f2)
    subst f3
    have e1 : wl cA (adn ad N q) (N + 1) h = wl cA ad N h ++ [(q, .inl (cA 4, (m0, .inl (h.1 (N + 1)))))] := by
      rw [wl_succ hb, hsk]; rfl
    rw [← e1] at P1 D1
    have hk := k p l e s m args below meth c D cA ad0 (adn ad N q) A H1 locs lsA C (ag_adn G hN.1) (by rw [adW_adn hN.2.2]; exact sw) P1 D1 S1 (by rw [lm_adn hls]; exact L)
    rw [List.map_cons, cvs_adn hst] at hk
    rw [show N - N0 + 1 = N + 1 - N0 by omega, show sl N - sl N0 + m0 = sl (N + 1) - sl N0 by omega]
    have e4 : cv (adn ad N q) (.ref (N + 1)) = .ref q := congrArg Value.ref adn_s
    rw [e4] at hk
    exact hk
theorem e_newq5 {m0 idx : Nat} {n : Int32} (hd : decode μ.2.1 pc = .ok (.anewarray idx, 3)) (hcl : Cond.classLink μ.1.cls idx RX9 ∈ TG) (hm : n.toNatClampNeg = m0) (hn : ¬ n < 0) (hby : m0 * 4 ≤ 536870912) (hsk : sk (N + 1) = (5, m0)) (hb : HB N h) (hN : N0 ≤ N ∧ N + 1 ≤ N' ∧ N + 1 < 1000) (hls : ∀ v ∈ ls, okr N v.2) (hst : ∀ v ∈ st, okr N v) {pc2 : Nat} (hp2 : pc + 3 = pc2) (k : Ev d μ N0 v N' h' pc2 (N + 1) ls (.ref (N + 1) :: st) h) : Ev d μ N0 v N' h' pc N ls (.int n :: st) h := by
  subst hp2
  intro p l e s m args below meth c D cA ad0 ad A H locs lsA C G sw P Dj S L
  have m1 := sl_mono hN.1
  have m2 := sl_mono hN.2.1
  have e2 : sl (N + 1) = sl N + m0 := by show sl N + skz (sk (N + 1)) = _; rw [hsk]; rfl
  refine va_newq (C := RX9) C.1 C.2.1 C.2.2.2.2.1 (C.2.2.2.2.2.1 _ hcl) sw.1.2.2.2.2.2.2.1 C.2.2.2.2.2.2.2.2.1 P Dj S C.2.2.2.2.2.2.2.2.2 hn hm hby ?_ ?_ hd (fun q cB H1 K1 P1 D1 S1 => ?_)
  · show N - N0 + 1 ≤ N' - N0
    omega
  · show sl N - sl N0 + m0 ≤ sl N' - sl N0
    omega
  · obtain ⟨_, _, -, -, -, f1⟩ := (K1.2 7 (cB, .object RX9) rfl).2
    obtain ⟨_, _, -, -, -, f2⟩ := (C.2.2.2.2.2.2.2.2.1.2 4 (cA 5, .object RX9) rfl).2
    have f3 : cB = cA 5 := Option.some.inj (f1.symm.trans f2)
    subst f3
    have e3 : (fun i => if h.2.2 (N + 1) i = 0 then none else some (ad (h.2.2 (N + 1) i))) = (fun _ => none) := by
      funext j
      rw [(hb.2 (N + 1) (by omega) j).2.2]; rfl
    have e1 : wl cA (adn ad N q) (N + 1) h = wl cA ad N h ++ [(q, .inl (cA 5, (m0, .inr (.inr (.inr (.inr (fun _ => none)))))))] := by
      rw [wl_succ hb, hsk, ← e3]; rfl
    rw [← e1] at P1 D1
    have hk := k p l e s m args below meth c D cA ad0 (adn ad N q) A H1 locs lsA C (ag_adn G hN.1) (by rw [adW_adn hN.2.2]; exact sw) P1 D1 S1 (by rw [lm_adn hls]; exact L)
    rw [List.map_cons, cvs_adn hst] at hk
    rw [show N - N0 + 1 = N + 1 - N0 by omega, show sl N - sl N0 + m0 = sl (N + 1) - sl N0 by omega]
    have e4 : cv (adn ad N q) (.ref (N + 1)) = .ref q := congrArg Value.ref adn_s
    rw [e4] at hk
    exact hk
theorem e_newq6 {m0 idx : Nat} {n : Int32} (hd : decode μ.2.1 pc = .ok (.anewarray idx, 3)) (hcl : Cond.classLink μ.1.cls idx RX0 ∈ TG) (hm : n.toNatClampNeg = m0) (hn : ¬ n < 0) (hby : m0 * 4 ≤ 536870912) (hsk : sk (N + 1) = (6, m0)) (hb : HB N h) (hN : N0 ≤ N ∧ N + 1 ≤ N' ∧ N + 1 < 1000) (hls : ∀ v ∈ ls, okr N v.2) (hst : ∀ v ∈ st, okr N v) {pc2 : Nat} (hp2 : pc + 3 = pc2) (k : Ev d μ N0 v N' h' pc2 (N + 1) ls (.ref (N + 1) :: st) h) : Ev d μ N0 v N' h' pc N ls (.int n :: st) h := by
  subst hp2
  intro p l e s m args below meth c D cA ad0 ad A H locs lsA C G sw P Dj S L
  have m1 := sl_mono hN.1
  have m2 := sl_mono hN.2.1
  have e2 : sl (N + 1) = sl N + m0 := by show sl N + skz (sk (N + 1)) = _; rw [hsk]; rfl
  refine va_newq (C := RX0) C.1 C.2.1 C.2.2.2.2.1 (C.2.2.2.2.2.1 _ hcl) sw.1.2.2.2.2.2.2.2.1 C.2.2.2.2.2.2.2.2.1 P Dj S C.2.2.2.2.2.2.2.2.2 hn hm hby ?_ ?_ hd (fun q cB H1 K1 P1 D1 S1 => ?_)
  · show N - N0 + 1 ≤ N' - N0
    omega
  · show sl N - sl N0 + m0 ≤ sl N' - sl N0
    omega
  · obtain ⟨_, _, -, -, -, f1⟩ := (K1.2 7 (cB, .object RX0) rfl).2
    obtain ⟨_, _, -, -, -, f2⟩ := (C.2.2.2.2.2.2.2.2.1.2 5 (cA 6, .object RX0) rfl).2
    have f3 : cB = cA 6 := Option.some.inj (f1.symm.trans f2)
    subst f3
    have e3 : (fun i => if h.2.2 (N + 1) i = 0 then none else some (ad (h.2.2 (N + 1) i))) = (fun _ => none) := by
      funext j
      rw [(hb.2 (N + 1) (by omega) j).2.2]; rfl
    have e1 : wl cA (adn ad N q) (N + 1) h = wl cA ad N h ++ [(q, .inl (cA 6, (m0, .inr (.inr (.inr (.inr (fun _ => none)))))))] := by
      rw [wl_succ hb, hsk, ← e3]; rfl
    rw [← e1] at P1 D1
    have hk := k p l e s m args below meth c D cA ad0 (adn ad N q) A H1 locs lsA C (ag_adn G hN.1) (by rw [adW_adn hN.2.2]; exact sw) P1 D1 S1 (by rw [lm_adn hls]; exact L)
    rw [List.map_cons, cvs_adn hst] at hk
    rw [show N - N0 + 1 = N + 1 - N0 by omega, show sl N - sl N0 + m0 = sl (N + 1) - sl N0 by omega]
    have e4 : cv (adn ad N q) (.ref (N + 1)) = .ref q := congrArg Value.ref adn_s
    rw [e4] at hk
    exact hk
theorem e_newq7 {m0 idx : Nat} {n : Int32} (hd : decode μ.2.1 pc = .ok (.anewarray idx, 3)) (hcl : Cond.classLink μ.1.cls idx RX7 ∈ TG) (hm : n.toNatClampNeg = m0) (hn : ¬ n < 0) (hby : m0 * 4 ≤ 536870912) (hsk : sk (N + 1) = (7, m0)) (hb : HB N h) (hN : N0 ≤ N ∧ N + 1 ≤ N' ∧ N + 1 < 1000) (hls : ∀ v ∈ ls, okr N v.2) (hst : ∀ v ∈ st, okr N v) {pc2 : Nat} (hp2 : pc + 3 = pc2) (k : Ev d μ N0 v N' h' pc2 (N + 1) ls (.ref (N + 1) :: st) h) : Ev d μ N0 v N' h' pc N ls (.int n :: st) h := by
  subst hp2
  intro p l e s m args below meth c D cA ad0 ad A H locs lsA C G sw P Dj S L
  have m1 := sl_mono hN.1
  have m2 := sl_mono hN.2.1
  have e2 : sl (N + 1) = sl N + m0 := by show sl N + skz (sk (N + 1)) = _; rw [hsk]; rfl
  refine va_newq (C := RX7) C.1 C.2.1 C.2.2.2.2.1 (C.2.2.2.2.2.1 _ hcl) sw.1.2.2.2.2.2.2.2.2 C.2.2.2.2.2.2.2.2.1 P Dj S C.2.2.2.2.2.2.2.2.2 hn hm hby ?_ ?_ hd (fun q cB H1 K1 P1 D1 S1 => ?_)
  · show N - N0 + 1 ≤ N' - N0
    omega
  · show sl N - sl N0 + m0 ≤ sl N' - sl N0
    omega
  · obtain ⟨_, _, -, -, -, f1⟩ := (K1.2 7 (cB, .object RX7) rfl).2
    obtain ⟨_, _, -, -, -, f2⟩ := (C.2.2.2.2.2.2.2.2.1.2 6 (cA 7, .object RX7) rfl).2
    have f3 : cB = cA 7 := Option.some.inj (f1.symm.trans f2)
    subst f3
    have e3 : (fun i => if h.2.2 (N + 1) i = 0 then none else some (ad (h.2.2 (N + 1) i))) = (fun _ => none) := by
      funext j
      rw [(hb.2 (N + 1) (by omega) j).2.2]; rfl
    have e1 : wl cA (adn ad N q) (N + 1) h = wl cA ad N h ++ [(q, .inl (cA 7, (m0, .inr (.inr (.inr (.inr (fun _ => none)))))))] := by
      rw [wl_succ hb, hsk, ← e3]; rfl
    rw [← e1] at P1 D1
    have hk := k p l e s m args below meth c D cA ad0 (adn ad N q) A H1 locs lsA C (ag_adn G hN.1) (by rw [adW_adn hN.2.2]; exact sw) P1 D1 S1 (by rw [lm_adn hls]; exact L)
    rw [List.map_cons, cvs_adn hst] at hk
    rw [show N - N0 + 1 = N + 1 - N0 by omega, show sl N - sl N0 + m0 = sl (N + 1) - sl N0 by omega]
    have e4 : cv (adn ad N q) (.ref (N + 1)) = .ref q := congrArg Value.ref adn_s
    rw [e4] at hk
    exact hk
end EV6
