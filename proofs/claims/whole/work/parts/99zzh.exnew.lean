/-! Allocation and constructors out of a body with any end (Ex) -/
section EXN
variable {R : Room} {Γ : GT} {Z : ZT} {μ : MI} {N0 cc ss pc N : Nat} {ls : List (Nat × Value)} {st : List Value} {h : HP}
theorem x_new {idx ci : Nat} (hd : decode μ.2.1 pc = .ok (.new idx, 3)) (hf : FD ci) (hcl : Cond.classLink μ.1.cls idx (RC ci) ∈ TG) (hins : Cond.instantiable (RC ci) (fnn ci) ∈ TG) (hini : Cond.initialized (RC ci) ∈ TG) (hsk : sk (N + 1) = (0, ci)) (hb : HB N h) (hN : N0 ≤ N ∧ N + 1 < 1000) (hNN : cc + 1 ≤ R.cells ∧ ss + fnn ci ≤ R.slots) {c2 s2 : Nat} (hc2 : cc + 1 = c2) (hs2 : ss + fnn ci = s2) (hls : ∀ v ∈ ls, okr N v.2) (hst : ∀ v ∈ st, okr N v) {pc2 : Nat} (hp2 : pc + 3 = pc2) (k : Ex R Γ Z μ N0 c2 s2 pc2 (N + 1) ls (.ref (N + 1) :: st) h) : Ex R Γ Z μ N0 cc ss pc N ls st h := by
  subst hp2
  subst hc2
  subst hs2
  intro p l e s m args below meth c D cA ad0 ad A H locs lsA C Y G sw P Dj S L
  obtain ⟨Cn, T, n, ty, hc, hin, hty, hn, hdv, rfl⟩ := hf
  subst hn
  have e3 : flds ad h (N + 1) ci = (List.range (fnn ci)).map (fun j => dvz (ftc ci j)) := by
    unfold flds
    apply List.map_congr_left
    intro j _
    obtain ⟨z1, z2, z3⟩ := hb.2 (N + 1) (by omega) j
    unfold fv dvz rv
    rw [z1, z2, z3]
    simp
  refine va_new (ci := ci) (fs := flds ad h (N + 1) ci) C.1 C.2.1 C.2.2.2.2.2.1 hin ty hty C.2.2.2.2.1 (C.2.2.2.2.2.1 _ hcl) (C.2.2.2.2.2.1 _ hins) (C.2.2.2.2.2.1 _ hini) C.2.2.2.2.2.2.2.2.1 P Dj S C.2.2.2.2.2.2.2.2.2 hc ?_ ?_ ?_ hd (fun q H1 P1 D1 S1 => ?_)
  · intro j hj
    rw [hdv j hj, e3]
    simp [vp_V, hj]
  · exact hNN.1
  · exact hNN.2
  · have e1 : wl cA (adn ad N q) (N + 1) h = wl cA ad N h ++ [(q, .inr (ci, flds ad h (N + 1) ci))] := by
      rw [wl_succ hb, hsk]; rfl
    rw [← e1] at P1 D1
    have hk := k p l e s m args below meth c D cA ad0 (adn ad N q) A H1 locs lsA C Y (ag_adn G hN.1) (by rw [adW_adn hN.2]; exact sw) P1 D1 S1 (by rw [lm_adn hls]; exact L)
    rw [List.map_cons, cvs_adn hst] at hk
    have e4 : cv (adn ad N q) (.ref (N + 1)) = .ref q := congrArg Value.ref adn_s
    rw [e4] at hk
    exact hk
theorem x_newL {m0 : Nat} {n : Int32} (hd : decode μ.2.1 pc = .ok (.newarray .long, 2)) (hm : n.toNatClampNeg = m0) (hn : ¬ n < 0) (hby : m0 * componentBytes .long ≤ 536870912) (hac : Cond.arrayClass .long ∈ TG) (hsk : sk (N + 1) = (2, m0)) (hb : HB N h) (hN : N0 ≤ N ∧ N + 1 < 1000) (hNN : cc + 1 ≤ R.cells ∧ ss + m0 ≤ R.slots) {c2 s2 : Nat} (hc2 : cc + 1 = c2) (hs2 : ss + m0 = s2) (hls : ∀ v ∈ ls, okr N v.2) (hst : ∀ v ∈ st, okr N v) {pc2 : Nat} (hp2 : pc + 2 = pc2) (k : Ex R Γ Z μ N0 c2 s2 pc2 (N + 1) ls (.ref (N + 1) :: st) h) : Ex R Γ Z μ N0 cc ss pc N ls (.int n :: st) h := by
  subst hp2
  subst hc2
  subst hs2
  intro p l e s m args below meth c D cA ad0 ad A H locs lsA C Y G sw P Dj S L
  have e3 : h.2.1 (N + 1) = fun _ => 0 := by
    funext j
    have z := hb.2 (N + 1) (by omega) j
    exact z.2.1
  refine va_newa (atype := .long) (ty := .long) (a0 := (m0, .inr (.inl (h.2.1 (N + 1))))) C.1 C.2.1 (C.2.2.2.2.2.1 _ hac) rfl C.2.2.2.2.2.2.2.2.1 P Dj S C.2.2.2.2.2.2.2.2.2 ?_ hn hm hby ?_ ?_ hd (fun q cB H1 K1 P1 D1 S1 => ?_)
  · intro cB
    rw [vp_cell_l, e3]
    rfl
  · exact hNN.1
  · exact hNN.2
  · have f1 : va_RA s cB .long := (K1.2 7 (cB, .long) rfl).2
    have f2 : va_RA s (cA 2) .long := (C.2.2.2.2.2.2.2.2.1.2 1 (cA 2, .long) rfl).2
    have f3 : cB = cA 2 := Option.some.inj (f1.symm.trans f2)
    subst f3
    have e1 : wl cA (adn ad N q) (N + 1) h = wl cA ad N h ++ [(q, .inl (cA 2, (m0, .inr (.inl (h.2.1 (N + 1))))))] := by
      rw [wl_succ hb, hsk]; rfl
    rw [← e1] at P1 D1
    have hk := k p l e s m args below meth c D cA ad0 (adn ad N q) A H1 locs lsA C Y (ag_adn G hN.1) (by rw [adW_adn hN.2]; exact sw) P1 D1 S1 (by rw [lm_adn hls]; exact L)
    rw [List.map_cons, cvs_adn hst] at hk
    have e4 : cv (adn ad N q) (.ref (N + 1)) = .ref q := congrArg Value.ref adn_s
    rw [e4] at hk
    exact hk
theorem x_callI {sta : List Value} {d1 : Nat} {y : MethodName} {cb : ByteArray} {nL o idx n N1 : Nat} {av : List Value} {h1 : HP} (hM : Mt d1 (y, cb, nL, none) (.ref o :: av) N h none N1 h1) (hd : decode μ.2.1 pc = .ok (.invokespecial idx, 3)) (hc : CI μ.1.cls idx y cb nL n) (hn : av.length = n) (hdd : d1 + 1 ≤ R.frames ∧ 100 * (d1 + 1) ≤ R.locals) (hst : (st.map fun v => v.category).sum ≤ 8) (hN : N0 ≤ N ∧ N1 < 1000) (hNN : cc + (N1 - N) ≤ R.cells ∧ ss + (sl N1 - sl N) ≤ R.slots) {c2 s2 : Nat} (hc2 : cc + (N1 - N) = c2) (hs2 : ss + (sl N1 - sl N) = s2) (hls : ∀ q ∈ ls, okr2 N N1 q.2) (hss : ∀ q ∈ st, okr2 N N1 q) (hsta : sta = av.reverse ++ .ref o :: st) {pc2 : Nat} (hp2 : pc + 3 = pc2)
    (k : Ex R Γ Z μ N0 c2 s2 pc2 N1 ls st h1) : Ex R Γ Z μ N0 cc ss pc N ls sta h := by
  subst hp2
  subst hc2
  subst hs2
  intro p l e s m args below meth c D cA ad0 ad A H locs lsA C Y G sw P Dj S L
  subst hsta
  obtain ⟨c1, c2, c3, c4, c5, c6, c7⟩ := hc
  have hMl := hM.2 l D cA ad H.size
  have hN1 := hM.1
  have m2 := sl_mono hN1
  have hlo : 8 + (nL + 11) + 100 * d1 ≤ R.locals := by omega
  have hrun : va_Run p l e R s m args below meth c H locs cc ss (N1 - N) (sl N1 - sl N) (F0 m pc lsA ((av.reverse ++ .ref o :: st).map (cv ad))) (st.map (cv ad)) (Qr D cA none N ad N1 h1 (va_A (wl cA ad N h) H.size) (Value.ref (ad o) :: av.map (cv ad)).toArray) (va_A (wl cA ad N h) H.size) := by
    rcases c2 with c2 | c2
    · exact va_runI (As := av.map (cv ad)) (b := ad o) ⟨C.1, C.2.1, C.2.2.2.1, C.2.2.2.2.1, C.2.2.2.2.2.1⟩ hMl ⟨callB_of (Ts := TG) n C.2.2.2.2.2.1 (fun w hw => TG_good (wsG_good (μ := (y, cb, nL, none)) c1 hw)) rfl rfl rfl (C.2.2.2.2.2.1 _ c3) (C.2.2.2.2.2.1 _ c2) c4 ⟨hdd.1, hlo⟩, c6, C.2.2.2.2.2.1 _ c7⟩
        ⟨PW.blind, fun U hU hW => ⟨rfl, e_pw C.2.2.2.2.2.2.2.2.2 C.2.2.2.2.2.2.2.2.1 sw P Dj S hU hW⟩⟩ rfl (by simpa using hn) L.1 (by simp [cv]) (hstx hst) hd hNN
    · exact va_runIN (As := av.map (cv ad)) (b := ad o) ⟨C.1, C.2.1, C.2.2.2.1, C.2.2.2.2.1, C.2.2.2.2.2.1⟩ hMl ⟨va_cnB (Ts := TG) n C.2.2.2.2.2.1 (fun w hw => TG_good (wsG_good (μ := (y, cb, nL, none)) c1 hw)) rfl rfl rfl (sw.2.1 _ c2) (C.2.2.2.2.2.1 _ c3) c4 ⟨hdd.1, hlo⟩, c6, C.2.2.2.2.2.1 _ c7⟩
        ⟨PW.blind, fun U hU hW => ⟨rfl, e_pw C.2.2.2.2.2.2.2.2.2 C.2.2.2.2.2.2.2.2.1 sw P Dj S hU hW⟩⟩ rfl (by simpa using hn) L.1 (by simp [cv]) (hstx hst) hd hNN
  refine ev_after hrun S (e_free Dj S C.2.2.2.2.2.2.2.2.2) (fun ad' H1 locs1 hag P1 D1 S1 => ?_)
  have eW : adW ad' = adW ad := funext fun i => hag _ (by omega)
  have eL : lm ad' ls = lm ad ls := List.map_congr_left fun q hq => by rw [cv_ag hag (hls q hq)]
  have eS : st.map (cv ad') = st.map (cv ad) := List.map_congr_left fun q hq => cv_ag hag (hss q hq)
  have hk := k p l e s m args below meth c D cA ad0 ad' A H1 locs1 lsA C Y (G.trans hag hN.1 hN1) (by rw [eW]; exact sw) P1 D1 S1 (by rw [eL]; exact L)
  rw [eS] at hk
  exact hk
theorem x_agree {g : HP} (e : ∀ o, 1 ≤ o → o ≤ N → h.1 o = g.1 o ∧ h.2.1 o = g.2.1 o ∧ h.2.2 o = g.2.2 o) (k : Ex R Γ Z μ N0 cc ss pc N ls st g) : Ex R Γ Z μ N0 cc ss pc N ls st h := by
  intro p l e1 s m args below meth c D cA ad0 ad A H locs lsA C Y G sw P Dj S L
  rw [wl_agree e] at P Dj
  exact k p l e1 s m args below meth c D cA ad0 ad A H locs lsA C Y G sw P Dj S L
end EXN
