/-! Constructors' calls; Object's own; places of reference arrays -/
def okr2 (N N1 : Nat) (v : Value) : Prop := ∀ o, v = .ref o → ¬ (N < o ∧ o ≤ N1)
theorem cv_ag {N N1 : Nat} {ad ad' : Nat → Nat} (hg : ag N N1 ad ad') {v : Value} (h : okr2 N N1 v) : cv ad' v = cv ad v := by
  cases v with
  | ref o => exact congrArg Value.ref (hg o (h o rfl))
  | _ => rfl
theorem wl_saq {cA : Nat → ClassId} {ad : Nat → Nat} {N : Nat} {h : HP} {o t n j r : Nat} (ho : isA N o t n) (ht : t = 5 ∨ t = 6 ∨ t = 7) (hr : r ≠ 0) : (wl cA ad N h).set (o - 1) (ad o, .inl (cA t, n, .inr (.inr (.inr (.inr (va_up (fun i => if h.2.2 o i = 0 then none else some (ad (h.2.2 o i))) j (some (ad r)))))))) = wl cA ad N (uR h o j r) := by
  refine wl_set ho.1 ho.2.1 (fun _ ne => en_uR ne) ?_
  have e : (fun i => if (uR h o j r).2.2 o i = 0 then none else some (ad ((uR h o j r).2.2 o i))) = va_up (fun i => if h.2.2 o i = 0 then none else some (ad (h.2.2 o i))) j (some (ad r)) := by
    funext i
    by_cases hi : i = j
    · subst hi
      simp [uR, up2, va_up, hr]
    · simp [uR, up2, va_up, hi]
  rw [ho.2.2, ← e]
  rcases ht with rfl | rfl | rfl <;> rfl
section EV7
variable {d : Nat} {μ : MI} {N0 : Nat} {v : Option Value} {N' : Nat} {h' : HP} {pc : Nat} {N : Nat} {ls : List (Nat × Value)} {st : List Value} {h : HP}
theorem e_aast {o t n r ci : Nat} {i : Int32} (hd : decode μ.2.1 pc = .ok (.aastore, 1)) (ho : isA N o t n) (ht : (t = 5 ∧ ci = 9) ∨ (t = 6 ∧ ci = 0) ∨ (t = 7 ∧ ci = 7)) (hor : isO N r ci) (hi : vp_in i n) {h2 : HP} (hq : uR h o i.toNatClampNeg r = h2) {pc2 : Nat} (hp2 : pc + 1 = pc2) (k : Ev d μ N0 v N' h' pc2 N ls st h2) : Ev d μ N0 v N' h' pc N ls (.ref r :: .int i :: .ref o :: st) h := by
  subst hp2
  subst hq
  intro p l e s m args below meth c D cA ad0 ad A H locs lsA C G sw P Dj S L
  have h5 : t = 5 ∨ t = 6 ∨ t = 7 := by rcases ht with q | q | q <;> omega
  have hr : r ≠ 0 := by have := hor.1; omega
  obtain ⟨rc, e1, e2⟩ : ∃ rc : vw_C, vwCl[ci]? = some rc ∧ ∀ cA : Nat → ClassId, (tysOf cA)[t - 1]? = some (cA t, .object rc.1) := by
    rcases ht with ⟨rfl, rfl⟩ | ⟨rfl, rfl⟩ | ⟨rfl, rfl⟩ <;> exact ⟨_, rfl, fun _ => rfl⟩
  refine va_astq C.1 C.2.1 C.2.2.2.2.2.2.2.2.1 P Dj S (o - 1) (t - 1) (r - 1) ci (wl_aq ho h5) (e2 cA) (wl_o hor) e1 hi hd (fun H1 locs1 P1 D1 S1 => ?_)
  have q9 := wl_saq (cA := cA) (ad := ad) (h := h) (j := i.toNatClampNeg) ho h5 hr
  have P1 : va_P D vwCl (wl cA ad N (uR h o i.toNatClampNeg r)) H1 := by rw [← q9]; exact P1
  have D1 : va_D A (wl cA ad N (uR h o i.toNatClampNeg r)) := by rw [← q9]; exact D1
  exact k p l e s m args below meth c D cA ad0 ad A H1 locs1 lsA C G sw P1 D1 S1 L
theorem e_obji {idx o : Nat} (hd : decode μ.2.1 pc = .ok (.invokespecial idx, 3)) (hl : Cond.methodLink μ.1.cls idx Lib.objectInit ∈ TG) (hi : Cond.instanceMethod Lib.objectInit ∈ TG) (hc : Cond.code Lib.objectInit ⟨#[0xb1]⟩ 1 none ∈ TG) (hdp : 1 ≤ d) (hst : (st.map fun v => v.category).sum ≤ 8) {pc2 : Nat} (hp2 : pc + 3 = pc2) (k : Ev d μ N0 v N' h' pc2 N ls st h) : Ev d μ N0 v N' h' pc N ls (.ref o :: st) h := by
  subst hp2
  intro p l e s m args below meth c D cA ad0 ad A H locs lsA C G sw P Dj S L
  refine W.objInit C.1 C.2.1 C.2.2.2.2.1 (C.2.2.2.2.2.1 _ hl) (C.2.2.2.2.2.1 _ hi) (C.2.2.2.2.2.1 _ hc) rfl (L.1.trans C.2.2.2.1.symm) rfl hd hdp ?_ ?_
  · show 2 * 0 + ((st.map (cv ad)).map fun v => v.category).sum + 12 ≤ 100 * d
    rw [cat_sum]
    omega
  · exact W.eq rfl (k p l e s m args below meth c D cA ad0 ad A H locs lsA C G sw P Dj S L)
def CI (own : String) (idx : Nat) (y : MethodName) (cc : ByteArray) (nL n : Nat) : Prop := Cond.code y cc nL none ∈ TG ∧ (Cond.methodLink own idx y ∈ TG ∨ Cond.methodLinkNest own idx y "TeaJunction" ∈ NWL) ∧ Cond.initialized y.cls ∈ TG ∧ (y.cls ≠ "java/lang/invoke/MethodHandle" ∧ y.cls ≠ "java/lang/invoke/VarHandle" ∧ (parseMethodDescriptor y.desc).map (fun d => d.parameters.length) = some n) ∧ nL ≤ 81 ∧ y.name = "<init>" ∧ Cond.instanceMethod y ∈ TG
theorem e_callI {sta : List Value} {d1 : Nat} {y : MethodName} {cc : ByteArray} {nL o idx n N1 : Nat} {av : List Value} {h1 : HP} (hM : Mt d1 (y, cc, nL, none) (.ref o :: av) N h none N1 h1) (hd : decode μ.2.1 pc = .ok (.invokespecial idx, 3)) (hc : CI μ.1.cls idx y cc nL n) (hn : av.length = n) (hdd : d1 + 1 ≤ d) (hst : (st.map fun v => v.category).sum ≤ 8) (hN : N0 ≤ N ∧ N1 ≤ N' ∧ N1 < 1000) (hls : ∀ q ∈ ls, okr2 N N1 q.2) (hss : ∀ q ∈ st, okr2 N N1 q) (hsta : sta = av.reverse ++ .ref o :: st) {pc2 : Nat} (hp2 : pc + 3 = pc2)
    (k : Ev d μ N0 v N' h' pc2 N1 ls st h1) : Ev d μ N0 v N' h' pc N ls sta h := by
  subst hp2
  intro p l e s m args below meth c D cA ad0 ad A H locs lsA C G sw P Dj S L
  subst hsta
  obtain ⟨c1, c2, c3, c4, c5, c6, c7⟩ := hc
  have hMl := hM.2 l D cA ad H.size
  have hN1 := hM.1
  have m1 := sl_mono hN.1
  have m2 := sl_mono hN1
  have m3 := sl_mono hN.2.1
  have hlo : 8 + (nL + 11) + 100 * d1 ≤ 100 * d := by omega
  have hrun : va_Run p l e (rmo d (N' - N0) (sl N' - sl N0)) s m args below meth c H locs (N - N0) (sl N - sl N0) (N1 - N) (sl N1 - sl N) (F0 m pc lsA ((av.reverse ++ .ref o :: st).map (cv ad))) (st.map (cv ad)) (Qr D cA none N ad N1 h1 (va_A (wl cA ad N h) H.size) (Value.ref (ad o) :: av.map (cv ad)).toArray) (va_A (wl cA ad N h) H.size) := by
    rcases c2 with c2 | c2
    · exact va_runI (As := av.map (cv ad)) (b := ad o) ⟨C.1, C.2.1, C.2.2.2.1, C.2.2.2.2.1, C.2.2.2.2.2.1⟩ hMl ⟨callB_of (Ts := TG) n C.2.2.2.2.2.1 (fun w hw => TG_good (wsG_good (μ := (y, cc, nL, none)) c1 hw)) rfl rfl rfl (C.2.2.2.2.2.1 _ c3) (C.2.2.2.2.2.1 _ c2) c4 ⟨hdd, hlo⟩, c6, C.2.2.2.2.2.1 _ c7⟩
        ⟨PW.blind, fun U hU hW => ⟨rfl, e_pw C.2.2.2.2.2.2.2.2.2 C.2.2.2.2.2.2.2.2.1 sw P Dj S hU hW⟩⟩ rfl (by simpa using hn) L.1 (by simp [cv]) (hstx hst) hd ⟨by show N - N0 + (N1 - N) ≤ N' - N0; omega, by show sl N - sl N0 + (sl N1 - sl N) ≤ sl N' - sl N0; omega⟩
    · exact va_runIN (As := av.map (cv ad)) (b := ad o) ⟨C.1, C.2.1, C.2.2.2.1, C.2.2.2.2.1, C.2.2.2.2.2.1⟩ hMl ⟨va_cnB (Ts := TG) n C.2.2.2.2.2.1 (fun w hw => TG_good (wsG_good (μ := (y, cc, nL, none)) c1 hw)) rfl rfl rfl (sw.2.1 _ c2) (C.2.2.2.2.2.1 _ c3) c4 ⟨hdd, hlo⟩, c6, C.2.2.2.2.2.1 _ c7⟩
        ⟨PW.blind, fun U hU hW => ⟨rfl, e_pw C.2.2.2.2.2.2.2.2.2 C.2.2.2.2.2.2.2.2.1 sw P Dj S hU hW⟩⟩ rfl (by simpa using hn) L.1 (by simp [cv]) (hstx hst) hd ⟨by show N - N0 + (N1 - N) ≤ N' - N0; omega, by show sl N - sl N0 + (sl N1 - sl N) ≤ sl N' - sl N0; omega⟩
  refine ev_after hrun S (e_free Dj S C.2.2.2.2.2.2.2.2.2) (fun ad' H1 locs1 hag P1 D1 S1 => ?_)
  have eW : adW ad' = adW ad := funext fun i => hag _ (by omega)
  have eL : lm ad' ls = lm ad ls := List.map_congr_left fun q hq => by rw [cv_ag hag (hls q hq)]
  have eS : st.map (cv ad') = st.map (cv ad) := List.map_congr_left fun q hq => cv_ag hag (hss q hq)
  rw [show N - N0 + (N1 - N) = N1 - N0 by omega, show sl N - sl N0 + (sl N1 - sl N) = sl N1 - sl N0 by omega]
  have hk := k p l e s m args below meth c D cA ad0 ad' A H1 locs1 lsA C (G.trans hag hN.1 hN1) (by rw [eW]; exact sw) P1 D1 S1 (by rw [eL]; exact L)
  rw [eS] at hk
  exact hk
end EV7
