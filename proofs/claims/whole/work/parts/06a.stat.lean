/-! The statics: the array of the enum's constants, the text of the signs; a nest mate's private method -/
def CMV0 (μ : MI) (n : Nat) : Prop := Cond.code μ.1 μ.2.1 μ.2.2.1 μ.2.2.2 ∈ TG ∧ Cond.initialized μ.1.cls ∈ TG ∧ (μ.1.cls ≠ "java/lang/invoke/MethodHandle" ∧ μ.1.cls ≠ "java/lang/invoke/VarHandle" ∧ (parseMethodDescriptor μ.1.desc).map (fun d => d.parameters.length) = some n) ∧ μ.2.2.1 ≤ 81 ∧ Cond.instanceMethod μ.1 ∈ TG ∧ Cond.selects μ.1.cls μ.1 μ.1 ∈ TG
section EV5
variable {d : Nat} {μ : MI} {N0 : Nat} {v : Option Value} {N' : Nat} {h' : HP} {pc : Nat} {N : Nat} {ls : List (Nat × Value)} {st : List Value} {h : HP}
/-- a call of an instance method of ours that makes nothing -/
theorem e_callVT {sta : List Value} {d1 : Nat} {μ1 : MI} {idx n : Nat} {av : List Value} {v1 : Option Value} {h1 : HP} (hM : Mt d1 μ1 (.ref 1101 :: av) N h v1 N h1) (hd : decode μ.2.1 pc = .ok (.invokevirtual idx, 3)) (hc : CV μ.1.cls idx μ1 n) (hn : av.length = n) (hci : μ1.1.cls = "java/lang/String") (hdd : d1 + 1 ≤ d) (hst : (st.map fun v => v.category).sum ≤ 8) (hNN : NN N0 N N') (hsta : sta = av.reverse ++ .ref 1101 :: st)
    {pc2 : Nat} (hp2 : pc + 3 = pc2) (k : Ev d μ N0 v N' h' pc2 N ls (v1.toList ++ st) h1) : Ev d μ N0 v N' h' pc N ls sta h := by
  subst hp2
  intro p l e s m args below meth c D cA ad0 ad A H locs lsA C G sw P Dj S L
  subst hsta
  obtain ⟨⟨c1, c2, c3, c4, c5⟩, c6, c7⟩ := hc
  have e0 : N - N = 0 := Nat.sub_self N
  have e1 : sl N - sl N = 0 := Nat.sub_self _
  have hMl := hM.2 l D cA ad H.size
  rw [e0, e1] at hMl
  have hcw : CallW (rmo d (N' - N0) (sl N' - sl N0)) s args μ.1.cls μ1.1.cls idx μ1.1 μ1.2.1 μ1.2.2.1 μ1.2.2.2 (wsG μ1) (rmo d1 0 0) 0 0 n := by
    refine cwV (Ts := TG) n C.2.2.2.2.2.1 ?_ rfl rfl rfl ⟨rfl, c4⟩ ⟨hdd, ?_⟩
    · intro w hw
      refine TG_good ?_
      unfold wsV at hw
      rcases List.mem_append.mp hw with q | q
      · simp only [List.mem_cons, List.not_mem_nil, or_false] at q
        rcases q with q | q | q | q <;> rw [q] <;> assumption
      · exact wsG_good c1 q
    · show 8 + (μ1.2.2.1 + 11) + 100 * d1 ≤ 100 * d
      omega
  have hrecv : ∃ cell : Cell, H[ad 1101]? = some cell ∧ cell.vm.isStatics = false ∧ s.vm.findClass μ1.1.cls = some cell.cls := by
    obtain ⟨cell, h1, h2, h3, -⟩ := ((sw.1.2.2.2.2.1).1 0 (by decide)).1.kept S.2.1
    exact ⟨cell, h1, h2, by rw [hci]; exact h3⟩
  have hrun := va_runV (l := l) (e := e) (R := rmo d (N' - N0) (sl N' - sl N0)) (below := below) (meth := meth) (locs := locs) (cells := N - N0) (slots := sl N - sl N0) (g := F0 m pc lsA ((av.reverse ++ .ref 1101 :: st).map (cv ad))) (rest := st.map (cv ad)) (As := av.map (cv ad)) (b := ad 1101) ⟨C.1, C.2.1, C.2.2.2.1, C.2.2.2.2.1, C.2.2.2.2.2.1⟩ hMl hcw
    ⟨PW.blind, hrecv, fun U hU hW => ⟨rfl, e_pw C.2.2.2.2.2.2.2.2.2 C.2.2.2.2.2.2.2.2.1 sw P Dj S hU hW⟩⟩ rfl (by simpa using hn) L.1 (by simp [cv]) (hstx hst) hd ⟨hNN.1, hNN.2⟩
  refine ev_after hrun S (e_free Dj S C.2.2.2.2.2.2.2.2.2) (fun ad' H1 locs1 hag P1 D1 S1 => ?_)
  have e2 := hag.eq
  subst e2
  rw [st_ret]
  exact k p l e s m args below meth c D cA ad0 ad' A H1 locs1 lsA C G sw P1 D1 S1 L
/-- a call of an instance method of ours that makes nothing -/
theorem e_callVN {sta : List Value} {d1 : Nat} {μ1 : MI} {o ci idx n : Nat} {av : List Value} {v1 : Option Value} {h1 : HP} (hM : Mt d1 μ1 (.ref o :: av) N h v1 N h1) (hd : decode μ.2.1 pc = .ok (.invokevirtual idx, 3)) (hc : CMV0 μ1 n) (hnl : Cond.methodLinkNest μ.1.cls idx μ1.1 "TeaJunction" ∈ NWL) (hn : av.length = n) (ho : isO N o ci) (hci : RC ci = μ1.1.cls) (hdd : d1 + 1 ≤ d) (hst : (st.map fun v => v.category).sum ≤ 8) (hNN : NN N0 N N') (hsta : sta = av.reverse ++ .ref o :: st)
    {pc2 : Nat} (hp2 : pc + 3 = pc2) (k : Ev d μ N0 v N' h' pc2 N ls (v1.toList ++ st) h1) : Ev d μ N0 v N' h' pc N ls sta h := by
  subst hp2
  intro p l e s m args below meth c D cA ad0 ad A H locs lsA C G sw P Dj S L
  subst hsta
  obtain ⟨c1, c3, c4, c5, c6, c7⟩ := hc
  have hcl : μ1.1.cls = RC ci := hci.symm
  have e0 : N - N = 0 := Nat.sub_self N
  have e1 : sl N - sl N = 0 := Nat.sub_self _
  have hMl := hM.2 l D cA ad H.size
  rw [e0, e1] at hMl
  have hcw : va_CN (rmo d (N' - N0) (sl N' - sl N0)) s args μ.1.cls idx μ1.1 "TeaJunction" μ1.2.1 μ1.2.2.1 μ1.2.2.2 (wsG μ1) (rmo d1 0 0) 0 0 n := by
    refine va_cnB (Ts := TG) n C.2.2.2.2.2.1 (fun w hw => TG_good (wsG_good c1 hw)) rfl rfl rfl (sw.2.1 _ hnl) (C.2.2.2.2.2.1 _ c3) c4 ⟨hdd, ?_⟩
    show 8 + (μ1.2.2.1 + 11) + 100 * d1 ≤ 100 * d
    omega
  obtain ⟨Cn, T, nn, hc9⟩ : ∃ (Cn : String) (T : u_T) (nn : Nat), vwCl[ci]? = some (Cn, T, nn) := by
    obtain ⟨r, hr, -⟩ := P (o - 1) _ (wl_o ho)
    exact ⟨_, _, _, hr⟩
  have hRC : Cn = μ1.1.cls := by rw [← hci]; simp only [RC, List.getD_eq_getElem?_getD, List.getElem?_map, hc9]; rfl
  have hrecv := va_recv C.2.2.2.2.2.2.2.2.1 P hc9 (wl_o ho)
  rw [show (Cn, T, nn).1 = μ1.1.cls from hRC] at hrecv
  have hrun := va_runVN (C := μ1.1.cls) (l := l) (e := e) (R := rmo d (N' - N0) (sl N' - sl N0)) (below := below) (meth := meth) (locs := locs) (cells := N - N0) (slots := sl N - sl N0) (g := F0 m pc lsA ((av.reverse ++ .ref o :: st).map (cv ad))) (rest := st.map (cv ad)) (As := av.map (cv ad)) (b := ad o) ⟨C.1, C.2.1, C.2.2.2.1, C.2.2.2.2.1, C.2.2.2.2.2.1⟩ hMl ⟨hcw, C.2.2.2.2.2.1 _ c6, C.2.2.2.2.2.1 _ c7⟩
    ⟨PW.blind, hrecv, fun U hU hW => ⟨rfl, e_pw C.2.2.2.2.2.2.2.2.2 C.2.2.2.2.2.2.2.2.1 sw P Dj S hU hW⟩⟩ rfl (by simpa using hn) L.1 (by simp [cv]) (hstx hst) hd ⟨hNN.1, hNN.2⟩
  refine ev_after hrun S (e_free Dj S C.2.2.2.2.2.2.2.2.2) (fun ad' H1 locs1 hag P1 D1 S1 => ?_)
  have e2 := hag.eq
  subst e2
  rw [st_ret]
  exact k p l e s m args below meth c D cA ad0 ad' A H1 locs1 lsA C G sw P1 D1 S1 L
theorem e_getsW {idx : Nat} (hd : decode μ.2.1 pc = .ok (.getstatic idx, 3)) (hm : Cond.fieldLinkNest μ.1.cls idx "TeaJunction" "WORDS" "[LTeaJunction$Word;" "TeaJunction" ∈ NWL) {pc2 : Nat} (hp2 : pc + 3 = pc2) (k : Ev d μ N0 v N' h' pc2 N ls (.ref 1100 :: st) h) : Ev d μ N0 v N' h' pc N ls (st) h := by
  subst hp2
  intro p l e s m args below meth c D cA ad0 ad A H locs lsA C G sw P Dj S L
  exact va_getsN C.1 C.2.1 sw.1.2.2.1 S C.2.2.2.2.1 (va_Nw.use rfl (sw.2.1 _ hm)) (fun _ z => z) hd (k p l e s m args below meth c D cA ad0 ad A H locs lsA C G sw P Dj S L)
theorem e_wlen (hd : decode μ.2.1 pc = .ok (.arraylength, 1)) {pc2 : Nat} (hp2 : pc + 1 = pc2) (k : Ev d μ N0 v N' h' pc2 N ls (.int 37 :: st) h) : Ev d μ N0 v N' h' pc N ls (.ref 1100 :: st) h := by
  subst hp2
  intro p l e s m args below meth c D cA ad0 ad A H locs lsA C G sw P Dj S L
  exact va_tlen (v := 37) C.1 C.2.1 sw.1.2.2.2.1 S rfl hd (k p l e s m args below meth c D cA ad0 ad A H locs lsA C G sw P Dj S L)
theorem e_wald {i : Int32} (hd : decode μ.2.1 pc = .ok (.aaload, 1)) (hi : vp_in i 37) {pc2 : Nat} (hp2 : pc + 1 = pc2) (k : Ev d μ N0 v N' h' pc2 N ls (.ref (1000 + i.toNatClampNeg) :: st) h) : Ev d μ N0 v N' h' pc N ls (.int i :: .ref 1100 :: st) h := by
  subst hp2
  intro p l e s m args below meth c D cA ad0 ad A H locs lsA C G sw P Dj S L
  exact vb_tq (v := .ref (ad (1000 + i.toNatClampNeg))) C.1 C.2.1 sw.1.2.2.2.1 S hi rfl hd (k p l e s m args below meth c D cA ad0 ad A H locs lsA C G sw P Dj S L)
theorem e_ldcT (hd : decode μ.2.1 pc = .ok (.ldc 54, 2)) (hc : μ.1.cls = "TeaJunction$Tape") {pc2 : Nat} (hp2 : pc + 2 = pc2) (k : Ev d μ N0 v N' h' pc2 N ls (.ref 1101 :: st) h) : Ev d μ N0 v N' h' pc N ls (st) h := by
  subst hp2
  intro p l e s m args below meth c D cA ad0 ad A H locs lsA C G sw P Dj S L
  exact va_ldcS C.1 C.2.1 (by have q := C.2.2.2.2.1; rw [hc] at q; exact q) sw.2.2 hd (k p l e s m args below meth c D cA ad0 ad A H locs lsA C G sw P Dj S L)
theorem e_tval {idx : Nat} (hd : decode μ.2.1 pc = .ok (.getfield idx, 3)) (hl : Cond.fieldLink μ.1.cls idx "java/lang/String" "value" "[B" ∈ TG) {pc2 : Nat} (hp2 : pc + 3 = pc2) (k : Ev d μ N0 v N' h' pc2 N ls (.ref 1102 :: st) h) : Ev d μ N0 v N' h' pc N ls (.ref 1101 :: st) h := by
  subst hp2
  intro p l e s m args below meth c D cA ad0 ad A H locs lsA C G sw P Dj S L
  exact va_getX (N := 1) (i := 0) (ad := fun _ => adW ad 101) (v := fun _ => .ref (adW ad 102)) C.1 C.2.1 (fun i hi => ((sw.1.2.2.2.2.1).1 i hi).2.2.1) (by decide) S C.2.2.2.2.1 (C.2.2.2.2.2.1 _ hl) (fun _ z => z) hd (k p l e s m args below meth c D cA ad0 ad A H locs lsA C G sw P Dj S L)
theorem e_tcod {idx : Nat} (hd : decode μ.2.1 pc = .ok (.getfield idx, 3)) (hl : Cond.fieldLink μ.1.cls idx "java/lang/String" "coder" "B" ∈ TG) {pc2 : Nat} (hp2 : pc + 3 = pc2) (k : Ev d μ N0 v N' h' pc2 N ls (.int 0 :: st) h) : Ev d μ N0 v N' h' pc N ls (.ref 1101 :: st) h := by
  subst hp2
  intro p l e s m args below meth c D cA ad0 ad A H locs lsA C G sw P Dj S L
  exact va_getX (N := 1) (i := 0) (ad := fun _ => adW ad 101) (v := fun _ => .int 0) C.1 C.2.1 (fun i hi => ((sw.1.2.2.2.2.1).1 i hi).2.1) (by decide) S C.2.2.2.2.1 (C.2.2.2.2.2.1 _ hl) (fun _ z => z) hd (k p l e s m args below meth c D cA ad0 ad A H locs lsA C G sw P Dj S L)
theorem e_tbald {i : Int32} (hd : decode μ.2.1 pc = .ok (.baload, 1)) (hi : vp_in i 8) {pc2 : Nat} (hp2 : pc + 1 = pc2) (k : Ev d μ N0 v N' h' pc2 N ls (.int (sgnL.getD i.toNatClampNeg 0) :: st) h) : Ev d μ N0 v N' h' pc N ls (.int i :: .ref 1102 :: st) h := by
  subst hp2
  intro p l e s m args below meth c D cA ad0 ad A H locs lsA C G sw P Dj S L
  exact va_tb (v := .int (sgnL.getD i.toNatClampNeg 0)) C.1 C.2.1 (((sw.1.2.2.2.2.1).1 0 (by decide)).2.2.2) S hi rfl hd (k p l e s m args below meth c D cA ad0 ad A H locs lsA C G sw P Dj S L)
theorem e_tlen (hd : decode μ.2.1 pc = .ok (.arraylength, 1)) {pc2 : Nat} (hp2 : pc + 1 = pc2) (k : Ev d μ N0 v N' h' pc2 N ls (.int 8 :: st) h) : Ev d μ N0 v N' h' pc N ls (.ref 1102 :: st) h := by
  subst hp2
  intro p l e s m args below meth c D cA ad0 ad A H locs lsA C G sw P Dj S L
  exact va_tlen (v := 8) C.1 C.2.1 (((sw.1.2.2.2.2.1).1 0 (by decide)).2.2.2) S rfl hd (k p l e s m args below meth c D cA ad0 ad A H locs lsA C G sw P Dj S L)
theorem e_getsCS {idx : Nat} (hd : decode μ.2.1 pc = .ok (.getstatic idx, 3)) (hl : Cond.fieldLink μ.1.cls idx "java/lang/String" "COMPACT_STRINGS" "Z" ∈ TG) {pc2 : Nat} (hp2 : pc + 3 = pc2) (k : Ev d μ N0 v N' h' pc2 N ls (.int 1 :: st) h) : Ev d μ N0 v N' h' pc N ls (st) h := by
  subst hp2
  intro p l e s m args below meth c D cA ad0 ad A H locs lsA C G sw P Dj S L
  exact va_gets C.1 C.2.1 sw.1.2.2.2.2.2.1 S C.2.2.2.2.1 (C.2.2.2.2.2.1 _ hl) (fun _ z => z) hd (k p l e s m args below meth c D cA ad0 ad A H locs lsA C G sw P Dj S L)
theorem e_waldQ {i : Int32} (hd : decode μ.2.1 pc = .ok (.aaload, 1)) (hi : vp_in i 37) {pc2 : Nat} (hp2 : pc + 1 = pc2) (k : Ev d μ N0 v N' h' pc2 N ls (rva (1000 + i.toNatClampNeg) :: st) h) : Ev d μ N0 v N' h' pc N ls (.int i :: .ref 1100 :: st) h := e_wald hd hi hp2 (by rw [rva_s (by omega)] at k; exact k)
theorem e_callVTs {sta : List Value} {d1 : Nat} {μ1 : MI} {idx n : Nat} {av : List Value} {w : Value} {h1 : HP} (hM : Mt d1 μ1 (.ref 1101 :: av) N h (some w) N h1) (hd : decode μ.2.1 pc = .ok (.invokevirtual idx, 3)) (hc : CV μ.1.cls idx μ1 n) (hn : av.length = n) (hci : μ1.1.cls = "java/lang/String") (hdd : d1 + 1 ≤ d) (hst : (st.map fun v => v.category).sum ≤ 8) (hNN : NN N0 N N') (hsta : sta = av.reverse ++ .ref 1101 :: st) {pc2 : Nat} (hp2 : pc + 3 = pc2)
    (k : Ev d μ N0 v N' h' pc2 N ls (w :: st) h1) : Ev d μ N0 v N' h' pc N ls sta h := e_callVT hM hd hc hn hci hdd hst hNN hsta hp2 k
theorem e_callVNn {sta : List Value} {d1 : Nat} {μ1 : MI} {o ci idx n : Nat} {av : List Value} {h1 : HP} (hM : Mt d1 μ1 (.ref o :: av) N h none N h1) (hd : decode μ.2.1 pc = .ok (.invokevirtual idx, 3)) (hc : CMV0 μ1 n) (hnl : Cond.methodLinkNest μ.1.cls idx μ1.1 "TeaJunction" ∈ NWL) (hn : av.length = n) (ho : isO N o ci) (hci : RC ci = μ1.1.cls) (hdd : d1 + 1 ≤ d) (hst : (st.map fun v => v.category).sum ≤ 8) (hNN : NN N0 N N') (hsta : sta = av.reverse ++ .ref o :: st) {pc2 : Nat} (hp2 : pc + 3 = pc2)
    (k : Ev d μ N0 v N' h' pc2 N ls st h1) : Ev d μ N0 v N' h' pc N ls sta h := e_callVN hM hd hc hnl hn ho hci hdd hst hNN hsta hp2 k
theorem e_xret {x : Int32} {ty : FieldType} (hz : narrow ty (.int x) = .int x) (hr : μ.2.2.2 = some ty) (hd : decode μ.2.1 pc = .ok (.ireturn, 1)) : Ev d μ N0 (some (.int x)) N h pc N ls [.int x] h := fun p l e s m args below meth c D cA ad0 ad A H locs lsA C G sw P Dj S L => W.zret C.1 C.2.1 (C.2.2.1.trans hr) hz (fun t ht hW => ⟨⟨ad, G, rfl, by rw [ht]; exact P, va_K.moved hW.alike C.2.2.2.2.2.2.2.2.1, Dj⟩, S.F ht⟩) S.2.2 hd C.2.2.2.2.2.2.2.1
theorem e_i2b {x : Int32} (hd : decode μ.2.1 pc = .ok (.i2b, 1)) {pc2 : Nat} (hp2 : pc + 1 = pc2) (k : Ev d μ N0 v N' h' pc2 N ls (.int x.toInt8.toInt32 :: st) h) : Ev d μ N0 v N' h' pc N ls (.int x :: st) h := by
  subst hp2
  intro p l e s m args below meth c D cA ad0 ad A H locs lsA C G sw P Dj S L
  exact lv_i2b C.1 C.2.1 hd rfl (k p l e s m args below meth c D cA ad0 ad A H locs lsA C G sw P Dj S L)
end EV5
