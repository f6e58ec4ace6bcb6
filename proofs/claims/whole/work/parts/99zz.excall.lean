/-! Calls of ours out of a body with any end: Ex -/
section EXC
variable {R : Room} {Γ : GT} {Z : ZT} {μ : MI} {N0 cc ss pc N : Nat} {ls : List (Nat × Value)} {st : List Value} {h : HP}
theorem x_callV {sta : List Value} {d1 : Nat} {μ1 : MI} {o ci idx n : Nat} {av : List Value} {v1 : Option Value} {h1 : HP} (hM : Mt d1 μ1 (.ref o :: av) N h v1 N h1) (hd : decode μ.2.1 pc = .ok (.invokevirtual idx, 3)) (hc : CV μ.1.cls idx μ1 n) (hn : av.length = n) (ho : isO N o ci) (hci : RC ci = μ1.1.cls) (hdd : d1 + 1 ≤ R.frames ∧ 100 * (d1 + 1) ≤ R.locals) (hst : (st.map fun v => v.category).sum ≤ 8) (hNN : cc ≤ R.cells ∧ ss ≤ R.slots) (hsta : sta = av.reverse ++ .ref o :: st)
    {pc2 : Nat} (hp2 : pc + 3 = pc2) (k : Ex R Γ Z μ N0 cc ss pc2 N ls (v1.toList ++ st) h1) : Ex R Γ Z μ N0 cc ss pc N ls sta h := by
  subst hp2
  intro p l e s m args below meth c D cA ad0 ad A H locs lsA C Y G sw P Dj S L
  subst hsta
  obtain ⟨⟨c1, c2, c3, c4, c5⟩, c6, c7⟩ := hc
  have hcl : μ1.1.cls = RC ci := hci.symm
  have e0 : N - N = 0 := Nat.sub_self N
  have e1 : sl N - sl N = 0 := Nat.sub_self _
  have hMl := hM.2 l D cA ad H.size
  rw [e0, e1] at hMl
  have hcw : CallW R s args μ.1.cls μ1.1.cls idx μ1.1 μ1.2.1 μ1.2.2.1 μ1.2.2.2 (wsG μ1) (rmo d1 0 0) 0 0 n := by
    refine cwV (Ts := TG) n C.2.2.2.2.2.1 ?_ rfl rfl rfl ⟨rfl, c4⟩ ⟨hdd.1, ?_⟩
    · intro w hw
      refine TG_good ?_
      unfold wsV at hw
      rcases List.mem_append.mp hw with q | q
      · simp only [List.mem_cons, List.not_mem_nil, or_false] at q
        rcases q with q | q | q | q <;> rw [q] <;> assumption
      · exact wsG_good c1 q
    · show 8 + (μ1.2.2.1 + 11) + 100 * d1 ≤ R.locals
      omega
  obtain ⟨Cn, T, nn, hc9⟩ : ∃ (Cn : String) (T : u_T) (nn : Nat), vwCl[ci]? = some (Cn, T, nn) := by
    obtain ⟨r, hr, -⟩ := P (o - 1) _ (wl_o ho)
    exact ⟨_, _, _, hr⟩
  have hRC : Cn = μ1.1.cls := by rw [← hci]; simp only [RC, List.getD_eq_getElem?_getD, List.getElem?_map, hc9]; rfl
  have hrecv := va_recv C.2.2.2.2.2.2.2.2.1 P hc9 (wl_o ho)
  rw [show (Cn, T, nn).1 = μ1.1.cls from hRC] at hrecv
  have hrun := va_runV (l := l) (e := e) (R := R) (below := below) (meth := meth) (locs := locs) (cells := cc) (slots := ss) (g := F0 m pc lsA ((av.reverse ++ .ref o :: st).map (cv ad))) (rest := st.map (cv ad)) (As := av.map (cv ad)) (b := ad o) ⟨C.1, C.2.1, C.2.2.2.1, C.2.2.2.2.1, C.2.2.2.2.2.1⟩ hMl hcw
    ⟨PW.blind, hrecv, fun U hU hW => ⟨rfl, e_pw C.2.2.2.2.2.2.2.2.2 C.2.2.2.2.2.2.2.2.1 sw P Dj S hU hW⟩⟩ rfl (by simpa using hn) L.1 (by simp [cv]) (hstx hst) hd ⟨hNN.1, hNN.2⟩
  refine ev_after hrun S (e_free Dj S C.2.2.2.2.2.2.2.2.2) (fun ad' H1 locs1 hag P1 D1 S1 => ?_)
  have e2 := hag.eq
  subst e2
  rw [st_ret]
  exact k p l e s m args below meth c D cA ad0 ad' A H1 locs1 lsA C Y G sw P1 D1 S1 L
theorem x_callS {sta : List Value} {d1 : Nat} {μ1 : MI} {idx n : Nat} {av : List Value} {v1 : Option Value} {h1 : HP} (hM : Mt d1 μ1 av N h v1 N h1) (hd : decode μ.2.1 pc = .ok (.invokestatic idx, 3)) (hc : CS μ.1.cls idx μ1 n) (hn : av.length = n) (hdd : d1 + 1 ≤ R.frames ∧ 100 * (d1 + 1) ≤ R.locals) (hst : (st.map fun v => v.category).sum ≤ 8) (hNN : cc ≤ R.cells ∧ ss ≤ R.slots) (hsta : sta = av.reverse ++ st)
    {pc2 : Nat} (hp2 : pc + 3 = pc2) (k : Ex R Γ Z μ N0 cc ss pc2 N ls (v1.toList ++ st) h1) : Ex R Γ Z μ N0 cc ss pc N ls sta h := by
  subst hp2
  intro p l e s m args below meth c D cA ad0 ad A H locs lsA C Y G sw P Dj S L
  subst hsta
  obtain ⟨⟨c1, c2, c3, c4, c5⟩, c6⟩ := hc
  have e0 : N - N = 0 := Nat.sub_self N
  have e1 : sl N - sl N = 0 := Nat.sub_self _
  have hMl := hM.2 l D cA ad H.size
  rw [e0, e1] at hMl
  have hcw : CallB R s args μ.1.cls idx μ1.1 μ1.2.1 μ1.2.2.1 μ1.2.2.2 (wsG μ1) (rmo d1 0 0) 0 0 n ∧ (Cond.static μ1.1).before args s = true := by
    refine ⟨callB_of (Ts := TG) n C.2.2.2.2.2.1 (fun w hw => TG_good (wsG_good c1 hw)) rfl rfl rfl (C.2.2.2.2.2.1 _ c3) (C.2.2.2.2.2.1 _ c2) c4 ⟨hdd.1, ?_⟩, C.2.2.2.2.2.1 _ c6⟩
    show 8 + (μ1.2.2.1 + 11) + 100 * d1 ≤ R.locals
    omega
  have hrun := va_runS (l := l) (e := e) (R := R) (below := below) (meth := meth) (locs := locs) (cells := cc) (slots := ss) (g := F0 m pc lsA ((av.reverse ++ st).map (cv ad))) (rest := st.map (cv ad)) (As := av.map (cv ad)) ⟨C.1, C.2.1, C.2.2.2.1, C.2.2.2.2.1, C.2.2.2.2.2.1⟩ hMl hcw
    ⟨PW.blind, fun U hU hW => ⟨rfl, e_pw C.2.2.2.2.2.2.2.2.2 C.2.2.2.2.2.2.2.2.1 sw P Dj S hU hW⟩⟩ rfl (by simpa using hn) L.1 (by simp) (hstx hst) hd ⟨hNN.1, hNN.2⟩
  refine ev_after hrun S (e_free Dj S C.2.2.2.2.2.2.2.2.2) (fun ad' H1 locs1 hag P1 D1 S1 => ?_)
  have e2 := hag.eq
  subst e2
  rw [st_ret]
  exact k p l e s m args below meth c D cA ad0 ad' A H1 locs1 lsA C Y G sw P1 D1 S1 L
end EXC
