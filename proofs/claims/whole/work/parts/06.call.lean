/-! Calls -/
theorem PW.blind {D : va_G} {cA : Nat → ClassId} {ad : Nat → Nat} {N : Nat} {h : HP} {sz : Nat} {av : List Value} : FrameBlind (va_Pc av (PW D cA ad N h sz)) := by
  intro a U g mk q
  obtain ⟨q0, q1, qP, qK, qD, qS⟩ := q
  exact ⟨q0, q1, qP, va_K.moved (u := U) (U := U.calling g mk a) (Vm.Alike.refl U.vm) qK, qD, SW.moved (u := U) (U := U.calling g mk a) (Vm.Alike.refl U.vm) qS.1, NWp.same (u := U) (U := U.calling g mk a) rfl qS.2⟩
def CB (own : String) (idx : Nat) (μ : MI) (n : Nat) : Prop := Cond.code μ.1 μ.2.1 μ.2.2.1 μ.2.2.2 ∈ TG ∧ Cond.methodLink own idx μ.1 ∈ TG ∧ Cond.initialized μ.1.cls ∈ TG ∧ (μ.1.cls ≠ "java/lang/invoke/MethodHandle" ∧ μ.1.cls ≠ "java/lang/invoke/VarHandle" ∧ (parseMethodDescriptor μ.1.desc).map (fun d => d.parameters.length) = some n) ∧ μ.2.2.1 ≤ 81
def CV (own : String) (idx : Nat) (μ : MI) (n : Nat) : Prop := CB own idx μ n ∧ Cond.instanceMethod μ.1 ∈ TG ∧ Cond.selects μ.1.cls μ.1 μ.1 ∈ TG
def CS (own : String) (idx : Nat) (μ : MI) (n : Nat) : Prop := CB own idx μ n ∧ Cond.static μ.1 ∈ TG
section EVC
variable {p : Program} {l : Launch} {e : Env} {R : Room} {s : State} {m : MethodId} {args : Array Value} {below : List Frame} {meth : Method} {c : Code} {H : Heap} {locs : List Loc} {cells slots : Nat} {Q : State → Prop}
theorem ev_after {D : va_G} {cA : Nat → ClassId} {ad : Nat → Nat} {N N1 : Nat} {h h1 : HP} {v1 : Option Value} {mc ms pc : Nat} {lsA : Array Slot} {st0 rest : List Value} {A : Nat → Prop} {a : Array Value}
    (hr : va_Run p l e R s m args below meth c H locs cells slots mc ms (F0 m pc lsA st0) rest (Qr D cA v1 N ad N1 h1 (va_A (wl cA ad N h) H.size) a) (va_A (wl cA ad N h) H.size))
    (hS : va_S A s.heap H locs) (hA : ∀ q, va_A (wl cA ad N h) H.size q → A q)
    (kk : ∀ (ad' : Nat → Nat) (H1 : Heap) (locs1 : List Loc), ag N N1 ad ad' → va_P D vwCl (wl cA ad' N1 h1) H1 → va_D A (wl cA ad' N1 h1) → va_S A s.heap H1 locs1 → W p l e R s m args below meth c H1 locs1 (cells + mc) (slots + ms) Q (F0 m (pc + 3) lsA ((v1.map (cv ad')).toList ++ rest))) :
    W p l e R s m args below meth c H locs cells slots Q (F0 m pc lsA st0) := by
  intro T hT X
  obtain ⟨v, st₀, t, T', L, h0, X', hL, e1, e2, ⟨⟨ad', hag, hv, hP, hK, hD⟩, hz, hk⟩, st⟩ := hr T hT X
  cases hv
  rw [h0] at hz hk
  obtain ⟨t2, a1, b1⟩ := kk ad' T'.heap (locs ++ L) hag (by rw [e1]; exact hP) (hD.weaken (fun _ _ _ q => hA _ q))
    ⟨Nat.le_trans hS.1 (by rw [e1]; exact hz), fun q h1 h2 => by rw [e1, hk q (Nat.lt_of_lt_of_le h1 hS.1) (fun z => h2 (hA q z))]; exact hS.2.1 q h1 h2, fun q hq => by
      rcases List.mem_append.mp hq with h | h
      · exact hS.2.2 q h
      · exact hA _ (hL q h)⟩ T' rfl X'
  exact ⟨t2, st t2 a1, b1⟩
end EVC
theorem e_free {cA : Nat → ClassId} {ad : Nat → Nat} {N : Nat} {h : HP} {A : Nat → Prop} {H0 H : Heap} {locs : List Loc} (Dj : va_D A (wl cA ad N h)) (S : va_S A H0 H locs) (hA : ∀ q : Nat, H0.size ≤ q → A q) : ∀ q, va_A (wl cA ad N h) H.size q → A q := by
  intro q hq
  rcases hq with ⟨k, x, hk⟩ | hq
  · exact Dj.2 k (q, x) hk
  · exact hA q (Nat.le_trans S.1 hq)
theorem e_pw {D : va_G} {cA : Nat → ClassId} {ad : Nat → Nat} {N : Nat} {h : HP} {A : Nat → Prop} {s U : State} {H : Heap} {locs : List Loc} (hA : ∀ q : Nat, s.heap.size ≤ q → A q) (hK : va_K D vwCl (tysOf cA) s) (sw : SWN (adW ad) A s s.heap) (P : va_P D vwCl (wl cA ad N h) H) (Dj : va_D A (wl cA ad N h)) (S : va_S A s.heap H locs) (hU : U.heap = H) (hW : s.WarmedH U.vm) : PW D cA ad N h H.size U := by
  refine ⟨by rw [hU], by rw [hU]; exact P, va_K.moved hW.alike hK, Dj.weaken (fun _ _ _ _ => trivial), ?_⟩
  rw [hU]
  exact ⟨SW.moved hW.alike ((sw.1.kept S.2.1).narrow (e_free Dj S hA)), sw.2.warm hW⟩
theorem ag.trans {N0 N N1 : Nat} {a b c : Nat → Nat} (h1 : ag N0 N a b) (h2 : ag N N1 b c) (h0 : N0 ≤ N) (h3 : N ≤ N1) : ag N0 N1 a c := fun o ho => (h2 o (fun q => ho ⟨by omega, q.2⟩)).trans (h1 o (fun q => ho ⟨q.1, by omega⟩))
theorem st_ret {ad : Nat → Nat} {v : Option Value} {st : List Value} : (v.map (cv ad)).toList ++ st.map (cv ad) = (v.toList ++ st).map (cv ad) := by cases v <;> simp
theorem wsG_good {w : Cond} {μ : MI} (hc : Cond.code μ.1 μ.2.1 μ.2.2.1 μ.2.2.2 ∈ TG) (h : w ∈ wsG μ) : w ∈ TG := by
  rcases List.mem_cons.mp h with q | q
  · rw [q]; exact hc
  · exact q
section EV2
variable {d : Nat} {μ : MI} {N0 : Nat} {v : Option Value} {N' : Nat} {h' : HP} {pc : Nat} {N : Nat} {ls : List (Nat × Value)} {st : List Value} {h : HP}
theorem hstx {m : MethodId} {pc : Nat} {lsA : Array Slot} {ad : Nat → Nat} {st x : List Value} (hst : (st.map fun v => v.category).sum ≤ 8) : 2 * (F0 m pc lsA x).monitorRoom + ((st.map (cv ad)).map fun v => v.category).sum ≤ 8 := by
  rw [cat_sum]
  show 2 * 0 + _ ≤ 8
  omega
/-- a call of an instance method of ours that makes nothing -/
theorem e_callV {sta : List Value} {d1 : Nat} {μ1 : MI} {o ci idx n : Nat} {av : List Value} {v1 : Option Value} {h1 : HP} (hM : Mt d1 μ1 (.ref o :: av) N h v1 N h1) (hd : decode μ.2.1 pc = .ok (.invokevirtual idx, 3)) (hc : CV μ.1.cls idx μ1 n) (hn : av.length = n) (ho : isO N o ci) (hci : RC ci = μ1.1.cls) (hdd : d1 + 1 ≤ d) (hst : (st.map fun v => v.category).sum ≤ 8) (hNN : NN N0 N N') (hsta : sta = av.reverse ++ .ref o :: st)
    {pc2 : Nat} (hp2 : pc + 3 = pc2) (k : Ev d μ N0 v N' h' pc2 N ls (v1.toList ++ st) h1) : Ev d μ N0 v N' h' pc N ls sta h := by
  subst hp2
  intro p l e s m args below meth c D cA ad0 ad A H locs lsA C G sw P Dj S L
  subst hsta
  obtain ⟨⟨c1, c2, c3, c4, c5⟩, c6, c7⟩ := hc
  have hcl : μ1.1.cls = RC ci := hci.symm
  have e0 : N - N = 0 := Nat.sub_self N
  have e1 : sl N - sl N = 0 := Nat.sub_self _
  have hMl := hM.2 l D cA ad H.size
  rw [e0, e1] at hMl
  have hcw : CallW (rmo d (N' - N0) (sl N' - sl N0)) s args μ.1.cls μ1.1.cls idx μ1.1 μ1.2.1 μ1.2.2.1 μ1.2.2.2 (wsG μ1) (rmo d1 0 0) 0 0 n := by
    refine cwV (Ts := TG) n C.2.2.2.2.2.1 ?_ rfl rfl rfl ⟨rfl, c4⟩ ⟨hdd, ?_⟩
    · intro w hw
      refine TG_good ?_
      unfold wsV at hw
      rcases List.mem_append.mp hw with q | q
      · simp only [List.mem_cons, List.not_mem_nil, or_false] at q
        rcases q with q | q | q | q <;> rw [q] <;> assumption
      · exact wsG_good c1 q
    · show 8 + (μ1.2.2.1 + 11) + 100 * d1 ≤ 100 * d
      omega
  obtain ⟨Cn, T, nn, hc9⟩ : ∃ (Cn : String) (T : u_T) (nn : Nat), vwCl[ci]? = some (Cn, T, nn) := by
    obtain ⟨r, hr, -⟩ := P (o - 1) _ (wl_o ho)
    exact ⟨_, _, _, hr⟩
  have hRC : Cn = μ1.1.cls := by rw [← hci]; simp only [RC, List.getD_eq_getElem?_getD, List.getElem?_map, hc9]; rfl
  have hrecv := va_recv C.2.2.2.2.2.2.2.2.1 P hc9 (wl_o ho)
  rw [show (Cn, T, nn).1 = μ1.1.cls from hRC] at hrecv
  have hrun := va_runV (l := l) (e := e) (R := rmo d (N' - N0) (sl N' - sl N0)) (below := below) (meth := meth) (locs := locs) (cells := N - N0) (slots := sl N - sl N0) (g := F0 m pc lsA ((av.reverse ++ .ref o :: st).map (cv ad))) (rest := st.map (cv ad)) (As := av.map (cv ad)) (b := ad o) ⟨C.1, C.2.1, C.2.2.2.1, C.2.2.2.2.1, C.2.2.2.2.2.1⟩ hMl hcw
    ⟨PW.blind, hrecv, fun U hU hW => ⟨rfl, e_pw C.2.2.2.2.2.2.2.2.2 C.2.2.2.2.2.2.2.2.1 sw P Dj S hU hW⟩⟩ rfl (by simpa using hn) L.1 (by simp [cv]) (hstx hst) hd ⟨hNN.1, hNN.2⟩
  refine ev_after hrun S (e_free Dj S C.2.2.2.2.2.2.2.2.2) (fun ad' H1 locs1 hag P1 D1 S1 => ?_)
  have e2 := hag.eq
  subst e2
  rw [st_ret]
  exact k p l e s m args below meth c D cA ad0 ad' A H1 locs1 lsA C G sw P1 D1 S1 L
/-- a call of a static method of the same class -/
theorem e_callS {sta : List Value} {d1 : Nat} {μ1 : MI} {idx n : Nat} {av : List Value} {v1 : Option Value} {h1 : HP} (hM : Mt d1 μ1 av N h v1 N h1) (hd : decode μ.2.1 pc = .ok (.invokestatic idx, 3)) (hc : CS μ.1.cls idx μ1 n) (hn : av.length = n) (hdd : d1 + 1 ≤ d) (hst : (st.map fun v => v.category).sum ≤ 8) (hNN : NN N0 N N') (hsta : sta = av.reverse ++ st)
    {pc2 : Nat} (hp2 : pc + 3 = pc2) (k : Ev d μ N0 v N' h' pc2 N ls (v1.toList ++ st) h1) : Ev d μ N0 v N' h' pc N ls sta h := by
  subst hp2
  intro p l e s m args below meth c D cA ad0 ad A H locs lsA C G sw P Dj S L
  subst hsta
  obtain ⟨⟨c1, c2, c3, c4, c5⟩, c6⟩ := hc
  have e0 : N - N = 0 := Nat.sub_self N
  have e1 : sl N - sl N = 0 := Nat.sub_self _
  have hMl := hM.2 l D cA ad H.size
  rw [e0, e1] at hMl
  have hcw : CallB (rmo d (N' - N0) (sl N' - sl N0)) s args μ.1.cls idx μ1.1 μ1.2.1 μ1.2.2.1 μ1.2.2.2 (wsG μ1) (rmo d1 0 0) 0 0 n ∧ (Cond.static μ1.1).before args s = true := by
    refine ⟨callB_of (Ts := TG) n C.2.2.2.2.2.1 (fun w hw => TG_good (wsG_good c1 hw)) rfl rfl rfl (C.2.2.2.2.2.1 _ c3) (C.2.2.2.2.2.1 _ c2) c4 ⟨hdd, ?_⟩, C.2.2.2.2.2.1 _ c6⟩
    show 8 + (μ1.2.2.1 + 11) + 100 * d1 ≤ 100 * d
    omega
  have hrun := va_runS (l := l) (e := e) (R := rmo d (N' - N0) (sl N' - sl N0)) (below := below) (meth := meth) (locs := locs) (cells := N - N0) (slots := sl N - sl N0) (g := F0 m pc lsA ((av.reverse ++ st).map (cv ad))) (rest := st.map (cv ad)) (As := av.map (cv ad)) ⟨C.1, C.2.1, C.2.2.2.1, C.2.2.2.2.1, C.2.2.2.2.2.1⟩ hMl hcw
    ⟨PW.blind, fun U hU hW => ⟨rfl, e_pw C.2.2.2.2.2.2.2.2.2 C.2.2.2.2.2.2.2.2.1 sw P Dj S hU hW⟩⟩ rfl (by simpa using hn) L.1 (by simp) (hstx hst) hd ⟨hNN.1, hNN.2⟩
  refine ev_after hrun S (e_free Dj S C.2.2.2.2.2.2.2.2.2) (fun ad' H1 locs1 hag P1 D1 S1 => ?_)
  have e2 := hag.eq
  subst e2
  rw [st_ret]
  exact k p l e s m args below meth c D cA ad0 ad' A H1 locs1 lsA C G sw P1 D1 S1 L
/-- the enum's constants -/
theorem e_getsE {idx i : Nat} (hi : i < 37) (hd : decode μ.2.1 pc = .ok (.getstatic idx, 3)) (hl : Cond.fieldLink μ.1.cls idx RX10 (nmW.getD i "") "LTeaJunction$Word;" ∈ TG) {pc2 : Nat} (hp2 : pc + 3 = pc2) (k : Ev d μ N0 v N' h' pc2 N ls (.ref (1000 + i) :: st) h) : Ev d μ N0 v N' h' pc N ls st h := by
  subst hp2
  intro p l e s m args below meth c D cA ad0 ad A H locs lsA C G sw P Dj S L
  exact va_gets C.1 C.2.1 (sw.1.1.1 i hi).1 S C.2.2.2.2.1 (C.2.2.2.2.2.1 _ hl) (fun _ z => z) hd (k p l e s m args below meth c D cA ad0 ad A H locs lsA C G sw P Dj S L)
theorem e_getEo {idx i : Nat} (hi : i < 37) (hd : decode μ.2.1 pc = .ok (.getfield idx, 3)) (hl : Cond.fieldLink μ.1.cls idx RX10 "once" "I" ∈ TG) {pc2 : Nat} (hp2 : pc + 3 = pc2) (k : Ev d μ N0 v N' h' pc2 N ls (.int (onceL.getD i 0) :: st) h) : Ev d μ N0 v N' h' pc N ls (.ref (1000 + i) :: st) h := by
  subst hp2
  intro p l e s m args below meth c D cA ad0 ad A H locs lsA C G sw P Dj S L
  exact va_getE (ad := adW ad) (i := i) (q := ("TeaJunction$Word", "once", "I", onceL)) C.1 C.2.1 sw.1.1 hi S C.2.2.2.2.1 List.mem_cons_self (C.2.2.2.2.2.1 _ hl) (fun _ z => z) hd (k p l e s m args below meth c D cA ad0 ad A H locs lsA C G sw P Dj S L)
theorem e_getEk {idx i : Nat} (hi : i < 37) (hd : decode μ.2.1 pc = .ok (.getfield idx, 3)) (hl : Cond.fieldLink μ.1.cls idx RX10 "key" "J" ∈ TG) {pc2 : Nat} (hp2 : pc + 3 = pc2) (k : Ev d μ N0 v N' h' pc2 N ls (.long (keyL.getD i 0) :: st) h) : Ev d μ N0 v N' h' pc N ls (.ref (1000 + i) :: st) h := by
  subst hp2
  intro p l e s m args below meth c D cA ad0 ad A H locs lsA C G sw P Dj S L
  exact va_getX (ad := adW ad) (i := i) (v := fun i => .long (keyL.getD i 0)) C.1 C.2.1 sw.1.2.1 hi S C.2.2.2.2.1 (C.2.2.2.2.2.1 _ hl) (fun _ z => z) hd (k p l e s m args below meth c D cA ad0 ad A H locs lsA C G sw P Dj S L)
end EV2
