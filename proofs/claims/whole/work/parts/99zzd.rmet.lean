/-! TeaJunction.rests as a contract that returns or throws -/
def RXB (D : va_G) (cA : Nat → ClassId) (ad : Nat → Nat) (s' : HS) (A : Nat → Prop) : State → Prop := fun t => va_P D vwCl (wl cA ad NF (hp s')) t.heap ∧ va_K D vwCl (tysOf cA) t ∧ va_D A (wl cA ad NF (hp s'))
def PWX (D : va_G) (cA : Nat → ClassId) (ad : Nat → Nat) (N : Nat) (h : HP) (sz : Nat) : State → Prop := fun U => PW D cA ad N h sz U ∧ RXq (va_A (wl cA ad N h) sz) U U.heap
def GRx : GT := fun l s c _ A => l.stackTraces = false ∧ RXq A s s.heap ∧ ∀ x ∈ c.exceptionTable.toList, False
def QRx (D : va_G) (cA : Nat → ClassId) (ad : Nat → Nat) (r : Option Int32) (s' : HS) (A : Nat → Prop) (a : Array Value) : Array Value → State → Outcome → State → Prop := va_Qi (S := Unit) (fun x _ => r = some x) (fun _ t => RXB D cA ad s' A t) A
def XRx (D : va_G) (cA : Nat → ClassId) (ad : Nat → Nat) (r : Option Int32) (s' : HS) (A : Nat → Prop) : String → State → State → Prop := vx_X (S := Unit) (fun _ => r = none) (fun E _ t => E = rx_E ∧ RXB D cA ad s' A t) A
def ZRx (r : Option Int32) (s' : HS) : ZT := fun below D cA ad0 A args s => vx_MQ below (QRx D cA ad0 r s' A args) (XRx D cA ad0 r s' A) args s 1 6 A
section RMET
variable {R : Room} {r : Option Int32} {s s' : HS}
theorem rx_ret {q : Nat} {v : Int32} {ls : List (Nat × Value)} (hd : decode cX11_rests q = .ok (.ireturn, 1)) (hr : r = some v) : Ex R GRx (ZRx r s') miX11_rests NF 0 0 q NF ls [.int v] (hp s') := by
  intro p l e s m args below meth c D cA ad0 ad A H locs lsA C Y G sw P Dj S L
  have e2 := G.eq
  subst e2
  refine vx_ret ?_
  intro T hT X
  refine W.iret (cells := 1) (slots := 6) C.1 C.2.1 (C.2.2.1.trans rfl) (fun t ht hW => ⟨⟨v, (), rfl, hr, ?_, va_K.moved hW.alike C.2.2.2.2.2.2.2.2.1, Dj⟩, S.F ht⟩) S.2.2 hd C.2.2.2.2.2.2.2.1 T hT (stand_widen X (Nat.zero_le _) (Nat.zero_le _))
  rw [ht]; exact P
theorem rx_throw (hR : 10 ≤ R.frames ∧ 1000 ≤ R.locals) (hcs : 1 ≤ R.cells ∧ 6 ≤ R.slots) {q : Nat} {ls : List (Nat × Value)} (hr : r = none)
    (d0 : decode cX11_rests q = .ok (.new 241, 3)) (d3 : decode cX11_rests (q + 3) = .ok (.dup, 1)) (d4 : decode cX11_rests (q + 4) = .ok (.invokespecial 243, 3)) (d7 : decode cX11_rests (q + 7) = .ok (.athrow, 1)) : Ex R GRx (ZRx r s') miX11_rests NF 0 0 q NF ls [] (hp s') := by
  intro p l e s m args below meth c D cA ad0 ad A H locs lsA C Y G sw P Dj S L
  have e2 := G.eq
  subst e2
  have hall := rx_all (a := args) C.2.2.2.2.2.1 Y.2.1.1
  refine vx_throw0 (own := RX11) (cls := rx_E) (names := rx_N) (ik := 241) (ic := 243) (A := A) C.1 C.2.1 Y.1 C.2.2.2.2.1 (by decide +kernel) (by decide +kernel)
    (hall _ List.mem_cons_self) (hall _ (List.mem_cons_of_mem _ List.mem_cons_self)) (fun w hw => hall w (List.mem_cons_of_mem _ (List.mem_cons_of_mem _ hw))) (fun w hw => rx_ot w hw)
    Y.2.1.2.1 Y.2.1.2.2 S (L.1.trans C.2.2.2.1.symm) d0 d3 d4 d7 (fun x hx => (Y.2.2 x hx).elim) (Nat.lt_of_lt_of_le (by decide) hR.1) (Nat.le_trans (show 81 ≤ 1000 by decide) hR.2) hcs.1 hcs.2 C.2.2.2.2.2.2.2.1 ?_ S.2.2 (Nat.le_refl _) (Nat.le_refl _)
  intro t hal hz hk
  refine ⟨(), hr, ⟨rfl, ?_, va_K.moved hal C.2.2.2.2.2.2.2.2.1, Dj⟩, Nat.le_trans S.1 hz, fun a h1 h2 => ?_⟩
  · refine P.kept (fun k x hx => ?_)
    exact hk x.1 (P k x hx).lt
  · rw [hk a (Nat.lt_of_lt_of_le h1 S.1)]; exact S.2.1 a h1 h2
end RMET
/-- the contract: what rests does at a heap s, by f_X11_rests -/
theorem rests_met {r : Option Int32} {s0 s' : HS} {v w : Int32} (hf : f_X11_rests v w s0 = some (r, s')) {l : Launch} (hl : l.stackTraces = false) (D : va_G) (cA : Nat → ClassId) (ad : Nat → Nat) (sz : Nat) :
    vx_Met l yX11_rests (wsG miX11_rests) (rmo 12 1 6) (va_Pc [.ref (ad 1), .int v, .int w] (PWX D cA ad NF (hp s0) sz)) (QRx D cA ad r s' (va_A (wl cA ad NF (hp s0)) sz) #[.ref (ad 1), .int v, .int w]) (XRx D cA ad r s' (va_A (wl cA ad NF (hp s0)) sz)) 1 6 (va_A (wl cA ad NF (hp s0)) sz) := by
  refine vx_ofW (cc := cX11_rests) (maxL := 5) (ret := some .int) (by decide +kernel) rfl ?_
  intro p e s m args below meth c s₁ B hml ht hv
  obtain ⟨rfl, ⟨hsz, hP, hK, hD0, hSW⟩, hRX⟩ := hv
  subst hsz
  have hts := atoms_spec (ws := wsG miX11_rests) B.pre
  have hl9 := lv_entry (([.ref 1, .int v, .int w] : List Value).map (cv ad)) (n := 5) (by rw [lg_cv]; exact Nat.le_of_ble_eq_true rfl)
  rw [lm_args] at hl9
  have hcz : Cx p s m #[.ref (ad 1), .int v, .int w] meth c D cA (va_A (wl cA ad NF (hp s0)) s.heap.size) miX11_rests := ⟨B.exec, B.bytes, B.returns, hml, findClass_of_methodNamed B.named, fun w hw => hts w (List.mem_cons_of_mem _ hw), trivial, B.notSynchronized, hK, fun q hq => Or.inr hq⟩
  have k : Ex (rmo 12 1 6) GRx (ZRx r s') miX11_rests NF 0 0 0 NF [(0, .ref 1), (1, .int v), (2, .int w)] [] (hp s0) := by
    refine rest_walk ⟨by decide, by decide⟩ ⟨by decide, by decide⟩ v w s0 s' (fun q v1 ls hd hr => rx_ret hd hr) (fun q ls hq hr => ?_) hf
    rcases hq with rfl | rfl
    · exact rx_throw ⟨by decide, by decide⟩ ⟨by decide, by decide⟩ hr dX11_rests_21 dX11_rests_24 dX11_rests_25 dX11_rests_28
    · exact rx_throw ⟨by decide, by decide⟩ ⟨by decide, by decide⟩ hr dX11_rests_86 dX11_rests_89 dX11_rests_90 dX11_rests_93
  have hk := k p l e s m #[.ref (ad 1), .int v, .int w] below meth c D cA ad ad (va_A (wl cA ad NF (hp s0)) s.heap.size) s.heap [] _ hcz ⟨hl, hRX, ht⟩ (fun _ _ => rfl) hSW hP hD0.self va_S.rf hl9
  rw [lg_entry_eq]
  exact hk
