/-! Rows for a body that may throw or be the law's: any end Z, any room R, any context Y -/
abbrev ZT : Type := List Frame → va_G → (Nat → ClassId) → (Nat → Nat) → (Nat → Prop) → Array Value → State → State → Prop
abbrev GT : Type := Launch → State → Code → (Nat → Nat) → (Nat → Prop) → Prop
def Cx (p : Program) (s : State) (m : MethodId) (args : Array Value) (meth : Method) (c : Code) (D : va_G) (cA : Nat → ClassId) (A : Nat → Prop) (μ : MI) : Prop :=
  p.tables.exec = Jvm.exec ∧ c.code = μ.2.1 ∧ meth.sig.returnType = μ.2.2.2 ∧ c.maxLocals = μ.2.2.1 ∧ s.vm.findClass μ.1.cls = some m.cls ∧ (∀ w ∈ TG, w.before args s = true) ∧ True ∧ meth.locks = false ∧ va_K D vwCl (tysOf cA) s ∧ (∀ q : Nat, s.heap.size ≤ q → A q)
def Ex (R : Room) (Γ : GT) (Z : ZT) (μ : MI) (N0 : Nat) (cc ss : Nat) (pc N : Nat) (ls : List (Nat × Value)) (st : List Value) (h : HP) : Prop :=
  ∀ (p : Program) (l : Launch) (e : Env) (s : State) (m : MethodId) (args : Array Value) (below : List Frame) (meth : Method) (c : Code) (D : va_G) (cA : Nat → ClassId) (ad0 ad : Nat → Nat) (A : Nat → Prop) (H : Heap) (locs : List Loc) (lsA : Array Slot),
    Cx p s m args meth c D cA A μ → Γ l s c ad0 A → ag N0 N ad0 ad → SWN (adW ad) A s s.heap → va_P D vwCl (wl cA ad N h) H → va_D A (wl cA ad N h) → va_S A s.heap H locs → lv_has lsA μ.2.2.1 (lm ad ls) →
    W p l e R s m args below meth c H locs cc ss (Z below D cA ad0 A args s) (F0 m pc lsA (st.map (cv ad)))
section EX
variable {R : Room} {Γ : GT} {Z : ZT} {μ : MI} {N0 cc ss pc N : Nat} {ls : List (Nat × Value)} {st : List Value} {h : HP}
theorem x_iconst {n : Int} {x : Int32} (hd : decode μ.2.1 pc = .ok (.iconst n, 1)) (hx : Int32.ofInt n = x) {pc2 : Nat} (hp2 : pc + 1 = pc2) (k : Ex R Γ Z μ N0 cc ss pc2 N ls (.int x :: st) h) : Ex R Γ Z μ N0 cc ss (pc) N ls (st) h := by
  subst hp2
  exact fun p l e s m args below meth c D cA ad0 ad A H locs lsA C Y G sw P Dj S L => lv_iconst C.1 C.2.1 hd hx (k p l e s m args below meth c D cA ad0 ad A H locs lsA C Y G sw P Dj S L)
theorem x_bipush {n : Int} {x : Int32} (hd : decode μ.2.1 pc = .ok (.bipush n, 2)) (hx : (Int8.ofInt n).toInt32 = x) {pc2 : Nat} (hp2 : pc + 2 = pc2) (k : Ex R Γ Z μ N0 cc ss pc2 N ls (.int x :: st) h) : Ex R Γ Z μ N0 cc ss (pc) N ls (st) h := by
  subst hp2
  exact fun p l e s m args below meth c D cA ad0 ad A H locs lsA C Y G sw P Dj S L => lv_bipush C.1 C.2.1 hd hx (k p l e s m args below meth c D cA ad0 ad A H locs lsA C Y G sw P Dj S L)
theorem x_sipush {n : Int} {x : Int32} (hd : decode μ.2.1 pc = .ok (.sipush n, 3)) (hx : (Int16.ofInt n).toInt32 = x) {pc2 : Nat} (hp2 : pc + 3 = pc2) (k : Ex R Γ Z μ N0 cc ss pc2 N ls (.int x :: st) h) : Ex R Γ Z μ N0 cc ss (pc) N ls (st) h := by
  subst hp2
  exact fun p l e s m args below meth c D cA ad0 ad A H locs lsA C Y G sw P Dj S L => lv_sipush C.1 C.2.1 hd hx (k p l e s m args below meth c D cA ad0 ad A H locs lsA C Y G sw P Dj S L)
theorem x_ldc2 {x : Int64} {index : Nat} (hd : decode μ.2.1 pc = .ok (.ldc2_w index, 3)) (hc : Cond.constantLong μ.1.cls index x ∈ TG) {pc2 : Nat} (hp2 : pc + 3 = pc2) (k : Ex R Γ Z μ N0 cc ss pc2 N ls (.long x :: st) h) : Ex R Γ Z μ N0 cc ss (pc) N ls (st) h := by
  subst hp2
  exact fun p l e s m args below meth c D cA ad0 ad A H locs lsA C Y G sw P Dj S L => lv_ldc2 C.1 C.2.1 C.2.2.2.2.1 (C.2.2.2.2.2.1 _ hc) hd (k p l e s m args below meth c D cA ad0 ad A H locs lsA C Y G sw P Dj S L)
theorem x_iload_n {k0 : Fin 4} {i : Nat} {x : Int32} (hd : decode μ.2.1 pc = .ok (.iload_n k0, 1)) (n : Nat) (hn : ls[n]? = some (i, .int x)) (hi : (k0 : Nat) = i) {pc2 : Nat} (hp2 : pc + 1 = pc2) (k : Ex R Γ Z μ N0 cc ss pc2 N ls (.int x :: st) h) : Ex R Γ Z μ N0 cc ss (pc) N ls (st) h := by
  subst hp2
  exact fun p l e s m args below meth c D cA ad0 ad A H locs lsA C Y G sw P Dj S L => lv_iload_n C.1 C.2.1 hd hi (lv_at L n (lm_at hn)) (k p l e s m args below meth c D cA ad0 ad A H locs lsA C Y G sw P Dj S L)
theorem x_iload {i : Nat} {x : Int32} (hd : decode μ.2.1 pc = .ok (.iload i, 2)) (n : Nat) (hn : ls[n]? = some (i, .int x)) {pc2 : Nat} (hp2 : pc + 2 = pc2) (k : Ex R Γ Z μ N0 cc ss pc2 N ls (.int x :: st) h) : Ex R Γ Z μ N0 cc ss (pc) N ls (st) h := by
  subst hp2
  exact fun p l e s m args below meth c D cA ad0 ad A H locs lsA C Y G sw P Dj S L => lv_iload C.1 C.2.1 hd (lv_at L n (lm_at hn)) (k p l e s m args below meth c D cA ad0 ad A H locs lsA C Y G sw P Dj S L)
theorem x_aload_n {k0 : Fin 4} {i : Nat} {x : Nat} (hd : decode μ.2.1 pc = .ok (.aload_n k0, 1)) (n : Nat) (hn : ls[n]? = some (i, .ref x)) (hi : (k0 : Nat) = i) {pc2 : Nat} (hp2 : pc + 1 = pc2) (k : Ex R Γ Z μ N0 cc ss pc2 N ls (.ref x :: st) h) : Ex R Γ Z μ N0 cc ss (pc) N ls (st) h := by
  subst hp2
  exact fun p l e s m args below meth c D cA ad0 ad A H locs lsA C Y G sw P Dj S L => lv_aload_n C.1 C.2.1 hd hi (lv_at L n (lm_at hn)) (k p l e s m args below meth c D cA ad0 ad A H locs lsA C Y G sw P Dj S L)
theorem x_aload {i : Nat} {x : Nat} (hd : decode μ.2.1 pc = .ok (.aload i, 2)) (n : Nat) (hn : ls[n]? = some (i, .ref x)) {pc2 : Nat} (hp2 : pc + 2 = pc2) (k : Ex R Γ Z μ N0 cc ss pc2 N ls (.ref x :: st) h) : Ex R Γ Z μ N0 cc ss (pc) N ls (st) h := by
  subst hp2
  exact fun p l e s m args below meth c D cA ad0 ad A H locs lsA C Y G sw P Dj S L => lv_aload C.1 C.2.1 hd (lv_at L n (lm_at hn)) (k p l e s m args below meth c D cA ad0 ad A H locs lsA C Y G sw P Dj S L)
theorem x_istore {i : Nat} {x : Int32} (hd : decode μ.2.1 pc = .ok (.istore i, 2)) (hn : i < μ.2.2.1) {y : Int32} (hy : x = y) {ls' : List (Nat × Value)} (ks : List Nat) (hl : lv_pick ((i, .int y) :: ls.filter (fun q => !(q.1 == i) && !(q.1 + 1 == i && q.2.category == 2))) ks = ls') {pc2 : Nat} (hp2 : pc + 2 = pc2) (k : Ex R Γ Z μ N0 cc ss pc2 N ls' (st) h) : Ex R Γ Z μ N0 cc ss (pc) N ls (.int x :: st) h := by
  subst hp2
  exact fun p l e s m args below meth c D cA ad0 ad A H locs lsA C Y G sw P Dj S L => lv_istore C.1 C.2.1 hd L hn rfl (fun lsB LB => k p l e s m args below meth c D cA ad0 ad A H locs lsB C Y G sw P Dj S (lv_sub (lc_store (P := fun a b => !(a == i) && !(a + 1 == i && b == 2)) LB) ks (lm_pick (hy ▸ hl))))
theorem x_istore_n {k0 : Fin 4} {i : Nat} {x : Int32} (hd : decode μ.2.1 pc = .ok (.istore_n k0, 1)) (hi : (k0 : Nat) = i) (hn : i < μ.2.2.1) {y : Int32} (hy : x = y) {ls' : List (Nat × Value)} (ks : List Nat) (hl : lv_pick ((i, .int y) :: ls.filter (fun q => !(q.1 == i) && !(q.1 + 1 == i && q.2.category == 2))) ks = ls') {pc2 : Nat} (hp2 : pc + 1 = pc2) (k : Ex R Γ Z μ N0 cc ss pc2 N ls' (st) h) : Ex R Γ Z μ N0 cc ss (pc) N ls (.int x :: st) h := by
  subst hp2
  exact fun p l e s m args below meth c D cA ad0 ad A H locs lsA C Y G sw P Dj S L => lv_istore_n C.1 C.2.1 hd hi L hn rfl (fun lsB LB => k p l e s m args below meth c D cA ad0 ad A H locs lsB C Y G sw P Dj S (lv_sub (lc_store (P := fun a b => !(a == i) && !(a + 1 == i && b == 2)) LB) ks (lm_pick (hy ▸ hl))))
theorem x_astore {i : Nat} {x : Nat} (hd : decode μ.2.1 pc = .ok (.astore i, 2)) (hn : i < μ.2.2.1) {y : Nat} (hy : x = y) {ls' : List (Nat × Value)} (ks : List Nat) (hl : lv_pick ((i, .ref y) :: ls.filter (fun q => !(q.1 == i) && !(q.1 + 1 == i && q.2.category == 2))) ks = ls') {pc2 : Nat} (hp2 : pc + 2 = pc2) (k : Ex R Γ Z μ N0 cc ss pc2 N ls' (st) h) : Ex R Γ Z μ N0 cc ss (pc) N ls (.ref x :: st) h := by
  subst hp2
  exact fun p l e s m args below meth c D cA ad0 ad A H locs lsA C Y G sw P Dj S L => lv_astore C.1 C.2.1 hd L hn rfl (fun lsB LB => k p l e s m args below meth c D cA ad0 ad A H locs lsB C Y G sw P Dj S (lv_sub (lc_store (P := fun a b => !(a == i) && !(a + 1 == i && b == 2)) LB) ks (lm_pick (hy ▸ hl))))
theorem x_astore_n {k0 : Fin 4} {i : Nat} {x : Nat} (hd : decode μ.2.1 pc = .ok (.astore_n k0, 1)) (hi : (k0 : Nat) = i) (hn : i < μ.2.2.1) {y : Nat} (hy : x = y) {ls' : List (Nat × Value)} (ks : List Nat) (hl : lv_pick ((i, .ref y) :: ls.filter (fun q => !(q.1 == i) && !(q.1 + 1 == i && q.2.category == 2))) ks = ls') {pc2 : Nat} (hp2 : pc + 1 = pc2) (k : Ex R Γ Z μ N0 cc ss pc2 N ls' (st) h) : Ex R Γ Z μ N0 cc ss (pc) N ls (.ref x :: st) h := by
  subst hp2
  exact fun p l e s m args below meth c D cA ad0 ad A H locs lsA C Y G sw P Dj S L => lv_astore_n C.1 C.2.1 hd hi L hn rfl (fun lsB LB => k p l e s m args below meth c D cA ad0 ad A H locs lsB C Y G sw P Dj S (lv_sub (lc_store (P := fun a b => !(a == i) && !(a + 1 == i && b == 2)) LB) ks (lm_pick (hy ▸ hl))))
theorem x_iadd {x y : Int32} (hd : decode μ.2.1 pc = .ok (.iadd, 1)) {pc2 : Nat} (hp2 : pc + 1 = pc2) (k : Ex R Γ Z μ N0 cc ss pc2 N ls (.int (x + y) :: st) h) : Ex R Γ Z μ N0 cc ss (pc) N ls (.int y :: .int x :: st) h := by
  subst hp2
  exact fun p l e s m args below meth c D cA ad0 ad A H locs lsA C Y G sw P Dj S L => lv_iadd C.1 C.2.1 hd (k p l e s m args below meth c D cA ad0 ad A H locs lsA C Y G sw P Dj S L)
theorem x_isub {x y : Int32} (hd : decode μ.2.1 pc = .ok (.isub, 1)) {pc2 : Nat} (hp2 : pc + 1 = pc2) (k : Ex R Γ Z μ N0 cc ss pc2 N ls (.int (x - y) :: st) h) : Ex R Γ Z μ N0 cc ss (pc) N ls (.int y :: .int x :: st) h := by
  subst hp2
  exact fun p l e s m args below meth c D cA ad0 ad A H locs lsA C Y G sw P Dj S L => lv_isub C.1 C.2.1 hd (k p l e s m args below meth c D cA ad0 ad A H locs lsA C Y G sw P Dj S L)
theorem x_iand {x y : Int32} (hd : decode μ.2.1 pc = .ok (.iand, 1)) {pc2 : Nat} (hp2 : pc + 1 = pc2) (k : Ex R Γ Z μ N0 cc ss pc2 N ls (.int (x &&& y) :: st) h) : Ex R Γ Z μ N0 cc ss (pc) N ls (.int y :: .int x :: st) h := by
  subst hp2
  exact fun p l e s m args below meth c D cA ad0 ad A H locs lsA C Y G sw P Dj S L => lv_iand C.1 C.2.1 hd (k p l e s m args below meth c D cA ad0 ad A H locs lsA C Y G sw P Dj S L)
theorem x_ixor {x y : Int32} (hd : decode μ.2.1 pc = .ok (.ixor, 1)) {pc2 : Nat} (hp2 : pc + 1 = pc2) (k : Ex R Γ Z μ N0 cc ss pc2 N ls (.int (x ^^^ y) :: st) h) : Ex R Γ Z μ N0 cc ss (pc) N ls (.int y :: .int x :: st) h := by
  subst hp2
  exact fun p l e s m args below meth c D cA ad0 ad A H locs lsA C Y G sw P Dj S L => lv_ixor C.1 C.2.1 hd (k p l e s m args below meth c D cA ad0 ad A H locs lsA C Y G sw P Dj S L)
theorem x_i2l {x : Int32} (hd : decode μ.2.1 pc = .ok (.i2l, 1)) {pc2 : Nat} (hp2 : pc + 1 = pc2) (k : Ex R Γ Z μ N0 cc ss pc2 N ls (.long x.toInt64 :: st) h) : Ex R Γ Z μ N0 cc ss (pc) N ls (.int x :: st) h := by
  subst hp2
  exact fun p l e s m args below meth c D cA ad0 ad A H locs lsA C Y G sw P Dj S L => lv_i2l C.1 C.2.1 hd rfl (k p l e s m args below meth c D cA ad0 ad A H locs lsA C Y G sw P Dj S L)
theorem x_lshl {x : Int64} {y : Int32} (hd : decode μ.2.1 pc = .ok (.lshl, 1)) {pc2 : Nat} (hp2 : pc + 1 = pc2) (k : Ex R Γ Z μ N0 cc ss pc2 N ls (.long (x <<< (y.toInt64 &&& 63)) :: st) h) : Ex R Γ Z μ N0 cc ss (pc) N ls (.int y :: .long x :: st) h := by
  subst hp2
  exact fun p l e s m args below meth c D cA ad0 ad A H locs lsA C Y G sw P Dj S L => lv_lshl C.1 C.2.1 hd rfl (k p l e s m args below meth c D cA ad0 ad A H locs lsA C Y G sw P Dj S L)
theorem x_land {x y : Int64} (hd : decode μ.2.1 pc = .ok (.land, 1)) {pc2 : Nat} (hp2 : pc + 1 = pc2) (k : Ex R Γ Z μ N0 cc ss pc2 N ls (.long (x &&& y) :: st) h) : Ex R Γ Z μ N0 cc ss (pc) N ls (.long y :: .long x :: st) h := by
  subst hp2
  exact fun p l e s m args below meth c D cA ad0 ad A H locs lsA C Y G sw P Dj S L => lv_land C.1 C.2.1 hd (k p l e s m args below meth c D cA ad0 ad A H locs lsA C Y G sw P Dj S L)
theorem x_lor {x y : Int64} (hd : decode μ.2.1 pc = .ok (.lor, 1)) {pc2 : Nat} (hp2 : pc + 1 = pc2) (k : Ex R Γ Z μ N0 cc ss pc2 N ls (.long (x ||| y) :: st) h) : Ex R Γ Z μ N0 cc ss (pc) N ls (.long y :: .long x :: st) h := by
  subst hp2
  exact fun p l e s m args below meth c D cA ad0 ad A H locs lsA C Y G sw P Dj S L => lv_lor C.1 C.2.1 hd (k p l e s m args below meth c D cA ad0 ad A H locs lsA C Y G sw P Dj S L)
theorem x_lcmp {x y : Int64} (hd : decode μ.2.1 pc = .ok (.lcmp, 1)) {pc2 : Nat} (hp2 : pc + 1 = pc2) (k : Ex R Γ Z μ N0 cc ss pc2 N ls (.int (lg_cmp x y) :: st) h) : Ex R Γ Z μ N0 cc ss (pc) N ls (.long y :: .long x :: st) h := by
  subst hp2
  exact fun p l e s m args below meth c D cA ad0 ad A H locs lsA C Y G sw P Dj S L => W.lcmp C.1 C.2.1 hd (k p l e s m args below meth c D cA ad0 ad A H locs lsA C Y G sw P Dj S L)
theorem x_iinc {i : Nat} {n : Int} {x y : Int32} (hd : decode μ.2.1 pc = .ok (.iinc i n, 3)) (kk : Nat) (hk : ls[kk]? = some (i, .int x)) {c9 : Int32} (hc : Int32.ofInt n = c9) (hy : x + c9 = y) (hn : i < μ.2.2.1) {ls' : List (Nat × Value)} (ks : List Nat) (hl : lv_pick ((i, .int y) :: ls.filter (fun q => !(q.1 == i) && !(q.1 + 1 == i && q.2.category == 2))) ks = ls') {pc2 : Nat} (hp2 : pc + 3 = pc2) (k : Ex R Γ Z μ N0 cc ss pc2 N ls' (st) h) : Ex R Γ Z μ N0 cc ss (pc) N ls (st) h := by
  subst hp2
  exact fun p l e s m args below meth c D cA ad0 ad A H locs lsA C Y G sw P Dj S L => lv_iinc C.1 C.2.1 hd L (lm_at hk) (by rw [hc]; exact hy) hn rfl (fun lsB LB => k p l e s m args below meth c D cA ad0 ad A H locs lsB C Y G sw P Dj S (lv_sub (lc_store (P := fun a b => !(a == i) && !(a + 1 == i && b == 2)) LB) ks (lm_pick hl)))
theorem x_if_eq {x : Int32} {off : Int} {tgt : Nat} (hd : decode μ.2.1 pc = .ok (.ifCond .eq off, 3)) (ht : (pc : Int) + off = (tgt : Int)) {pc2 : Nat} (hp2 : pc + 3 = pc2) (kt : x = 0 → Ex R Γ Z μ N0 cc ss (tgt) N ls (st) h) (kf : ¬ x = 0 → Ex R Γ Z μ N0 cc ss pc2 N ls (st) h) : Ex R Γ Z μ N0 cc ss (pc) N ls (.int x :: st) h := by
  subst hp2
  exact fun p l e s m args below meth c D cA ad0 ad A H locs lsA C Y G sw P Dj S L => lv_if_eq C.1 C.2.1 hd ht (fun z => kt z p l e s m args below meth c D cA ad0 ad A H locs lsA C Y G sw P Dj S L) (fun z => kf z p l e s m args below meth c D cA ad0 ad A H locs lsA C Y G sw P Dj S L)
theorem x_if_ne {x : Int32} {off : Int} {tgt : Nat} (hd : decode μ.2.1 pc = .ok (.ifCond .ne off, 3)) (ht : (pc : Int) + off = (tgt : Int)) {pc2 : Nat} (hp2 : pc + 3 = pc2) (kt : ¬ x = 0 → Ex R Γ Z μ N0 cc ss (tgt) N ls (st) h) (kf : x = 0 → Ex R Γ Z μ N0 cc ss pc2 N ls (st) h) : Ex R Γ Z μ N0 cc ss (pc) N ls (.int x :: st) h := by
  subst hp2
  exact fun p l e s m args below meth c D cA ad0 ad A H locs lsA C Y G sw P Dj S L => lv_if_ne C.1 C.2.1 hd ht (fun z => kt z p l e s m args below meth c D cA ad0 ad A H locs lsA C Y G sw P Dj S L) (fun z => kf z p l e s m args below meth c D cA ad0 ad A H locs lsA C Y G sw P Dj S L)
theorem x_icmp_gt {x y : Int32} {off : Int} {tgt : Nat} (hd : decode μ.2.1 pc = .ok (.if_icmp .gt off, 3)) (ht : (pc : Int) + off = (tgt : Int)) {pc2 : Nat} (hp2 : pc + 3 = pc2) (kt : y < x → Ex R Γ Z μ N0 cc ss (tgt) N ls (st) h) (kf : ¬ y < x → Ex R Γ Z μ N0 cc ss pc2 N ls (st) h) : Ex R Γ Z μ N0 cc ss (pc) N ls (.int y :: .int x :: st) h := by
  subst hp2
  exact fun p l e s m args below meth c D cA ad0 ad A H locs lsA C Y G sw P Dj S L => lv_icmp_gt C.1 C.2.1 hd ht (fun z => kt z p l e s m args below meth c D cA ad0 ad A H locs lsA C Y G sw P Dj S L) (fun z => kf z p l e s m args below meth c D cA ad0 ad A H locs lsA C Y G sw P Dj S L)
theorem x_icmp_eq {x y : Int32} {off : Int} {tgt : Nat} (hd : decode μ.2.1 pc = .ok (.if_icmp .eq off, 3)) (ht : (pc : Int) + off = (tgt : Int)) {pc2 : Nat} (hp2 : pc + 3 = pc2) (kt : x = y → Ex R Γ Z μ N0 cc ss (tgt) N ls (st) h) (kf : ¬ x = y → Ex R Γ Z μ N0 cc ss pc2 N ls (st) h) : Ex R Γ Z μ N0 cc ss (pc) N ls (.int y :: .int x :: st) h := by
  subst hp2
  exact fun p l e s m args below meth c D cA ad0 ad A H locs lsA C Y G sw P Dj S L => lv_icmp_eq C.1 C.2.1 hd ht (fun z => kt z p l e s m args below meth c D cA ad0 ad A H locs lsA C Y G sw P Dj S L) (fun z => kf z p l e s m args below meth c D cA ad0 ad A H locs lsA C Y G sw P Dj S L)
theorem x_icmp_ne {x y : Int32} {off : Int} {tgt : Nat} (hd : decode μ.2.1 pc = .ok (.if_icmp .ne off, 3)) (ht : (pc : Int) + off = (tgt : Int)) {pc2 : Nat} (hp2 : pc + 3 = pc2) (kt : ¬ x = y → Ex R Γ Z μ N0 cc ss (tgt) N ls (st) h) (kf : x = y → Ex R Γ Z μ N0 cc ss pc2 N ls (st) h) : Ex R Γ Z μ N0 cc ss (pc) N ls (.int y :: .int x :: st) h := by
  subst hp2
  exact fun p l e s m args below meth c D cA ad0 ad A H locs lsA C Y G sw P Dj S L => lv_icmp_ne C.1 C.2.1 hd ht (fun z => kt z p l e s m args below meth c D cA ad0 ad A H locs lsA C Y G sw P Dj S L) (fun z => kf z p l e s m args below meth c D cA ad0 ad A H locs lsA C Y G sw P Dj S L)
theorem x_icmp_ge {x y : Int32} {off : Int} {tgt : Nat} (hd : decode μ.2.1 pc = .ok (.if_icmp .ge off, 3)) (ht : (pc : Int) + off = (tgt : Int)) {pc2 : Nat} (hp2 : pc + 3 = pc2) (kt : y ≤ x → Ex R Γ Z μ N0 cc ss (tgt) N ls (st) h) (kf : ¬ y ≤ x → Ex R Γ Z μ N0 cc ss pc2 N ls (st) h) : Ex R Γ Z μ N0 cc ss (pc) N ls (.int y :: .int x :: st) h := by
  subst hp2
  exact fun p l e s m args below meth c D cA ad0 ad A H locs lsA C Y G sw P Dj S L => lv_icmp_ge C.1 C.2.1 hd ht (fun z => kt z p l e s m args below meth c D cA ad0 ad A H locs lsA C Y G sw P Dj S L) (fun z => kf z p l e s m args below meth c D cA ad0 ad A H locs lsA C Y G sw P Dj S L)
theorem x_goto {off : Int} {tgt : Nat} (hd : decode μ.2.1 pc = .ok (.goto off, 3)) (ht : (pc : Int) + off = (tgt : Int)) (k : Ex R Γ Z μ N0 cc ss (tgt) N ls (st) h) : Ex R Γ Z μ N0 cc ss (pc) N ls (st) h := fun p l e s m args below meth c D cA ad0 ad A H locs lsA C Y G sw P Dj S L => lv_goto C.1 C.2.1 hd ht (k p l e s m args below meth c D cA ad0 ad A H locs lsA C Y G sw P Dj S L)
theorem x_tableOut {dflt lo hi : Int} {offs : Array Int} {len : Nat} {x : Int32} {tgt : Nat} (hd : decode μ.2.1 pc = .ok (.tableswitch dflt lo hi offs, len)) (hx : x.toInt < lo ∨ hi < x.toInt) (ht : (pc : Int) + dflt = (tgt : Int)) (k : Ex R Γ Z μ N0 cc ss (tgt) N ls (st) h) : Ex R Γ Z μ N0 cc ss (pc) N ls (.int x :: st) h := fun p l e s m args below meth c D cA ad0 ad A H locs lsA C Y G sw P Dj S L => lv_tableOut C.1 C.2.1 hd hx ht (k p l e s m args below meth c D cA ad0 ad A H locs lsA C Y G sw P Dj S L)
theorem x_tableIn {dflt lo hi : Int} {offs : Array Int} {len : Nat} {x : Int32} {off : Int} {tgt : Nat} (hd : decode μ.2.1 pc = .ok (.tableswitch dflt lo hi offs, len)) (h1 : ¬ x.toInt < lo) (h2 : ¬ hi < x.toInt) (ho : offs[(x.toInt - lo).toNat]? = some off) (ht : (pc : Int) + off = (tgt : Int)) (k : Ex R Γ Z μ N0 cc ss (tgt) N ls (st) h) : Ex R Γ Z μ N0 cc ss (pc) N ls (.int x :: st) h := fun p l e s m args below meth c D cA ad0 ad A H locs lsA C Y G sw P Dj S L => lv_tableIn C.1 C.2.1 hd h1 h2 ho ht (k p l e s m args below meth c D cA ad0 ad A H locs lsA C Y G sw P Dj S L)
theorem x_lald {o n : Nat} {i : Int32} (hd : decode μ.2.1 pc = .ok (.laload, 1)) (ho : isA N o 2 n) (hi : vp_in i n) {pc2 : Nat} (hp2 : pc + 1 = pc2) (k : Ex R Γ Z μ N0 cc ss pc2 N ls (.long (h.2.1 o i.toNatClampNeg) :: st) h) : Ex R Γ Z μ N0 cc ss (pc) N ls (.int i :: .ref o :: st) h := by
  subst hp2
  exact fun p l e s m args below meth c D cA ad0 ad A H locs lsA C Y G sw P Dj S L => va_lald C.1 C.2.1 C.2.2.2.2.2.2.2.2.1 P (o - 1) 1 (wl_al ho) rfl hi hd (k p l e s m args below meth c D cA ad0 ad A H locs lsA C Y G sw P Dj S L)
theorem x_last {o n : Nat} {i : Int32} {x : Int64} (hd : decode μ.2.1 pc = .ok (.lastore, 1)) (ho : isA N o 2 n) (hi : vp_in i n) {h2 : HP} (hq : (uL h o i.toNatClampNeg x) = h2) {pc2 : Nat} (hp2 : pc + 1 = pc2) (k : Ex R Γ Z μ N0 cc ss pc2 N ls (st) h2) : Ex R Γ Z μ N0 cc ss (pc) N ls (.long x :: .int i :: .ref o :: st) h := by
  subst hp2
  subst hq
  refine fun p l e s m args below meth c D cA ad0 ad A H locs lsA C Y G sw P Dj S L => va_last C.1 C.2.1 C.2.2.2.2.2.2.2.2.1 P Dj S (o - 1) 1 (wl_al ho) rfl hi hd (fun H1 locs1 P1 D1 S1 => ?_)
  have q9 := wl_sal (cA := cA) (ad := ad) (h := h) (j := i.toNatClampNeg) (x := x) ho
  have P1 : va_P D vwCl (wl cA ad N (uL h o i.toNatClampNeg x)) H1 := by rw [← q9]; exact P1
  have D1 : va_D A (wl cA ad N (uL h o i.toNatClampNeg x)) := by rw [← q9]; exact D1
  exact k p l e s m args below meth c D cA ad0 ad A H1 locs1 lsA C Y G sw P1 D1 S1 L
theorem x_dup {x : Value} (hd : decode μ.2.1 pc = .ok (.dup, 1)) (hx : x.category = 1) {pc2 : Nat} (hp2 : pc + 1 = pc2) (k : Ex R Γ Z μ N0 cc ss pc2 N ls (x :: x :: st) h) : Ex R Γ Z μ N0 cc ss (pc) N ls (x :: st) h := by
  subst hp2
  exact fun p l e s m args below meth c D cA ad0 ad A H locs lsA C Y G sw P Dj S L => lv_dup C.1 C.2.1 hd ((cv_cat ad x).trans hx) (k p l e s m args below meth c D cA ad0 ad A H locs lsA C Y G sw P Dj S L)
theorem xv_sub {ls' : List (Nat × Value)} (ks : List Nat) (hl : lv_pick ls ks = ls') (k : Ex R Γ Z μ N0 cc ss (pc) N ls' (st) h) : Ex R Γ Z μ N0 cc ss (pc) N ls (st) h := fun p l e s m args below meth c D cA ad0 ad A H locs lsA C Y G sw P Dj S L => k p l e s m args below meth c D cA ad0 ad A H locs lsA C Y G sw P Dj S (lv_sub L ks (lm_pick hl))
end EX
