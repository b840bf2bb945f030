section
-- ===== PART A: goes FIRST, ahead of the names: the tables' words, and 'selects' of the private methods out of them =====
/-- a private method of a class that the tables say can be made, by its rows of tables_1 -/
def lw_okq (q : MethodName × Nat) : Prop := (q.1.cls ≠ "java/lang/invoke/MethodHandle" ∧ q.1.cls ≠ "java/lang/invoke/VarHandle") ∧ Cond.instantiable q.1.cls q.2 ∈ tables_1 ∧ Cond.privateMethod q.1 ∈ tables_1 ∧ Cond.instanceMethod q.1 ∈ tables_1
theorem lw_p0 : lw_okq (⟨"java/lang/Throwable", "fillInStackTrace", "(I)Ljava/lang/Throwable;"⟩, 6) := ⟨⟨by decide +kernel, by decide +kernel⟩, List.mem_of_getElem? (i := 216) (by decide +kernel), List.mem_of_getElem? (i := 214) (by decide +kernel), List.mem_of_getElem? (i := 215) (by decide +kernel)⟩
theorem lw_p1 : lw_okq (⟨"TrialDesk", "isAnyBlockTaken", "()Z"⟩, 8) := ⟨⟨by decide +kernel, by decide +kernel⟩, List.mem_of_getElem? (i := 20) (by decide +kernel), List.mem_of_getElem? (i := 241) (by decide +kernel), List.mem_of_getElem? (i := 242) (by decide +kernel)⟩
theorem lw_p2 : lw_okq (⟨"TrialDesk", "stratumAt", "(I)LTrialDesk$Stratum;"⟩, 8) := ⟨⟨by decide +kernel, by decide +kernel⟩, List.mem_of_getElem? (i := 20) (by decide +kernel), List.mem_of_getElem? (i := 245) (by decide +kernel), List.mem_of_getElem? (i := 246) (by decide +kernel)⟩
theorem lw_p3 : lw_okq (⟨"TrialDesk", "siteAt", "(I)LTrialDesk$Site;"⟩, 8) := ⟨⟨by decide +kernel, by decide +kernel⟩, List.mem_of_getElem? (i := 20) (by decide +kernel), List.mem_of_getElem? (i := 352) (by decide +kernel), List.mem_of_getElem? (i := 353) (by decide +kernel)⟩
theorem lw_p4 : lw_okq (⟨"TrialDesk", "needArm", "(I)V"⟩, 8) := ⟨⟨by decide +kernel, by decide +kernel⟩, List.mem_of_getElem? (i := 20) (by decide +kernel), List.mem_of_getElem? (i := 356) (by decide +kernel), List.mem_of_getElem? (i := 357) (by decide +kernel)⟩
theorem lw_p5 : lw_okq (⟨"TrialDesk", "needPlan", "()V"⟩, 8) := ⟨⟨by decide +kernel, by decide +kernel⟩, List.mem_of_getElem? (i := 20) (by decide +kernel), List.mem_of_getElem? (i := 364) (by decide +kernel), List.mem_of_getElem? (i := 365) (by decide +kernel)⟩
theorem lw_p6 : lw_okq (⟨"TrialDesk$Shelf", "isFree", "(III)Z"⟩, 4) := ⟨⟨by decide +kernel, by decide +kernel⟩, List.mem_of_getElem? (i := 70) (by decide +kernel), List.mem_of_getElem? (i := 383) (by decide +kernel), List.mem_of_getElem? (i := 384) (by decide +kernel)⟩
theorem lw_p7 : lw_okq (⟨"TrialDesk$Stratum", "armAt", "(I)I"⟩, 9) := ⟨⟨by decide +kernel, by decide +kernel⟩, List.mem_of_getElem? (i := 92) (by decide +kernel), List.mem_of_getElem? (i := 408) (by decide +kernel), List.mem_of_getElem? (i := 409) (by decide +kernel)⟩
theorem lw_p8 : lw_okq (⟨"TrialDesk$Stratum", "build", "()V"⟩, 9) := ⟨⟨by decide +kernel, by decide +kernel⟩, List.mem_of_getElem? (i := 92) (by decide +kernel), List.mem_of_getElem? (i := 416) (by decide +kernel), List.mem_of_getElem? (i := 417) (by decide +kernel)⟩
theorem lw_p9 : lw_okq (⟨"TrialDesk$Stratum", "makeRoom", "(I)V"⟩, 9) := ⟨⟨by decide +kernel, by decide +kernel⟩, List.mem_of_getElem? (i := 92) (by decide +kernel), List.mem_of_getElem? (i := 420) (by decide +kernel), List.mem_of_getElem? (i := 421) (by decide +kernel)⟩
theorem lw_p10 : lw_okq (⟨"TrialDesk$Stratum", "layArms", "(I)V"⟩, 9) := ⟨⟨by decide +kernel, by decide +kernel⟩, List.mem_of_getElem? (i := 92) (by decide +kernel), List.mem_of_getElem? (i := 443) (by decide +kernel), List.mem_of_getElem? (i := 444) (by decide +kernel)⟩
theorem lw_p11 : lw_okq (⟨"TrialDesk$Stratum", "shuffle", "(I)V"⟩, 9) := ⟨⟨by decide +kernel, by decide +kernel⟩, List.mem_of_getElem? (i := 92) (by decide +kernel), List.mem_of_getElem? (i := 455) (by decide +kernel), List.mem_of_getElem? (i := 456) (by decide +kernel)⟩
theorem lw_p12 : lw_okq (⟨"TrialDesk$Stratum", "draw", "(I)I"⟩, 9) := ⟨⟨by decide +kernel, by decide +kernel⟩, List.mem_of_getElem? (i := 92) (by decide +kernel), List.mem_of_getElem? (i := 459) (by decide +kernel), List.mem_of_getElem? (i := 460) (by decide +kernel)⟩
theorem lw_p13 : lw_okq (⟨"TrialDesk$Stratum", "swap", "(II)V"⟩, 9) := ⟨⟨by decide +kernel, by decide +kernel⟩, List.mem_of_getElem? (i := 92) (by decide +kernel), List.mem_of_getElem? (i := 465) (by decide +kernel), List.mem_of_getElem? (i := 466) (by decide +kernel)⟩
theorem lw_p14 : lw_okq (⟨"TrialDesk", "pickKits", "(ILTrialDesk$Stratum;)Z"⟩, 8) := ⟨⟨by decide +kernel, by decide +kernel⟩, List.mem_of_getElem? (i := 20) (by decide +kernel), List.mem_of_getElem? (i := 507) (by decide +kernel), List.mem_of_getElem? (i := 508) (by decide +kernel)⟩
theorem lw_p15 : lw_okq (⟨"TrialDeskModel", "refused", "(ZZZ)Z"⟩, 28) := ⟨⟨by decide +kernel, by decide +kernel⟩, List.mem_of_getElem? (i := 695) (by decide +kernel), List.mem_of_getElem? (i := 800) (by decide +kernel), List.mem_of_getElem? (i := 801) (by decide +kernel)⟩
def lw_privs_1 : List (MethodName × Nat) := [(⟨"java/lang/Throwable", "fillInStackTrace", "(I)Ljava/lang/Throwable;"⟩, 6), (⟨"TrialDesk", "isAnyBlockTaken", "()Z"⟩, 8), (⟨"TrialDesk", "stratumAt", "(I)LTrialDesk$Stratum;"⟩, 8), (⟨"TrialDesk", "siteAt", "(I)LTrialDesk$Site;"⟩, 8), (⟨"TrialDesk", "needArm", "(I)V"⟩, 8), (⟨"TrialDesk", "needPlan", "()V"⟩, 8), (⟨"TrialDesk$Shelf", "isFree", "(III)Z"⟩, 4), (⟨"TrialDesk$Stratum", "armAt", "(I)I"⟩, 9), (⟨"TrialDesk$Stratum", "build", "()V"⟩, 9), (⟨"TrialDesk$Stratum", "makeRoom", "(I)V"⟩, 9), (⟨"TrialDesk$Stratum", "layArms", "(I)V"⟩, 9), (⟨"TrialDesk$Stratum", "shuffle", "(I)V"⟩, 9), (⟨"TrialDesk$Stratum", "draw", "(I)I"⟩, 9), (⟨"TrialDesk$Stratum", "swap", "(II)V"⟩, 9), (⟨"TrialDesk", "pickKits", "(ILTrialDesk$Stratum;)Z"⟩, 8), (⟨"TrialDeskModel", "refused", "(ZZZ)Z"⟩, 28)]
theorem lw_r1 : ∀ q ∈ lw_privs_1, lw_okq q := List.forall_mem_cons.mpr ⟨lw_p0, List.forall_mem_cons.mpr ⟨lw_p1, List.forall_mem_cons.mpr ⟨lw_p2, List.forall_mem_cons.mpr ⟨lw_p3, List.forall_mem_cons.mpr ⟨lw_p4, List.forall_mem_cons.mpr ⟨lw_p5, List.forall_mem_cons.mpr ⟨lw_p6, List.forall_mem_cons.mpr ⟨lw_p7, List.forall_mem_cons.mpr ⟨lw_p8, List.forall_mem_cons.mpr ⟨lw_p9, List.forall_mem_cons.mpr ⟨lw_p10, List.forall_mem_cons.mpr ⟨lw_p11, List.forall_mem_cons.mpr ⟨lw_p12, List.forall_mem_cons.mpr ⟨lw_p13, List.forall_mem_cons.mpr ⟨lw_p14, List.forall_mem_cons.mpr ⟨lw_p15, fun _ h => absurd h List.not_mem_nil⟩⟩⟩⟩⟩⟩⟩⟩⟩⟩⟩⟩⟩⟩⟩⟩
theorem lw_p16 : lw_okq (⟨"TrialDeskModel", "writes", "()Z"⟩, 28) := ⟨⟨by decide +kernel, by decide +kernel⟩, List.mem_of_getElem? (i := 695) (by decide +kernel), List.mem_of_getElem? (i := 804) (by decide +kernel), List.mem_of_getElem? (i := 805) (by decide +kernel)⟩
theorem lw_p17 : lw_okq (⟨"TrialDeskModel", "isSite", "(I)Z"⟩, 28) := ⟨⟨by decide +kernel, by decide +kernel⟩, List.mem_of_getElem? (i := 695) (by decide +kernel), List.mem_of_getElem? (i := 817) (by decide +kernel), List.mem_of_getElem? (i := 818) (by decide +kernel)⟩
theorem lw_p18 : lw_okq (⟨"TrialDeskModel", "isArm", "(I)Z"⟩, 28) := ⟨⟨by decide +kernel, by decide +kernel⟩, List.mem_of_getElem? (i := 695) (by decide +kernel), List.mem_of_getElem? (i := 821) (by decide +kernel), List.mem_of_getElem? (i := 822) (by decide +kernel)⟩
theorem lw_p19 : lw_okq (⟨"TrialDeskModel", "free", "(II)I"⟩, 28) := ⟨⟨by decide +kernel, by decide +kernel⟩, List.mem_of_getElem? (i := 695) (by decide +kernel), List.mem_of_getElem? (i := 826) (by decide +kernel), List.mem_of_getElem? (i := 827) (by decide +kernel)⟩
theorem lw_p20 : lw_okq (⟨"TrialDeskModel", "isPerson", "(II)Z"⟩, 28) := ⟨⟨by decide +kernel, by decide +kernel⟩, List.mem_of_getElem? (i := 695) (by decide +kernel), List.mem_of_getElem? (i := 834) (by decide +kernel), List.mem_of_getElem? (i := 835) (by decide +kernel)⟩
theorem lw_p21 : lw_okq (⟨"TrialDeskModel", "nextArm", "(I)I"⟩, 28) := ⟨⟨by decide +kernel, by decide +kernel⟩, List.mem_of_getElem? (i := 695) (by decide +kernel), List.mem_of_getElem? (i := 841) (by decide +kernel), List.mem_of_getElem? (i := 842) (by decide +kernel)⟩
theorem lw_p22 : lw_okq (⟨"TrialDeskModel", "takeBlock", "(I)I"⟩, 28) := ⟨⟨by decide +kernel, by decide +kernel⟩, List.mem_of_getElem? (i := 695) (by decide +kernel), List.mem_of_getElem? (i := 845) (by decide +kernel), List.mem_of_getElem? (i := 846) (by decide +kernel)⟩
theorem lw_p23 : lw_okq (⟨"TrialDeskModel", "draw", "(II)I"⟩, 28) := ⟨⟨by decide +kernel, by decide +kernel⟩, List.mem_of_getElem? (i := 695) (by decide +kernel), List.mem_of_getElem? (i := 849) (by decide +kernel), List.mem_of_getElem? (i := 850) (by decide +kernel)⟩
theorem lw_p24 : lw_okq (⟨"TrialDeskModel", "leastFree", "(II)I"⟩, 28) := ⟨⟨by decide +kernel, by decide +kernel⟩, List.mem_of_getElem? (i := 695) (by decide +kernel), List.mem_of_getElem? (i := 854) (by decide +kernel), List.mem_of_getElem? (i := 855) (by decide +kernel)⟩
theorem lw_p25 : lw_okq (⟨"TrialDeskModel", "give", "(IIIIIZ)V"⟩, 28) := ⟨⟨by decide +kernel, by decide +kernel⟩, List.mem_of_getElem? (i := 695) (by decide +kernel), List.mem_of_getElem? (i := 858) (by decide +kernel), List.mem_of_getElem? (i := 859) (by decide +kernel)⟩
theorem lw_p26 : lw_okq (⟨"TrialDeskModel", "keysOf", "(I)I"⟩, 28) := ⟨⟨by decide +kernel, by decide +kernel⟩, List.mem_of_getElem? (i := 695) (by decide +kernel), List.mem_of_getElem? (i := 885) (by decide +kernel), List.mem_of_getElem? (i := 886) (by decide +kernel)⟩
theorem lw_p27 : lw_okq (⟨"TrialDeskModel", "known", "(II)I"⟩, 28) := ⟨⟨by decide +kernel, by decide +kernel⟩, List.mem_of_getElem? (i := 695) (by decide +kernel), List.mem_of_getElem? (i := 901) (by decide +kernel), List.mem_of_getElem? (i := 902) (by decide +kernel)⟩
def lw_privs_2 : List (MethodName × Nat) := [(⟨"TrialDeskModel", "writes", "()Z"⟩, 28), (⟨"TrialDeskModel", "isSite", "(I)Z"⟩, 28), (⟨"TrialDeskModel", "isArm", "(I)Z"⟩, 28), (⟨"TrialDeskModel", "free", "(II)I"⟩, 28), (⟨"TrialDeskModel", "isPerson", "(II)Z"⟩, 28), (⟨"TrialDeskModel", "nextArm", "(I)I"⟩, 28), (⟨"TrialDeskModel", "takeBlock", "(I)I"⟩, 28), (⟨"TrialDeskModel", "draw", "(II)I"⟩, 28), (⟨"TrialDeskModel", "leastFree", "(II)I"⟩, 28), (⟨"TrialDeskModel", "give", "(IIIIIZ)V"⟩, 28), (⟨"TrialDeskModel", "keysOf", "(I)I"⟩, 28), (⟨"TrialDeskModel", "known", "(II)I"⟩, 28)]
theorem lw_r2 : ∀ q ∈ lw_privs_2, lw_okq q := List.forall_mem_cons.mpr ⟨lw_p16, List.forall_mem_cons.mpr ⟨lw_p17, List.forall_mem_cons.mpr ⟨lw_p18, List.forall_mem_cons.mpr ⟨lw_p19, List.forall_mem_cons.mpr ⟨lw_p20, List.forall_mem_cons.mpr ⟨lw_p21, List.forall_mem_cons.mpr ⟨lw_p22, List.forall_mem_cons.mpr ⟨lw_p23, List.forall_mem_cons.mpr ⟨lw_p24, List.forall_mem_cons.mpr ⟨lw_p25, List.forall_mem_cons.mpr ⟨lw_p26, List.forall_mem_cons.mpr ⟨lw_p27, fun _ h => absurd h List.not_mem_nil⟩⟩⟩⟩⟩⟩⟩⟩⟩⟩⟩⟩
def lw_privs : List (MethodName × Nat) := lw_privs_1 ++ (lw_privs_2)
def lw_tbl : List Cond := k2_sels lw_privs ++ tables_1
theorem lw_privs_ok : ∀ q ∈ lw_privs, lw_okq q := by
  show ∀ q ∈ lw_privs_1 ++ (lw_privs_2), lw_okq q
  exact List.forall_mem_append.mpr ⟨lw_r1, lw_r2⟩
end
section
/-! out of claim/NAMES.whole.lean.txt (a starting text): exceptions that leave a method, and their catching; 'open Bundle' is spelled out, for the hand-in takes no such word -/
section VXA
variable {p : Program} {l : Launch} {e : Env} {R : Room} {s : State} {m : MethodId} {args : Array Value} {below : List Frame} {meth : Method} {c : Code} {H : Heap} {locs : List Loc} {cells slots : Nat} {Q : State → Prop}
variable {mc ms : Nat} {free : Addr → Prop} {A0 A1 : Nat → Prop} {H0 : Heap} {a : Array Value} {ls : Array Slot} {st0 rest : List Value} {pc : Nat}
variable {Qc : Array Value → State → Outcome → State → Prop} {XC : String → State → State → Prop}
def vx_T (XC : String → State → State → Prop) (st : State) (q : Addr) (t : State) (mc ms : Nat) (free : Addr → Prop) : Prop :=
  ∃ (E : String) (ce : Cell) (L : List Loc), XC E st t ∧ t.heap[q]? = some ce ∧ ce.vm = .none ∧ st.vm.findClass E = some ce.cls ∧ st.WarmedH t.vm ∧ st.sameButNew ({ t with vm := st.vm } : State) L mc ms ∧ ∀ z ∈ L, free z.base
def vx_Q (Qc : Array Value → State → Outcome → State → Prop) (XC : String → State → State → Prop) (mc ms : Nat) (free : Addr → Prop) : Array Value → State → Outcome → State → Prop := fun a st o t =>
  (Qc a st o t ∧ ∃ L, FrameEnd st o t L mc ms ∧ ∀ q ∈ L, free q.base) ∨ ∃ q, o = .threw q ∧ vx_T XC st q t mc ms free
def vx_W (p : Program) (l : Launch) (e : Env) (R : Room) (s : State) (m : MethodId) (args : Array Value) (below : List Frame) (meth : Method) (c : Code) (H : Heap) (locs : List Loc) (cells slots : Nat) (Q : State → Prop) (g : JFrame) (q : Addr) : Prop :=
  ∀ T : State, T.heap = H → Stand p l e R s m args below meth c T locs cells slots → ∃ t, Steps p.tables e below ((T.setTop g).pushFrame (.throwing q)) t ∧ Q t
theorem vx_catch {own name : String} {E : String} {ce : Cell} {q : Addr} (hown : s.vm.findClass own = some m.cls) (pre : List ExceptionTableEntry) (x : ExceptionTableEntry) (suf : List ExceptionTableEntry) (hsplit : c.exceptionTable.toList = pre ++ x :: suf)
    (hpass : ∀ z ∈ pre, covers z pc = false ∨ (z.catchType ≠ 0 ∧ ∃ nm : String, (Cond.classLink own z.catchType nm).before args s = true ∧ va_Nc E nm s)) (hx : covers x pc = true) (h0 : x.catchType ≠ 0)
    (hlink : (Cond.classLink own x.catchType name).before args s = true) (hcast : (Cond.castable E name).before args s = true) (hcell : H[q]? = some ce) (hv : ce.vm = .none) (hcl : s.vm.findClass E = some ce.cls)
    (kk : W p l e R s m args below meth c H locs cells slots Q (F0 m x.handlerPc ls [.ref q])) : vx_W p l e R s m args below meth c H locs cells slots Q (F0 m pc ls rest) q := by
  intro T hT X
  have hpl : e.platform.magicAccessors = ({} : Platform).magicAccessors := by rw [X.admits.platform]
  obtain ⟨c3, c4, hc3, hc4, hasg⟩ := Cond.castable_spec hcast
  cases Option.some.inj (hc3.symm.trans hcl)
  obtain ⟨c5, hc5, hcl5⟩ := Cond.classLink_spec hown hlink e.platform hpl
  cases Option.some.inj (hc4.symm.trans hc5)
  obtain ⟨vm', X', st⟩ := X.thenCaughtThrough q (g := F0 m pc ls rest) rfl (Steps.refl _) (by rw [hT]; exact hcell) (by rw [hv]; rfl) (by obtain ⟨k9, h9, -⟩ := Vm.findClass_spec hcl; exact ⟨k9, h9⟩) pre x suf hsplit
    (fun z hz => by
      rcases hpass z hz with h | ⟨hz0, nm, hl1, hn1⟩
      · exact Or.inl h
      · obtain ⟨c6, hc6, hcl6⟩ := Cond.classLink_spec hown hl1 e.platform hpl
        obtain ⟨a8, b8, h1, h2, h3⟩ := hn1
        cases Option.some.inj (h1.symm.trans hcl)
        cases Option.some.inj (h2.symm.trans hc6)
        exact Or.inr ⟨hz0, _, hcl6, h3⟩) hx (Or.inr ⟨h0, c4, hcl5, hasg⟩)
  obtain ⟨t, a1, b1⟩ := kk (T.setVm vm') hT X'
  exact ⟨t, st.trans a1, b1⟩
def vx_MQ (below : List Frame) (Qc : Array Value → State → Outcome → State → Prop) (XC : String → State → State → Prop) (a : Array Value) (s : State) (mc ms : Nat) (free : Addr → Prop) : State → Prop := fun t =>
  ∃ o, t.status = .running ∧ Ended t below o ∧ vx_Q Qc XC mc ms free a s o t
theorem vx_frame {U : State} {k n : Nat} (h : s.sameButNew ({ U with vm := s.vm } : State) locs k n) : s.heap.size ≤ U.heap.size ∧ ∀ q : Nat, q < s.heap.size → (∀ z ∈ locs, z.base ≠ q) → U.heap[q]? = s.heap[q]? := by
  obtain ⟨-, h2, -, -, -, h6⟩ := h
  refine ⟨h2, fun q hq hz => ?_⟩
  obtain ⟨c9, e1, e2, e3, e4⟩ := h6 q _ (Array.getElem?_eq_getElem hq)
  have hs : c9.slots = (s.heap[q]).slots := Array.ext_getElem? fun i => e4 i fun hm => hz _ hm rfl
  have h9 : c9 = s.heap[q] := by
    rw [hs] at e2
    exact e2
  have e5 : U.heap[q]? = some c9 := e1
  rw [e5, h9, Array.getElem?_eq_getElem hq]
def vx_no (w : Cond) : Bool := decide (w ≠ .isRef (.static Bundle.tN "UNASSIGNED_STACK" Bundle.steD)) && decide (w ≠ .isRef (.static Bundle.tN "SUPPRESSED_SENTINEL" Bundle.listD)) && decide (w ≠ .laysStatic Bundle.tN "UNASSIGNED_STACK" Bundle.steD) && decide (w ≠ .laysStatic Bundle.tN "SUPPRESSED_SENTINEL" Bundle.listD)
def vx_at0 (own : String) (ic : Nat) (X : String) (names : List String) : List Cond := (Bundle.ownAtoms0 own ic X names).filter vx_no
def vx_ot (w : Cond) : Bool := w.onTables || goodWord w
theorem vx_ot_at {args a' : Array Value} {s U : State} {w : Cond} (hW : s.WarmedH U.vm) (hvm : s.vm = U.vm) (hg : vx_ot w = true) (h : w.before args s = true) : w.before a' U = true := by
  simp only [vx_ot, Bool.or_eq_true] at hg
  rcases hg with hg | hg
  · exact va_tabs hg hvm h
  · exact word_at hW (good_of_word hg) h
theorem vx_own {args : Array Value} {s : State} {L : List Cond} (h1 : ∀ w ∈ L.filter vx_no, w.before args s = true)
    (hU : (Cond.isRef (.static Bundle.tN "UNASSIGNED_STACK" Bundle.steD)).before args s = true) (hN : (Cond.isRef (.static Bundle.tN "SUPPRESSED_SENTINEL" Bundle.listD)).before args s = true)
    (lU : (Cond.laysStatic Bundle.tN "UNASSIGNED_STACK" Bundle.steD).before args s = true) (lN : (Cond.laysStatic Bundle.tN "SUPPRESSED_SENTINEL" Bundle.listD).before args s = true) : ∀ w ∈ L, w.before args s = true := by
  intro w hw
  by_cases e1 : w = .isRef (.static Bundle.tN "UNASSIGNED_STACK" Bundle.steD)
  · rw [e1]; exact hU
  · by_cases e2 : w = .isRef (.static Bundle.tN "SUPPRESSED_SENTINEL" Bundle.listD)
    · rw [e2]; exact hN
    · by_cases e3 : w = .laysStatic Bundle.tN "UNASSIGNED_STACK" Bundle.steD
      · rw [e3]; exact lU
      · by_cases e4 : w = .laysStatic Bundle.tN "SUPPRESSED_SENTINEL" Bundle.listD
        · rw [e4]; exact lN
        · exact h1 w (List.mem_filter.mpr ⟨hw, by unfold vx_no; rw [decide_eq_true e1, decide_eq_true e2, decide_eq_true e3, decide_eq_true e4]; rfl⟩)
def vx_L (C n d : String) (A : Nat → Prop) (U : State) (H : Heap) : Prop := ∃ (c : ClassId) (k : Class) (i : Nat) (f : Field) (a : Nat) (cell : Cell), U.vm.findClass C = some c ∧ U.fieldFound? C n d = some (c, k, i, f) ∧ f.isStatic = true ∧ k.statics = some a ∧ H[a]? = some cell ∧ cell.vm.isStatics = true ∧ cell.cls = c ∧ f.slot < cell.slots.size ∧ k.staticTypes[f.slot]? = some f.type ∧ ¬ A a
theorem vx_L.moved {C n d : String} {A : Nat → Prop} {u U : State} {H : Heap} (hvm : u.vm.Alike U.vm) (h : vx_L C n d A u H) : vx_L C n d A U H := by
  obtain ⟨c, k, i, f, a, cell, h1, h2, h3, h4, h5, h6, h7, h8, h9, h10⟩ := h
  obtain ⟨k', hi', he⟩ := State.fieldFound?_setVm hvm h2
  exact ⟨c, k', i, f, a, cell, by rw [hvm.findClass]; exact h1, hi', h3, by rw [he]; exact h4, h5, h6, h7, h8, by rw [he]; exact h9, h10⟩
theorem vx_L.kept {C n d : String} {A : Nat → Prop} {U : State} {H H1 : Heap} (h : vx_L C n d A U H) (hq : ∀ a : Nat, a < H.size → ¬ A a → H1[a]? = H[a]?) : vx_L C n d A U H1 := by
  obtain ⟨c, k, i, f, a, cell, h1, h2, h3, h4, h5, h6, h7, h8, h9, h10⟩ := h
  exact ⟨c, k, i, f, a, cell, h1, h2, h3, h4, by rw [hq a (Array.getElem?_eq_some_iff.mp h5).1 h10]; exact h5, h6, h7, h8, h9, h10⟩
theorem vx_L.narrow {C n d : String} {A B : Nat → Prop} {U : State} {H : Heap} (h : vx_L C n d A U H) (hAB : ∀ q, B q → A q) : vx_L C n d B U H := by
  obtain ⟨c, k, i, f, a, cell, h1, h2, h3, h4, h5, h6, h7, h8, h9, h10⟩ := h
  exact ⟨c, k, i, f, a, cell, h1, h2, h3, h4, h5, h6, h7, h8, h9, fun z => h10 (hAB _ z)⟩
theorem vx_L.word {C n d : String} {A : Nat → Prop} {s : State} {args : Array Value} (h : vx_L C n d A s s.heap) : (Cond.laysStatic C n d).before args s = true := by
  obtain ⟨c, k, i, f, a, cell, h1, h2, h3, h4, h5, h6, h7, h8, h9, -⟩ := h
  show (Cond.laysStatic C n d).holds args s none s [] = true
  exact Cond.laysStatic_of h1 h2 h3 h4 h5 h6 h7 h8 h9
def vx_Zq (C n d : String) (A : Nat → Prop) (U : State) (H : Heap) : Prop := va_Zq C n d A U H ∧ vx_L C n d A U H
theorem vx_Zq.moved {C n d : String} {A : Nat → Prop} {u U : State} {H : Heap} (hvm : u.vm.Alike U.vm) (h : vx_Zq C n d A u H) : vx_Zq C n d A U H := ⟨va_Zq.moved hvm h.1, vx_L.moved hvm h.2⟩
theorem vx_Zq.kept {C n d : String} {A : Nat → Prop} {U : State} {H H1 : Heap} (h : vx_Zq C n d A U H) (hq : ∀ a : Nat, a < H.size → ¬ A a → H1[a]? = H[a]?) : vx_Zq C n d A U H1 := ⟨va_Zq.kept h.1 hq, vx_L.kept h.2 hq⟩
theorem vx_Zq.narrow {C n d : String} {A B : Nat → Prop} {U : State} {H : Heap} (h : vx_Zq C n d A U H) (hAB : ∀ q, B q → A q) : vx_Zq C n d B U H := ⟨va_Zq.narrow h.1 hAB, vx_L.narrow h.2 hAB⟩
theorem vx_Zqof {args : Array Value} {s : State} {C n d : String} {A : Nat → Prop} (hl : (Cond.laysStatic C n d).before args s = true) (hini : (Cond.initialized C).before args s = true) (h : (Cond.isRef (.static C n d)).before args s = true) (hA : ∀ a : Nat, a < s.heap.size → ¬ A a) : vx_Zq C n d A s s.heap := by
  refine ⟨va_Zqof hl hini h hA, ?_⟩
  obtain ⟨c, k, i, f, a, cell, h1, h2, h3, h4, h5, h6, h7, h8, h9⟩ := Cond.laysStatic_spec hl
  exact ⟨c, k, i, f, a, cell, h1, h2, h3, h4, h5, h6, h7, h8, h9, hA a (Array.getElem?_eq_some_iff.mp h5).1⟩
theorem vx_isRef {C n d : String} {v : Value} {A : Nat → Prop} {s : State} {args : Array Value} (h : va_Z C n d v A s s.heap) (hv : v.isRef = true) : (Cond.isRef (.static C n d)).before args s = true := by
  obtain ⟨cf, kf, fi, f, a, cell, h1, h2, h3, h4, h5, h6, h7, -⟩ := h
  have he : (Term.static C n d).eval args s none [] s = some v := by
    simp [Term.eval, State.fieldNamed?, h1, h2, h4, h5, h6, h7]
  simp only [Cond.before, Cond.holds, Cond.value, he]
  cases v <;> simp_all [Value.isRef]
theorem vx_isRefq {C n d : String} {A : Nat → Prop} {s : State} {args : Array Value} (h : va_Zq C n d A s s.heap) : (Cond.isRef (.static C n d)).before args s = true := by
  rcases h with h | ⟨t, h⟩
  · exact vx_isRef h rfl
  · exact vx_isRef h rfl
theorem vx_rebase {T : State} (X : Stand p l e R s m args below meth c T locs cells slots) {R' : Room} (hf : R'.frames ≤ R.frames) (hl : R'.locals ≤ R.locals) (hc : cells + R'.cells ≤ R.cells) (hs : slots + R'.slots ≤ R.slots) :
    Stand p l e R' ((T.setVm s.vm).setFrames (.invoking m args :: below)) m args below meth c T [] 0 0 := by
  have htop : (T.setVm s.vm).topJava?.isSome := X.here.top
  have hF : ((T.setVm s.vm).setFrames (.invoking m args :: below)).frames = .invoking m args :: below := State.frames_setFrames _ (State.cur_lt_of_top htop)
  obtain ⟨g₀, hg0⟩ := Option.isSome_iff_exists.mp htop
  obtain ⟨r, hr⟩ := State.topJava?_eq_some.mp hg0
  have hl9 : e.platform.stackLimits (T.setVm s.vm).me = e.platform.stackLimits s.me := X.limits
  have hb9 : (T.setVm s.vm).me.stackBytes = s.me.stackBytes := X.bytes
  refine ⟨X.admits, X.cas, X.clock, hF, ?_, X.hears, X.method, X.code, X.here, X.tail, X.warmed, ?_, ?_, ?_⟩
  · have h := X.room
    have hU : ((T.setVm s.vm).setFrames (.invoking m args :: below)).localsInUse = s.localsInUse := by
      rw [State.localsInUse_invoking hF (meth := meth) (c := c) X.method X.code, State.localsInUse_invoking X.frames X.method X.code]
    simp only [State.hasRoom, Bool.and_eq_true, decide_eq_true_eq] at h ⊢
    obtain ⟨⟨⟨⟨h1, h2, h3, h4, h5, h6⟩, h7⟩, h8⟩, h9⟩ := h
    rw [X.frames, List.length_cons] at h2 h3
    have q1 := X.heapSize
    have q2 := X.used
    simp only [hF, hU, List.length_cons, State.stackLimits_setFrames, State.stackBytes_setFrames, hl9, hb9]
    refine ⟨⟨⟨⟨by omega, by omega, by omega, by omega, by omega, h6⟩, ?_⟩, ?_⟩, X.book⟩
    · show T.heap.size + R'.cells ≤ e.platform.maxCells
      omega
    · show T.slotsUsed + R'.slots ≤ e.platform.maxSlots
      omega
  · rw [State.stackLimits_setFrames]; rfl
  · rw [State.stackBytes_setFrames]; rfl
  · refine ⟨?_, Nat.le_refl _, Nat.le_refl _, ?_, ?_, fun a c9 h9 => ⟨c9, h9, rfl, rfl, fun _ _ => rfl⟩⟩
    · obtain ⟨t, ht, -⟩ := State.frames_cons hr
      show T.setVm s.vm = { ((T.setVm s.vm).setFrames (.invoking m args :: below)).setFrames (T.setVm s.vm).frames with heap := T.heap, slotsUsed := T.slotsUsed }
      rw [State.setFrames_setFrames, State.setFrames_self ht]
      rfl
    · show T.slotsUsed = T.slotsUsed + ((T.heap.toList.drop T.heap.size).map (·.slots.size)).sum
      rw [List.drop_eq_nil_of_le (Nat.le_of_eq Array.length_toList)]
      rfl
    · show ((T.heap.toList.drop T.heap.size).map (·.slots.size)).sum ≤ 0
      rw [List.drop_eq_nil_of_le (Nat.le_of_eq Array.length_toList)]
      exact Nat.le_refl _
theorem vx_throw0 {cc : ByteArray} {pc : Nat} (hexec : p.tables.exec = Jvm.exec) (hb : c.code = cc) (hl : l.stackTraces = false) {own cls : String} {names : List String} {ik ic mc ms : Nat} {A : Nat → Prop}
    (hown : s.vm.findClass own = some m.cls) (hcls : Bundle.fit cls = true) (hnames : ∀ n ∈ names, Bundle.fit n = true)
    (hk : (Cond.classLink own ik cls).before args s = true) (hini : (Cond.initialized cls).before args s = true) (hat : ∀ w ∈ vx_at0 own ic cls names, w.before args s = true)
    (hgood : ∀ w ∈ Cond.classLink own ik cls :: Cond.initialized cls :: vx_at0 own ic cls names, vx_ot w = true)
    (hU : vx_Zq Bundle.tN "UNASSIGNED_STACK" Bundle.steD A s s.heap) (hN : vx_Zq Bundle.tN "SUPPRESSED_SENTINEL" Bundle.listD A s s.heap) (hS : va_S A s.heap H locs) (hsize : ls.size = c.maxLocals)
    (d0 : decode cc pc = .ok (.new ik, 3)) (d3 : decode cc (pc + 3) = .ok (.dup, 1)) (d4 : decode cc (pc + 4) = .ok (.invokespecial ic, 3)) (d7 : decode cc (pc + 7) = .ok (.athrow, 1))
    (hout : ∀ x ∈ c.exceptionTable.toList, covers x (pc + 7) = false)
    (hRframes : names.length + 3 < R.frames) (hRlocals : (rest.map fun v => v.category).sum + (13 * (names.length + 1) + 42) ≤ R.locals) (hRcells : cells + 1 ≤ R.cells) (hRslots : slots + 6 ≤ R.slots) (hlocks : meth.locks = false)
    (hx : ∀ t : State, s.vm.Alike t.vm → H.size ≤ t.heap.size → (∀ q : Nat, q < H.size → t.heap[q]? = H[q]?) → XC cls s t)
    (hf : ∀ z ∈ locs, free z.base) (hc : cells + 1 ≤ mc) (hs : slots + 6 ≤ ms) :
    W p l e R s m args below meth c H locs cells slots (vx_MQ below Qc XC args s mc ms free) (F0 m pc ls rest) := by
  intro T hT X
  have htr : e.platform.stackTraces = false := (show e.platform.stackTraces = l.stackTraces by rw [X.admits.platform]).trans hl
  have Y := vx_rebase X (R' := { frames := R.frames, locals := R.locals, cells := 1, slots := 6 }) (Nat.le_refl _) (Nat.le_refl _) hRcells hRslots
  obtain ⟨s', hA⟩ : ∃ z, z = (T.setVm s.vm).setFrames (.invoking m args :: below) := ⟨_, rfl⟩
  rw [← hA] at Y
  have hvm : s'.vm = s.vm := by rw [hA]; rfl
  have hhp : s'.heap = H := by rw [hA]; exact hT
  have hW0 : s.WarmedH s'.vm := by rw [hvm]; exact State.WarmedH.refl s
  have hat' : ∀ w ∈ vx_at0 own ic cls names, w.before args s' = true := fun w hw => vx_ot_at hW0 hvm.symm (hgood w (List.mem_cons_of_mem _ (List.mem_cons_of_mem _ hw))) (hat w hw)
  have hk' : (Cond.classLink own ik cls).before args s' = true := vx_ot_at hW0 hvm.symm (hgood _ List.mem_cons_self) hk
  have hini' : (Cond.initialized cls).before args s' = true := vx_ot_at hW0 hvm.symm (hgood _ (List.mem_cons_of_mem _ List.mem_cons_self)) hini
  have hU' : vx_Zq Bundle.tN "UNASSIGNED_STACK" Bundle.steD A s' s'.heap := by rw [hhp]; exact vx_Zq.moved hW0.alike (hU.kept hS.2.1)
  have hN' : vx_Zq Bundle.tN "SUPPRESSED_SENTINEL" Bundle.listD A s' s'.heap := by rw [hhp]; exact vx_Zq.moved hW0.alike (hN.kept hS.2.1)
  have h : ∀ w ∈ Bundle.ownAtoms0 own ic cls names, w.before args s' = true := vx_own hat' (vx_isRefq hU'.1) (vx_isRefq hN'.1) hU'.2.word hN'.2.word
  have hown' : s'.vm.findClass own = some m.cls := by rw [hvm]; exact hown
  have hins : (Cond.instantiable cls 6).before args s' = true := h _ (by simp [Bundle.ownAtoms0])
  obtain ⟨vm₁, cX, kX, hfX, hkX, -, -, X₁, st1⟩ := Y.newCold hexec (own := own) (C := cls) (index := ik) (n := 6) hown' hk' hins hini'
    (g := F0 m pc ls rest) rfl (by rw [hb]; exact d0) (Nat.le_refl _) (Nat.le_refl _)
  generalize hT1 : (T.setVm vm₁).pushCell { cls := cX, slots := kX.instanceTypes.map defaultValue, vm := .none } = T1 at X₁ st1
  have hcat : (Value.ref T.heap.size).category = 1 := rfl
  have hcellA : T1.heap[T.heap.size]? = some (freshCell cX kX) := by rw [← hT1]; exact State.heap_pushCell_size _ _
  have d3' : decode c.code (pc + 3) = .ok (.dup, 1) := by rw [hb]; exact d3
  obtain ⟨U, hsteps, hrun, hend, hW, hsame, ce, hce, hO⟩ := X₁.ctorThrow0 hexec htr (own := own) (cls := cls) (names := names) (ic := ic) hown' hcls hnames h (fun x hx => nomatch hx) hfX hkX hcellA (by rw [hhp, hT]; exact Nat.le_refl _)
    (g := { method := m, pc := pc + 4, locals := ls, stack := .ref T.heap.size :: .ref T.heap.size :: rest, locked := none }) rfl hsize rfl rfl (rest := rest) rfl
    (by rw [hb]; exact d4) (by rw [hb]; exact d7) hout hRframes (by simp only [List.map_cons, List.sum_cons, hcat]; omega) hlocks
  obtain ⟨f1, f2⟩ := vx_frame hsame
  rw [hhp] at f1 f2
  have hWs : s.WarmedH U.vm := State.WarmedH.trans hW0 hW
  have hcl : s.vm.findClass cls = some ce.cls := by
    have h9 := hO.cls
    rw [hvm] at h9
    exact h9
  have hall : s.sameButNew ({ U with vm := s.vm } : State) locs mc ms := by
    subst hA
    obtain ⟨e1, e2⟩ := hsame
    rw [State.setFrames_setFrames] at e1
    have h2 : (T.setVm s.vm).sameButNew ({ U with vm := s.vm } : State) [] (0 + 1) (0 + 6) := ⟨e1, e2⟩
    have h3 := X.same.trans h2
    rw [List.append_nil] at h3
    exact h3.mono hc hs
  refine ⟨U, ?_, .threw T.heap.size, hrun, hend, Or.inr ⟨T.heap.size, rfl, cls, ce, locs, hx U hWs.alike f1 (fun q hq => f2 q hq (fun z hz => nomatch hz)), hce, hO.vm, hcl, hWs, hall, hf⟩⟩
  refine st1 _ ?_
  show Steps p.tables e below (T1.setTop { method := m, pc := pc + 3, locals := ls, stack := .ref T.heap.size :: rest, locked := none }) _
  jvm_step X₁.here [X₁.here.top, hexec, d3', Value.category]
  exact hsteps
theorem vx_table {p : Program} {x y : MethodName} {S : Spec} {cc bytes : ByteArray} {maxL maxL' : Nat} {ret ret' : Option FieldType} {e : Env} {s s₁ : State} {m : MethodId} {args : Array Value} {below : List Frame} {meth : Method} {c : Code} {hh : List (Nat × Nat × Nat × Nat)}
    (B : BodyLoose p l y S cc maxL ret e s m args below meth c s₁) (h : (Cond.codeWith y bytes maxL' ret' hh).before args s = true) : c.exceptionTable.toList = tableOf hh := by
  obtain ⟨m9, meth9, c9, hn9, h1, h2, -, -, h6, -⟩ := Cond.codeWith_spec h
  cases Option.some.inj (hn9.symm.trans B.named)
  cases Option.some.inj (h1.symm.trans B.method)
  cases Option.some.inj (h2.symm.trans (Stand.of_body B).code)
  rw [← h6, table_eq]
end VXA
end
section
/-! tagged worlds: a cell is named by a number of ours (its tag), 'ad' says where it lies, 'ce' what it holds -/
abbrev zW : Type := Nat → Option va_E
def z_up (ce : zW) (t : Nat) (e : va_E) : zW := fun x => if x = t then some e else ce x
theorem z_up_s {ce : zW} {t : Nat} {e : va_E} : z_up ce t e t = some e := if_pos rfl
theorem z_up_n {ce : zW} {t u : Nat} {e : va_E} (h : u ≠ t) : z_up ce t e u = ce u := if_neg h
/-- the addresses that a method may write: those of its world, and those that come -/
def zA (ad : Nat → Nat) (ce : zW) (sz : Nat) : Nat → Prop := fun q => (∃ (u : Nat) (e : va_E), ce u = some e ∧ ad u = q) ∨ sz ≤ q
def z_H (D : va_G) (cl : List vw_C) (A : Nat → Prop) (ad : Nat → Nat) (ce : zW) (H : Heap) : Prop :=
  (∀ (t : Nat) (e : va_E), ce t = some e → va_at D cl (ad t, e) H ∧ A (ad t)) ∧ (∀ (t u : Nat) (e f : va_E), ce t = some e → ce u = some f → ad t = ad u → t = u)
theorem z_H.set {D : va_G} {cl : List vw_C} {A : Nat → Prop} {ad : Nat → Nat} {ce : zW} {H H1 : Heap} {t : Nat} {e0 e : va_E} (h : z_H D cl A ad ce H) (ht : ce t = some e0) (h1 : va_at D cl (ad t, e) H1) (oq : ∀ q : Nat, q ≠ ad t → H1[q]? = H[q]?) : z_H D cl A ad (z_up ce t e) H1 := by
  refine ⟨fun u f hu => ?_, fun u w f g hu hw huw => ?_⟩
  · by_cases hut : u = t
    · subst hut
      rw [z_up_s] at hu
      cases hu
      exact ⟨h1, (h.1 _ _ ht).2⟩
    · rw [z_up_n hut] at hu
      exact ⟨(h.1 u f hu).1.kept (oq (ad u) (fun q => hut (h.2 u t _ _ hu ht q))), (h.1 u f hu).2⟩
  · by_cases hut : u = t <;> by_cases hwt : w = t
    · rw [hut, hwt]
    · rw [z_up_n hwt] at hw
      subst hut
      exact h.2 u w _ _ ht hw huw
    · rw [z_up_n hut] at hu
      subst hwt
      exact h.2 u w _ _ hu ht huw
    · rw [z_up_n hut] at hu
      rw [z_up_n hwt] at hw
      exact h.2 u w _ _ hu hw huw
theorem z_H.kept {D : va_G} {cl : List vw_C} {A : Nat → Prop} {ad : Nat → Nat} {ce : zW} {H H1 : Heap} (h : z_H D cl A ad ce H) (oq : ∀ q : Nat, q < H.size → H1[q]? = H[q]?) : z_H D cl A ad ce H1 :=
  ⟨fun t e ht => ⟨(h.1 t e ht).1.kept (oq _ (h.1 t e ht).1.lt), (h.1 t e ht).2⟩, h.2⟩
theorem z_H.weaken {D : va_G} {cl : List vw_C} {A B : Nat → Prop} {ad : Nat → Nat} {ce : zW} {H : Heap} (h : z_H D cl A ad ce H) (hAB : ∀ q, A q → B q) : z_H D cl B ad ce H :=
  ⟨fun t e ht => ⟨(h.1 t e ht).1, hAB _ (h.1 t e ht).2⟩, h.2⟩
/-- a new cell, under a tag that is free -/
theorem z_H.new {D : va_G} {cl : List vw_C} {A : Nat → Prop} {ad : Nat → Nat} {ce : zW} {H H1 : Heap} {t : Nat} {e : va_E} (h : z_H D cl A ad ce H) (ht : ce t = none) (h1 : va_at D cl (H.size, e) H1) (hA : A H.size) (oq : ∀ q : Nat, q < H.size → H1[q]? = H[q]?) : z_H D cl A (va_up ad t H.size) (z_up ce t e) H1 := by
  have hk := h.kept oq
  refine ⟨fun u f hu => ?_, fun u w f g hu hw huw => ?_⟩
  · by_cases hut : u = t
    · subst hut
      rw [z_up_s] at hu
      cases hu
      rw [va_up_self]
      exact ⟨h1, hA⟩
    · rw [z_up_n hut] at hu
      rw [va_up_ne _ _ hut]
      exact hk.1 u f hu
  · by_cases hut : u = t <;> by_cases hwt : w = t
    · rw [hut, hwt]
    · rw [z_up_n hwt] at hw
      rw [hut, va_up_self, va_up_ne _ _ hwt] at huw
      exact absurd huw.symm (Nat.ne_of_lt (h.1 w _ hw).1.lt)
    · rw [z_up_n hut] at hu
      rw [hwt, va_up_self, va_up_ne _ _ hut] at huw
      exact absurd huw (Nat.ne_of_lt (h.1 u _ hu).1.lt)
    · rw [z_up_n hut] at hu
      rw [z_up_n hwt] at hw
      rw [va_up_ne _ _ hut, va_up_ne _ _ hwt] at huw
      exact h.2 u w _ _ hu hw huw
theorem z_H.cong {D : va_G} {cl : List vw_C} {A : Nat → Prop} {ad : Nat → Nat} {ce ce' : zW} {H : Heap} (h : z_H D cl A ad ce H) (hc : ∀ t, ce' t = ce t) : z_H D cl A ad ce' H := by
  have : ce' = ce := funext hc
  rw [this]
  exact h
theorem z_P1 {D : va_G} {cl : List vw_C} {a : Nat} {e : va_E} {H : Heap} (h : va_at D cl (a, e) H) : va_P D cl [(a, e)] H := by
  intro k q hq
  cases k with
  | zero => cases hq; exact h
  | succ k => simp at hq
/-- the tables' words, for good -/
def zT (Ts : List Cond) (s : State) : Prop := ∀ w ∈ Ts, ∀ (a' : Array Value) (U : State), s.WarmedH U.vm → w.before a' U = true
theorem zT.on {Ts : List Cond} {s U : State} (h : zT Ts s) (hW : s.WarmedH U.vm) : zT Ts U := fun w hw a' V hV => h w hw a' V (State.WarmedH.trans hW hV)
theorem zT.at {Ts : List Cond} {s : State} (h : zT Ts s) {w : Cond} (hw : w ∈ Ts) (a : Array Value) : w.before a s = true := h w hw a s (State.WarmedH.refl s)
/-- what Throwable's two statics hold, so long as nobody writes them -/
def zS (A : Nat → Prop) (U : State) (H : Heap) : Prop := vx_Zq Bundle.tN "UNASSIGNED_STACK" Bundle.steD A U H ∧ vx_Zq Bundle.tN "SUPPRESSED_SENTINEL" Bundle.listD A U H
theorem zS.on {A B : Nat → Prop} {s U : State} (hal : s.vm.Alike U.vm) (h : zS A s s.heap) (hq : ∀ q : Nat, q < s.heap.size → ¬ A q → U.heap[q]? = s.heap[q]?) (hAB : ∀ q, B q → A q) : zS B U U.heap :=
  ⟨(vx_Zq.moved hal (h.1.kept hq)).narrow hAB, (vx_Zq.moved hal (h.2.kept hq)).narrow hAB⟩
abbrev zX : Type := (Program × Launch × Env × Room × State) × (MethodId × Array Value × List Frame × Method × Code) × (va_G × List vw_C × List (ClassId × FieldType)) × (Nat → Prop) × (State → Prop)
abbrev zRm (x : zX) : Room := x.1.2.2.2.1
abbrev zcl (x : zX) : List vw_C := x.2.2.1.2.1
abbrev ztys (x : zX) : List (ClassId × FieldType) := x.2.2.1.2.2
abbrev zmeth (x : zX) : Method := x.2.1.2.2.2.1
abbrev zcode (x : zX) : Code := x.2.1.2.2.2.2
def zV (x : zX) (ad : Nat → Nat) (ce : zW) (n i : Nat) (lv : List (Nat × Value)) (pc : Nat) (st : List Value) : Prop :=
  ∀ (H : Heap) (locs : List Loc) (ls : Array Slot), z_H x.2.2.1.1 x.2.2.1.2.1 x.2.2.2.1 ad ce H → va_S x.2.2.2.1 x.1.2.2.2.2.heap H locs → lv_has ls x.2.1.2.2.2.2.maxLocals lv →
    W x.1.1 x.1.2.1 x.1.2.2.1 x.1.2.2.2.1 x.1.2.2.2.2 x.2.1.1 x.2.1.2.1 x.2.1.2.2.1 x.2.1.2.2.2.1 x.2.1.2.2.2.2 H locs n i x.2.2.2.2 (F0 x.2.1.1 pc ls st)
def zOk (x : zX) (cc : ByteArray) (own : String) (Ts : List Cond) (l : Launch) (D : va_G) (cl : List vw_C) (tys : List (ClassId × FieldType)) : Prop :=
  x.1.1.tables.exec = Jvm.exec ∧ x.2.1.2.2.2.2.code = cc ∧ x.1.2.2.2.2.vm.findClass own = some x.2.1.1.cls ∧ zT Ts x.1.2.2.2.2 ∧ va_K x.2.2.1.1 x.2.2.1.2.1 x.2.2.1.2.2 x.1.2.2.2.2 ∧ (∀ q, x.1.2.2.2.2.heap.size ≤ q → x.2.2.2.1 q) ∧ x.2.1.2.2.2.1.locks = false ∧ zS x.2.2.2.1 x.1.2.2.2.2 x.1.2.2.2.2.heap ∧ x.1.2.1 = l ∧ x.2.2.1 = (D, cl, tys)
/-- what is known of a class of the list: its place, its words, its types, its names apart -/
def zCl (Ts : List Cond) (cl : List vw_C) (ci : Nat) (C : String) (T : u_T) (N : Nat) (ty : Nat → FieldType) : Prop := cl[ci]? = some (C, T, N) ∧ (∀ w ∈ u_ws C T N, w ∈ Ts) ∧ (∀ k, k < N → parseFieldDescriptor (T k).2.2.1 = some (ty k)) ∧ (∀ a, a < N → ∀ b, b < N → a ≠ b → (T a).2.1 ≠ (T b).2.1)
section ZR
variable {x : zX} {cc : ByteArray} {own : String} {Ts : List Cond} {l : Launch} {D : va_G} {cl : List vw_C} {tys : List (ClassId × FieldType)} {ad : Nat → Nat} {ce : zW} {n i pc : Nat} {lv : List (Nat × Value)} {st : List Value}
/-- another picture of the same cells -/
theorem z_pic {ce' : zW} (h : ∀ t, ce' t = ce t) (k : zV x ad ce' n i lv pc st) : zV x ad ce n i lv pc st := by
  have : ce' = ce := funext h
  rw [← this]
  exact k
theorem z_widen {n' i' : Nat} (h1 : n ≤ n') (h2 : i ≤ i') (k : zV x ad ce n' i' lv pc st) : zV x ad ce n i lv pc st :=
  fun H locs ls hH hS hl => W.widen h1 h2 (k H locs ls hH hS hl)
theorem z_lv (ks : List Nat) (lv' : List (Nat × Value)) (h : lv_pick lv ks = lv') (k : zV x ad ce n i lv' pc st) : zV x ad ce n i lv pc st :=
  fun H locs ls hH hS hl => k H locs ls hH hS (lv_sub hl ks h)
theorem z_pc {pc' : Nat} (h : pc' = pc) (k : zV x ad ce n i lv pc' st) : zV x ad ce n i lv pc st := h ▸ k
theorem z_iconst (hx : zOk x cc own Ts l D cl tys) {q : Int} {v : Int32} (hd : decode cc pc = .ok (.iconst q, 1)) (hv : Int32.ofInt q = v) (k : zV x ad ce n i lv (pc + 1) (.int v :: st)) : zV x ad ce n i lv pc st := by
  obtain ⟨⟨p, l0, e, R, s⟩, ⟨m, args, below, meth, c⟩, ⟨D0, cl0, tys0⟩, A, Q⟩ := x
  obtain ⟨hexec, hb, hown, hts0, hK, hA, hlocks, hZ, hE1, hE⟩ := hx
  cases hE1
  cases hE
  have hts := fun w (h : w ∈ Ts) => zT.at hts0 h args
  intro H locs ls hH hS hl
  exact lv_iconst hexec hb hd hv (k H locs ls hH hS hl)
theorem z_bipush (hx : zOk x cc own Ts l D cl tys) {q : Int} {v : Int32} (hd : decode cc pc = .ok (.bipush q, 2)) (hv : (Int8.ofInt q).toInt32 = v) (k : zV x ad ce n i lv (pc + 2) (.int v :: st)) : zV x ad ce n i lv pc st := by
  obtain ⟨⟨p, l0, e, R, s⟩, ⟨m, args, below, meth, c⟩, ⟨D0, cl0, tys0⟩, A, Q⟩ := x
  obtain ⟨hexec, hb, hown, hts0, hK, hA, hlocks, hZ, hE1, hE⟩ := hx
  cases hE1
  cases hE
  have hts := fun w (h : w ∈ Ts) => zT.at hts0 h args
  intro H locs ls hH hS hl
  exact lv_bipush hexec hb hd hv (k H locs ls hH hS hl)
theorem z_sipush (hx : zOk x cc own Ts l D cl tys) {q : Int} {v : Int32} (hd : decode cc pc = .ok (.sipush q, 3)) (hv : (Int16.ofInt q).toInt32 = v) (k : zV x ad ce n i lv (pc + 3) (.int v :: st)) : zV x ad ce n i lv pc st := by
  obtain ⟨⟨p, l0, e, R, s⟩, ⟨m, args, below, meth, c⟩, ⟨D0, cl0, tys0⟩, A, Q⟩ := x
  obtain ⟨hexec, hb, hown, hts0, hK, hA, hlocks, hZ, hE1, hE⟩ := hx
  cases hE1
  cases hE
  have hts := fun w (h : w ∈ Ts) => zT.at hts0 h args
  intro H locs ls hH hS hl
  exact lv_sipush hexec hb hd hv (k H locs ls hH hS hl)
theorem z_lconst (hx : zOk x cc own Ts l D cl tys) {q : Fin 2} {v : Int64} (hd : decode cc pc = .ok (.lconst q, 1)) (hv : Int64.ofNat (q : Nat) = v) (k : zV x ad ce n i lv (pc + 1) (.long v :: st)) : zV x ad ce n i lv pc st := by
  obtain ⟨⟨p, l0, e, R, s⟩, ⟨m, args, below, meth, c⟩, ⟨D0, cl0, tys0⟩, A, Q⟩ := x
  obtain ⟨hexec, hb, hown, hts0, hK, hA, hlocks, hZ, hE1, hE⟩ := hx
  cases hE1
  cases hE
  have hts := fun w (h : w ∈ Ts) => zT.at hts0 h args
  intro H locs ls hH hS hl
  exact lv_lconst hexec hb hd hv (k H locs ls hH hS hl)
theorem z_ldc (hx : zOk x cc own Ts l D cl tys) {idx : Nat} {v : Int32} (hd : decode cc pc = .ok (.ldc idx, 2)) (hw : Jvm.Cond.constant own idx v ∈ Ts) (k : zV x ad ce n i lv (pc + 2) (.int v :: st)) : zV x ad ce n i lv pc st := by
  obtain ⟨⟨p, l0, e, R, s⟩, ⟨m, args, below, meth, c⟩, ⟨D0, cl0, tys0⟩, A, Q⟩ := x
  obtain ⟨hexec, hb, hown, hts0, hK, hA, hlocks, hZ, hE1, hE⟩ := hx
  cases hE1
  cases hE
  have hts := fun w (h : w ∈ Ts) => zT.at hts0 h args
  intro H locs ls hH hS hl
  exact lv_ldc hexec hb hown (hts _ hw) hd (k H locs ls hH hS hl)
theorem z_ldc2 (hx : zOk x cc own Ts l D cl tys) {idx : Nat} {v : Int64} (hd : decode cc pc = .ok (.ldc2_w idx, 3)) (hw : Jvm.Cond.constantLong own idx v ∈ Ts) (k : zV x ad ce n i lv (pc + 3) (.long v :: st)) : zV x ad ce n i lv pc st := by
  obtain ⟨⟨p, l0, e, R, s⟩, ⟨m, args, below, meth, c⟩, ⟨D0, cl0, tys0⟩, A, Q⟩ := x
  obtain ⟨hexec, hb, hown, hts0, hK, hA, hlocks, hZ, hE1, hE⟩ := hx
  cases hE1
  cases hE
  have hts := fun w (h : w ∈ Ts) => zT.at hts0 h args
  intro H locs ls hH hS hl
  exact lv_ldc2 hexec hb hown (hts _ hw) hd (k H locs ls hH hS hl)
theorem z_null (hx : zOk x cc own Ts l D cl tys)  (hd : decode cc pc = .ok (.aconst_null, 1)) (k : zV x ad ce n i lv (pc + 1) (.null :: st)) : zV x ad ce n i lv pc st := by
  obtain ⟨⟨p, l0, e, R, s⟩, ⟨m, args, below, meth, c⟩, ⟨D0, cl0, tys0⟩, A, Q⟩ := x
  obtain ⟨hexec, hb, hown, hts0, hK, hA, hlocks, hZ, hE1, hE⟩ := hx
  cases hE1
  cases hE
  have hts := fun w (h : w ∈ Ts) => zT.at hts0 h args
  intro H locs ls hH hS hl
  exact lv_null hexec hb hd (k H locs ls hH hS hl)
theorem z_iload_n (hx : zOk x cc own Ts l D cl tys) {q : Fin 4} {v : Int32} (j : Nat) (hd : decode cc pc = .ok (.iload_n q, 1)) (hj : lv[j]? = some ((q : Nat), .int v)) (k : zV x ad ce n i lv (pc + 1) (.int v :: st)) : zV x ad ce n i lv pc st := by
  obtain ⟨⟨p, l0, e, R, s⟩, ⟨m, args, below, meth, c⟩, ⟨D0, cl0, tys0⟩, A, Q⟩ := x
  obtain ⟨hexec, hb, hown, hts0, hK, hA, hlocks, hZ, hE1, hE⟩ := hx
  cases hE1
  cases hE
  have hts := fun w (h : w ∈ Ts) => zT.at hts0 h args
  intro H locs ls hH hS hl
  exact lv_iload_n hexec hb hd rfl (lv_at hl j hj) (k H locs ls hH hS hl)
theorem z_iload (hx : zOk x cc own Ts l D cl tys) {q : Nat} {v : Int32} (j : Nat) (hd : decode cc pc = .ok (.iload q, 2)) (hj : lv[j]? = some (q, .int v)) (k : zV x ad ce n i lv (pc + 2) (.int v :: st)) : zV x ad ce n i lv pc st := by
  obtain ⟨⟨p, l0, e, R, s⟩, ⟨m, args, below, meth, c⟩, ⟨D0, cl0, tys0⟩, A, Q⟩ := x
  obtain ⟨hexec, hb, hown, hts0, hK, hA, hlocks, hZ, hE1, hE⟩ := hx
  cases hE1
  cases hE
  have hts := fun w (h : w ∈ Ts) => zT.at hts0 h args
  intro H locs ls hH hS hl
  exact lv_iload hexec hb hd (lv_at hl j hj) (k H locs ls hH hS hl)
theorem z_lload_n (hx : zOk x cc own Ts l D cl tys) {q : Fin 4} {v : Int64} (j : Nat) (hd : decode cc pc = .ok (.lload_n q, 1)) (hj : lv[j]? = some ((q : Nat), .long v)) (k : zV x ad ce n i lv (pc + 1) (.long v :: st)) : zV x ad ce n i lv pc st := by
  obtain ⟨⟨p, l0, e, R, s⟩, ⟨m, args, below, meth, c⟩, ⟨D0, cl0, tys0⟩, A, Q⟩ := x
  obtain ⟨hexec, hb, hown, hts0, hK, hA, hlocks, hZ, hE1, hE⟩ := hx
  cases hE1
  cases hE
  have hts := fun w (h : w ∈ Ts) => zT.at hts0 h args
  intro H locs ls hH hS hl
  exact lv_lload_n hexec hb hd rfl (lv_at hl j hj) (k H locs ls hH hS hl)
theorem z_lload (hx : zOk x cc own Ts l D cl tys) {q : Nat} {v : Int64} (j : Nat) (hd : decode cc pc = .ok (.lload q, 2)) (hj : lv[j]? = some (q, .long v)) (k : zV x ad ce n i lv (pc + 2) (.long v :: st)) : zV x ad ce n i lv pc st := by
  obtain ⟨⟨p, l0, e, R, s⟩, ⟨m, args, below, meth, c⟩, ⟨D0, cl0, tys0⟩, A, Q⟩ := x
  obtain ⟨hexec, hb, hown, hts0, hK, hA, hlocks, hZ, hE1, hE⟩ := hx
  cases hE1
  cases hE
  have hts := fun w (h : w ∈ Ts) => zT.at hts0 h args
  intro H locs ls hH hS hl
  exact lv_lload hexec hb hd (lv_at hl j hj) (k H locs ls hH hS hl)
theorem z_aload_n (hx : zOk x cc own Ts l D cl tys) {q : Fin 4} {v : Nat} (j : Nat) (hd : decode cc pc = .ok (.aload_n q, 1)) (hj : lv[j]? = some ((q : Nat), .ref v)) (k : zV x ad ce n i lv (pc + 1) (.ref v :: st)) : zV x ad ce n i lv pc st := by
  obtain ⟨⟨p, l0, e, R, s⟩, ⟨m, args, below, meth, c⟩, ⟨D0, cl0, tys0⟩, A, Q⟩ := x
  obtain ⟨hexec, hb, hown, hts0, hK, hA, hlocks, hZ, hE1, hE⟩ := hx
  cases hE1
  cases hE
  have hts := fun w (h : w ∈ Ts) => zT.at hts0 h args
  intro H locs ls hH hS hl
  exact lv_aload_n hexec hb hd rfl (lv_at hl j hj) (k H locs ls hH hS hl)
theorem z_aload (hx : zOk x cc own Ts l D cl tys) {q : Nat} {v : Nat} (j : Nat) (hd : decode cc pc = .ok (.aload q, 2)) (hj : lv[j]? = some (q, .ref v)) (k : zV x ad ce n i lv (pc + 2) (.ref v :: st)) : zV x ad ce n i lv pc st := by
  obtain ⟨⟨p, l0, e, R, s⟩, ⟨m, args, below, meth, c⟩, ⟨D0, cl0, tys0⟩, A, Q⟩ := x
  obtain ⟨hexec, hb, hown, hts0, hK, hA, hlocks, hZ, hE1, hE⟩ := hx
  cases hE1
  cases hE
  have hts := fun w (h : w ∈ Ts) => zT.at hts0 h args
  intro H locs ls hH hS hl
  exact lv_aload hexec hb hd (lv_at hl j hj) (k H locs ls hH hS hl)
theorem z_aload_nN (hx : zOk x cc own Ts l D cl tys) {q : Fin 4} (j : Nat) (hd : decode cc pc = .ok (.aload_n q, 1)) (hj : lv[j]? = some ((q : Nat), .null)) (k : zV x ad ce n i lv (pc + 1) (.null :: st)) : zV x ad ce n i lv pc st := by
  obtain ⟨⟨p, l0, e, R, s⟩, ⟨m, args, below, meth, c⟩, ⟨D0, cl0, tys0⟩, A, Q⟩ := x
  obtain ⟨hexec, hb, hown, hts0, hK, hA, hlocks, hZ, hE1, hE⟩ := hx
  cases hE1
  cases hE
  have hts := fun w (h : w ∈ Ts) => zT.at hts0 h args
  intro H locs ls hH hS hl
  exact lv_aload_nN hexec hb hd rfl (lv_at hl j hj) (k H locs ls hH hS hl)
theorem z_aloadN (hx : zOk x cc own Ts l D cl tys) {q : Nat} (j : Nat) (hd : decode cc pc = .ok (.aload q, 2)) (hj : lv[j]? = some (q, .null)) (k : zV x ad ce n i lv (pc + 2) (.null :: st)) : zV x ad ce n i lv pc st := by
  obtain ⟨⟨p, l0, e, R, s⟩, ⟨m, args, below, meth, c⟩, ⟨D0, cl0, tys0⟩, A, Q⟩ := x
  obtain ⟨hexec, hb, hown, hts0, hK, hA, hlocks, hZ, hE1, hE⟩ := hx
  cases hE1
  cases hE
  have hts := fun w (h : w ∈ Ts) => zT.at hts0 h args
  intro H locs ls hH hS hl
  exact lv_aloadN hexec hb hd (lv_at hl j hj) (k H locs ls hH hS hl)
theorem z_iadd (hx : zOk x cc own Ts l D cl tys) {x1 y1 : Int32} (hd : decode cc pc = .ok (.iadd, 1)) (k : zV x ad ce n i lv (pc + 1) (.int (x1 + y1) :: st)) : zV x ad ce n i lv pc (.int y1 :: .int x1 :: st) := by
  obtain ⟨⟨p, l0, e, R, s⟩, ⟨m, args, below, meth, c⟩, ⟨D0, cl0, tys0⟩, A, Q⟩ := x
  obtain ⟨hexec, hb, hown, hts0, hK, hA, hlocks, hZ, hE1, hE⟩ := hx
  cases hE1
  cases hE
  have hts := fun w (h : w ∈ Ts) => zT.at hts0 h args
  intro H locs ls hH hS hl
  exact lv_iadd hexec hb hd (k H locs ls hH hS hl)
theorem z_isub (hx : zOk x cc own Ts l D cl tys) {x1 y1 : Int32} (hd : decode cc pc = .ok (.isub, 1)) (k : zV x ad ce n i lv (pc + 1) (.int (x1 - y1) :: st)) : zV x ad ce n i lv pc (.int y1 :: .int x1 :: st) := by
  obtain ⟨⟨p, l0, e, R, s⟩, ⟨m, args, below, meth, c⟩, ⟨D0, cl0, tys0⟩, A, Q⟩ := x
  obtain ⟨hexec, hb, hown, hts0, hK, hA, hlocks, hZ, hE1, hE⟩ := hx
  cases hE1
  cases hE
  have hts := fun w (h : w ∈ Ts) => zT.at hts0 h args
  intro H locs ls hH hS hl
  exact lv_isub hexec hb hd (k H locs ls hH hS hl)
theorem z_imul (hx : zOk x cc own Ts l D cl tys) {x1 y1 : Int32} (hd : decode cc pc = .ok (.imul, 1)) (k : zV x ad ce n i lv (pc + 1) (.int (x1 * y1) :: st)) : zV x ad ce n i lv pc (.int y1 :: .int x1 :: st) := by
  obtain ⟨⟨p, l0, e, R, s⟩, ⟨m, args, below, meth, c⟩, ⟨D0, cl0, tys0⟩, A, Q⟩ := x
  obtain ⟨hexec, hb, hown, hts0, hK, hA, hlocks, hZ, hE1, hE⟩ := hx
  cases hE1
  cases hE
  have hts := fun w (h : w ∈ Ts) => zT.at hts0 h args
  intro H locs ls hH hS hl
  exact lv_imul hexec hb hd (k H locs ls hH hS hl)
theorem z_iand (hx : zOk x cc own Ts l D cl tys) {x1 y1 : Int32} (hd : decode cc pc = .ok (.iand, 1)) (k : zV x ad ce n i lv (pc + 1) (.int (x1 &&& y1) :: st)) : zV x ad ce n i lv pc (.int y1 :: .int x1 :: st) := by
  obtain ⟨⟨p, l0, e, R, s⟩, ⟨m, args, below, meth, c⟩, ⟨D0, cl0, tys0⟩, A, Q⟩ := x
  obtain ⟨hexec, hb, hown, hts0, hK, hA, hlocks, hZ, hE1, hE⟩ := hx
  cases hE1
  cases hE
  have hts := fun w (h : w ∈ Ts) => zT.at hts0 h args
  intro H locs ls hH hS hl
  exact lv_iand hexec hb hd (k H locs ls hH hS hl)
theorem z_ior (hx : zOk x cc own Ts l D cl tys) {x1 y1 : Int32} (hd : decode cc pc = .ok (.ior, 1)) (k : zV x ad ce n i lv (pc + 1) (.int (x1 ||| y1) :: st)) : zV x ad ce n i lv pc (.int y1 :: .int x1 :: st) := by
  obtain ⟨⟨p, l0, e, R, s⟩, ⟨m, args, below, meth, c⟩, ⟨D0, cl0, tys0⟩, A, Q⟩ := x
  obtain ⟨hexec, hb, hown, hts0, hK, hA, hlocks, hZ, hE1, hE⟩ := hx
  cases hE1
  cases hE
  have hts := fun w (h : w ∈ Ts) => zT.at hts0 h args
  intro H locs ls hH hS hl
  exact lv_ior hexec hb hd (k H locs ls hH hS hl)
theorem z_ixor (hx : zOk x cc own Ts l D cl tys) {x1 y1 : Int32} (hd : decode cc pc = .ok (.ixor, 1)) (k : zV x ad ce n i lv (pc + 1) (.int (x1 ^^^ y1) :: st)) : zV x ad ce n i lv pc (.int y1 :: .int x1 :: st) := by
  obtain ⟨⟨p, l0, e, R, s⟩, ⟨m, args, below, meth, c⟩, ⟨D0, cl0, tys0⟩, A, Q⟩ := x
  obtain ⟨hexec, hb, hown, hts0, hK, hA, hlocks, hZ, hE1, hE⟩ := hx
  cases hE1
  cases hE
  have hts := fun w (h : w ∈ Ts) => zT.at hts0 h args
  intro H locs ls hH hS hl
  exact lv_ixor hexec hb hd (k H locs ls hH hS hl)
theorem z_ishl (hx : zOk x cc own Ts l D cl tys) {x1 y1 : Int32} (hd : decode cc pc = .ok (.ishl, 1)) (k : zV x ad ce n i lv (pc + 1) (.int (x1 <<< (y1 &&& 31)) :: st)) : zV x ad ce n i lv pc (.int y1 :: .int x1 :: st) := by
  obtain ⟨⟨p, l0, e, R, s⟩, ⟨m, args, below, meth, c⟩, ⟨D0, cl0, tys0⟩, A, Q⟩ := x
  obtain ⟨hexec, hb, hown, hts0, hK, hA, hlocks, hZ, hE1, hE⟩ := hx
  cases hE1
  cases hE
  have hts := fun w (h : w ∈ Ts) => zT.at hts0 h args
  intro H locs ls hH hS hl
  exact lv_ishl hexec hb hd (k H locs ls hH hS hl)
theorem z_ishr (hx : zOk x cc own Ts l D cl tys) {x1 y1 : Int32} (hd : decode cc pc = .ok (.ishr, 1)) (k : zV x ad ce n i lv (pc + 1) (.int (x1 >>> (y1 &&& 31)) :: st)) : zV x ad ce n i lv pc (.int y1 :: .int x1 :: st) := by
  obtain ⟨⟨p, l0, e, R, s⟩, ⟨m, args, below, meth, c⟩, ⟨D0, cl0, tys0⟩, A, Q⟩ := x
  obtain ⟨hexec, hb, hown, hts0, hK, hA, hlocks, hZ, hE1, hE⟩ := hx
  cases hE1
  cases hE
  have hts := fun w (h : w ∈ Ts) => zT.at hts0 h args
  intro H locs ls hH hS hl
  exact lv_ishr hexec hb hd (k H locs ls hH hS hl)
theorem z_ladd (hx : zOk x cc own Ts l D cl tys) {x1 y1 : Int64} (hd : decode cc pc = .ok (.ladd, 1)) (k : zV x ad ce n i lv (pc + 1) (.long (x1 + y1) :: st)) : zV x ad ce n i lv pc (.long y1 :: .long x1 :: st) := by
  obtain ⟨⟨p, l0, e, R, s⟩, ⟨m, args, below, meth, c⟩, ⟨D0, cl0, tys0⟩, A, Q⟩ := x
  obtain ⟨hexec, hb, hown, hts0, hK, hA, hlocks, hZ, hE1, hE⟩ := hx
  cases hE1
  cases hE
  have hts := fun w (h : w ∈ Ts) => zT.at hts0 h args
  intro H locs ls hH hS hl
  exact lv_ladd hexec hb hd (k H locs ls hH hS hl)
theorem z_lsub (hx : zOk x cc own Ts l D cl tys) {x1 y1 : Int64} (hd : decode cc pc = .ok (.lsub, 1)) (k : zV x ad ce n i lv (pc + 1) (.long (x1 - y1) :: st)) : zV x ad ce n i lv pc (.long y1 :: .long x1 :: st) := by
  obtain ⟨⟨p, l0, e, R, s⟩, ⟨m, args, below, meth, c⟩, ⟨D0, cl0, tys0⟩, A, Q⟩ := x
  obtain ⟨hexec, hb, hown, hts0, hK, hA, hlocks, hZ, hE1, hE⟩ := hx
  cases hE1
  cases hE
  have hts := fun w (h : w ∈ Ts) => zT.at hts0 h args
  intro H locs ls hH hS hl
  exact lv_lsub hexec hb hd (k H locs ls hH hS hl)
theorem z_lmul (hx : zOk x cc own Ts l D cl tys) {x1 y1 : Int64} (hd : decode cc pc = .ok (.lmul, 1)) (k : zV x ad ce n i lv (pc + 1) (.long (x1 * y1) :: st)) : zV x ad ce n i lv pc (.long y1 :: .long x1 :: st) := by
  obtain ⟨⟨p, l0, e, R, s⟩, ⟨m, args, below, meth, c⟩, ⟨D0, cl0, tys0⟩, A, Q⟩ := x
  obtain ⟨hexec, hb, hown, hts0, hK, hA, hlocks, hZ, hE1, hE⟩ := hx
  cases hE1
  cases hE
  have hts := fun w (h : w ∈ Ts) => zT.at hts0 h args
  intro H locs ls hH hS hl
  exact lv_lmul hexec hb hd (k H locs ls hH hS hl)
theorem z_land (hx : zOk x cc own Ts l D cl tys) {x1 y1 : Int64} (hd : decode cc pc = .ok (.land, 1)) (k : zV x ad ce n i lv (pc + 1) (.long (x1 &&& y1) :: st)) : zV x ad ce n i lv pc (.long y1 :: .long x1 :: st) := by
  obtain ⟨⟨p, l0, e, R, s⟩, ⟨m, args, below, meth, c⟩, ⟨D0, cl0, tys0⟩, A, Q⟩ := x
  obtain ⟨hexec, hb, hown, hts0, hK, hA, hlocks, hZ, hE1, hE⟩ := hx
  cases hE1
  cases hE
  have hts := fun w (h : w ∈ Ts) => zT.at hts0 h args
  intro H locs ls hH hS hl
  exact lv_land hexec hb hd (k H locs ls hH hS hl)
theorem z_lor (hx : zOk x cc own Ts l D cl tys) {x1 y1 : Int64} (hd : decode cc pc = .ok (.lor, 1)) (k : zV x ad ce n i lv (pc + 1) (.long (x1 ||| y1) :: st)) : zV x ad ce n i lv pc (.long y1 :: .long x1 :: st) := by
  obtain ⟨⟨p, l0, e, R, s⟩, ⟨m, args, below, meth, c⟩, ⟨D0, cl0, tys0⟩, A, Q⟩ := x
  obtain ⟨hexec, hb, hown, hts0, hK, hA, hlocks, hZ, hE1, hE⟩ := hx
  cases hE1
  cases hE
  have hts := fun w (h : w ∈ Ts) => zT.at hts0 h args
  intro H locs ls hH hS hl
  exact lv_lor hexec hb hd (k H locs ls hH hS hl)
theorem z_lxor (hx : zOk x cc own Ts l D cl tys) {x1 y1 : Int64} (hd : decode cc pc = .ok (.lxor, 1)) (k : zV x ad ce n i lv (pc + 1) (.long (x1 ^^^ y1) :: st)) : zV x ad ce n i lv pc (.long y1 :: .long x1 :: st) := by
  obtain ⟨⟨p, l0, e, R, s⟩, ⟨m, args, below, meth, c⟩, ⟨D0, cl0, tys0⟩, A, Q⟩ := x
  obtain ⟨hexec, hb, hown, hts0, hK, hA, hlocks, hZ, hE1, hE⟩ := hx
  cases hE1
  cases hE
  have hts := fun w (h : w ∈ Ts) => zT.at hts0 h args
  intro H locs ls hH hS hl
  exact lv_lxor hexec hb hd (k H locs ls hH hS hl)
theorem z_idiv (hx : zOk x cc own Ts l D cl tys) {x1 y1 : Int32} (hd : decode cc pc = .ok (.idiv, 1)) (hne : ¬ y1 = 0) (k : zV x ad ce n i lv (pc + 1) (.int (x1 / y1) :: st)) : zV x ad ce n i lv pc (.int y1 :: .int x1 :: st) := by
  obtain ⟨⟨p, l0, e, R, s⟩, ⟨m, args, below, meth, c⟩, ⟨D0, cl0, tys0⟩, A, Q⟩ := x
  obtain ⟨hexec, hb, hown, hts0, hK, hA, hlocks, hZ, hE1, hE⟩ := hx
  cases hE1
  cases hE
  have hts := fun w (h : w ∈ Ts) => zT.at hts0 h args
  intro H locs ls hH hS hl
  exact lv_idiv hexec hb hd hne (k H locs ls hH hS hl)
theorem z_irem (hx : zOk x cc own Ts l D cl tys) {x1 y1 : Int32} (hd : decode cc pc = .ok (.irem, 1)) (hne : ¬ y1 = 0) (k : zV x ad ce n i lv (pc + 1) (.int (x1 - x1 / y1 * y1) :: st)) : zV x ad ce n i lv pc (.int y1 :: .int x1 :: st) := by
  obtain ⟨⟨p, l0, e, R, s⟩, ⟨m, args, below, meth, c⟩, ⟨D0, cl0, tys0⟩, A, Q⟩ := x
  obtain ⟨hexec, hb, hown, hts0, hK, hA, hlocks, hZ, hE1, hE⟩ := hx
  cases hE1
  cases hE
  have hts := fun w (h : w ∈ Ts) => zT.at hts0 h args
  intro H locs ls hH hS hl
  exact lv_irem hexec hb hd hne (k H locs ls hH hS hl)
theorem z_ldiv (hx : zOk x cc own Ts l D cl tys) {x1 y1 : Int64} (hd : decode cc pc = .ok (.ldiv, 1)) (hne : ¬ y1 = 0) (k : zV x ad ce n i lv (pc + 1) (.long (x1 / y1) :: st)) : zV x ad ce n i lv pc (.long y1 :: .long x1 :: st) := by
  obtain ⟨⟨p, l0, e, R, s⟩, ⟨m, args, below, meth, c⟩, ⟨D0, cl0, tys0⟩, A, Q⟩ := x
  obtain ⟨hexec, hb, hown, hts0, hK, hA, hlocks, hZ, hE1, hE⟩ := hx
  cases hE1
  cases hE
  have hts := fun w (h : w ∈ Ts) => zT.at hts0 h args
  intro H locs ls hH hS hl
  exact lv_ldiv hexec hb hd hne (k H locs ls hH hS hl)
theorem z_lrem (hx : zOk x cc own Ts l D cl tys) {x1 y1 : Int64} (hd : decode cc pc = .ok (.lrem, 1)) (hne : ¬ y1 = 0) (k : zV x ad ce n i lv (pc + 1) (.long (x1 - x1 / y1 * y1) :: st)) : zV x ad ce n i lv pc (.long y1 :: .long x1 :: st) := by
  obtain ⟨⟨p, l0, e, R, s⟩, ⟨m, args, below, meth, c⟩, ⟨D0, cl0, tys0⟩, A, Q⟩ := x
  obtain ⟨hexec, hb, hown, hts0, hK, hA, hlocks, hZ, hE1, hE⟩ := hx
  cases hE1
  cases hE
  have hts := fun w (h : w ∈ Ts) => zT.at hts0 h args
  intro H locs ls hH hS hl
  exact lv_lrem hexec hb hd hne (k H locs ls hH hS hl)
theorem z_ineg (hx : zOk x cc own Ts l D cl tys) {x1 : Int32} (hd : decode cc pc = .ok (.ineg, 1)) (k : zV x ad ce n i lv (pc + 1) (.int (-x1) :: st)) : zV x ad ce n i lv pc (.int x1 :: st) := by
  obtain ⟨⟨p, l0, e, R, s⟩, ⟨m, args, below, meth, c⟩, ⟨D0, cl0, tys0⟩, A, Q⟩ := x
  obtain ⟨hexec, hb, hown, hts0, hK, hA, hlocks, hZ, hE1, hE⟩ := hx
  cases hE1
  cases hE
  have hts := fun w (h : w ∈ Ts) => zT.at hts0 h args
  intro H locs ls hH hS hl
  exact lv_ineg hexec hb hd (k H locs ls hH hS hl)
theorem z_lneg (hx : zOk x cc own Ts l D cl tys) {x1 : Int64} (hd : decode cc pc = .ok (.lneg, 1)) (k : zV x ad ce n i lv (pc + 1) (.long (-x1) :: st)) : zV x ad ce n i lv pc (.long x1 :: st) := by
  obtain ⟨⟨p, l0, e, R, s⟩, ⟨m, args, below, meth, c⟩, ⟨D0, cl0, tys0⟩, A, Q⟩ := x
  obtain ⟨hexec, hb, hown, hts0, hK, hA, hlocks, hZ, hE1, hE⟩ := hx
  cases hE1
  cases hE
  have hts := fun w (h : w ∈ Ts) => zT.at hts0 h args
  intro H locs ls hH hS hl
  exact lv_lneg hexec hb hd (k H locs ls hH hS hl)
theorem z_i2l (hx : zOk x cc own Ts l D cl tys) {x1 : Int32} (hd : decode cc pc = .ok (.i2l, 1)) (k : zV x ad ce n i lv (pc + 1) (.long x1.toInt64 :: st)) : zV x ad ce n i lv pc (.int x1 :: st) := by
  obtain ⟨⟨p, l0, e, R, s⟩, ⟨m, args, below, meth, c⟩, ⟨D0, cl0, tys0⟩, A, Q⟩ := x
  obtain ⟨hexec, hb, hown, hts0, hK, hA, hlocks, hZ, hE1, hE⟩ := hx
  cases hE1
  cases hE
  have hts := fun w (h : w ∈ Ts) => zT.at hts0 h args
  intro H locs ls hH hS hl
  exact lv_i2l hexec hb hd rfl (k H locs ls hH hS hl)
theorem z_l2i (hx : zOk x cc own Ts l D cl tys) {x1 : Int64} (hd : decode cc pc = .ok (.l2i, 1)) (k : zV x ad ce n i lv (pc + 1) (.int x1.toInt32 :: st)) : zV x ad ce n i lv pc (.long x1 :: st) := by
  obtain ⟨⟨p, l0, e, R, s⟩, ⟨m, args, below, meth, c⟩, ⟨D0, cl0, tys0⟩, A, Q⟩ := x
  obtain ⟨hexec, hb, hown, hts0, hK, hA, hlocks, hZ, hE1, hE⟩ := hx
  cases hE1
  cases hE
  have hts := fun w (h : w ∈ Ts) => zT.at hts0 h args
  intro H locs ls hH hS hl
  exact lv_l2i hexec hb hd rfl (k H locs ls hH hS hl)
theorem z_iushr (hx : zOk x cc own Ts l D cl tys) {x1 y1 : Int32} (hd : decode cc pc = .ok (.iushr, 1)) (k : zV x ad ce n i lv (pc + 1) (.int (x1.toUInt32 >>> (y1.toUInt32 &&& Int32.toUInt32 31)).toInt32 :: st)) : zV x ad ce n i lv pc (.int y1 :: .int x1 :: st) := by
  obtain ⟨⟨p, l0, e, R, s⟩, ⟨m, args, below, meth, c⟩, ⟨D0, cl0, tys0⟩, A, Q⟩ := x
  obtain ⟨hexec, hb, hown, hts0, hK, hA, hlocks, hZ, hE1, hE⟩ := hx
  cases hE1
  cases hE
  have hts := fun w (h : w ∈ Ts) => zT.at hts0 h args
  intro H locs ls hH hS hl
  exact lv_iushr hexec hb hd rfl (k H locs ls hH hS hl)
theorem z_lushr (hx : zOk x cc own Ts l D cl tys) {x1 : Int64} {y1 : Int32} (hd : decode cc pc = .ok (.lushr, 1)) (k : zV x ad ce n i lv (pc + 1) (.long (x1.toUInt64 >>> (y1.toInt64.toUInt64 &&& Int64.toUInt64 63)).toInt64 :: st)) : zV x ad ce n i lv pc (.int y1 :: .long x1 :: st) := by
  obtain ⟨⟨p, l0, e, R, s⟩, ⟨m, args, below, meth, c⟩, ⟨D0, cl0, tys0⟩, A, Q⟩ := x
  obtain ⟨hexec, hb, hown, hts0, hK, hA, hlocks, hZ, hE1, hE⟩ := hx
  cases hE1
  cases hE
  have hts := fun w (h : w ∈ Ts) => zT.at hts0 h args
  intro H locs ls hH hS hl
  exact lv_lushr hexec hb hd rfl (k H locs ls hH hS hl)
theorem z_lshl (hx : zOk x cc own Ts l D cl tys) {x1 : Int64} {y1 : Int32} (hd : decode cc pc = .ok (.lshl, 1)) (k : zV x ad ce n i lv (pc + 1) (.long (x1 <<< (y1.toInt64 &&& 63)) :: st)) : zV x ad ce n i lv pc (.int y1 :: .long x1 :: st) := by
  obtain ⟨⟨p, l0, e, R, s⟩, ⟨m, args, below, meth, c⟩, ⟨D0, cl0, tys0⟩, A, Q⟩ := x
  obtain ⟨hexec, hb, hown, hts0, hK, hA, hlocks, hZ, hE1, hE⟩ := hx
  cases hE1
  cases hE
  have hts := fun w (h : w ∈ Ts) => zT.at hts0 h args
  intro H locs ls hH hS hl
  exact lv_lshl hexec hb hd rfl (k H locs ls hH hS hl)
theorem z_lshr (hx : zOk x cc own Ts l D cl tys) {x1 : Int64} {y1 : Int32} (hd : decode cc pc = .ok (.lshr, 1)) (k : zV x ad ce n i lv (pc + 1) (.long (x1 >>> (y1.toInt64 &&& 63)) :: st)) : zV x ad ce n i lv pc (.int y1 :: .long x1 :: st) := by
  obtain ⟨⟨p, l0, e, R, s⟩, ⟨m, args, below, meth, c⟩, ⟨D0, cl0, tys0⟩, A, Q⟩ := x
  obtain ⟨hexec, hb, hown, hts0, hK, hA, hlocks, hZ, hE1, hE⟩ := hx
  cases hE1
  cases hE
  have hts := fun w (h : w ∈ Ts) => zT.at hts0 h args
  intro H locs ls hH hS hl
  exact lv_lshr hexec hb hd rfl (k H locs ls hH hS hl)
theorem z_lcmp (hx : zOk x cc own Ts l D cl tys) {x1 y1 : Int64} (hd : decode cc pc = .ok (.lcmp, 1)) (k : zV x ad ce n i lv (pc + 1) (.int (lg_cmp x1 y1) :: st)) : zV x ad ce n i lv pc (.long y1 :: .long x1 :: st) := by
  obtain ⟨⟨p, l0, e, R, s⟩, ⟨m, args, below, meth, c⟩, ⟨D0, cl0, tys0⟩, A, Q⟩ := x
  obtain ⟨hexec, hb, hown, hts0, hK, hA, hlocks, hZ, hE1, hE⟩ := hx
  cases hE1
  cases hE
  have hts := fun w (h : w ∈ Ts) => zT.at hts0 h args
  intro H locs ls hH hS hl
  exact W.lcmp hexec hb hd (k H locs ls hH hS hl)
theorem z_dup (hx : zOk x cc own Ts l D cl tys) {va : Value} (hd : decode cc pc = .ok (.dup, 1)) (h1 : va.category = 1) (k : zV x ad ce n i lv (pc + 1) (va :: va :: st)) : zV x ad ce n i lv pc (va :: st) := by
  obtain ⟨⟨p, l0, e, R, s⟩, ⟨m, args, below, meth, c⟩, ⟨D0, cl0, tys0⟩, A, Q⟩ := x
  obtain ⟨hexec, hb, hown, hts0, hK, hA, hlocks, hZ, hE1, hE⟩ := hx
  cases hE1
  cases hE
  have hts := fun w (h : w ∈ Ts) => zT.at hts0 h args
  intro H locs ls hH hS hl
  exact lv_dup hexec hb hd h1 (k H locs ls hH hS hl)
theorem z_pop (hx : zOk x cc own Ts l D cl tys) {va : Value} (hd : decode cc pc = .ok (.pop, 1)) (h1 : va.category = 1) (k : zV x ad ce n i lv (pc + 1) st) : zV x ad ce n i lv pc (va :: st) := by
  obtain ⟨⟨p, l0, e, R, s⟩, ⟨m, args, below, meth, c⟩, ⟨D0, cl0, tys0⟩, A, Q⟩ := x
  obtain ⟨hexec, hb, hown, hts0, hK, hA, hlocks, hZ, hE1, hE⟩ := hx
  cases hE1
  cases hE
  have hts := fun w (h : w ∈ Ts) => zT.at hts0 h args
  intro H locs ls hH hS hl
  exact lv_pop hexec hb hd h1 (k H locs ls hH hS hl)
theorem z_dup_x1 (hx : zOk x cc own Ts l D cl tys) {va vb : Value} (hd : decode cc pc = .ok (.dup_x1, 1)) (h1 : va.category = 1) (h2 : vb.category = 1) (k : zV x ad ce n i lv (pc + 1) (va :: vb :: va :: st)) : zV x ad ce n i lv pc (va :: vb :: st) := by
  obtain ⟨⟨p, l0, e, R, s⟩, ⟨m, args, below, meth, c⟩, ⟨D0, cl0, tys0⟩, A, Q⟩ := x
  obtain ⟨hexec, hb, hown, hts0, hK, hA, hlocks, hZ, hE1, hE⟩ := hx
  cases hE1
  cases hE
  have hts := fun w (h : w ∈ Ts) => zT.at hts0 h args
  intro H locs ls hH hS hl
  exact lv_dup_x1 hexec hb hd h1 h2 (k H locs ls hH hS hl)
theorem z_dup_x2 (hx : zOk x cc own Ts l D cl tys) {va vb vd : Value} (hd : decode cc pc = .ok (.dup_x2, 1)) (h1 : va.category = 1) (h2 : vb.category = 1) (h3 : vd.category = 1) (k : zV x ad ce n i lv (pc + 1) (va :: vb :: vd :: va :: st)) : zV x ad ce n i lv pc (va :: vb :: vd :: st) := by
  obtain ⟨⟨p, l0, e, R, s⟩, ⟨m, args, below, meth, c⟩, ⟨D0, cl0, tys0⟩, A, Q⟩ := x
  obtain ⟨hexec, hb, hown, hts0, hK, hA, hlocks, hZ, hE1, hE⟩ := hx
  cases hE1
  cases hE
  have hts := fun w (h : w ∈ Ts) => zT.at hts0 h args
  intro H locs ls hH hS hl
  exact lv_dup_x2 hexec hb hd h1 h2 h3 (k H locs ls hH hS hl)
theorem z_dup2_11 (hx : zOk x cc own Ts l D cl tys) {va vb : Value} (hd : decode cc pc = .ok (.dup2, 1)) (h1 : va.category = 1) (h2 : vb.category = 1) (k : zV x ad ce n i lv (pc + 1) (va :: vb :: va :: vb :: st)) : zV x ad ce n i lv pc (va :: vb :: st) := by
  obtain ⟨⟨p, l0, e, R, s⟩, ⟨m, args, below, meth, c⟩, ⟨D0, cl0, tys0⟩, A, Q⟩ := x
  obtain ⟨hexec, hb, hown, hts0, hK, hA, hlocks, hZ, hE1, hE⟩ := hx
  cases hE1
  cases hE
  have hts := fun w (h : w ∈ Ts) => zT.at hts0 h args
  intro H locs ls hH hS hl
  exact lv_dup2_11 hexec hb hd h1 h2 (k H locs ls hH hS hl)
theorem z_dup2_2 (hx : zOk x cc own Ts l D cl tys) {va : Value} (hd : decode cc pc = .ok (.dup2, 1)) (h1 : va.category = 2) (k : zV x ad ce n i lv (pc + 1) (va :: va :: st)) : zV x ad ce n i lv pc (va :: st) := by
  obtain ⟨⟨p, l0, e, R, s⟩, ⟨m, args, below, meth, c⟩, ⟨D0, cl0, tys0⟩, A, Q⟩ := x
  obtain ⟨hexec, hb, hown, hts0, hK, hA, hlocks, hZ, hE1, hE⟩ := hx
  cases hE1
  cases hE
  have hts := fun w (h : w ∈ Ts) => zT.at hts0 h args
  intro H locs ls hH hS hl
  exact lv_dup2_2 hexec hb hd h1 (k H locs ls hH hS hl)
theorem z_pop2_2 (hx : zOk x cc own Ts l D cl tys) {va : Value} (hd : decode cc pc = .ok (.pop2, 1)) (h1 : va.category = 2) (k : zV x ad ce n i lv (pc + 1) st) : zV x ad ce n i lv pc (va :: st) := by
  obtain ⟨⟨p, l0, e, R, s⟩, ⟨m, args, below, meth, c⟩, ⟨D0, cl0, tys0⟩, A, Q⟩ := x
  obtain ⟨hexec, hb, hown, hts0, hK, hA, hlocks, hZ, hE1, hE⟩ := hx
  cases hE1
  cases hE
  have hts := fun w (h : w ∈ Ts) => zT.at hts0 h args
  intro H locs ls hH hS hl
  exact lv_pop2_2 hexec hb hd h1 (k H locs ls hH hS hl)
theorem z_dup2_x1_2 (hx : zOk x cc own Ts l D cl tys) {va vb : Value} (hd : decode cc pc = .ok (.dup2_x1, 1)) (h1 : va.category = 2) (h2 : vb.category = 1) (k : zV x ad ce n i lv (pc + 1) (va :: vb :: va :: st)) : zV x ad ce n i lv pc (va :: vb :: st) := by
  obtain ⟨⟨p, l0, e, R, s⟩, ⟨m, args, below, meth, c⟩, ⟨D0, cl0, tys0⟩, A, Q⟩ := x
  obtain ⟨hexec, hb, hown, hts0, hK, hA, hlocks, hZ, hE1, hE⟩ := hx
  cases hE1
  cases hE
  have hts := fun w (h : w ∈ Ts) => zT.at hts0 h args
  intro H locs ls hH hS hl
  exact lv_dup2_x1_2 hexec hb hd h1 h2 (k H locs ls hH hS hl)
theorem z_dup2_x2_2 (hx : zOk x cc own Ts l D cl tys) {va vb vd : Value} (hd : decode cc pc = .ok (.dup2_x2, 1)) (h1 : va.category = 2) (h2 : vb.category = 1) (h3 : vd.category = 1) (k : zV x ad ce n i lv (pc + 1) (va :: vb :: vd :: va :: st)) : zV x ad ce n i lv pc (va :: vb :: vd :: st) := by
  obtain ⟨⟨p, l0, e, R, s⟩, ⟨m, args, below, meth, c⟩, ⟨D0, cl0, tys0⟩, A, Q⟩ := x
  obtain ⟨hexec, hb, hown, hts0, hK, hA, hlocks, hZ, hE1, hE⟩ := hx
  cases hE1
  cases hE
  have hts := fun w (h : w ∈ Ts) => zT.at hts0 h args
  intro H locs ls hH hS hl
  exact lv_dup2_x2_2 hexec hb hd h1 h2 h3 (k H locs ls hH hS hl)
theorem z_goto (hx : zOk x cc own Ts l D cl tys) {off : Int} {tgt : Nat} (hd : decode cc pc = .ok (.goto off, 3)) (ht : (pc : Int) + off = (tgt : Int)) (k : zV x ad ce n i lv tgt st) : zV x ad ce n i lv pc st := by
  obtain ⟨⟨p, l0, e, R, s⟩, ⟨m, args, below, meth, c⟩, ⟨D0, cl0, tys0⟩, A, Q⟩ := x
  obtain ⟨hexec, hb, hown, hts0, hK, hA, hlocks, hZ, hE1, hE⟩ := hx
  cases hE1
  cases hE
  have hts := fun w (h : w ∈ Ts) => zT.at hts0 h args
  intro H locs ls hH hS hl
  exact lv_goto hexec hb hd ht (k H locs ls hH hS hl)
theorem z_ifnullR (hx : zOk x cc own Ts l D cl tys) {q : Nat} {off : Int} (hd : decode cc pc = .ok (.ifnull off, 3)) (k : zV x ad ce n i lv (pc + 3) st) : zV x ad ce n i lv pc (.ref q :: st) := by
  obtain ⟨⟨p, l0, e, R, s⟩, ⟨m, args, below, meth, c⟩, ⟨D0, cl0, tys0⟩, A, Q⟩ := x
  obtain ⟨hexec, hb, hown, hts0, hK, hA, hlocks, hZ, hE1, hE⟩ := hx
  cases hE1
  cases hE
  have hts := fun w (h : w ∈ Ts) => zT.at hts0 h args
  intro H locs ls hH hS hl
  exact lv_ifnull hexec hb hd (k H locs ls hH hS hl)
theorem z_ifnullN (hx : zOk x cc own Ts l D cl tys) {off : Int} {tgt : Nat} (hd : decode cc pc = .ok (.ifnull off, 3)) (ht : (pc : Int) + off = (tgt : Int)) (k : zV x ad ce n i lv tgt st) : zV x ad ce n i lv pc (.null :: st) := by
  obtain ⟨⟨p, l0, e, R, s⟩, ⟨m, args, below, meth, c⟩, ⟨D0, cl0, tys0⟩, A, Q⟩ := x
  obtain ⟨hexec, hb, hown, hts0, hK, hA, hlocks, hZ, hE1, hE⟩ := hx
  cases hE1
  cases hE
  have hts := fun w (h : w ∈ Ts) => zT.at hts0 h args
  intro H locs ls hH hS hl
  exact lv_ifnullN hexec hb hd ht (k H locs ls hH hS hl)
theorem z_ifnonnullR (hx : zOk x cc own Ts l D cl tys) {q : Nat} {off : Int} {tgt : Nat} (hd : decode cc pc = .ok (.ifnonnull off, 3)) (ht : (pc : Int) + off = (tgt : Int)) (k : zV x ad ce n i lv tgt st) : zV x ad ce n i lv pc (.ref q :: st) := by
  obtain ⟨⟨p, l0, e, R, s⟩, ⟨m, args, below, meth, c⟩, ⟨D0, cl0, tys0⟩, A, Q⟩ := x
  obtain ⟨hexec, hb, hown, hts0, hK, hA, hlocks, hZ, hE1, hE⟩ := hx
  cases hE1
  cases hE
  have hts := fun w (h : w ∈ Ts) => zT.at hts0 h args
  intro H locs ls hH hS hl
  exact lv_ifnonnull hexec hb hd ht (k H locs ls hH hS hl)
theorem z_ifnonnullN (hx : zOk x cc own Ts l D cl tys) {off : Int} (hd : decode cc pc = .ok (.ifnonnull off, 3)) (k : zV x ad ce n i lv (pc + 3) st) : zV x ad ce n i lv pc (.null :: st) := by
  obtain ⟨⟨p, l0, e, R, s⟩, ⟨m, args, below, meth, c⟩, ⟨D0, cl0, tys0⟩, A, Q⟩ := x
  obtain ⟨hexec, hb, hown, hts0, hK, hA, hlocks, hZ, hE1, hE⟩ := hx
  cases hE1
  cases hE
  have hts := fun w (h : w ∈ Ts) => zT.at hts0 h args
  intro H locs ls hH hS hl
  exact lv_ifnonnullN hexec hb hd (k H locs ls hH hS hl)
theorem z_if_eq (hx : zOk x cc own Ts l D cl tys) {x1 : Int32} {off : Int} {tgt : Nat} (hd : decode cc pc = .ok (.ifCond .eq off, 3)) (ht : (pc : Int) + off = (tgt : Int)) (kt : x1 = 0 → zV x ad ce n i lv tgt st) (kf : ¬ x1 = 0 → zV x ad ce n i lv (pc + 3) st) : zV x ad ce n i lv pc (.int x1 :: st) := by
  obtain ⟨⟨p, l0, e, R, s⟩, ⟨m, args, below, meth, c⟩, ⟨D0, cl0, tys0⟩, A, Q⟩ := x
  obtain ⟨hexec, hb, hown, hts0, hK, hA, hlocks, hZ, hE1, hE⟩ := hx
  cases hE1
  cases hE
  have hts := fun w (h : w ∈ Ts) => zT.at hts0 h args
  intro H locs ls hH hS hl
  exact lv_if_eq hexec hb hd ht (fun h => kt h H locs ls hH hS hl) (fun h => kf h H locs ls hH hS hl)
theorem z_icmp_eq (hx : zOk x cc own Ts l D cl tys) {x1 y1 : Int32} {off : Int} {tgt : Nat} (hd : decode cc pc = .ok (.if_icmp .eq off, 3)) (ht : (pc : Int) + off = (tgt : Int)) (kt : x1 = y1 → zV x ad ce n i lv tgt st) (kf : ¬ x1 = y1 → zV x ad ce n i lv (pc + 3) st) : zV x ad ce n i lv pc (.int y1 :: .int x1 :: st) := by
  obtain ⟨⟨p, l0, e, R, s⟩, ⟨m, args, below, meth, c⟩, ⟨D0, cl0, tys0⟩, A, Q⟩ := x
  obtain ⟨hexec, hb, hown, hts0, hK, hA, hlocks, hZ, hE1, hE⟩ := hx
  cases hE1
  cases hE
  have hts := fun w (h : w ∈ Ts) => zT.at hts0 h args
  intro H locs ls hH hS hl
  exact lv_icmp_eq hexec hb hd ht (fun h => kt h H locs ls hH hS hl) (fun h => kf h H locs ls hH hS hl)
theorem z_if_ne (hx : zOk x cc own Ts l D cl tys) {x1 : Int32} {off : Int} {tgt : Nat} (hd : decode cc pc = .ok (.ifCond .ne off, 3)) (ht : (pc : Int) + off = (tgt : Int)) (kt : ¬ x1 = 0 → zV x ad ce n i lv tgt st) (kf : x1 = 0 → zV x ad ce n i lv (pc + 3) st) : zV x ad ce n i lv pc (.int x1 :: st) := by
  obtain ⟨⟨p, l0, e, R, s⟩, ⟨m, args, below, meth, c⟩, ⟨D0, cl0, tys0⟩, A, Q⟩ := x
  obtain ⟨hexec, hb, hown, hts0, hK, hA, hlocks, hZ, hE1, hE⟩ := hx
  cases hE1
  cases hE
  have hts := fun w (h : w ∈ Ts) => zT.at hts0 h args
  intro H locs ls hH hS hl
  exact lv_if_ne hexec hb hd ht (fun h => kt h H locs ls hH hS hl) (fun h => kf h H locs ls hH hS hl)
theorem z_icmp_ne (hx : zOk x cc own Ts l D cl tys) {x1 y1 : Int32} {off : Int} {tgt : Nat} (hd : decode cc pc = .ok (.if_icmp .ne off, 3)) (ht : (pc : Int) + off = (tgt : Int)) (kt : ¬ x1 = y1 → zV x ad ce n i lv tgt st) (kf : x1 = y1 → zV x ad ce n i lv (pc + 3) st) : zV x ad ce n i lv pc (.int y1 :: .int x1 :: st) := by
  obtain ⟨⟨p, l0, e, R, s⟩, ⟨m, args, below, meth, c⟩, ⟨D0, cl0, tys0⟩, A, Q⟩ := x
  obtain ⟨hexec, hb, hown, hts0, hK, hA, hlocks, hZ, hE1, hE⟩ := hx
  cases hE1
  cases hE
  have hts := fun w (h : w ∈ Ts) => zT.at hts0 h args
  intro H locs ls hH hS hl
  exact lv_icmp_ne hexec hb hd ht (fun h => kt h H locs ls hH hS hl) (fun h => kf h H locs ls hH hS hl)
theorem z_if_lt (hx : zOk x cc own Ts l D cl tys) {x1 : Int32} {off : Int} {tgt : Nat} (hd : decode cc pc = .ok (.ifCond .lt off, 3)) (ht : (pc : Int) + off = (tgt : Int)) (kt : x1 < 0 → zV x ad ce n i lv tgt st) (kf : ¬ x1 < 0 → zV x ad ce n i lv (pc + 3) st) : zV x ad ce n i lv pc (.int x1 :: st) := by
  obtain ⟨⟨p, l0, e, R, s⟩, ⟨m, args, below, meth, c⟩, ⟨D0, cl0, tys0⟩, A, Q⟩ := x
  obtain ⟨hexec, hb, hown, hts0, hK, hA, hlocks, hZ, hE1, hE⟩ := hx
  cases hE1
  cases hE
  have hts := fun w (h : w ∈ Ts) => zT.at hts0 h args
  intro H locs ls hH hS hl
  exact lv_if_lt hexec hb hd ht (fun h => kt h H locs ls hH hS hl) (fun h => kf h H locs ls hH hS hl)
theorem z_icmp_lt (hx : zOk x cc own Ts l D cl tys) {x1 y1 : Int32} {off : Int} {tgt : Nat} (hd : decode cc pc = .ok (.if_icmp .lt off, 3)) (ht : (pc : Int) + off = (tgt : Int)) (kt : x1 < y1 → zV x ad ce n i lv tgt st) (kf : ¬ x1 < y1 → zV x ad ce n i lv (pc + 3) st) : zV x ad ce n i lv pc (.int y1 :: .int x1 :: st) := by
  obtain ⟨⟨p, l0, e, R, s⟩, ⟨m, args, below, meth, c⟩, ⟨D0, cl0, tys0⟩, A, Q⟩ := x
  obtain ⟨hexec, hb, hown, hts0, hK, hA, hlocks, hZ, hE1, hE⟩ := hx
  cases hE1
  cases hE
  have hts := fun w (h : w ∈ Ts) => zT.at hts0 h args
  intro H locs ls hH hS hl
  exact lv_icmp_lt hexec hb hd ht (fun h => kt h H locs ls hH hS hl) (fun h => kf h H locs ls hH hS hl)
theorem z_if_ge (hx : zOk x cc own Ts l D cl tys) {x1 : Int32} {off : Int} {tgt : Nat} (hd : decode cc pc = .ok (.ifCond .ge off, 3)) (ht : (pc : Int) + off = (tgt : Int)) (kt : 0 ≤ x1 → zV x ad ce n i lv tgt st) (kf : ¬ 0 ≤ x1 → zV x ad ce n i lv (pc + 3) st) : zV x ad ce n i lv pc (.int x1 :: st) := by
  obtain ⟨⟨p, l0, e, R, s⟩, ⟨m, args, below, meth, c⟩, ⟨D0, cl0, tys0⟩, A, Q⟩ := x
  obtain ⟨hexec, hb, hown, hts0, hK, hA, hlocks, hZ, hE1, hE⟩ := hx
  cases hE1
  cases hE
  have hts := fun w (h : w ∈ Ts) => zT.at hts0 h args
  intro H locs ls hH hS hl
  exact lv_if_ge hexec hb hd ht (fun h => kt h H locs ls hH hS hl) (fun h => kf h H locs ls hH hS hl)
theorem z_icmp_ge (hx : zOk x cc own Ts l D cl tys) {x1 y1 : Int32} {off : Int} {tgt : Nat} (hd : decode cc pc = .ok (.if_icmp .ge off, 3)) (ht : (pc : Int) + off = (tgt : Int)) (kt : y1 ≤ x1 → zV x ad ce n i lv tgt st) (kf : ¬ y1 ≤ x1 → zV x ad ce n i lv (pc + 3) st) : zV x ad ce n i lv pc (.int y1 :: .int x1 :: st) := by
  obtain ⟨⟨p, l0, e, R, s⟩, ⟨m, args, below, meth, c⟩, ⟨D0, cl0, tys0⟩, A, Q⟩ := x
  obtain ⟨hexec, hb, hown, hts0, hK, hA, hlocks, hZ, hE1, hE⟩ := hx
  cases hE1
  cases hE
  have hts := fun w (h : w ∈ Ts) => zT.at hts0 h args
  intro H locs ls hH hS hl
  exact lv_icmp_ge hexec hb hd ht (fun h => kt h H locs ls hH hS hl) (fun h => kf h H locs ls hH hS hl)
theorem z_if_gt (hx : zOk x cc own Ts l D cl tys) {x1 : Int32} {off : Int} {tgt : Nat} (hd : decode cc pc = .ok (.ifCond .gt off, 3)) (ht : (pc : Int) + off = (tgt : Int)) (kt : 0 < x1 → zV x ad ce n i lv tgt st) (kf : ¬ 0 < x1 → zV x ad ce n i lv (pc + 3) st) : zV x ad ce n i lv pc (.int x1 :: st) := by
  obtain ⟨⟨p, l0, e, R, s⟩, ⟨m, args, below, meth, c⟩, ⟨D0, cl0, tys0⟩, A, Q⟩ := x
  obtain ⟨hexec, hb, hown, hts0, hK, hA, hlocks, hZ, hE1, hE⟩ := hx
  cases hE1
  cases hE
  have hts := fun w (h : w ∈ Ts) => zT.at hts0 h args
  intro H locs ls hH hS hl
  exact lv_if_gt hexec hb hd ht (fun h => kt h H locs ls hH hS hl) (fun h => kf h H locs ls hH hS hl)
theorem z_icmp_gt (hx : zOk x cc own Ts l D cl tys) {x1 y1 : Int32} {off : Int} {tgt : Nat} (hd : decode cc pc = .ok (.if_icmp .gt off, 3)) (ht : (pc : Int) + off = (tgt : Int)) (kt : y1 < x1 → zV x ad ce n i lv tgt st) (kf : ¬ y1 < x1 → zV x ad ce n i lv (pc + 3) st) : zV x ad ce n i lv pc (.int y1 :: .int x1 :: st) := by
  obtain ⟨⟨p, l0, e, R, s⟩, ⟨m, args, below, meth, c⟩, ⟨D0, cl0, tys0⟩, A, Q⟩ := x
  obtain ⟨hexec, hb, hown, hts0, hK, hA, hlocks, hZ, hE1, hE⟩ := hx
  cases hE1
  cases hE
  have hts := fun w (h : w ∈ Ts) => zT.at hts0 h args
  intro H locs ls hH hS hl
  exact lv_icmp_gt hexec hb hd ht (fun h => kt h H locs ls hH hS hl) (fun h => kf h H locs ls hH hS hl)
theorem z_if_le (hx : zOk x cc own Ts l D cl tys) {x1 : Int32} {off : Int} {tgt : Nat} (hd : decode cc pc = .ok (.ifCond .le off, 3)) (ht : (pc : Int) + off = (tgt : Int)) (kt : x1 ≤ 0 → zV x ad ce n i lv tgt st) (kf : ¬ x1 ≤ 0 → zV x ad ce n i lv (pc + 3) st) : zV x ad ce n i lv pc (.int x1 :: st) := by
  obtain ⟨⟨p, l0, e, R, s⟩, ⟨m, args, below, meth, c⟩, ⟨D0, cl0, tys0⟩, A, Q⟩ := x
  obtain ⟨hexec, hb, hown, hts0, hK, hA, hlocks, hZ, hE1, hE⟩ := hx
  cases hE1
  cases hE
  have hts := fun w (h : w ∈ Ts) => zT.at hts0 h args
  intro H locs ls hH hS hl
  exact lv_if_le hexec hb hd ht (fun h => kt h H locs ls hH hS hl) (fun h => kf h H locs ls hH hS hl)
theorem z_icmp_le (hx : zOk x cc own Ts l D cl tys) {x1 y1 : Int32} {off : Int} {tgt : Nat} (hd : decode cc pc = .ok (.if_icmp .le off, 3)) (ht : (pc : Int) + off = (tgt : Int)) (kt : x1 ≤ y1 → zV x ad ce n i lv tgt st) (kf : ¬ x1 ≤ y1 → zV x ad ce n i lv (pc + 3) st) : zV x ad ce n i lv pc (.int y1 :: .int x1 :: st) := by
  obtain ⟨⟨p, l0, e, R, s⟩, ⟨m, args, below, meth, c⟩, ⟨D0, cl0, tys0⟩, A, Q⟩ := x
  obtain ⟨hexec, hb, hown, hts0, hK, hA, hlocks, hZ, hE1, hE⟩ := hx
  cases hE1
  cases hE
  have hts := fun w (h : w ∈ Ts) => zT.at hts0 h args
  intro H locs ls hH hS hl
  exact lv_icmp_le hexec hb hd ht (fun h => kt h H locs ls hH hS hl) (fun h => kf h H locs ls hH hS hl)
theorem z_istore_n (hx : zOk x cc own Ts l D cl tys) {q : Fin 4} {j : Nat} {v : Int32} (lv' : List (Nat × Value)) (hd : decode cc pc = .ok (.istore_n q, 1)) (hj : (q : Nat) = j) (hn : j < x.2.1.2.2.2.2.maxLocals) (hl' : (j, Value.int v) :: lv.filter (fun q => !(q.1 == j) && !(q.1 + 1 == j && q.2.category == 2)) = lv') (k : zV x ad ce n i lv' (pc + 1) st) : zV x ad ce n i lv pc (Value.int v :: st) := by
  obtain ⟨⟨p, l0, e, R, s⟩, ⟨m, args, below, meth, c⟩, ⟨D0, cl0, tys0⟩, A, Q⟩ := x
  obtain ⟨hexec, hb, hown, hts0, hK, hA, hlocks, hZ, hE1, hE⟩ := hx
  cases hE1
  cases hE
  have hts := fun w (h : w ∈ Ts) => zT.at hts0 h args
  intro H locs ls hH hS hl
  exact lv_istore_n hexec hb hd hj hl hn hl' (fun ls' h' => k H locs ls' hH hS h')
theorem z_istore (hx : zOk x cc own Ts l D cl tys) {j : Nat} {v : Int32} (lv' : List (Nat × Value)) (hd : decode cc pc = .ok (.istore j, 2))  (hn : j < x.2.1.2.2.2.2.maxLocals) (hl' : (j, Value.int v) :: lv.filter (fun q => !(q.1 == j) && !(q.1 + 1 == j && q.2.category == 2)) = lv') (k : zV x ad ce n i lv' (pc + 2) st) : zV x ad ce n i lv pc (Value.int v :: st) := by
  obtain ⟨⟨p, l0, e, R, s⟩, ⟨m, args, below, meth, c⟩, ⟨D0, cl0, tys0⟩, A, Q⟩ := x
  obtain ⟨hexec, hb, hown, hts0, hK, hA, hlocks, hZ, hE1, hE⟩ := hx
  cases hE1
  cases hE
  have hts := fun w (h : w ∈ Ts) => zT.at hts0 h args
  intro H locs ls hH hS hl
  exact lv_istore hexec hb hd hl hn hl' (fun ls' h' => k H locs ls' hH hS h')
theorem z_lstore_n (hx : zOk x cc own Ts l D cl tys) {q : Fin 4} {j : Nat} {v : Int64} (lv' : List (Nat × Value)) (hd : decode cc pc = .ok (.lstore_n q, 1)) (hj : (q : Nat) = j) (hn : j + 1 < x.2.1.2.2.2.2.maxLocals) (hl' : (j, Value.long v) :: lv.filter (fun q => !(q.1 == j) && (!(q.1 == j + 1) && !(q.1 + 1 == j && q.2.category == 2))) = lv') (k : zV x ad ce n i lv' (pc + 1) st) : zV x ad ce n i lv pc (Value.long v :: st) := by
  obtain ⟨⟨p, l0, e, R, s⟩, ⟨m, args, below, meth, c⟩, ⟨D0, cl0, tys0⟩, A, Q⟩ := x
  obtain ⟨hexec, hb, hown, hts0, hK, hA, hlocks, hZ, hE1, hE⟩ := hx
  cases hE1
  cases hE
  have hts := fun w (h : w ∈ Ts) => zT.at hts0 h args
  intro H locs ls hH hS hl
  exact lv_lstore_n hexec hb hd hj hl hn hl' (fun ls' h' => k H locs ls' hH hS h')
theorem z_lstore (hx : zOk x cc own Ts l D cl tys) {j : Nat} {v : Int64} (lv' : List (Nat × Value)) (hd : decode cc pc = .ok (.lstore j, 2))  (hn : j + 1 < x.2.1.2.2.2.2.maxLocals) (hl' : (j, Value.long v) :: lv.filter (fun q => !(q.1 == j) && (!(q.1 == j + 1) && !(q.1 + 1 == j && q.2.category == 2))) = lv') (k : zV x ad ce n i lv' (pc + 2) st) : zV x ad ce n i lv pc (Value.long v :: st) := by
  obtain ⟨⟨p, l0, e, R, s⟩, ⟨m, args, below, meth, c⟩, ⟨D0, cl0, tys0⟩, A, Q⟩ := x
  obtain ⟨hexec, hb, hown, hts0, hK, hA, hlocks, hZ, hE1, hE⟩ := hx
  cases hE1
  cases hE
  have hts := fun w (h : w ∈ Ts) => zT.at hts0 h args
  intro H locs ls hH hS hl
  exact lv_lstore hexec hb hd hl hn hl' (fun ls' h' => k H locs ls' hH hS h')
theorem z_astore_n (hx : zOk x cc own Ts l D cl tys) {q : Fin 4} {j : Nat} {v : Nat} (lv' : List (Nat × Value)) (hd : decode cc pc = .ok (.astore_n q, 1)) (hj : (q : Nat) = j) (hn : j < x.2.1.2.2.2.2.maxLocals) (hl' : (j, Value.ref v) :: lv.filter (fun q => !(q.1 == j) && !(q.1 + 1 == j && q.2.category == 2)) = lv') (k : zV x ad ce n i lv' (pc + 1) st) : zV x ad ce n i lv pc (Value.ref v :: st) := by
  obtain ⟨⟨p, l0, e, R, s⟩, ⟨m, args, below, meth, c⟩, ⟨D0, cl0, tys0⟩, A, Q⟩ := x
  obtain ⟨hexec, hb, hown, hts0, hK, hA, hlocks, hZ, hE1, hE⟩ := hx
  cases hE1
  cases hE
  have hts := fun w (h : w ∈ Ts) => zT.at hts0 h args
  intro H locs ls hH hS hl
  exact lv_astore_n hexec hb hd hj hl hn hl' (fun ls' h' => k H locs ls' hH hS h')
theorem z_astore (hx : zOk x cc own Ts l D cl tys) {j : Nat} {v : Nat} (lv' : List (Nat × Value)) (hd : decode cc pc = .ok (.astore j, 2))  (hn : j < x.2.1.2.2.2.2.maxLocals) (hl' : (j, Value.ref v) :: lv.filter (fun q => !(q.1 == j) && !(q.1 + 1 == j && q.2.category == 2)) = lv') (k : zV x ad ce n i lv' (pc + 2) st) : zV x ad ce n i lv pc (Value.ref v :: st) := by
  obtain ⟨⟨p, l0, e, R, s⟩, ⟨m, args, below, meth, c⟩, ⟨D0, cl0, tys0⟩, A, Q⟩ := x
  obtain ⟨hexec, hb, hown, hts0, hK, hA, hlocks, hZ, hE1, hE⟩ := hx
  cases hE1
  cases hE
  have hts := fun w (h : w ∈ Ts) => zT.at hts0 h args
  intro H locs ls hH hS hl
  exact lv_astore hexec hb hd hl hn hl' (fun ls' h' => k H locs ls' hH hS h')
theorem z_iinc (hx : zOk x cc own Ts l D cl tys) {q : Int} {v : Int32} (j0 : Nat) {j : Nat} {x1 : Int32} (lv' : List (Nat × Value)) (hd : decode cc pc = .ok (.iinc j q, 3)) (hj : lv[j0]? = some (j, .int x1)) (hv : x1 + Int32.ofInt q = v) (hn : j < x.2.1.2.2.2.2.maxLocals) (hl' : (j, Value.int v) :: lv.filter (fun q => !(q.1 == j) && !(q.1 + 1 == j && q.2.category == 2)) = lv') (k : zV x ad ce n i lv' (pc + 3) st) : zV x ad ce n i lv pc st := by
  obtain ⟨⟨p, l0, e, R, s⟩, ⟨m, args, below, meth, c⟩, ⟨D0, cl0, tys0⟩, A, Q⟩ := x
  obtain ⟨hexec, hb, hown, hts0, hK, hA, hlocks, hZ, hE1, hE⟩ := hx
  cases hE1
  cases hE
  have hts := fun w (h : w ∈ Ts) => zT.at hts0 h args
  intro H locs ls hH hS hl
  exact lv_iinc hexec hb hd hl hj hv hn hl' (fun ls' h' => k H locs ls' hH hS h')
-- ===== fields =====
theorem z_get (hx : zOk x cc own Ts l D cl tys) {C : String} {T : u_T} {N ci index t : Nat} {ty : Nat → FieldType} {fs : List Value} {v : Value} (hc : zCl Ts cl ci C T N ty) (he : ce t = some (.inr (ci, fs))) (j : Nat) (hj : j < N) (hw : Cond.fieldLink own index (T j).1 (T j).2.1 (T j).2.2.1 ∈ Ts) (hv : fs[j]? = some v) (hd : decode cc pc = .ok (.getfield index, 3)) (k : zV x ad ce n i lv (pc + 3) (v :: st)) : zV x ad ce n i lv pc (.ref (ad t) :: st) := by
  obtain ⟨⟨p, l0, e, R, s⟩, ⟨m, args, below, meth, c⟩, ⟨D0, cl0, tys0⟩, A, Q⟩ := x
  obtain ⟨hexec, hb, hown, hts0, hK, hA, hlocks, hZ, hE1, hE⟩ := hx
  cases hE1
  cases hE
  have hts := fun w (h : w ∈ Ts) => zT.at hts0 h args
  intro H locs ls hH hS hl
  exact va_get hexec hb hts hc.2.1 hown hK (z_P1 (hH.1 _ _ he).1) 0 rfl hc.1 j hj (hts _ hw) (fun _ h => h) hv hd (k H locs ls hH hS hl)
theorem z_getN (hx : zOk x cc own Ts l D cl tys) {C host : String} {T : u_T} {N ci index t : Nat} {ty : Nat → FieldType} {fs : List Value} {v : Value} (hc : zCl Ts cl ci C T N ty) (he : ce t = some (.inr (ci, fs))) (j : Nat) (hj : j < N) (hw : Cond.fieldLinkNest own index (T j).1 (T j).2.1 (T j).2.2.1 host ∈ Ts) (hv : fs[j]? = some v) (hd : decode cc pc = .ok (.getfield index, 3)) (k : zV x ad ce n i lv (pc + 3) (v :: st)) : zV x ad ce n i lv pc (.ref (ad t) :: st) := by
  obtain ⟨⟨p, l0, e, R, s⟩, ⟨m, args, below, meth, c⟩, ⟨D0, cl0, tys0⟩, A, Q⟩ := x
  obtain ⟨hexec, hb, hown, hts0, hK, hA, hlocks, hZ, hE1, hE⟩ := hx
  cases hE1
  cases hE
  have hts := fun w (h : w ∈ Ts) => zT.at hts0 h args
  intro H locs ls hH hS hl
  exact va_getN hexec hb hts hc.2.1 hown hK (z_P1 (hH.1 _ _ he).1) 0 rfl hc.1 j hj (hts _ hw) (fun _ h => h) hv hd (k H locs ls hH hS hl)
/-- a write: the picture behind it is another 'ce1' that differs at the tag alone -/
theorem z_put (hx : zOk x cc own Ts l D cl tys) {C : String} {T : u_T} {N ci index t : Nat} {ty : Nat → FieldType} {fs : List Value} {v : Value} (hc : zCl Ts cl ci C T N ty) (he : ce t = some (.inr (ci, fs))) (j : Nat) (hj : j < N) (hw : Cond.fieldLink own index (T j).1 (T j).2.1 (T j).2.2.1 ∈ Ts) (hfin : (T j).2.2.2 = false) (hn : narrow (ty j) v = v) (hfit : fits (ty j) v = true) (hlen : j < fs.length) (hd : decode cc pc = .ok (.putfield index, 3)) {ce1 : zW} (hce : ∀ u, ce1 u = z_up ce t (.inr (ci, fs.set j v)) u) (k : zV x ad ce1 n i lv (pc + 3) st) : zV x ad ce n i lv pc (v :: .ref (ad t) :: st) := by
  obtain ⟨⟨p, l0, e, R, s⟩, ⟨m, args, below, meth, c⟩, ⟨D0, cl0, tys0⟩, A, Q⟩ := x
  obtain ⟨hexec, hb, hown, hts0, hK, hA, hlocks, hZ, hE1, hE⟩ := hx
  cases hE1
  cases hE
  have hts := fun w (h : w ∈ Ts) => zT.at hts0 h args
  intro H locs ls hH hS hl
  obtain ⟨hcl, hin, hty, hnm⟩ := hc
  have hap := va_apart (own := own) hts hin ty hty hnm hK hcl
  obtain ⟨⟨r, h1, cell, q1, q2, q3, q4⟩, hAt⟩ := hH.1 _ _ he
  have hr : r = (C, T, N) := Option.some.inj (h1.symm.trans hcl)
  subst hr
  obtain ⟨hSl, hfc, kC, hkC, hkind⟩ := hK.1 ci _ hcl
  obtain ⟨cf, kf, fi, f, hi, hsl⟩ := hSl j hj
  have hlay := hts _ (hin _ (u_in_lay hj))
  unfold u_lay at hlay
  rw [if_neg (by rw [hfin]; decide)] at hlay
  have hst := (u_facts hfc hkC (u_lays hts hin hj) hi).1
  have h6 := u_store hfc hkC hkind hlay hi (hty j hj) hn hfit
  refine W.putK hexec hb (f := f) ⟨hown, hts _ hw, ⟨_, _, _, hi⟩, hst⟩ (by rw [q2]; exact h6) q1 q3 (by rw [hsl]; exact k2_hasslot (q4 j hj)) rfl rfl hd fun H' e1 e2 e3 => ?_
  rw [hsl] at e1 ⊢
  exact k H' _ ls ((hH.set (e := .inr (ci, fs.set j v)) he ⟨_, hcl, t_OB.to (V := updV (vp_V fs) j v) ⟨_, e1, q2, q3, t_set q4 hap hj v⟩ (fun j' _ => vp_updV_set hlen v j')⟩ e3).cong hce) (hS.put e2 e3 hAt) hl
theorem z_putN (hx : zOk x cc own Ts l D cl tys) {C host : String} {T : u_T} {N ci index t : Nat} {ty : Nat → FieldType} {fs : List Value} {v : Value} (hc : zCl Ts cl ci C T N ty) (he : ce t = some (.inr (ci, fs))) (j : Nat) (hj : j < N) (hw : Cond.fieldLinkNest own index (T j).1 (T j).2.1 (T j).2.2.1 host ∈ Ts) (hfin : (T j).2.2.2 = false) (hn : narrow (ty j) v = v) (hfit : fits (ty j) v = true) (hlen : j < fs.length) (hd : decode cc pc = .ok (.putfield index, 3)) {ce1 : zW} (hce : ∀ u, ce1 u = z_up ce t (.inr (ci, fs.set j v)) u) (k : zV x ad ce1 n i lv (pc + 3) st) : zV x ad ce n i lv pc (v :: .ref (ad t) :: st) := by
  obtain ⟨⟨p, l0, e, R, s⟩, ⟨m, args, below, meth, c⟩, ⟨D0, cl0, tys0⟩, A, Q⟩ := x
  obtain ⟨hexec, hb, hown, hts0, hK, hA, hlocks, hZ, hE1, hE⟩ := hx
  cases hE1
  cases hE
  have hts := fun w (h : w ∈ Ts) => zT.at hts0 h args
  intro H locs ls hH hS hl
  obtain ⟨hcl, hin, hty, hnm⟩ := hc
  have hap := va_apart (own := own) hts hin ty hty hnm hK hcl
  obtain ⟨⟨r, h1, cell, q1, q2, q3, q4⟩, hAt⟩ := hH.1 _ _ he
  have hr : r = (C, T, N) := Option.some.inj (h1.symm.trans hcl)
  subst hr
  obtain ⟨hSl, hfc, kC, hkC, hkind⟩ := hK.1 ci _ hcl
  obtain ⟨cf, kf, fi, f, hi, hsl⟩ := hSl j hj
  have hlay := hts _ (hin _ (u_in_lay hj))
  unfold u_lay at hlay
  rw [if_neg (by rw [hfin]; decide)] at hlay
  have hst := (u_facts hfc hkC (u_lays hts hin hj) hi).1
  have h6 := u_store hfc hkC hkind hlay hi (hty j hj) hn hfit
  refine va_WputK hexec hb (f := f) hown (hts _ hw) hi hst (by rw [q2]; exact h6) q1 q3 (by rw [hsl]; exact k2_hasslot (q4 j hj)) rfl rfl hd fun H' e1 e2 e3 => ?_
  rw [hsl] at e1 ⊢
  exact k H' _ ls ((hH.set (e := .inr (ci, fs.set j v)) he ⟨_, hcl, t_OB.to (V := updV (vp_V fs) j v) ⟨_, e1, q2, q3, t_set q4 hap hj v⟩ (fun j' _ => vp_updV_set hlen v j')⟩ e3).cong hce) (hS.put e2 e3 hAt) hl
/-- a final field, in its own constructor -/
theorem z_putF (hx : zOk x cc own Ts l D cl tys) {C : String} {T : u_T} {N ci index t : Nat} {ty : Nat → FieldType} {fs : List Value} {v : Value} (hc : zCl Ts cl ci C T N ty) (he : ce t = some (.inr (ci, fs))) (j : Nat) (hj : j < N) (hw : Cond.fieldLink own index (T j).1 (T j).2.1 (T j).2.2.1 ∈ Ts) (hfin : (T j).2.2.2 = true) (hinit : (zmeth x).name = "<init>") (hdecl : (T j).1 = own) (hn : narrow (ty j) v = v) (hfit : fits (ty j) v = true) (hlen : j < fs.length) (hd : decode cc pc = .ok (.putfield index, 3)) {ce1 : zW} (hce : ∀ u, ce1 u = z_up ce t (.inr (ci, fs.set j v)) u) (k : zV x ad ce1 n i lv (pc + 3) st) : zV x ad ce n i lv pc (v :: .ref (ad t) :: st) := by
  obtain ⟨⟨p, l0, e, R, s⟩, ⟨m, args, below, meth, c⟩, ⟨D0, cl0, tys0⟩, A, Q⟩ := x
  obtain ⟨hexec, hb, hown, hts0, hK, hA, hlocks, hZ, hE1, hE⟩ := hx
  cases hE1
  cases hE
  have hts := fun w (h : w ∈ Ts) => zT.at hts0 h args
  intro H locs ls hH hS hl
  obtain ⟨hcl, hin, hty, hnm⟩ := hc
  have hap := va_apart (own := own) hts hin ty hty hnm hK hcl
  obtain ⟨⟨r, h1, cell, q1, q2, q3, q4⟩, hAt⟩ := hH.1 _ _ he
  have hr : r = (C, T, N) := Option.some.inj (h1.symm.trans hcl)
  subst hr
  obtain ⟨hSl, hfc, kC, hkC, hkind⟩ := hK.1 ci _ hcl
  obtain ⟨cf, kf, fi, f, hi, hsl⟩ := hSl j hj
  have hlay := hts _ (hin _ (u_in_lay hj))
  unfold u_lay at hlay
  rw [if_pos hfin] at hlay
  have hst := (u_facts hfc hkC (u_lays hts hin hj) hi).1
  have hcf : m.cls = cf := by
    obtain ⟨_, _, c', _, _, _, -, -, hf', -, -, -, hown2, -⟩ := Cond.laysFinal_spec hlay
    have e1 : c' = cf := by have := hi.symm.trans hf'; simp at this; exact this.1.symm
    rw [hdecl] at hown2
    rw [← e1]; exact Option.some.inj (hown.symm.trans hown2)
  have h6 := u_fits hfc hkC hkind (Or.inr hlay) hi (hty j hj) hn hfit
  refine W.putFinK hexec hb hown (hts _ hw) hi hst hcf hinit (by rw [q2]; exact h6) q1 q3 (by rw [hsl]; exact k2_hasslot (q4 j hj)) rfl rfl hd fun H' e1 e2 e3 => ?_
  rw [hsl] at e1 ⊢
  exact k H' _ ls ((hH.set (e := .inr (ci, fs.set j v)) he ⟨_, hcl, t_OB.to (V := updV (vp_V fs) j v) ⟨_, e1, q2, q3, t_set q4 hap hj v⟩ (fun j' _ => vp_updV_set hlen v j')⟩ e3).cong hce) (hS.put e2 e3 hAt) hl
-- ===== arrays =====
theorem z_iald (hx : zOk x cc own Ts l D cl tys) {cA : ClassId} {N t : Nat} {f : Nat → Int32} (t0 : Nat) (ht : tys[t0]? = some (cA, .int)) (he : ce t = some (.inl (cA, N, .inl f))) {j : Int32} (hin : vp_in j N) (hd : decode cc pc = .ok (.iaload, 1)) (k : zV x ad ce n i lv (pc + 1) (.int (f j.toNatClampNeg) :: st)) : zV x ad ce n i lv pc (.int j :: .ref (ad t) :: st) := by
  obtain ⟨⟨p, l0, e, R, s⟩, ⟨m, args, below, meth, c⟩, ⟨D0, cl0, tys0⟩, A, Q⟩ := x
  obtain ⟨hexec, hb, hown, hts0, hK, hA, hlocks, hZ, hE1, hE⟩ := hx
  cases hE1
  cases hE
  intro H locs ls hH hS hl
  exact va_iald hexec hb hK (z_P1 (hH.1 _ _ he).1) 0 t0 rfl ht hin hd (k H locs ls hH hS hl)
theorem z_lald (hx : zOk x cc own Ts l D cl tys) {cA : ClassId} {N t : Nat} {f : Nat → Int64} (t0 : Nat) (ht : tys[t0]? = some (cA, .long)) (he : ce t = some (.inl (cA, N, .inr (.inl f)))) {j : Int32} (hin : vp_in j N) (hd : decode cc pc = .ok (.laload, 1)) (k : zV x ad ce n i lv (pc + 1) (.long (f j.toNatClampNeg) :: st)) : zV x ad ce n i lv pc (.int j :: .ref (ad t) :: st) := by
  obtain ⟨⟨p, l0, e, R, s⟩, ⟨m, args, below, meth, c⟩, ⟨D0, cl0, tys0⟩, A, Q⟩ := x
  obtain ⟨hexec, hb, hown, hts0, hK, hA, hlocks, hZ, hE1, hE⟩ := hx
  cases hE1
  cases hE
  intro H locs ls hH hS hl
  exact va_lald hexec hb hK (z_P1 (hH.1 _ _ he).1) 0 t0 rfl ht hin hd (k H locs ls hH hS hl)
theorem z_zald (hx : zOk x cc own Ts l D cl tys) {cA : ClassId} {N t : Nat} {f : Nat → Int32} (t0 : Nat) (ht : tys[t0]? = some (cA, .boolean)) (he : ce t = some (.inl (cA, N, .inl f))) {j : Int32} (hin : vp_in j N) (hd : decode cc pc = .ok (.baload, 1)) (k : zV x ad ce n i lv (pc + 1) (.int (f j.toNatClampNeg) :: st)) : zV x ad ce n i lv pc (.int j :: .ref (ad t) :: st) := by
  obtain ⟨⟨p, l0, e, R, s⟩, ⟨m, args, below, meth, c⟩, ⟨D0, cl0, tys0⟩, A, Q⟩ := x
  obtain ⟨hexec, hb, hown, hts0, hK, hA, hlocks, hZ, hE1, hE⟩ := hx
  cases hE1
  cases hE
  intro H locs ls hH hS hl
  exact va_zald hexec hb hK (z_P1 (hH.1 _ _ he).1) 0 t0 rfl ht hin hd (k H locs ls hH hS hl)
theorem z_aald (hx : zOk x cc own Ts l D cl tys) {cA : ClassId} {C : String} {N t : Nat} {f : Nat → Option Nat} (t0 : Nat) (ht : tys[t0]? = some (cA, .object C)) (he : ce t = some (.inl (cA, N, .inr (.inr (.inr (.inr f)))))) {j : Int32} (hin : vp_in j N) (hd : decode cc pc = .ok (.aaload, 1)) (k : zV x ad ce n i lv (pc + 1) (va_rf (f j.toNatClampNeg) :: st)) : zV x ad ce n i lv pc (.int j :: .ref (ad t) :: st) := by
  obtain ⟨⟨p, l0, e, R, s⟩, ⟨m, args, below, meth, c⟩, ⟨D0, cl0, tys0⟩, A, Q⟩ := x
  obtain ⟨hexec, hb, hown, hts0, hK, hA, hlocks, hZ, hE1, hE⟩ := hx
  cases hE1
  cases hE
  intro H locs ls hH hS hl
  exact va_aldq hexec hb hK (z_P1 (hH.1 _ _ he).1) 0 t0 rfl ht hin hd (k H locs ls hH hS hl)
theorem z_alen (hx : zOk x cc own Ts l D cl tys) {cA : ClassId} {t : Nat} {a : vp_A} {ty : FieldType} (t0 : Nat) (ht : tys[t0]? = some (cA, ty)) (he : ce t = some (.inl (cA, a))) {v : Int32} (hv : Int32.ofNat a.1 = v) (hd : decode cc pc = .ok (.arraylength, 1)) (k : zV x ad ce n i lv (pc + 1) (.int v :: st)) : zV x ad ce n i lv pc (.ref (ad t) :: st) := by
  obtain ⟨⟨p, l0, e, R, s⟩, ⟨m, args, below, meth, c⟩, ⟨D0, cl0, tys0⟩, A, Q⟩ := x
  obtain ⟨hexec, hb, hown, hts0, hK, hA, hlocks, hZ, hE1, hE⟩ := hx
  cases hE1
  cases hE
  intro H locs ls hH hS hl
  exact va_alen hexec hb hK (z_P1 (hH.1 _ _ he).1) 0 t0 rfl ht hv hd (k H locs ls hH hS hl)
theorem z_iast (hx : zOk x cc own Ts l D cl tys) {cA : ClassId} {N t : Nat} {f : Nat → Int32} (t0 : Nat) (ht : tys[t0]? = some (cA, .int)) (he : ce t = some (.inl (cA, N, .inl f))) {j v : Int32} (hin : vp_in j N) (hd : decode cc pc = .ok (.iastore, 1)) {ce1 : zW} (hce : ∀ u, ce1 u = z_up ce t (.inl (cA, N, .inl (upd f j.toNatClampNeg v))) u) (k : zV x ad ce1 n i lv (pc + 1) st) : zV x ad ce n i lv pc (.int v :: .int j :: .ref (ad t) :: st) := by
  obtain ⟨⟨p, l0, e, R, s⟩, ⟨m, args, below, meth, c⟩, ⟨D0, cl0, tys0⟩, A, Q⟩ := x
  obtain ⟨hexec, hb, hown, hts0, hK, hA, hlocks, hZ, hE1, hE⟩ := hx
  cases hE1
  cases hE
  intro H locs ls hH hS hl
  obtain ⟨h1, hAt⟩ := hH.1 _ _ he
  refine W.iast hexec hb h1 ((hK.2 t0 _ ht).1 N (fun j => .int (f j))) (fun q => by cases q) (by show ¬ (j < 0 ∨ (arrV _ _ _).slots.size ≤ _); rw [arrV_size]; exact hin) rfl rfl hd fun H1 e z oq => ?_
  refine k H1 _ ls ((hH.set he ?_ oq).cong hce) (hS.put z oq hAt) hl
  show H1[ad t]? = some (vp_cell _ _)
  rw [e]
  rw [vp_cell_i, vp_cell_i, arrV_store]
  congr 2
  funext q
  by_cases hq : q = j.toNatClampNeg
  · subst hq
    simp [updV, upd]
  · simp [updV, upd, hq]
theorem z_last (hx : zOk x cc own Ts l D cl tys) {cA : ClassId} {N t : Nat} {f : Nat → Int64} (t0 : Nat) (ht : tys[t0]? = some (cA, .long)) (he : ce t = some (.inl (cA, N, .inr (.inl f)))) {j : Int32} {v : Int64} (hin : vp_in j N) (hd : decode cc pc = .ok (.lastore, 1)) {ce1 : zW} (hce : ∀ u, ce1 u = z_up ce t (.inl (cA, N, .inr (.inl (vp_updL f j.toNatClampNeg v)))) u) (k : zV x ad ce1 n i lv (pc + 1) st) : zV x ad ce n i lv pc (.long v :: .int j :: .ref (ad t) :: st) := by
  obtain ⟨⟨p, l0, e, R, s⟩, ⟨m, args, below, meth, c⟩, ⟨D0, cl0, tys0⟩, A, Q⟩ := x
  obtain ⟨hexec, hb, hown, hts0, hK, hA, hlocks, hZ, hE1, hE⟩ := hx
  cases hE1
  cases hE
  intro H locs ls hH hS hl
  obtain ⟨h1, hAt⟩ := hH.1 _ _ he
  refine W.last hexec hb h1 ((hK.2 t0 _ ht).1 N (fun j => .long (f j))) (fun q => by cases q) (by show ¬ (j < 0 ∨ (arrV _ _ _).slots.size ≤ _); rw [arrV_size]; exact hin) rfl rfl hd fun H1 e z oq => ?_
  refine k H1 _ ls ((hH.set he ?_ oq).cong hce) (hS.put z oq hAt) hl
  show H1[ad t]? = some (vp_cell _ _)
  rw [e]
  rw [vp_cell_l, vp_cell_l, arrV_store]
  congr 2
  funext q
  by_cases hq : q = j.toNatClampNeg
  · subst hq
    simp [updV, vp_updL]
  · simp [updV, vp_updL, hq]
theorem z_aast (hx : zOk x cc own Ts l D cl tys) {cA : ClassId} {C : String} {T : u_T} {N N' ci t u : Nat} {ty : Nat → FieldType} {f : Nat → Option Nat} {vs : List Value} (t0 : Nat) (hc : zCl Ts cl ci C T N' ty) (ht : tys[t0]? = some (cA, .object C)) (he : ce t = some (.inl (cA, N, .inr (.inr (.inr (.inr f)))))) (hu : ce u = some (.inr (ci, vs))) {j : Int32} (hin : vp_in j N) (hd : decode cc pc = .ok (.aastore, 1)) {ce1 : zW} (hce : ∀ w, ce1 w = z_up ce t (.inl (cA, N, .inr (.inr (.inr (.inr (va_up f j.toNatClampNeg (some (ad u)))))))) w) (k : zV x ad ce1 n i lv (pc + 1) st) : zV x ad ce n i lv pc (.ref (ad u) :: .int j :: .ref (ad t) :: st) := by
  obtain ⟨⟨p, l0, e, R, s⟩, ⟨m, args, below, meth, c⟩, ⟨D0, cl0, tys0⟩, A, Q⟩ := x
  obtain ⟨hexec, hb, hown, hts0, hK, hA, hlocks, hZ, hE1, hE⟩ := hx
  cases hE1
  cases hE
  intro H locs ls hH hS hl
  obtain ⟨h1, hAt⟩ := hH.1 _ _ he
  have hlt : j.toNatClampNeg < N := Nat.not_le.mp fun q => hin (Or.inr q)
  have h0 : ¬ j < 0 := fun q => hin (Or.inl q)
  obtain ⟨r', hr', cellV, g1, g2, g3, -⟩ := (hH.1 _ _ hu).1
  have hcls := (hK.1 ci _ hc.1).2
  obtain ⟨kA, comp, k1, k2, k3, -⟩ := (hK.2 t0 _ ht).2
  have hcomp : comp = D.1 ci := Option.some.inj (k3.symm.trans hcls.1)
  subst hcomp
  obtain ⟨kC, hkC, -⟩ := hcls.2
  refine W.aast hexec hb h1 (fun q h => by cases h) (fun h => by cases h) k1 k2 rfl hkC ⟨h0, by show _ < (arrV _ _ _).slots.size; rw [arrV_size]; exact hlt⟩ g1 (fun q h => by rw [g3] at h; cases h) (by rw [g2]; exact hkC) (by rw [g2]; exact va_assign hcls) rfl rfl hd fun H1 e z oq => ?_
  refine k H1 _ ls ((hH.set he ?_ oq).cong hce) (hS.put z oq hAt) hl
  show H1[ad t]? = some (vp_cell _ _)
  rw [e]
  rw [vp_cell_q, vp_cell_q, arrV_store]
  congr 2
  funext q
  by_cases hq : q = j.toNatClampNeg
  · subst hq
    simp [updV, va_up, va_rf]
  · simp [updV, va_up, hq]
-- ===== new cells =====
theorem z_newa (hx : zOk x cc own Ts l D cl tys) {atype : ArrayType} {ty : FieldType} (hty : newarray.typeOf atype = ty) (t0 : Nat) {cA : ClassId} (ht : tys[t0]? = some (cA, ty)) (hprim : "[" ++ ty.toString ≠ "" ∧ ∀ C, ty ≠ .object C) (hw : Cond.arrayClass ty ∈ Ts) {t : Nat} (hfree : ce t = none) {j : Int32} {N : Nat} {a0 : vp_A} (ha : ∀ cA : ClassId, vp_cell cA a0 = arrV cA N (fun _ => defaultValue ty)) (hj : ¬ j < 0) (hN : j.toNatClampNeg = N) (hbytes : N * componentBytes ty ≤ 536870912) (hcells : n + 1 ≤ (zRm x).cells) (hslots : i + N ≤ (zRm x).slots) (hd : decode cc pc = .ok (.newarray atype, 2))
    (k : ∀ q : Nat, zV x (va_up ad t q) (z_up ce t (.inl (cA, a0))) (n + 1) (i + N) lv (pc + 2) (.ref q :: st)) : zV x ad ce n i lv pc (.int j :: st) := by
  obtain ⟨⟨p, l0, e, R, s⟩, ⟨m, args, below, meth, c⟩, ⟨D0, cl0, tys0⟩, A, Q⟩ := x
  obtain ⟨hexec, hb, hown, hts0, hK, hA, hlocks, hZ, hE1, hE⟩ := hx
  cases hE1
  cases hE
  have hts := fun w (h : w ∈ Ts) => zT.at hts0 h args
  intro H locs ls hH hS hl
  subst hty
  refine va_newaK hexec hb (hts _ hw) rfl hd rfl hj hN hbytes hcells hslots rfl fun H1 cA1 e1 z1 o1 hAr hNm => ?_
  have hcA : cA1 = cA := by
    have h2 := (hK.2 t0 _ ht).2
    have h3 : s.vm.findClass ("[" ++ (newarray.typeOf atype).toString) = some cA := by
      cases atype <;> exact h2
    exact Option.some.inj (hNm.symm.trans h3)
  subst hcA
  refine k H.size H1 locs ls (hH.new hfree ?_ (hA _ hS.1) o1) ⟨Nat.le_trans hS.1 (by omega), fun x h1 h2 => (o1 x (Nat.lt_of_lt_of_le h1 hS.1)).trans (hS.2.1 x h1 h2), hS.2.2⟩ hl
  show H1[H.size]? = some (vp_cell _ _)
  rw [ha]
  exact e1
theorem z_newq (hx : zOk x cc own Ts l D cl tys) {C : String} {index : Nat} (t0 : Nat) {cA : ClassId} (ht : tys[t0]? = some (cA, .object C)) (hw : Cond.classLink own index C ∈ Ts) (hw2 : Cond.arrayOver (.object C) ∈ Ts) {t : Nat} (hfree : ce t = none) {j : Int32} {N : Nat} (hj : ¬ j < 0) (hN : j.toNatClampNeg = N) (hbytes : N * 4 ≤ 536870912) (hcells : n + 1 ≤ (zRm x).cells) (hslots : i + N ≤ (zRm x).slots) (hd : decode cc pc = .ok (.anewarray index, 3))
    (k : ∀ q : Nat, zV x (va_up ad t q) (z_up ce t (.inl (cA, N, .inr (.inr (.inr (.inr (fun _ => none))))))) (n + 1) (i + N) lv (pc + 3) (.ref q :: st)) : zV x ad ce n i lv pc (.int j :: st) := by
  obtain ⟨⟨p, l0, e, R, s⟩, ⟨m, args, below, meth, c⟩, ⟨D0, cl0, tys0⟩, A, Q⟩ := x
  obtain ⟨hexec, hb, hown, hts0, hK, hA, hlocks, hZ, hE1, hE⟩ := hx
  cases hE1
  cases hE
  have hts := fun w (h : w ∈ Ts) => zT.at hts0 h args
  intro H locs ls hH hS hl
  subst hN
  refine W.anew hexec hb hown (hts _ hw) (hts _ hw2) rfl hd rfl hj hbytes hcells hslots fun cA1 kA comp f1 f2 f3 f4 => ?_
  obtain ⟨kA', comp', -, -, -, g4⟩ := (hK.2 t0 _ ht).2
  have hcA : cA1 = cA := Option.some.inj (f1.symm.trans g4)
  subst hcA
  generalize hH1 : H.push ({ cls := cA1, slots := Array.replicate j.toNatClampNeg .null, vm := .none } : Cell) = H1
  have z1 : H1.size = H.size + 1 := by rw [← hH1, Array.size_push]
  have e1 : H1[H.size]? = some (arrV cA1 j.toNatClampNeg (fun _ => .null)) := by rw [← hH1, Array.getElem?_push_size, ← arrV_new]
  have o1 : ∀ q : Nat, q < H.size → H1[q]? = H[q]? := fun q hq => by rw [← hH1, Array.getElem?_push, if_neg (Nat.ne_of_lt hq)]
  refine k H.size H1 locs ls (hH.new hfree ?_ (hA _ hS.1) o1) ⟨Nat.le_trans hS.1 (by omega), fun x h1 h2 => (o1 x (Nat.lt_of_lt_of_le h1 hS.1)).trans (hS.2.1 x h1 h2), hS.2.2⟩ hl
  show H1[H.size]? = some (vp_cell _ _)
  rw [vp_cell_q]
  exact e1
theorem z_new (hx : zOk x cc own Ts l D cl tys) {C : String} {T : u_T} {N ci index t : Nat} {ty : Nat → FieldType} {fs : List Value} (hc : zCl Ts cl ci C T N ty) (hw : Cond.classLink own index C ∈ Ts) (hw2 : Cond.instantiable C N ∈ Ts) (hw3 : Cond.initialized C ∈ Ts) (hfree : ce t = none) (hfs : ∀ j, j < N → defaultValue (ty j) = vp_V fs j) (hcells : n + 1 ≤ (zRm x).cells) (hslots : i + N ≤ (zRm x).slots) (hd : decode cc pc = .ok (.new index, 3))
    (k : ∀ q : Nat, zV x (va_up ad t q) (z_up ce t (.inr (ci, fs))) (n + 1) (i + N) lv (pc + 3) (.ref q :: st)) : zV x ad ce n i lv pc st := by
  obtain ⟨⟨p, l0, e, R, s⟩, ⟨m, args, below, meth, c⟩, ⟨D0, cl0, tys0⟩, A, Q⟩ := x
  obtain ⟨hexec, hb, hown, hts0, hK, hA, hlocks, hZ, hE1, hE⟩ := hx
  cases hE1
  cases hE
  have hts := fun w (h : w ∈ Ts) => zT.at hts0 h args
  intro H locs ls hH hS hl
  have hKn := hK.1 ci _ hc.1
  refine W.newcK hexec hb hown (hts _ hw) (hts _ hw2) (hts _ hw3) rfl hd hcells hslots hKn.2.1 rfl fun H1 kC hkC e1 z1 o1 => ?_
  exact k H.size H1 locs ls (hH.new hfree ⟨_, hc.1, (u_born ty hts hc.2.1 hKn hkC e1 hc.2.2.1).to hfs⟩ (hA _ hS.1) o1) ⟨Nat.le_trans hS.1 (by omega), fun x h1 h2 => (o1 x (Nat.lt_of_lt_of_le h1 hS.1)).trans (hS.2.1 x h1 h2), hS.2.2⟩ hl
theorem z_objInit (hx : zOk x cc own Ts l D cl tys) {index q : Nat} (hw : Cond.methodLink own index objectInit ∈ Ts) (hw2 : Cond.instanceMethod objectInit ∈ Ts) (hw3 : Cond.code objectInit ⟨#[0xb1]⟩ 1 none ∈ Ts) (hR : 1 ≤ (zRm x).frames) (hR2 : (st.map fun v => v.category).sum + 12 ≤ (zRm x).locals) (hd : decode cc pc = .ok (.invokespecial index, 3)) (k : zV x ad ce n i lv (pc + 3) st) : zV x ad ce n i lv pc (.ref q :: st) := by
  obtain ⟨⟨p, l0, e, R, s⟩, ⟨m, args, below, meth, c⟩, ⟨D0, cl0, tys0⟩, A, Q⟩ := x
  obtain ⟨hexec, hb, hown, hts0, hK, hA, hlocks, hZ, hE1, hE⟩ := hx
  cases hE1
  cases hE
  have hts := fun w (h : w ∈ Ts) => zT.at hts0 h args
  intro H locs ls hH hS hl
  refine W.objInit hexec hb hown (hts _ hw) (hts _ hw2) (hts _ hw3) rfl hl.1 rfl hd hR ?_ (k H locs ls hH hS hl)
  show 2 * 0 + (st.map fun v => v.category).sum + (1 + 11) ≤ _
  show 2 * 0 + (st.map fun v => v.category).sum + (1 + 11) ≤ R.locals
  have : (st.map fun v => v.category).sum + 12 ≤ R.locals := hR2
  omega
end ZR
end
section
-- ===== contracts =====
/-- how a method came back: it answered, or it threw an exception of that class -/
def zIs (o : Outcome) (r : Option Value ⊕ String) (t : State) : Prop := match o, r with
  | .returned v, .inl w => v = w
  | .threw a, .inr E => ∃ cell : Cell, t.heap[a]? = some cell ∧ cell.vm.isStatics = false ∧ t.vm.findClass E = some cell.cls
  | _, _ => False
abbrev zQ : Type := (Option Value ⊕ String) → (Nat → Nat) → zW → Prop
def zBack (D : va_G) (cl : List vw_C) (A : Nat → Prop) (s : State) (mc ms : Nat) (post : zQ) (o : Outcome) (t : State) : Prop :=
  (∃ (r : Option Value ⊕ String) (ad : Nat → Nat) (ce : zW), zIs o r t ∧ post r ad ce ∧ z_H D cl A ad ce t.heap) ∧ va_F A s t ∧ s.WarmedH t.vm ∧ ∃ L, s.sameButNew ({ t with vm := s.vm } : State) L mc ms ∧ ∀ q ∈ L, A q.base
def zEnd (D : va_G) (cl : List vw_C) (A : Nat → Prop) (s : State) (below : List Frame) (mc ms : Nat) (post : zQ) : State → Prop := fun t =>
  ∃ o, t.status = .running ∧ Ended t below o ∧ zBack D cl A s mc ms post o t
def zPre (Ts : List Cond) (D : va_G) (cl : List vw_C) (tys : List (ClassId × FieldType)) (ad : Nat → Nat) (ce : zW) (U : State) : Prop :=
  zT Ts U ∧ va_K D cl tys U ∧ z_H D cl (zA ad ce U.heap.size) ad ce U.heap ∧ zS (zA ad ce U.heap.size) U U.heap
/-- A CONTRACT over tagged worlds: the method y (whose code the word cw tells), called with av in the world (ad, ce), comes back as 'post' says -/
def zC (l : Launch) (Ts : List Cond) (D : va_G) (cl : List vw_C) (tys : List (ClassId × FieldType)) (y : MethodName) (cw : Cond) (rm : Room) (av : List Value) (ad : Nat → Nat) (ce : zW) (post : zQ) : Prop :=
  MetFree l y (headSpec [cw] rm) (fun a U => a = av.toArray ∧ zPre Ts D cl tys ad ce U) (fun _ _ _ _ _ => True) (fun _ s o t => zBack D cl (zA ad ce s.heap.size) s rm.cells rm.slots post o t)
/-- what a walk that ends may go out with -/
def zRet (x : zX) (mc ms : Nat) (post : zQ) : Prop := ∀ t, zEnd x.2.2.1.1 x.2.2.1.2.1 x.2.2.2.1 x.1.2.2.2.2 x.2.1.2.2.1 mc ms post t → x.2.2.2.2 t
/-- no handler covers anything -/
def zNH (x : zX) : Prop := ∀ pc : Nat, ∀ z ∈ x.2.1.2.2.2.2.exceptionTable.toList, covers z pc = false
theorem zC.of {l : Launch} {Ts : List Cond} {D : va_G} {cl : List vw_C} {tys : List (ClassId × FieldType)} {y : MethodName} {cc : ByteArray} {maxL : Nat} {ret : Option FieldType} {rm : Room} {av : List Value} {ad : Nat → Nat} {ce : zW} {post : zQ}
    (hy : plainName y.cls = true) (hlen : (lg_sl av).length ≤ maxL)
    (body : ∀ x : zX, zOk x cc y.cls Ts l D cl tys → (zmeth x).sig.returnType = ret → (zcode x).maxLocals = maxL → (zmeth x).name = y.name → zRm x = rm → zRet x rm.cells rm.slots post → zNH x → zV x ad ce 0 0 (lv_args 0 av) 0 []) :
    zC l Ts D cl tys y (.code y cc maxL ret) rm av ad ce post := by
  refine MetFree.of_bodyS (code := cc) (maxLocals := maxL) (ret := ret) hy ?_ ?_
  · intro args s m h hn
    obtain ⟨meth, c, h1, h2, h3, h4, h5, h6, -, -⟩ := Cond.code_spec hn (atoms_spec (ws := [Cond.code y cc maxL ret]) h _ List.mem_cons_self)
    exact ⟨meth, c, h1, h2, h3, h4, h5, h6⟩
  · intro p e s m args below meth c s₁ B hml hP _
    obtain ⟨rfl, hT, hK, hH, hZ⟩ := hP
    have hcw : (Cond.code y cc maxL ret).before av.toArray s = true := atoms_spec (ws := [Cond.code y cc maxL ret]) B.pre _ List.mem_cons_self
    have hh0 : s₁.heap = s.heap := by rw [B.state]; rfl
    have hv := body ((p, l, e, rm, s), (m, av.toArray, below, meth, c), (D, cl, tys), zA ad ce s.heap.size, zEnd D cl (zA ad ce s.heap.size) s below rm.cells rm.slots post)
      ⟨B.exec, B.bytes, findClass_of_methodNamed B.named, hT, hK, fun q h => Or.inr h, B.notSynchronized, hZ, rfl, rfl⟩ B.returns hml (name_of_methodNamed B.named B.method).1 rfl (fun t h => h) (fun pc => covers_of_empty (B.noHandlers hcw) pc)
    have hl := lv_entry av (n := maxL) hlen
    have hw := hv s.heap [] ((lg_sl av ++ List.replicate (maxL - (lg_sl av).length) Slot.unset).toArray) hH va_S.rf (by show lv_has _ c.maxLocals _; rw [hml]; exact hl)
    rw [← lg_entry_eq] at hw
    obtain ⟨t, a1, o, b1, b2, b3⟩ := hw s₁ hh0 (Stand.of_body B)
    exact ⟨t, o, a1, b1, b2, b3⟩
section ZE
variable {x : zX} {cc : ByteArray} {own : String} {Ts : List Cond} {l : Launch} {D : va_G} {cl : List vw_C} {tys : List (ClassId × FieldType)} {ad : Nat → Nat} {ce : zW} {n i pc mc ms : Nat} {lv : List (Nat × Value)} {st : List Value} {post : zQ}
theorem W_mono {p : Program} {e : Env} {R : Room} {s : State} {m : MethodId} {args : Array Value} {below : List Frame} {meth : Method} {c : Code} {H : Heap} {locs : List Loc} {n i : Nat} {Q1 Q2 : State → Prop} {g : JFrame} (h : ∀ t, Q1 t → Q2 t) (k : W p l e R s m args below meth c H locs n i Q1 g) : W p l e R s m args below meth c H locs n i Q2 g := fun T hT X => by
  obtain ⟨t, a, b⟩ := k T hT X
  exact ⟨t, a, h t b⟩
theorem z_iret (hx : zOk x cc own Ts l D cl tys) {ty : FieldType} (hr : (zmeth x).sig.returnType = some ty) {v : Int32} (hn : narrow ty (.int v) = .int v) (hq : zRet x mc ms post) (h1 : n ≤ mc) (h2 : i ≤ ms) (hd : decode cc pc = .ok (.ireturn, 1)) (hp : post (.inl (some (.int v))) ad ce) : zV x ad ce n i lv pc [.int v] := by
  obtain ⟨⟨p, l0, e, R, s⟩, ⟨m, args, below, meth, c⟩, ⟨D0, cl0, tys0⟩, A, Q⟩ := x
  obtain ⟨hexec, hb, hown, hts0, hK, hA, hlocks, hZ, hE1, hE⟩ := hx
  cases hE1
  cases hE
  intro H locs ls hH hS hl
  refine W.widen h1 h2 ?_
  refine W_mono ?_ (W.zret (Qc := fun _ _ o t => o = .returned (some (.int v)) ∧ t.heap = H) (free := A) hexec hb hr hn (fun t ht _ => ⟨rfl, ht⟩) hS.2.2 hd hlocks)
  rintro t ⟨o, g1, g2, ⟨rfl, ht⟩, L, ⟨-, hW, hs⟩, hL⟩
  exact hq t ⟨_, g1, g2, ⟨.inl (some (.int v)), ad, ce, rfl, hp, by rw [ht]; exact hH⟩, hS.F ht, hW, L, hs, hL⟩
theorem z_lret (hx : zOk x cc own Ts l D cl tys) (hr : (zmeth x).sig.returnType = some .long) {v : Int64} (hq : zRet x mc ms post) (h1 : n ≤ mc) (h2 : i ≤ ms) (hd : decode cc pc = .ok (.lreturn, 1)) (hp : post (.inl (some (.long v))) ad ce) : zV x ad ce n i lv pc [.long v] := by
  obtain ⟨⟨p, l0, e, R, s⟩, ⟨m, args, below, meth, c⟩, ⟨D0, cl0, tys0⟩, A, Q⟩ := x
  obtain ⟨hexec, hb, hown, hts0, hK, hA, hlocks, hZ, hE1, hE⟩ := hx
  cases hE1
  cases hE
  intro H locs ls hH hS hl
  refine W.widen h1 h2 ?_
  refine W_mono ?_ (W.lret (Qc := fun _ _ o t => o = .returned (some (.long v)) ∧ t.heap = H) (free := A) hexec hb hr (fun t ht _ => ⟨rfl, ht⟩) hS.2.2 hd hlocks)
  rintro t ⟨o, g1, g2, ⟨rfl, ht⟩, L, ⟨-, hW, hs⟩, hL⟩
  exact hq t ⟨_, g1, g2, ⟨.inl (some (.long v)), ad, ce, rfl, hp, by rw [ht]; exact hH⟩, hS.F ht, hW, L, hs, hL⟩
theorem z_vret (hx : zOk x cc own Ts l D cl tys) (hr : (zmeth x).sig.returnType = none) (hq : zRet x mc ms post) (h1 : n ≤ mc) (h2 : i ≤ ms) (hd : decode cc pc = .ok (.return_, 1)) (hp : post (.inl (none)) ad ce) : zV x ad ce n i lv pc [] := by
  obtain ⟨⟨p, l0, e, R, s⟩, ⟨m, args, below, meth, c⟩, ⟨D0, cl0, tys0⟩, A, Q⟩ := x
  obtain ⟨hexec, hb, hown, hts0, hK, hA, hlocks, hZ, hE1, hE⟩ := hx
  cases hE1
  cases hE
  intro H locs ls hH hS hl
  refine W.widen h1 h2 ?_
  refine W_mono ?_ (W.vret (Qc := fun _ _ o t => o = .returned none ∧ t.heap = H) (free := A) hexec hb hr (fun t ht _ => ⟨rfl, ht⟩) hS.2.2 hd hlocks)
  rintro t ⟨o, g1, g2, ⟨rfl, ht⟩, L, ⟨-, hW, hs⟩, hL⟩
  exact hq t ⟨_, g1, g2, ⟨.inl (none), ad, ce, rfl, hp, by rw [ht]; exact hH⟩, hS.F ht, hW, L, hs, hL⟩
theorem z_aret (hx : zOk x cc own Ts l D cl tys) {rt : FieldType} (hr : (zmeth x).sig.returnType = some rt) (hrt : (∃ n, rt = .object n) ∨ ∃ t, rt = .array t) {q : Nat} (hq : zRet x mc ms post) (h1 : n ≤ mc) (h2 : i ≤ ms) (hd : decode cc pc = .ok (.areturn, 1)) (hp : post (.inl (some (.ref q))) ad ce) : zV x ad ce n i lv pc [.ref q] := by
  obtain ⟨⟨p, l0, e, R, s⟩, ⟨m, args, below, meth, c⟩, ⟨D0, cl0, tys0⟩, A, Q⟩ := x
  obtain ⟨hexec, hb, hown, hts0, hK, hA, hlocks, hZ, hE1, hE⟩ := hx
  cases hE1
  cases hE
  intro H locs ls hH hS hl
  refine W.widen h1 h2 ?_
  refine W_mono ?_ (W.aret (Qc := fun _ _ o t => o = .returned (some (.ref q)) ∧ t.heap = H) (free := A) hexec hb hr hrt (Or.inr ⟨q, rfl⟩) (fun t ht _ => ⟨rfl, ht⟩) hS.2.2 hd hlocks)
  rintro t ⟨o, g1, g2, ⟨rfl, ht⟩, L, ⟨-, hW, hs⟩, hL⟩
  exact hq t ⟨_, g1, g2, ⟨.inl (some (.ref q)), ad, ce, rfl, hp, by rw [ht]; exact hH⟩, hS.F ht, hW, L, hs, hL⟩
/-- where a call lands -/
def zLand (T : State) (g : JFrame) (len : Nat) (o : Outcome) : State := match o with
  | .returned v => T.setTop { g with pc := g.pc + len, stack := v.toList ++ g.stack }
  | .threw a => (T.setTop g).pushFrame (.throwing a)
theorem z_call {p : Program} {e : Env} {R : Room} {s : State} {m : MethodId} {args : Array Value} {below : List Frame} {meth : Method} {c : Code} {T : State} {locs : List Loc} {A : Nat → Prop} {y : MethodName} {cb : ByteArray} {maxL : Nat} {ret : Option FieldType} {rm : Room} {av : List Value} {post' : zQ}
    (X : Stand p l e R s m args below meth c T locs n i) (hT : zT Ts s) (hK : va_K D cl tys s) (hA : ∀ q, s.heap.size ≤ q → A q) (hZ : zS A s s.heap) (hH : z_H D cl A ad ce T.heap) (hS : va_S A s.heap T.heap locs)
    (hM : zC l Ts D cl tys y (.code y cb maxL ret) rm av ad ce post') (hw : Cond.code y cb maxL ret ∈ Ts) (hw2 : Cond.initialized y.cls ∈ Ts)
    {g : JFrame} (hg : g.method = m) (hsize : g.locals.size = c.maxLocals) {ig : Instr} {len : Nat} (hdg : decode c.code g.pc = .ok (ig, len)) {mk : MethodId} (hn : T.methodNamed? y = some mk)
    (hframes : rm.frames + 1 ≤ R.frames) (hlocals : 2 * g.monitorRoom + (g.stack.map fun v => v.category).sum + (maxL + 11) + rm.locals ≤ R.locals) (hcells : n + rm.cells ≤ R.cells) (hslots : i + rm.slots ≤ R.slots) :
    ∃ (o : Outcome) (T' : State) (L : List Loc) (r : Option Value ⊕ String) (ad' : Nat → Nat) (ce' : zW), Stand p l e R s m args below meth c T' (locs ++ L) (n + rm.cells) (i + rm.slots) ∧ va_S A s.heap T'.heap (locs ++ L) ∧ z_H D cl A ad' ce' T'.heap ∧ zIs o r T' ∧ post' r ad' ce' ∧
      ∀ acts, Steps p.tables e below (doInvoke e (T.setTop g) acts mk av.toArray).1 (zLand T' g len o) := by
  have hTU : zT Ts T := hT.on X.warmed
  have h2 : (Cond.code y cb maxL ret).before av.toArray T = true := hTU.at hw _
  have h3 : (Cond.initialized y.cls).before av.toArray T = true := hTU.at hw2 _
  obtain ⟨methY, cY, hmY, hcY, -, hlY, -, -, -, -⟩ := Cond.code_spec hn h2
  obtain ⟨kY, hkY, -⟩ := className_of_methodNamed hn
  have hinitY : kY.init = .initialized := Cond.initialized_spec (findClass_of_methodNamed hn) hkY h3
  have h : At T g.method c below := by rw [hg]; exact X.here
  have happ : (headSpec [Cond.code y cb maxL ret] rm).appliesLoose y e.platform (T.calling g mk av.toArray) = true :=
    Spec.appliesLoose_calling (g := g) h hdg hn hkY hinitY
      (X.room_calling (g := g) (R' := rm) hsize hmY hcY hframes (by rw [hlY]; exact hlocals) hcells hslots) (atoms_intro (ws := [Cond.code y cb maxL ret]) (fun w hw' => by rw [List.mem_singleton.mp hw']; exact h2))
  obtain ⟨mid, hmid⟩ := h.above
  have hfr : (T.setTop g).frames = (.java g :: mid) ++ below := by rw [State.frames_setTop' g h.top, hmid]; rfl
  have hAA : ∀ q, zA ad ce T.heap.size q → A q := by
    intro q hq
    rcases hq with ⟨u, f, hu, rfl⟩ | hq
    · exact (hH.1 u f hu).2
    · exact hA q (Nat.le_trans hS.1 hq)
  have hH' : z_H D cl (zA ad ce T.heap.size) ad ce T.heap := ⟨fun t f ht => ⟨(hH.1 t f ht).1, Or.inl ⟨t, f, ht, rfl⟩⟩, hH.2⟩
  have hP : zPre Ts D cl tys ad ce (T.calling g mk av.toArray) :=
    ⟨hT.on (U := T.calling g mk av.toArray) X.warmed, va_K.moved (U := T.calling g mk av.toArray) X.warmed.alike hK, hH',
      zS.on (U := T.calling g mk av.toArray) X.warmed.alike hZ hS.2.1 hAA⟩
  obtain ⟨o, s₂, hsteps, -, hend, hq⟩ := Steps.callFree hM p X.admits X.cas X.clock (acts := []) hfr happ ⟨rfl, hP⟩ trivial
  have hst : ∀ acts, Steps p.tables e below (doInvoke e (T.setTop g) acts mk av.toArray).1 s₂ := fun acts => by rw [doInvoke_state]; exact hsteps
  rw [State.frames_setTop' g h.top, X.tail] at hend
  obtain ⟨⟨r, ad', ce', hr, hp, hz⟩, hF, hW₂, L, hsame, hL⟩ := hq
  have hSn : ∀ H1 : Heap, H1 = s₂.heap → va_S A s.heap H1 (locs ++ L) := by
    rintro H1 rfl
    refine ⟨Nat.le_trans hS.1 hF.1, fun q h1 h2 => ?_, fun q hq => ?_⟩
    · have hlt : q < T.heap.size := Nat.lt_of_lt_of_le h1 hS.1
      exact (hF.2 q hlt (fun z => h2 (hAA q z))).trans (hS.2.1 q h1 h2)
    · rcases List.mem_append.mp hq with h | h
      · exact hS.2.2 q h
      · exact hAA _ (hL q h)
  cases o with
  | returned v =>
    obtain ⟨T', X', hW', -, ht⟩ := X.outOf hg hdg hend hW₂ hsame
    have hh : T'.heap = s₂.heap := by rw [ht]; rfl
    refine ⟨.returned v, T', L, r, ad', ce', X', hSn _ hh, by rw [hh]; exact hz.weaken hAA, ?_, hp, fun acts => by rw [show zLand T' g len (.returned v) = s₂ from ht.symm]; exact hst acts⟩
    cases r with
    | inl w => exact hr
    | inr E => exact hr.elim
  | threw a =>
    obtain ⟨T', X', hW', -, ht⟩ := X.outOfThrown hg hend hW₂ hsame
    have hh : T'.heap = s₂.heap := by rw [ht]; rfl
    have hv : T'.vm = s₂.vm := by rw [ht]; rfl
    refine ⟨.threw a, T', L, r, ad', ce', X', hSn _ hh, by rw [hh]; exact hz.weaken hAA, ?_, hp, fun acts => by rw [show zLand T' g len (.threw a) = s₂ from ht.symm]; exact hst acts⟩
    cases r with
    | inl w => exact hr.elim
    | inr E =>
      obtain ⟨cell, g1, g2, g3⟩ := hr
      exact ⟨cell, by rw [hh]; exact g1, g2, by rw [hv]; exact g3⟩
/-- the words of a call: the callee's code and class; that its name is plain and so many numbers go in -/
def zWc (Ts : List Cond) (y : MethodName) (cb : ByteArray) (maxL : Nat) (ret : Option FieldType) (na : Nat) (own : Cond) : Prop :=
  (own ∈ Ts) ∧ Cond.code y cb maxL ret ∈ Ts ∧ Cond.initialized y.cls ∈ Ts ∧ (y.cls ≠ "java/lang/invoke/MethodHandle" ∧ y.cls ≠ "java/lang/invoke/VarHandle") ∧ (∀ sig, parseMethodDescriptor y.desc = some sig → na = sig.parameters.length)
theorem z_invV (hx : zOk x cc own Ts l D cl tys) {index na t ci N : Nat} {y : MethodName} {cb : ByteArray} {maxL : Nat} {ret : Option FieldType} {rm : Room} {As : List Value} {post' : zQ} {T : u_T} {ty : Nat → FieldType} {fs : List Value} (hc : zCl Ts cl ci y.cls T N ty) (he : ce t = some (.inr (ci, fs)))
    (hM : zC l Ts D cl tys y (.code y cb maxL ret) rm (.ref (ad t) :: As) ad ce post') (hg : zWc Ts y cb maxL ret na (Cond.methodLink own index y)) (hi : Cond.instanceMethod y ∈ Ts) (hse : Cond.selects y.cls y y ∈ Ts) (hlen : As.length = na) {st0 : List Value} (hst0 : As.reverse ++ .ref (ad t) :: st = st0) (hd : decode cc pc = .ok (.invokevirtual index, 3))
    (hR : rm.frames + 1 ≤ (zRm x).frames ∧ (st.map fun v => v.category).sum + (maxL + 11) + rm.locals ≤ (zRm x).locals ∧ n + rm.cells ≤ (zRm x).cells ∧ i + rm.slots ≤ (zRm x).slots) (hq : zRet x mc ms post) (h1 : n + rm.cells ≤ mc) (h2 : i + rm.slots ≤ ms) (hNH : zNH x)
    (k : ∀ v ad' ce', post' (.inl v) ad' ce' → zV x ad' ce' (n + rm.cells) (i + rm.slots) lv (pc + 3) (v.toList ++ st)) (kt : ∀ E ad' ce', post' (.inr E) ad' ce' → post (.inr E) ad' ce') : zV x ad ce n i lv pc st0 := by
  obtain ⟨⟨p, l0, e, R, s⟩, ⟨m, args, below, meth, c⟩, ⟨D0, cl0, tys0⟩, A, Q⟩ := x
  obtain ⟨hexec, hb, hown, hts0, hK, hA, hlocks, hZ, hE1, hE⟩ := hx
  cases hE1
  cases hE
  have hts := fun w (h : w ∈ Ts) => zT.at hts0 h args
  intro H locs ls hH hS hl T hT X
  subst hT
  subst hb
  subst hst0
  obtain ⟨⟨r', hr', cellB, g1, g2, g3, -⟩, -⟩ := hH.1 _ _ he
  have hclB : s.vm.findClass y.cls = some cellB.cls := by rw [g2]; exact (hK.1 ci _ hc.1).2.1
  obtain ⟨mk, methM, hnamed, hmethM, hstM, habM⟩ := Cond.instanceMethod_spec (hts _ hi)
  obtain ⟨methM', cM, hmethM', -, -, -, -, -, -, hsigM⟩ := Cond.code_spec hnamed (hts _ hg.2.1)
  cases hmethM.symm.trans hmethM'
  obtain ⟨c2, r2, m2, q1, q2, q3, q4, kP, hkP, hkPi⟩ := Cond.selects_spec (hts _ hse)
  cases hclB.symm.trans q1
  cases (State.methodFound?_of_named hnamed hg.2.2.2.1).symm.trans q2
  cases hnamed.symm.trans q3
  have hselP : selectMethod e.platform s.vm cellB.cls mk = .method mk := by rw [Launch.admits_selectMethod X.admits]; exact q4
  obtain ⟨vm₁, X₁, hstep₁⟩ := X.invokevirtual hexec hown (hts _ hg.1) hnamed hmethM hstM hkP hkPi hg.2.2.2.1 (a := ad t) (cell := cellB) g1
    (fun z h => by rw [g3] at h; cases h) hselP hmethM habM hkP hkPi (g := F0 m pc ls (As.reverse ++ .ref (ad t) :: st)) rfl (argsL := As) (rest := st) (hlen.trans (hg.2.2.2.2 _ hsigM)) rfl hd
  obtain ⟨o, T', L, r, ad', ce', X', hS', hH', hr, hp, hst⟩ := z_call X₁ hts0 hK hA hZ (T := T.setVm vm₁) hH hS hM hg.2.1 hg.2.2.1 (g := F0 m pc ls st) rfl hl.1 hd (X₁.named hnamed) hR.1 (by show 2 * 0 + _ + _ + _ ≤ _; have := hR.2.1; simp only [Nat.mul_zero, Nat.zero_add]; exact this) hR.2.2.1 hR.2.2.2
  cases o with
  | returned v =>
    cases r with
    | inr E => exact hr.elim
    | inl w =>
      obtain rfl : v = w := hr
      obtain ⟨t2, a1, b1⟩ := k v ad' ce' hp T'.heap (locs ++ L) ls hH' hS' hl T' rfl X'
      exact ⟨t2, hstep₁ _ fun acts => (hst acts).trans a1, b1⟩
  | threw a =>
    cases r with
    | inl w => exact hr.elim
    | inr E =>
      have hlocks : meth.locks = false := hlocks
      obtain ⟨w1, w2, w3, w4, w5⟩ := (stand_widen X' h1 h2).leaveThrown a (g := F0 m pc ls st) rfl rfl rfl (hNH pc)
      obtain ⟨cell, g1, g2, g3⟩ := hr
      exact ⟨_, hstep₁ _ fun acts => (hst acts).trans w1, hq _ ⟨.threw a, w2, w3, ⟨.inr E, ad', ce', ⟨cell, g1, g2, g3⟩, kt E ad' ce' hp, hH'⟩, hS'.F rfl, w4, _, w5, hS'.2.2⟩⟩
theorem z_invVN (hx : zOk x cc own Ts l D cl tys) {host : String} {index na t ci N : Nat} {y : MethodName} {cb : ByteArray} {maxL : Nat} {ret : Option FieldType} {rm : Room} {As : List Value} {post' : zQ} {T : u_T} {ty : Nat → FieldType} {fs : List Value} (hc : zCl Ts cl ci y.cls T N ty) (he : ce t = some (.inr (ci, fs)))
    (hM : zC l Ts D cl tys y (.code y cb maxL ret) rm (.ref (ad t) :: As) ad ce post') (hg : zWc Ts y cb maxL ret na (Cond.methodLinkNest own index y host)) (hi : Cond.instanceMethod y ∈ Ts) (hse : Cond.selects y.cls y y ∈ Ts) (hlen : As.length = na) {st0 : List Value} (hst0 : As.reverse ++ .ref (ad t) :: st = st0) (hd : decode cc pc = .ok (.invokevirtual index, 3))
    (hR : rm.frames + 1 ≤ (zRm x).frames ∧ (st.map fun v => v.category).sum + (maxL + 11) + rm.locals ≤ (zRm x).locals ∧ n + rm.cells ≤ (zRm x).cells ∧ i + rm.slots ≤ (zRm x).slots) (hq : zRet x mc ms post) (h1 : n + rm.cells ≤ mc) (h2 : i + rm.slots ≤ ms) (hNH : zNH x)
    (k : ∀ v ad' ce', post' (.inl v) ad' ce' → zV x ad' ce' (n + rm.cells) (i + rm.slots) lv (pc + 3) (v.toList ++ st)) (kt : ∀ E ad' ce', post' (.inr E) ad' ce' → post (.inr E) ad' ce') : zV x ad ce n i lv pc st0 := by
  obtain ⟨⟨p, l0, e, R, s⟩, ⟨m, args, below, meth, c⟩, ⟨D0, cl0, tys0⟩, A, Q⟩ := x
  obtain ⟨hexec, hb, hown, hts0, hK, hA, hlocks, hZ, hE1, hE⟩ := hx
  cases hE1
  cases hE
  have hts := fun w (h : w ∈ Ts) => zT.at hts0 h args
  intro H locs ls hH hS hl T hT X
  subst hT
  subst hb
  subst hst0
  obtain ⟨⟨r', hr', cellB, g1, g2, g3, -⟩, -⟩ := hH.1 _ _ he
  have hclB : s.vm.findClass y.cls = some cellB.cls := by rw [g2]; exact (hK.1 ci _ hc.1).2.1
  obtain ⟨mk, methM, hnamed, hmethM, hstM, habM⟩ := Cond.instanceMethod_spec (hts _ hi)
  obtain ⟨methM', cM, hmethM', -, -, -, -, -, -, hsigM⟩ := Cond.code_spec hnamed (hts _ hg.2.1)
  cases hmethM.symm.trans hmethM'
  obtain ⟨c2, r2, m2, q1, q2, q3, q4, kP, hkP, hkPi⟩ := Cond.selects_spec (hts _ hse)
  cases hclB.symm.trans q1
  cases (State.methodFound?_of_named hnamed hg.2.2.2.1).symm.trans q2
  cases hnamed.symm.trans q3
  have hselP : selectMethod e.platform s.vm cellB.cls mk = .method mk := by rw [Launch.admits_selectMethod X.admits]; exact q4
  obtain ⟨vm₁, X₁, hstep₁⟩ := X.invokevirtualNest hexec hown (hts _ hg.1) hnamed hmethM hstM hkP hkPi hg.2.2.2.1 (a := ad t) (cell := cellB) g1
    (fun z h => by rw [g3] at h; cases h) hselP hmethM habM hkP hkPi (g := F0 m pc ls (As.reverse ++ .ref (ad t) :: st)) rfl (argsL := As) (rest := st) (hlen.trans (hg.2.2.2.2 _ hsigM)) rfl hd
  obtain ⟨o, T', L, r, ad', ce', X', hS', hH', hr, hp, hst⟩ := z_call X₁ hts0 hK hA hZ (T := T.setVm vm₁) hH hS hM hg.2.1 hg.2.2.1 (g := F0 m pc ls st) rfl hl.1 hd (X₁.named hnamed) hR.1 (by show 2 * 0 + _ + _ + _ ≤ _; have := hR.2.1; simp only [Nat.mul_zero, Nat.zero_add]; exact this) hR.2.2.1 hR.2.2.2
  cases o with
  | returned v =>
    cases r with
    | inr E => exact hr.elim
    | inl w =>
      obtain rfl : v = w := hr
      obtain ⟨t2, a1, b1⟩ := k v ad' ce' hp T'.heap (locs ++ L) ls hH' hS' hl T' rfl X'
      exact ⟨t2, hstep₁ _ fun acts => (hst acts).trans a1, b1⟩
  | threw a =>
    cases r with
    | inl w => exact hr.elim
    | inr E =>
      have hlocks : meth.locks = false := hlocks
      obtain ⟨w1, w2, w3, w4, w5⟩ := (stand_widen X' h1 h2).leaveThrown a (g := F0 m pc ls st) rfl rfl rfl (hNH pc)
      obtain ⟨cell, g1, g2, g3⟩ := hr
      exact ⟨_, hstep₁ _ fun acts => (hst acts).trans w1, hq _ ⟨.threw a, w2, w3, ⟨.inr E, ad', ce', ⟨cell, g1, g2, g3⟩, kt E ad' ce' hp, hH'⟩, hS'.F rfl, w4, _, w5, hS'.2.2⟩⟩
theorem z_invS (hx : zOk x cc own Ts l D cl tys) {index na : Nat} {y : MethodName} {cb : ByteArray} {maxL : Nat} {ret : Option FieldType} {rm : Room} {As : List Value} {post' : zQ}
    (hM : zC l Ts D cl tys y (.code y cb maxL ret) rm As ad ce post') (hg : zWc Ts y cb maxL ret na (Cond.methodLink own index y)) (hi : Cond.static y ∈ Ts) (hlen : As.length = na) {st0 : List Value} (hst0 : As.reverse ++ st = st0) (hd : decode cc pc = .ok (.invokestatic index, 3))
    (hR : rm.frames + 1 ≤ (zRm x).frames ∧ (st.map fun v => v.category).sum + (maxL + 11) + rm.locals ≤ (zRm x).locals ∧ n + rm.cells ≤ (zRm x).cells ∧ i + rm.slots ≤ (zRm x).slots) (hq : zRet x mc ms post) (h1 : n + rm.cells ≤ mc) (h2 : i + rm.slots ≤ ms) (hNH : zNH x)
    (k : ∀ v ad' ce', post' (.inl v) ad' ce' → zV x ad' ce' (n + rm.cells) (i + rm.slots) lv (pc + 3) (v.toList ++ st)) (kt : ∀ E ad' ce', post' (.inr E) ad' ce' → post (.inr E) ad' ce') : zV x ad ce n i lv pc st0 := by
  obtain ⟨⟨p, l0, e, R, s⟩, ⟨m, args, below, meth, c⟩, ⟨D0, cl0, tys0⟩, A, Q⟩ := x
  obtain ⟨hexec, hb, hown, hts0, hK, hA, hlocks, hZ, hE1, hE⟩ := hx
  cases hE1
  cases hE
  have hts := fun w (h : w ∈ Ts) => zT.at hts0 h args
  intro H locs ls hH hS hl T hT X
  subst hT
  subst hb
  subst hst0
  obtain ⟨mk, hnamed⟩ := Cond.code_named (hts _ hg.2.1)
  obtain ⟨methM, cM, hmethM, -, -, -, -, -, -, hsigM⟩ := Cond.code_spec hnamed (hts _ hg.2.1)
  have hstatic : methM.isStatic = true := Cond.static_spec hnamed hmethM (hts _ hi)
  obtain ⟨kP, hkP, -⟩ := className_of_methodNamed hnamed
  have hinitP : kP.init = .initialized := Cond.initialized_spec (findClass_of_methodNamed hnamed) hkP (hts _ hg.2.2.1)
  obtain ⟨vm₁, X₁, hstep₁⟩ := X.invokestatic hexec hown (hts _ hg.1) hnamed hmethM hstatic hkP hinitP hg.2.2.2.1 (g := F0 m pc ls (As.reverse ++ st)) rfl (argsL := As) (rest := st) (hlen.trans (hg.2.2.2.2 _ hsigM)) rfl hd
  obtain ⟨o, T', L, r, ad', ce', X', hS', hH', hr, hp, hst⟩ := z_call X₁ hts0 hK hA hZ (T := T.setVm vm₁) hH hS hM hg.2.1 hg.2.2.1 (g := F0 m pc ls st) rfl hl.1 hd (X₁.named hnamed) hR.1 (by show 2 * 0 + _ + _ + _ ≤ _; have := hR.2.1; simp only [Nat.mul_zero, Nat.zero_add]; exact this) hR.2.2.1 hR.2.2.2
  cases o with
  | returned v =>
    cases r with
    | inr E => exact hr.elim
    | inl w =>
      obtain rfl : v = w := hr
      obtain ⟨t2, a1, b1⟩ := k v ad' ce' hp T'.heap (locs ++ L) ls hH' hS' hl T' rfl X'
      exact ⟨t2, hstep₁ _ fun acts => (hst acts).trans a1, b1⟩
  | threw a =>
    cases r with
    | inl w => exact hr.elim
    | inr E =>
      have hlocks : meth.locks = false := hlocks
      obtain ⟨w1, w2, w3, w4, w5⟩ := (stand_widen X' h1 h2).leaveThrown a (g := F0 m pc ls st) rfl rfl rfl (hNH pc)
      obtain ⟨cell, g1, g2, g3⟩ := hr
      exact ⟨_, hstep₁ _ fun acts => (hst acts).trans w1, hq _ ⟨.threw a, w2, w3, ⟨.inr E, ad', ce', ⟨cell, g1, g2, g3⟩, kt E ad' ce' hp, hH'⟩, hS'.F rfl, w4, _, w5, hS'.2.2⟩⟩
theorem z_invSN (hx : zOk x cc own Ts l D cl tys) {host : String} {index na : Nat} {y : MethodName} {cb : ByteArray} {maxL : Nat} {ret : Option FieldType} {rm : Room} {As : List Value} {post' : zQ}
    (hM : zC l Ts D cl tys y (.code y cb maxL ret) rm As ad ce post') (hg : zWc Ts y cb maxL ret na (Cond.methodLinkNest own index y host)) (hi : Cond.static y ∈ Ts) (hlen : As.length = na) {st0 : List Value} (hst0 : As.reverse ++ st = st0) (hd : decode cc pc = .ok (.invokestatic index, 3))
    (hR : rm.frames + 1 ≤ (zRm x).frames ∧ (st.map fun v => v.category).sum + (maxL + 11) + rm.locals ≤ (zRm x).locals ∧ n + rm.cells ≤ (zRm x).cells ∧ i + rm.slots ≤ (zRm x).slots) (hq : zRet x mc ms post) (h1 : n + rm.cells ≤ mc) (h2 : i + rm.slots ≤ ms) (hNH : zNH x)
    (k : ∀ v ad' ce', post' (.inl v) ad' ce' → zV x ad' ce' (n + rm.cells) (i + rm.slots) lv (pc + 3) (v.toList ++ st)) (kt : ∀ E ad' ce', post' (.inr E) ad' ce' → post (.inr E) ad' ce') : zV x ad ce n i lv pc st0 := by
  obtain ⟨⟨p, l0, e, R, s⟩, ⟨m, args, below, meth, c⟩, ⟨D0, cl0, tys0⟩, A, Q⟩ := x
  obtain ⟨hexec, hb, hown, hts0, hK, hA, hlocks, hZ, hE1, hE⟩ := hx
  cases hE1
  cases hE
  have hts := fun w (h : w ∈ Ts) => zT.at hts0 h args
  intro H locs ls hH hS hl T hT X
  subst hT
  subst hb
  subst hst0
  obtain ⟨mk, hnamed⟩ := Cond.code_named (hts _ hg.2.1)
  obtain ⟨methM, cM, hmethM, -, -, -, -, -, -, hsigM⟩ := Cond.code_spec hnamed (hts _ hg.2.1)
  have hstatic : methM.isStatic = true := Cond.static_spec hnamed hmethM (hts _ hi)
  obtain ⟨kP, hkP, -⟩ := className_of_methodNamed hnamed
  have hinitP : kP.init = .initialized := Cond.initialized_spec (findClass_of_methodNamed hnamed) hkP (hts _ hg.2.2.1)
  obtain ⟨vm₁, X₁, hstep₁⟩ := X.invokestaticNest hexec hown (hts _ hg.1) hnamed hmethM hstatic hkP hinitP hg.2.2.2.1 (g := F0 m pc ls (As.reverse ++ st)) rfl (argsL := As) (rest := st) (hlen.trans (hg.2.2.2.2 _ hsigM)) rfl hd
  obtain ⟨o, T', L, r, ad', ce', X', hS', hH', hr, hp, hst⟩ := z_call X₁ hts0 hK hA hZ (T := T.setVm vm₁) hH hS hM hg.2.1 hg.2.2.1 (g := F0 m pc ls st) rfl hl.1 hd (X₁.named hnamed) hR.1 (by show 2 * 0 + _ + _ + _ ≤ _; have := hR.2.1; simp only [Nat.mul_zero, Nat.zero_add]; exact this) hR.2.2.1 hR.2.2.2
  cases o with
  | returned v =>
    cases r with
    | inr E => exact hr.elim
    | inl w =>
      obtain rfl : v = w := hr
      obtain ⟨t2, a1, b1⟩ := k v ad' ce' hp T'.heap (locs ++ L) ls hH' hS' hl T' rfl X'
      exact ⟨t2, hstep₁ _ fun acts => (hst acts).trans a1, b1⟩
  | threw a =>
    cases r with
    | inl w => exact hr.elim
    | inr E =>
      have hlocks : meth.locks = false := hlocks
      obtain ⟨w1, w2, w3, w4, w5⟩ := (stand_widen X' h1 h2).leaveThrown a (g := F0 m pc ls st) rfl rfl rfl (hNH pc)
      obtain ⟨cell, g1, g2, g3⟩ := hr
      exact ⟨_, hstep₁ _ fun acts => (hst acts).trans w1, hq _ ⟨.threw a, w2, w3, ⟨.inr E, ad', ce', ⟨cell, g1, g2, g3⟩, kt E ad' ce' hp, hH'⟩, hS'.F rfl, w4, _, w5, hS'.2.2⟩⟩
theorem z_invI (hx : zOk x cc own Ts l D cl tys) {index na q : Nat} {y : MethodName} {cb : ByteArray} {maxL : Nat} {rm : Room} {As : List Value} {post' : zQ}
    (hM : zC l Ts D cl tys y (.code y cb maxL none) rm (.ref q :: As) ad ce post') (hg : zWc Ts y cb maxL none na (Cond.methodLink own index y)) (hi : Cond.instanceMethod y ∈ Ts) (hy1 : y.name = "<init>") (hlen : As.length = na) {st0 : List Value} (hst0 : As.reverse ++ .ref q :: st = st0) (hd : decode cc pc = .ok (.invokespecial index, 3))
    (hR : rm.frames + 1 ≤ (zRm x).frames ∧ (st.map fun v => v.category).sum + (maxL + 11) + rm.locals ≤ (zRm x).locals ∧ n + rm.cells ≤ (zRm x).cells ∧ i + rm.slots ≤ (zRm x).slots) (hq : zRet x mc ms post) (h1 : n + rm.cells ≤ mc) (h2 : i + rm.slots ≤ ms) (hNH : zNH x)
    (k : ∀ v ad' ce', post' (.inl v) ad' ce' → zV x ad' ce' (n + rm.cells) (i + rm.slots) lv (pc + 3) (v.toList ++ st)) (kt : ∀ E ad' ce', post' (.inr E) ad' ce' → post (.inr E) ad' ce') : zV x ad ce n i lv pc st0 := by
  obtain ⟨⟨p, l0, e, R, s⟩, ⟨m, args, below, meth, c⟩, ⟨D0, cl0, tys0⟩, A, Q⟩ := x
  obtain ⟨hexec, hb, hown, hts0, hK, hA, hlocks, hZ, hE1, hE⟩ := hx
  cases hE1
  cases hE
  have hts := fun w (h : w ∈ Ts) => zT.at hts0 h args
  intro H locs ls hH hS hl T hT X
  subst hT
  subst hb
  subst hst0
  have hpl : e.platform.magicAccessors = ({} : Platform).magicAccessors := by rw [X.admits.platform]
  obtain ⟨mk, methM, cM, kP, vm₁, hnamed, hmethM, hcodeM, -, hlocalsM, -, hkP, -, hW₁, hstep₁⟩ := Steps.initColdArgs (e := e) X.here hexec X.warmed hpl hown hy1 hg.2.2.2.1 (hts _ hg.1) (hts _ hi) (hts _ hg.2.1) (f := F0 m pc ls (As.reverse ++ .ref q :: st)) rfl (fun sig h => hlen.trans (hg.2.2.2.2 _ h)) rfl hd
  have X₁ := X.noted hW₁
  obtain ⟨o, T', L, r, ad', ce', X', hS', hH', hr, hp, hst⟩ := z_call X₁ hts0 hK hA hZ (T := T.setVm vm₁) hH hS hM hg.2.1 hg.2.2.1 (g := F0 m pc ls st) rfl hl.1 hd (X₁.named hnamed) hR.1 (by show 2 * 0 + _ + _ + _ ≤ _; have := hR.2.1; simp only [Nat.mul_zero, Nat.zero_add]; exact this) hR.2.2.1 hR.2.2.2
  cases o with
  | returned v =>
    cases r with
    | inr E => exact hr.elim
    | inl w =>
      obtain rfl : v = w := hr
      obtain ⟨t2, a1, b1⟩ := k v ad' ce' hp T'.heap (locs ++ L) ls hH' hS' hl T' rfl X'
      exact ⟨t2, hstep₁ _ fun acts => (hst acts).trans a1, b1⟩
  | threw a =>
    cases r with
    | inl w => exact hr.elim
    | inr E =>
      have hlocks : meth.locks = false := hlocks
      obtain ⟨w1, w2, w3, w4, w5⟩ := (stand_widen X' h1 h2).leaveThrown a (g := F0 m pc ls st) rfl rfl rfl (hNH pc)
      obtain ⟨cell, g1, g2, g3⟩ := hr
      exact ⟨_, hstep₁ _ fun acts => (hst acts).trans w1, hq _ ⟨.threw a, w2, w3, ⟨.inr E, ad', ce', ⟨cell, g1, g2, g3⟩, kt E ad' ce' hp, hH'⟩, hS'.F rfl, w4, _, w5, hS'.2.2⟩⟩
theorem z_invIN (hx : zOk x cc own Ts l D cl tys) {host : String} {index na q : Nat} {y : MethodName} {cb : ByteArray} {maxL : Nat} {rm : Room} {As : List Value} {post' : zQ}
    (hM : zC l Ts D cl tys y (.code y cb maxL none) rm (.ref q :: As) ad ce post') (hg : zWc Ts y cb maxL none na (Cond.methodLinkNest own index y host)) (hi : Cond.instanceMethod y ∈ Ts) (hy1 : y.name = "<init>") (hlen : As.length = na) {st0 : List Value} (hst0 : As.reverse ++ .ref q :: st = st0) (hd : decode cc pc = .ok (.invokespecial index, 3))
    (hR : rm.frames + 1 ≤ (zRm x).frames ∧ (st.map fun v => v.category).sum + (maxL + 11) + rm.locals ≤ (zRm x).locals ∧ n + rm.cells ≤ (zRm x).cells ∧ i + rm.slots ≤ (zRm x).slots) (hq : zRet x mc ms post) (h1 : n + rm.cells ≤ mc) (h2 : i + rm.slots ≤ ms) (hNH : zNH x)
    (k : ∀ v ad' ce', post' (.inl v) ad' ce' → zV x ad' ce' (n + rm.cells) (i + rm.slots) lv (pc + 3) (v.toList ++ st)) (kt : ∀ E ad' ce', post' (.inr E) ad' ce' → post (.inr E) ad' ce') : zV x ad ce n i lv pc st0 := by
  obtain ⟨⟨p, l0, e, R, s⟩, ⟨m, args, below, meth, c⟩, ⟨D0, cl0, tys0⟩, A, Q⟩ := x
  obtain ⟨hexec, hb, hown, hts0, hK, hA, hlocks, hZ, hE1, hE⟩ := hx
  cases hE1
  cases hE
  have hts := fun w (h : w ∈ Ts) => zT.at hts0 h args
  intro H locs ls hH hS hl T hT X
  subst hT
  subst hb
  subst hst0
  have hpl : e.platform.magicAccessors = ({} : Platform).magicAccessors := by rw [X.admits.platform]
  obtain ⟨mk, methM, cM, kP, vm₁, hnamed, hmethM, hcodeM, -, hlocalsM, -, hkP, -, hW₁, hstep₁⟩ := Steps.initColdArgsNest (e := e) X.here hexec X.warmed hpl hown hy1 hg.2.2.2.1 (hts _ hg.1) (hts _ hi) (hts _ hg.2.1) (f := F0 m pc ls (As.reverse ++ .ref q :: st)) rfl (fun sig h => hlen.trans (hg.2.2.2.2 _ h)) rfl hd
  have X₁ := X.noted hW₁
  obtain ⟨o, T', L, r, ad', ce', X', hS', hH', hr, hp, hst⟩ := z_call X₁ hts0 hK hA hZ (T := T.setVm vm₁) hH hS hM hg.2.1 hg.2.2.1 (g := F0 m pc ls st) rfl hl.1 hd (X₁.named hnamed) hR.1 (by show 2 * 0 + _ + _ + _ ≤ _; have := hR.2.1; simp only [Nat.mul_zero, Nat.zero_add]; exact this) hR.2.2.1 hR.2.2.2
  cases o with
  | returned v =>
    cases r with
    | inr E => exact hr.elim
    | inl w =>
      obtain rfl : v = w := hr
      obtain ⟨t2, a1, b1⟩ := k v ad' ce' hp T'.heap (locs ++ L) ls hH' hS' hl T' rfl X'
      exact ⟨t2, hstep₁ _ fun acts => (hst acts).trans a1, b1⟩
  | threw a =>
    cases r with
    | inl w => exact hr.elim
    | inr E =>
      have hlocks : meth.locks = false := hlocks
      obtain ⟨w1, w2, w3, w4, w5⟩ := (stand_widen X' h1 h2).leaveThrown a (g := F0 m pc ls st) rfl rfl rfl (hNH pc)
      obtain ⟨cell, g1, g2, g3⟩ := hr
      exact ⟨_, hstep₁ _ fun acts => (hst acts).trans w1, hq _ ⟨.threw a, w2, w3, ⟨.inr E, ad', ce', ⟨cell, g1, g2, g3⟩, kt E ad' ce' hp, hH'⟩, hS'.F rfl, w4, _, w5, hS'.2.2⟩⟩
end ZE
end
section
-- ===== throwing and catching =====
section ZT
variable {x : zX} {cc : ByteArray} {own : String} {Ts : List Cond} {l : Launch} {D : va_G} {cl : List vw_C} {tys : List (ClassId × FieldType)} {ad : Nat → Nat} {ce : zW} {n i pc mc ms : Nat} {lv : List (Nat × Value)} {st : List Value} {post : zQ}
/-- the words of 'throw new E()' at a place: link of the name, of the constructor, the chain above -/
def zWt (Ts : List Cond) (own : String) (ik ic : Nat) (E : String) : Prop := Bundle.fit E = true ∧ Cond.classLink own ik E ∈ Ts ∧ Cond.initialized E ∈ Ts ∧ (∀ w ∈ vx_at0 own ic E ["java/lang/RuntimeException", "java/lang/Exception"], w ∈ Ts) ∧ (∀ w ∈ Cond.classLink own ik E :: Cond.initialized E :: vx_at0 own ic E ["java/lang/RuntimeException", "java/lang/Exception"], vx_ot w = true)
theorem z_throw (hx : zOk x cc own Ts l D cl tys) (htr : l.stackTraces = false) {E : String} {ik ic : Nat} (hw : zWt Ts own ik ic E) (hq : zRet x mc ms post) (h1 : n + 1 ≤ mc) (h2 : i + 6 ≤ ms) (hNH : zNH x) (hR : 5 < (zRm x).frames ∧ (st.map fun v => v.category).sum + 81 ≤ (zRm x).locals ∧ n + 1 ≤ (zRm x).cells ∧ i + 6 ≤ (zRm x).slots)
    (d0 : decode cc pc = .ok (.new ik, 3)) (d3 : decode cc (pc + 3) = .ok (.dup, 1)) (d4 : decode cc (pc + 4) = .ok (.invokespecial ic, 3)) (d7 : decode cc (pc + 7) = .ok (.athrow, 1)) (hp : post (.inr E) ad ce) : zV x ad ce n i lv pc st := by
  obtain ⟨⟨p, l0, e, R, s⟩, ⟨m, args, below, meth, c⟩, ⟨D0, cl0, tys0⟩, A, Q⟩ := x
  obtain ⟨hexec, hb, hown, hts0, hK, hA, hlocks, hZ, hE1, hE⟩ := hx
  cases hE1
  cases hE
  have hts := fun w (h : w ∈ Ts) => zT.at hts0 h args
  intro H locs ls hH hS hl
  refine W_mono ?_ (vx_throw0 (Qc := fun _ _ _ _ => False) (XC := fun E' s' t => E' = E ∧ z_H D cl A ad ce t.heap ∧ va_F A s' t) (free := A) (A := A) hexec hb htr hown hw.1 (by decide +kernel) (hts _ hw.2.1) (hts _ hw.2.2.1) (fun w h => hts w (hw.2.2.2.1 w h)) hw.2.2.2.2 hZ.1 hZ.2 hS hl.1 d0 d3 d4 d7 (hNH (pc + 7)) hR.1 hR.2.1 hR.2.2.1 hR.2.2.2 hlocks
    (fun t hal hsz hq' => ⟨rfl, hH.kept hq', ⟨Nat.le_trans hS.1 hsz, fun q h1 h2 => (hq' q (Nat.lt_of_lt_of_le h1 hS.1)).trans (hS.2.1 q h1 h2)⟩⟩) hS.2.2 h1 h2)
  rintro t ⟨o, g1, g2, g3⟩
  rcases g3 with ⟨g4, -⟩ | ⟨q, rfl, E', cell, L, ⟨rfl, hz, hF⟩, hc1, hc2, hc3, hW, hs, hL⟩
  · exact g4.elim
  · exact hq t ⟨_, g1, g2, ⟨.inr E', ad, ce, ⟨cell, hc1, by rw [hc2]; rfl, by rw [hW.alike.findClass]; exact hc3⟩, hp, hz⟩, hF, hW, L, hs, hL⟩
end ZT
end
