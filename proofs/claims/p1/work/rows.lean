section
-- ===== PART A: goes FIRST, ahead of the names: the tables' words, and 'selects' of the private methods out of them =====
/-- a private method of a class that the tables say can be made, by its rows of tables_1 -/
def lw_okq (q : MethodName × Nat) : Prop := (q.1.cls ≠ "java/lang/invoke/MethodHandle" ∧ q.1.cls ≠ "java/lang/invoke/VarHandle") ∧ Cond.instantiable q.1.cls q.2 ∈ tables_1 ∧ Cond.privateMethod q.1 ∈ tables_1 ∧ Cond.instanceMethod q.1 ∈ tables_1
theorem lw_p0 : lw_okq (⟨"java/lang/Throwable", "fillInStackTrace", "(I)Ljava/lang/Throwable;"⟩, 6) := ⟨⟨by decide +kernel, by decide +kernel⟩, List.mem_of_getElem? (i := 189) (by decide +kernel), List.mem_of_getElem? (i := 187) (by decide +kernel), List.mem_of_getElem? (i := 188) (by decide +kernel)⟩
theorem lw_p1 : lw_okq (⟨"OctagonDesk$Shape", "tell", "(LOctagonDesk$Shape;III)V"⟩, 2) := ⟨⟨by decide +kernel, by decide +kernel⟩, List.mem_of_getElem? (i := 27) (by decide +kernel), List.mem_of_getElem? (i := 249) (by decide +kernel), List.mem_of_getElem? (i := 250) (by decide +kernel)⟩
theorem lw_p2 : lw_okq (⟨"OctagonDesk$Shape", "holdToSpare", "(II)V"⟩, 2) := ⟨⟨by decide +kernel, by decide +kernel⟩, List.mem_of_getElem? (i := 27) (by decide +kernel), List.mem_of_getElem? (i := 280) (by decide +kernel), List.mem_of_getElem? (i := 281) (by decide +kernel)⟩
theorem lw_p3 : lw_okq (⟨"OctagonDesk$Shape", "passThrough", "(II)V"⟩, 2) := ⟨⟨by decide +kernel, by decide +kernel⟩, List.mem_of_getElem? (i := 27) (by decide +kernel), List.mem_of_getElem? (i := 292) (by decide +kernel), List.mem_of_getElem? (i := 293) (by decide +kernel)⟩
theorem lw_p4 : lw_okq (⟨"OctagonDesk$Shape", "combineSingles", "()V"⟩, 2) := ⟨⟨by decide +kernel, by decide +kernel⟩, List.mem_of_getElem? (i := 27) (by decide +kernel), List.mem_of_getElem? (i := 312) (by decide +kernel), List.mem_of_getElem? (i := 313) (by decide +kernel)⟩
theorem lw_p5 : lw_okq (⟨"OctagonDesk$Shape", "findContradiction", "()V"⟩, 2) := ⟨⟨by decide +kernel, by decide +kernel⟩, List.mem_of_getElem? (i := 27) (by decide +kernel), List.mem_of_getElem? (i := 320) (by decide +kernel), List.mem_of_getElem? (i := 321) (by decide +kernel)⟩
theorem lw_p6 : lw_okq (⟨"OctagonDesk$Shape", "scatter", "(IJJ)V"⟩, 2) := ⟨⟨by decide +kernel, by decide +kernel⟩, List.mem_of_getElem? (i := 27) (by decide +kernel), List.mem_of_getElem? (i := 324) (by decide +kernel), List.mem_of_getElem? (i := 325) (by decide +kernel)⟩
theorem lw_p7 : lw_okq (⟨"OctagonDesk", "putMade", "(I)V"⟩, 7) := ⟨⟨by decide +kernel, by decide +kernel⟩, List.mem_of_getElem? (i := 15) (by decide +kernel), List.mem_of_getElem? (i := 330) (by decide +kernel), List.mem_of_getElem? (i := 331) (by decide +kernel)⟩
theorem lw_p8 : lw_okq (⟨"OctagonDesk", "makeRoom", "(LOctagonDesk$Shape;)V"⟩, 7) := ⟨⟨by decide +kernel, by decide +kernel⟩, List.mem_of_getElem? (i := 15) (by decide +kernel), List.mem_of_getElem? (i := 334) (by decide +kernel), List.mem_of_getElem? (i := 335) (by decide +kernel)⟩
theorem lw_p9 : lw_okq (⟨"OctagonDesk$Numbers", "extend", "(II)V"⟩, 4) := ⟨⟨by decide +kernel, by decide +kernel⟩, List.mem_of_getElem? (i := 33) (by decide +kernel), List.mem_of_getElem? (i := 365) (by decide +kernel), List.mem_of_getElem? (i := 366) (by decide +kernel)⟩
theorem lw_p10 : lw_okq (⟨"OctagonDesk$Shape", "close", "()V"⟩, 2) := ⟨⟨by decide +kernel, by decide +kernel⟩, List.mem_of_getElem? (i := 27) (by decide +kernel), List.mem_of_getElem? (i := 398) (by decide +kernel), List.mem_of_getElem? (i := 399) (by decide +kernel)⟩
theorem lw_p11 : lw_okq (⟨"OctagonDesk$Shape", "isSettledByEmptiness", "(LOctagonDesk$Shape;)Z"⟩, 2) := ⟨⟨by decide +kernel, by decide +kernel⟩, List.mem_of_getElem? (i := 27) (by decide +kernel), List.mem_of_getElem? (i := 413) (by decide +kernel), List.mem_of_getElem? (i := 414) (by decide +kernel)⟩
theorem lw_p12 : lw_okq (⟨"OctagonDesk", "requirePlace", "(I)V"⟩, 7) := ⟨⟨by decide +kernel, by decide +kernel⟩, List.mem_of_getElem? (i := 15) (by decide +kernel), List.mem_of_getElem? (i := 451) (by decide +kernel), List.mem_of_getElem? (i := 452) (by decide +kernel)⟩
theorem lw_p13 : lw_okq (⟨"OctagonDesk", "madeFitsTheBox", "()Z"⟩, 7) := ⟨⟨by decide +kernel, by decide +kernel⟩, List.mem_of_getElem? (i := 15) (by decide +kernel), List.mem_of_getElem? (i := 530) (by decide +kernel), List.mem_of_getElem? (i := 531) (by decide +kernel)⟩
theorem lw_p14 : lw_okq (⟨"OctagonDesk", "countFrom", "(I)I"⟩, 7) := ⟨⟨by decide +kernel, by decide +kernel⟩, List.mem_of_getElem? (i := 15) (by decide +kernel), List.mem_of_getElem? (i := 535) (by decide +kernel), List.mem_of_getElem? (i := 536) (by decide +kernel)⟩
theorem lw_p15 : lw_okq (⟨"OctagonDesk", "follow", "(LOctagonDesk$Step;I)Z"⟩, 7) := ⟨⟨by decide +kernel, by decide +kernel⟩, List.mem_of_getElem? (i := 15) (by decide +kernel), List.mem_of_getElem? (i := 565) (by decide +kernel), List.mem_of_getElem? (i := 566) (by decide +kernel)⟩
def lw_privs_1 : List (MethodName × Nat) := [(⟨"java/lang/Throwable", "fillInStackTrace", "(I)Ljava/lang/Throwable;"⟩, 6), (⟨"OctagonDesk$Shape", "tell", "(LOctagonDesk$Shape;III)V"⟩, 2), (⟨"OctagonDesk$Shape", "holdToSpare", "(II)V"⟩, 2), (⟨"OctagonDesk$Shape", "passThrough", "(II)V"⟩, 2), (⟨"OctagonDesk$Shape", "combineSingles", "()V"⟩, 2), (⟨"OctagonDesk$Shape", "findContradiction", "()V"⟩, 2), (⟨"OctagonDesk$Shape", "scatter", "(IJJ)V"⟩, 2), (⟨"OctagonDesk", "putMade", "(I)V"⟩, 7), (⟨"OctagonDesk", "makeRoom", "(LOctagonDesk$Shape;)V"⟩, 7), (⟨"OctagonDesk$Numbers", "extend", "(II)V"⟩, 4), (⟨"OctagonDesk$Shape", "close", "()V"⟩, 2), (⟨"OctagonDesk$Shape", "isSettledByEmptiness", "(LOctagonDesk$Shape;)Z"⟩, 2), (⟨"OctagonDesk", "requirePlace", "(I)V"⟩, 7), (⟨"OctagonDesk", "madeFitsTheBox", "()Z"⟩, 7), (⟨"OctagonDesk", "countFrom", "(I)I"⟩, 7), (⟨"OctagonDesk", "follow", "(LOctagonDesk$Step;I)Z"⟩, 7)]
theorem lw_r1 : ∀ q ∈ lw_privs_1, lw_okq q := List.forall_mem_cons.mpr ⟨lw_p0, List.forall_mem_cons.mpr ⟨lw_p1, List.forall_mem_cons.mpr ⟨lw_p2, List.forall_mem_cons.mpr ⟨lw_p3, List.forall_mem_cons.mpr ⟨lw_p4, List.forall_mem_cons.mpr ⟨lw_p5, List.forall_mem_cons.mpr ⟨lw_p6, List.forall_mem_cons.mpr ⟨lw_p7, List.forall_mem_cons.mpr ⟨lw_p8, List.forall_mem_cons.mpr ⟨lw_p9, List.forall_mem_cons.mpr ⟨lw_p10, List.forall_mem_cons.mpr ⟨lw_p11, List.forall_mem_cons.mpr ⟨lw_p12, List.forall_mem_cons.mpr ⟨lw_p13, List.forall_mem_cons.mpr ⟨lw_p14, List.forall_mem_cons.mpr ⟨lw_p15, fun _ h => absurd h List.not_mem_nil⟩⟩⟩⟩⟩⟩⟩⟩⟩⟩⟩⟩⟩⟩⟩⟩
theorem lw_p16 : lw_okq (⟨"OctagonDesk", "keepReached", "()V"⟩, 7) := ⟨⟨by decide +kernel, by decide +kernel⟩, List.mem_of_getElem? (i := 15) (by decide +kernel), List.mem_of_getElem? (i := 569) (by decide +kernel), List.mem_of_getElem? (i := 570) (by decide +kernel)⟩
theorem lw_p17 : lw_okq (⟨"OctagonDeskModel", "refused", "(I)Z"⟩, 13) := ⟨⟨by decide +kernel, by decide +kernel⟩, List.mem_of_getElem? (i := 581) (by decide +kernel), List.mem_of_getElem? (i := 658) (by decide +kernel), List.mem_of_getElem? (i := 659) (by decide +kernel)⟩
theorem lw_p18 : lw_okq (⟨"OctagonDeskModel", "make", "(IIIII)V"⟩, 13) := ⟨⟨by decide +kernel, by decide +kernel⟩, List.mem_of_getElem? (i := 581) (by decide +kernel), List.mem_of_getElem? (i := 662) (by decide +kernel), List.mem_of_getElem? (i := 663) (by decide +kernel)⟩
theorem lw_p19 : lw_okq (⟨"OctagonDeskModel", "get", "(III)J"⟩, 13) := ⟨⟨by decide +kernel, by decide +kernel⟩, List.mem_of_getElem? (i := 581) (by decide +kernel), List.mem_of_getElem? (i := 666) (by decide +kernel), List.mem_of_getElem? (i := 667) (by decide +kernel)⟩
theorem lw_p20 : lw_okq (⟨"OctagonDeskModel", "set", "(IIIJ)V"⟩, 13) := ⟨⟨by decide +kernel, by decide +kernel⟩, List.mem_of_getElem? (i := 581) (by decide +kernel), List.mem_of_getElem? (i := 670) (by decide +kernel), List.mem_of_getElem? (i := 671) (by decide +kernel)⟩
theorem lw_p21 : lw_okq (⟨"OctagonDeskModel", "shift", "(IIIJ)V"⟩, 13) := ⟨⟨by decide +kernel, by decide +kernel⟩, List.mem_of_getElem? (i := 581) (by decide +kernel), List.mem_of_getElem? (i := 674) (by decide +kernel), List.mem_of_getElem? (i := 675) (by decide +kernel)⟩
theorem lw_p22 : lw_okq (⟨"OctagonDeskModel", "load", "(II)V"⟩, 13) := ⟨⟨by decide +kernel, by decide +kernel⟩, List.mem_of_getElem? (i := 581) (by decide +kernel), List.mem_of_getElem? (i := 678) (by decide +kernel), List.mem_of_getElem? (i := 679) (by decide +kernel)⟩
theorem lw_p23 : lw_okq (⟨"OctagonDeskModel", "drop", "(II)V"⟩, 13) := ⟨⟨by decide +kernel, by decide +kernel⟩, List.mem_of_getElem? (i := 581) (by decide +kernel), List.mem_of_getElem? (i := 685) (by decide +kernel), List.mem_of_getElem? (i := 686) (by decide +kernel)⟩
theorem lw_p24 : lw_okq (⟨"OctagonDeskModel", "close", "(I)V"⟩, 13) := ⟨⟨by decide +kernel, by decide +kernel⟩, List.mem_of_getElem? (i := 581) (by decide +kernel), List.mem_of_getElem? (i := 689) (by decide +kernel), List.mem_of_getElem? (i := 690) (by decide +kernel)⟩
theorem lw_p25 : lw_okq (⟨"OctagonDeskModel", "lessen", "(IIIJ)Z"⟩, 13) := ⟨⟨by decide +kernel, by decide +kernel⟩, List.mem_of_getElem? (i := 581) (by decide +kernel), List.mem_of_getElem? (i := 693) (by decide +kernel), List.mem_of_getElem? (i := 694) (by decide +kernel)⟩
theorem lw_p26 : lw_okq (⟨"OctagonDeskModel", "sumOf", "(III)J"⟩, 13) := ⟨⟨by decide +kernel, by decide +kernel⟩, List.mem_of_getElem? (i := 581) (by decide +kernel), List.mem_of_getElem? (i := 697) (by decide +kernel), List.mem_of_getElem? (i := 698) (by decide +kernel)⟩
theorem lw_p27 : lw_okq (⟨"OctagonDeskModel", "all", "(I)V"⟩, 13) := ⟨⟨by decide +kernel, by decide +kernel⟩, List.mem_of_getElem? (i := 581) (by decide +kernel), List.mem_of_getElem? (i := 705) (by decide +kernel), List.mem_of_getElem? (i := 706) (by decide +kernel)⟩
theorem lw_p28 : lw_okq (⟨"OctagonDeskModel", "joined", "(II)V"⟩, 13) := ⟨⟨by decide +kernel, by decide +kernel⟩, List.mem_of_getElem? (i := 581) (by decide +kernel), List.mem_of_getElem? (i := 724) (by decide +kernel), List.mem_of_getElem? (i := 725) (by decide +kernel)⟩
theorem lw_p29 : lw_okq (⟨"OctagonDeskModel", "widened", "(II)V"⟩, 13) := ⟨⟨by decide +kernel, by decide +kernel⟩, List.mem_of_getElem? (i := 581) (by decide +kernel), List.mem_of_getElem? (i := 732) (by decide +kernel), List.mem_of_getElem? (i := 733) (by decide +kernel)⟩
theorem lw_p30 : lw_okq (⟨"OctagonDeskModel", "isWithin", "(II)Z"⟩, 13) := ⟨⟨by decide +kernel, by decide +kernel⟩, List.mem_of_getElem? (i := 581) (by decide +kernel), List.mem_of_getElem? (i := 752) (by decide +kernel), List.mem_of_getElem? (i := 753) (by decide +kernel)⟩
theorem lw_p31 : lw_okq (⟨"OctagonDeskModel", "holds", "(I)Z"⟩, 13) := ⟨⟨by decide +kernel, by decide +kernel⟩, List.mem_of_getElem? (i := 581) (by decide +kernel), List.mem_of_getElem? (i := 769) (by decide +kernel), List.mem_of_getElem? (i := 770) (by decide +kernel)⟩
def lw_privs_2 : List (MethodName × Nat) := [(⟨"OctagonDesk", "keepReached", "()V"⟩, 7), (⟨"OctagonDeskModel", "refused", "(I)Z"⟩, 13), (⟨"OctagonDeskModel", "make", "(IIIII)V"⟩, 13), (⟨"OctagonDeskModel", "get", "(III)J"⟩, 13), (⟨"OctagonDeskModel", "set", "(IIIJ)V"⟩, 13), (⟨"OctagonDeskModel", "shift", "(IIIJ)V"⟩, 13), (⟨"OctagonDeskModel", "load", "(II)V"⟩, 13), (⟨"OctagonDeskModel", "drop", "(II)V"⟩, 13), (⟨"OctagonDeskModel", "close", "(I)V"⟩, 13), (⟨"OctagonDeskModel", "lessen", "(IIIJ)Z"⟩, 13), (⟨"OctagonDeskModel", "sumOf", "(III)J"⟩, 13), (⟨"OctagonDeskModel", "all", "(I)V"⟩, 13), (⟨"OctagonDeskModel", "joined", "(II)V"⟩, 13), (⟨"OctagonDeskModel", "widened", "(II)V"⟩, 13), (⟨"OctagonDeskModel", "isWithin", "(II)Z"⟩, 13), (⟨"OctagonDeskModel", "holds", "(I)Z"⟩, 13)]
theorem lw_r2 : ∀ q ∈ lw_privs_2, lw_okq q := List.forall_mem_cons.mpr ⟨lw_p16, List.forall_mem_cons.mpr ⟨lw_p17, List.forall_mem_cons.mpr ⟨lw_p18, List.forall_mem_cons.mpr ⟨lw_p19, List.forall_mem_cons.mpr ⟨lw_p20, List.forall_mem_cons.mpr ⟨lw_p21, List.forall_mem_cons.mpr ⟨lw_p22, List.forall_mem_cons.mpr ⟨lw_p23, List.forall_mem_cons.mpr ⟨lw_p24, List.forall_mem_cons.mpr ⟨lw_p25, List.forall_mem_cons.mpr ⟨lw_p26, List.forall_mem_cons.mpr ⟨lw_p27, List.forall_mem_cons.mpr ⟨lw_p28, List.forall_mem_cons.mpr ⟨lw_p29, List.forall_mem_cons.mpr ⟨lw_p30, List.forall_mem_cons.mpr ⟨lw_p31, fun _ h => absurd h List.not_mem_nil⟩⟩⟩⟩⟩⟩⟩⟩⟩⟩⟩⟩⟩⟩⟩⟩
theorem lw_p32 : lw_okq (⟨"OctagonDeskModel", "go", "(II)Z"⟩, 13) := ⟨⟨by decide +kernel, by decide +kernel⟩, List.mem_of_getElem? (i := 581) (by decide +kernel), List.mem_of_getElem? (i := 785) (by decide +kernel), List.mem_of_getElem? (i := 786) (by decide +kernel)⟩
def lw_privs_3 : List (MethodName × Nat) := [(⟨"OctagonDeskModel", "go", "(II)Z"⟩, 13)]
theorem lw_r3 : ∀ q ∈ lw_privs_3, lw_okq q := List.forall_mem_cons.mpr ⟨lw_p32, fun _ h => absurd h List.not_mem_nil⟩
def lw_privs : List (MethodName × Nat) := lw_privs_1 ++ (lw_privs_2 ++ (lw_privs_3))
def lw_tbl : List Cond := k2_sels lw_privs ++ tables_1
theorem lw_privs_ok : ∀ q ∈ lw_privs, lw_okq q := by
  show ∀ q ∈ lw_privs_1 ++ (lw_privs_2 ++ (lw_privs_3)), lw_okq q
  exact List.forall_mem_append.mpr ⟨lw_r1, List.forall_mem_append.mpr ⟨lw_r2, lw_r3⟩⟩
end
section
/-! A thrown object, caught by a row of this method's own table, the rows ahead naming other classes; the catch types' classes may be linked on the way. (The printed row that asks for it leans on a part of the library that rounds don't have: so it's proved here.) -/
def cz_To (e : Env) (s : State) (f : JFrame) (a : Addr) (h : Handler) (vm' : Vm) : Prop :=
  ∀ (Q : Handler → Pre) (E : CtlPost) (d : Bool) (acts : List Action), wp (findHandler f a) Q E e d acts s ↔ Q h d acts (s.setVm vm')
theorem cz_yes {Q : Handler → Pre} {E : CtlPost} {e : Env} {d : Bool} {acts : List Action} {s : State} {f : JFrame} {a : Addr} {x : ExceptionTableEntry} {t : List ExceptionTableEntry} {c : ClassId} {cell : Cell} (hx : covers x f.pc = true) (h0 : x.catchType ≠ 0)
    (hl : s.vm.ClassLinks e.platform f.method.cls x.catchType c) (hcell : s.heap[a]? = some cell) (hobj : ∀ k, cell.vm ≠ .statics k)
    (hk : ∃ k, s.vm.classes[cell.cls]? = some k) (hc : ∃ k, s.vm.classes[c]? = some k) (hfit : s.vm.assignable cell.cls c = true) :
    wp (findHandler.go f a (x :: t)) Q E e d acts s ↔ Q (.found x.handlerPc) d acts (s.setVm (s.vm.noted f.method.cls x.catchType (.cls c))) := by
  simp only [covers] at hx
  obtain ⟨ha, ht⟩ := (resolveClass_links e.toSetting hl).op (op := VmOp.resolveClass f.method.cls x.catchType) rfl
  have hal : s.vm.Alike (s.vm.noted f.method.cls x.catchType (.cls c)) := (Vm.Alike.refl s.vm).noted _ _ _
  obtain ⟨k1, hk1⟩ := hk
  obtain ⟨k2, hk2⟩ := hc
  obtain ⟨k1', hk1', -⟩ := hal.2.2 _ _ hk1
  obtain ⟨k2', hk2', -⟩ := hal.2.2 _ _ hk2
  have hfit' : (s.vm.noted f.method.cls x.catchType (.cls c)).assignable cell.cls c = true := by rw [hal.assignable]; exact hfit
  simp [findHandler.go, hx, h0, ha, ht, hcell, hobj, hk1', hk2', hfit', VmOp.dirties, VmOp.acts]
theorem cz_no {Q : Handler → Pre} {E : CtlPost} {e : Env} {d : Bool} {acts : List Action} {s : State} {f : JFrame} {a : Addr} {x : ExceptionTableEntry} {t : List ExceptionTableEntry} {c : ClassId} {cell : Cell} (hx : covers x f.pc = true) (h0 : x.catchType ≠ 0)
    (hl : s.vm.ClassLinks e.platform f.method.cls x.catchType c) (hcell : s.heap[a]? = some cell) (hobj : ∀ k, cell.vm ≠ .statics k)
    (hk : ∃ k, s.vm.classes[cell.cls]? = some k) (hc : ∃ k, s.vm.classes[c]? = some k) (hno : s.vm.assignable cell.cls c = false) :
    wp (findHandler.go f a (x :: t)) Q E e d acts s ↔ wp (findHandler.go f a t) Q E e d acts (s.setVm (s.vm.noted f.method.cls x.catchType (.cls c))) := by
  simp only [covers] at hx
  obtain ⟨ha, ht⟩ := (resolveClass_links e.toSetting hl).op (op := VmOp.resolveClass f.method.cls x.catchType) rfl
  have hal : s.vm.Alike (s.vm.noted f.method.cls x.catchType (.cls c)) := (Vm.Alike.refl s.vm).noted _ _ _
  obtain ⟨k1, hk1⟩ := hk
  obtain ⟨k2, hk2⟩ := hc
  obtain ⟨k1', hk1', -⟩ := hal.2.2 _ _ hk1
  obtain ⟨k2', hk2', -⟩ := hal.2.2 _ _ hk2
  have hno' : (s.vm.noted f.method.cls x.catchType (.cls c)).assignable cell.cls c = false := by rw [hal.assignable]; exact hno
  simp [findHandler.go, hx, h0, ha, ht, hcell, hobj, hk1', hk2', hno', VmOp.dirties, VmOp.acts]
theorem cz_go {e : Env} {s₀ : State} {f : JFrame} {a : Addr} {cell : Cell} (hobj : ∀ k, cell.vm ≠ .statics k) (hk0 : ∃ k, s₀.vm.classes[cell.cls]? = some k)
    (x : ExceptionTableEntry) (rest : List ExceptionTableEntry) (hx : covers x f.pc = true) (hend : x.catchType = 0 ∨ (x.catchType ≠ 0 ∧ ∃ c, s₀.vm.ClassLinks e.platform f.method.cls x.catchType c ∧ s₀.vm.assignable cell.cls c = true)) :
    ∀ (pre : List ExceptionTableEntry) (S : State), s₀.WarmedH S.vm → S.heap[a]? = some cell → (∀ y ∈ pre, covers y f.pc = false ∨ (y.catchType ≠ 0 ∧ ∃ c, s₀.vm.ClassLinks e.platform f.method.cls y.catchType c ∧ s₀.vm.assignable cell.cls c = false)) →
      ∃ vm', s₀.WarmedH vm' ∧ ∀ (Q : Handler → Pre) (E : CtlPost) (d : Bool) (acts : List Action), wp (findHandler.go f a (pre ++ x :: rest)) Q E e d acts S ↔ Q (.found x.handlerPc) d acts (S.setVm vm') := by
  obtain ⟨k0, hk0⟩ := hk0
  intro pre
  induction pre with
  | nil =>
    intro S hW hcell _
    obtain ⟨k0', hk0', -⟩ := hW.alike.2.2 _ _ hk0
    rcases hend with h0 | ⟨h0, c, hl, hfit⟩
    · exact ⟨S.vm, hW, fun Q E d acts => by rw [List.nil_append, Jvm.W.findHandler_go_any hx h0, State.setVm_self]⟩
    · obtain ⟨dk, _, _, kt, hd, _, _, _, _, hkt, _, hopen⟩ := hl.here
      obtain ⟨kt', hkt', -⟩ := hW.alike.2.2 _ _ hkt
      exact ⟨_, hW.noted hd hopen (State.rightAt_cls hl), fun Q E d acts => by
        rw [List.nil_append]
        exact cz_yes hx h0 (hW.classLinks hl) hcell hobj ⟨k0', hk0'⟩ ⟨kt', hkt'⟩ (by rw [hW.alike.assignable]; exact hfit)⟩
  | cons y ys ih =>
    intro S hW hcell hpass
    obtain ⟨k0', hk0', -⟩ := hW.alike.2.2 _ _ hk0
    have hrest : ∀ z ∈ ys, covers z f.pc = false ∨ (z.catchType ≠ 0 ∧ ∃ c, s₀.vm.ClassLinks e.platform f.method.cls z.catchType c ∧ s₀.vm.assignable cell.cls c = false) := fun z hz => hpass z (List.mem_cons_of_mem _ hz)
    by_cases hcov : covers y f.pc = true
    · rcases hpass y (List.mem_cons_self ..) with h | ⟨h0, c, hl, hno⟩
      · rw [h] at hcov; cases hcov
      · obtain ⟨dk, _, _, kt, hd, _, _, _, _, hkt, _, hopen⟩ := hl.here
        obtain ⟨kt', hkt', -⟩ := hW.alike.2.2 _ _ hkt
        obtain ⟨vm', hW', hq⟩ := ih (S.setVm (S.vm.noted f.method.cls y.catchType (.cls c))) (hW.noted hd hopen (State.rightAt_cls hl)) hcell hrest
        exact ⟨vm', hW', fun Q E d acts => by
          rw [List.cons_append, cz_no hcov h0 (hW.classLinks hl) hcell hobj ⟨k0', hk0'⟩ ⟨kt', hkt'⟩ (by rw [hW.alike.assignable]; exact hno)]
          exact hq Q E d acts⟩
    · obtain ⟨vm', hW', hq⟩ := ih S hW hcell hrest
      exact ⟨vm', hW', fun Q E d acts => by
        rw [List.cons_append, Jvm.W.findHandler_go_skip (by simpa using hcov)]
        exact hq Q E d acts⟩
theorem cz_stepTo {e : Env} {s : State} {a : Addr} {f : JFrame} {r : List Frame} {pc : Nat} {vm' : Vm} (hfind : cz_To e s f a (.found pc) vm') :
    (stepThrowing e s a (.java f :: r)).Is ((s.setVm vm').setFrames (.java { f with pc := pc, stack := [.ref a] } :: r)) [] := by
  simp only [stepThrowing, searchFrame, vmDo]
  generalize hr : Sem.go _ e false [] s = res
  obtain ⟨as, rfl, ha⟩ := Sem.eq_ok_of hr (a := Handler.found pc) (s' := s.setVm vm') (acts' := []) (by simp [hfind _ _ _ _])
  exact ⟨rfl, ha⟩
theorem cz_svs (u : State) (vm' : Vm) (F G : List Frame) : ((u.setFrames F).setVm vm').setFrames G = (u.setVm vm').setFrames G := by
  have h1 : (u.setFrames F).setVm vm' = (u.setVm vm').setFrames F := rfl
  rw [h1, State.setFrames_setFrames]
theorem cz_caught {tb : Tables} {e : Env} {s target : State} {g : JFrame} {c : Code} {below : List Frame} {a : Addr} (h : At s g.method c below) {pc : Nat} {vm' : Vm}
    (hfind : cz_To e ((s.setTop g).pushFrame (.throwing a)) g a (.found pc) vm') (hrest : Steps tb e below ((s.setVm vm').setTop { g with pc := pc, stack := [.ref a] }) target) :
    Steps tb e below ((s.setTop g).pushFrame (.throwing a)) target := by
  obtain ⟨hgo, hw⟩ := h.throwing a
  refine Steps.head hgo hw ?_
  rw [stepThread_throwing (frames_entered h.top _), (cz_stepTo (s := (s.setTop g).pushFrame (.throwing a)) hfind).1]
  obtain ⟨g₀, hg⟩ := Option.isSome_iff_exists.mp h.top
  obtain ⟨r, hr⟩ := State.topJava?_eq_some.mp hg
  have hr' : (s.setVm vm').frames = .java g₀ :: r := hr
  rw [State.setTop_of_frames _ hr'] at hrest
  rw [hr, List.tail_cons, State.pushFrame, cz_svs, State.setTop_of_frames _ hr, cz_svs]
  exact hrest
theorem cz_through {p : Program} {l : Launch} {e : Env} {R : Room} {s : State} {m₀ : MethodId} {args : Array Value} {below : List Frame} {meth : Method} {c : Code} {T : State} {locs : List Loc} {cells slots : Nat} (X : Stand p l e R s m₀ args below meth c T locs cells slots) (a : Addr) {g : JFrame} (hg : g.method = m₀) {s₀ : State} (hcome : Steps p.tables e below s₀ ((T.setTop g).pushFrame (.throwing a)))
    {cell : Cell} (hcell : T.heap[a]? = some cell) (hobj : cell.vm.isStatics = false) (hk0 : ∃ k, s.vm.classes[cell.cls]? = some k)
    (pre : List ExceptionTableEntry) (x : ExceptionTableEntry) (rest : List ExceptionTableEntry) (hsplit : c.exceptionTable.toList = pre ++ x :: rest)
    (hpass : ∀ y ∈ pre, covers y g.pc = false ∨ (y.catchType ≠ 0 ∧ ∃ c, s.vm.ClassLinks e.platform m₀.cls y.catchType c ∧ s.vm.assignable cell.cls c = false)) (hx : covers x g.pc = true) (hend : x.catchType = 0 ∨ (x.catchType ≠ 0 ∧ ∃ c, s.vm.ClassLinks e.platform m₀.cls x.catchType c ∧ s.vm.assignable cell.cls c = true)) :
    ∃ vm', Stand p l e R s m₀ args below meth c (T.setVm vm') locs cells slots ∧ Steps p.tables e below s₀ ((T.setVm vm').setTop { g with pc := x.handlerPc, stack := [.ref a] }) := by
  subst hg
  have hm : ((T.setTop g).pushFrame (.throwing a)).vm.method? g.method = some meth := X.method'
  obtain ⟨vm', hW', hq⟩ := cz_go (e := e) (s₀ := s) (f := g) (a := a) (cell := cell) (VmData.ne_statics_of hobj) hk0 x rest hx hend pre ((T.setTop g).pushFrame (.throwing a)) X.warmed hcell hpass
  have hf : cz_To e ((T.setTop g).pushFrame (.throwing a)) g a (.found x.handlerPc) vm' := fun Q E d acts => by rw [Jvm.W.findHandler_eq hm X.code, hsplit]; exact hq Q E d acts
  exact ⟨vm', X.noted hW', hcome.trans (cz_caught X.here hf (Steps.refl _))⟩
end
section
/-! ===== BEGIN words of one list among another's, by their places ===== -/
theorem goodIn_r {big : List Cond} (ws : List Cond) (ps : List Nat) (hp : ws = ps.filterMap (fun i => big[i]?)) (h : ws.all goodWord = true) : GoodIn big ws := by
  intro w hw
  have h1 := List.all_eq_true.mp h w hw
  rw [hp] at hw
  obtain ⟨i, -, hi⟩ := List.mem_filterMap.mp hw
  have hm : w ∈ big := by first | exact List.mem_of_getElem? hi | exact List.getElem?_mem hi
  exact ⟨hm, good_of_word h1⟩
theorem goodIn_app {big a b : List Cond} (ha : GoodIn big a) (hb : GoodIn big b) : GoodIn big (a ++ b) := fun w h => (List.mem_append.mp h).elim (ha w) (hb w)
theorem goodIn_ca {big a b : List Cond} {c : Cond} (ha : GoodIn big (c :: a)) (hb : GoodIn big b) : GoodIn big (c :: (a ++ b)) := fun w h => (List.mem_cons.mp h).elim (fun e => ha w (List.mem_cons.mpr (Or.inl e))) (fun h => (List.mem_append.mp h).elim (fun h => ha w (List.mem_cons.mpr (Or.inr h))) (hb w))
theorem goodIn_sub {big ws : List Cond} (hm : ∀ w ∈ ws, w ∈ big) (h : ws.all goodWord = true) : GoodIn big ws := fun w hw => ⟨hm w hw, good_of_word (List.all_eq_true.mp h w hw)⟩
/-! ===== END ===== -/

/-! ===== BEGIN exceptions that leave a method, and their catching by the caller (launches without stack traces) ===== -/
section VXA
/-! The laws vx_back, vx_callV, vx_callS, vx_callSW, vx_throw0, vx_throwS follow proofs of the library, with one case more: JvmDerived/Free/Laws.lean (Back.of_free), Shelf42/LK1.lean (callV, callS), Shelf/KitTraced.lean (throwNew0V, throwNewS). -/
/-- where a method has thrown q: the class by its name, the cell, what was written, the world -/
def vx_T (XC : String → State → State → Prop) (st : State) (q : Addr) (t : State) (mc ms : Nat) (free : Addr → Prop) : Prop :=
  ∃ (E : String) (ce : Cell) (L : List Loc), XC E st t ∧ t.heap[q]? = some ce ∧ ce.vm = .none ∧ st.vm.findClass E = some ce.cls ∧ st.WarmedH t.vm ∧ st.sameButNew ({ t with vm := st.vm } : State) L mc ms ∧ ∀ z ∈ L, free z.base
def vx_Q (Qc : Array Value → State → Outcome → State → Prop) (XC : String → State → State → Prop) (mc ms : Nat) (free : Addr → Prop) : Array Value → State → Outcome → State → Prop := fun a st o t =>
  (Qc a st o t ∧ ∃ L, FrameEnd st o t L mc ms ∧ ∀ q ∈ L, free q.base) ∨ ∃ q, o = .threw q ∧ vx_T XC st q t mc ms free
/-- a callee that returns or throws -/
def vx_Met (l : Launch) (y : MethodName) (ws : List Cond) (rm : Room) (Pc : Array Value → State → Prop) (Qc : Array Value → State → Outcome → State → Prop) (XC : String → State → State → Prop) (mc ms : Nat) (free : Addr → Prop) : Prop :=
  MetFree l y (headSpec ws rm) Pc (fun _ _ _ _ _ => True) (vx_Q Qc XC mc ms free)
def vx_Post (XC : String → State → State → Prop) (mc ms : Nat) (free : Addr → Prop) : Pt → Array Value → Addr → Pt → Prop := fun A a q B =>
  ∃ (g : JFrame) (mk : MethodId) (t : State) (L : List Loc) (E : String) (ce : Cell), B.U.heap = t.heap ∧ B.U.vm = t.vm ∧ XC E (A.U.calling g mk a) t ∧ t.heap[q]? = some ce ∧ ce.vm = .none ∧ A.U.vm.findClass E = some ce.cls ∧ B.locs = A.locs ++ L ∧ (∀ z ∈ L, free z.base) ∧ B.cells = A.cells + mc ∧ B.slots = A.slots + ms
def vx_Back (l : Launch) (R : Room) (p : Program) (e : Env) (below : List Frame) (s : State) (sargs : Array Value) (y : MethodName) (len W9 : Nat)
    (Pre : Pt → Array Value → Prop) (Post : Pt → Array Value → Option Value → Pt → Prop) (PostX : Pt → Array Value → Addr → Pt → Prop) : Prop :=
  ∀ (m : MethodId) (meth : Method) (c : Code) (A : Pt) (g : JFrame) (ig : Instr) (mk : MethodId) (a : Array Value),
    Stand p l e R s m sargs below meth c A.U A.locs A.cells A.slots → g.method = m → g.locals.size = c.maxLocals → decode c.code g.pc = .ok (ig, len) →
    2 * g.monitorRoom + (g.stack.map fun v => v.category).sum ≤ W9 → A.U.methodNamed? y = some mk → Pre A a →
    (∃ (v : Option Value) (B : Pt), Stand p l e R s m sargs below meth c B.U B.locs B.cells B.slots ∧ Post A a v B ∧
      Steps p.tables e below (doInvoke e (A.U.setTop g) [] mk a).1 (B.U.setTop { g with pc := g.pc + len, stack := v.toList ++ g.stack })) ∨
    (∃ (q : Addr) (B : Pt), Stand p l e R s m sargs below meth c B.U B.locs B.cells B.slots ∧ PostX A a q B ∧
      Steps p.tables e below (doInvoke e (A.U.setTop g) [] mk a).1 ((B.U.setTop g).pushFrame (.throwing q)))
section Payer
variable {l : Launch} {R : Room} {p : Program} {e : Env} {below : List Frame} {s : State} {sargs : Array Value} {y : MethodName} {len W9 : Nat}
theorem vx_back {ws : List Cond} {rm : Room} {Pc : Array Value → State → Prop} {Qc : Array Value → State → Outcome → State → Prop} {XC : String → State → State → Prop} {mc ms : Nat} {free : Addr → Prop} {bytes : ByteArray} {maxL : Nat} {ret : Option FieldType}
    (hM : vx_Met l y ws rm Pc Qc XC mc ms free) (hblind : FrameBlind Pc) (hrc : rm.cells = mc) (hrs : rm.slots = ms)
    (hframes : rm.frames + 1 ≤ R.frames) (hlocals : W9 + (maxL + 11) + rm.locals ≤ R.locals)
    (hws : ∀ w ∈ ws, ∀ a' U, s.WarmedH U.vm → w.before a' U = true) (hcode : Cond.code y bytes maxL ret ∈ ws) (hinit : ∀ a' U, s.WarmedH U.vm → (Cond.initialized y.cls).before a' U = true) :
    vx_Back l R p e below s sargs y len W9 (PreOf R mc ms Pc) (PostOf Qc mc ms free) (vx_Post XC mc ms free) := by
  intro m meth c A g ig mk a X hg hsize hdg hW hn hp
  have h1 : (headSpec ws rm).pre.before a A.U = true := atoms_intro fun w hw => hws w hw _ _ X.warmed
  have h2 : (Cond.code y bytes maxL ret).before a A.U = true := hws _ hcode _ _ X.warmed
  have h3 : (Cond.initialized y.cls).before a A.U = true := hinit _ _ X.warmed
  have h4 : A.cells + (headSpec ws rm).room.cells ≤ R.cells := by rw [show (headSpec ws rm).room.cells = mc from hrc]; exact hp.1
  have h5 : A.slots + (headSpec ws rm).room.slots ≤ R.slots := by rw [show (headSpec ws rm).room.slots = ms from hrs]; exact hp.2.1
  have hPc : Pc a (A.U.calling g mk a) := hblind _ _ _ _ hp.2.2
  obtain ⟨U, Ls, c0, s0⟩ := A
  dsimp only [Pt.U, Pt.locs, Pt.cells, Pt.slots] at h1 h2 h3 h4 h5 X hn hPc ⊢
  obtain ⟨methY, cY, hmY, hcY, -, hlY, -, -, -, -⟩ := Cond.code_spec hn h2
  obtain ⟨kY, hkY, -⟩ := className_of_methodNamed hn
  have hinitY : kY.init = .initialized := Cond.initialized_spec (findClass_of_methodNamed hn) hkY h3
  have h : At U g.method c below := by rw [hg]; exact X.here
  have hlocals9 : W9 + (maxL + 11) + (headSpec ws rm).room.locals ≤ R.locals := hlocals
  have happ : (headSpec ws rm).appliesLoose y e.platform (U.calling g mk a) = true :=
    Spec.appliesLoose_calling (g := g) h hdg hn hkY hinitY
      (X.room_calling (g := g) (R' := (headSpec ws rm).room) hsize hmY hcY hframes (by rw [hlY]; omega) h4 h5) h1
  obtain ⟨mid, hmid⟩ := h.above
  have hfr : (U.setTop g).frames = (.java g :: mid) ++ below := by rw [State.frames_setTop' g h.top, hmid]; rfl
  obtain ⟨o, s₂, hsteps, -, hend, hq⟩ := Steps.callFree hM p X.admits X.cas X.clock (acts := []) hfr happ hPc trivial
  have hq' : vx_Q Qc XC mc ms free a (U.calling g mk a) o s₂ := hq
  rw [State.frames_setTop' g h.top] at hend
  obtain ⟨g₀, hg0⟩ := Option.isSome_iff_exists.mp h.top
  obtain ⟨r, hr⟩ := State.topJava?_eq_some.mp hg0
  have hr' : (({ U with heap := s₂.heap, slotsUsed := s₂.slotsUsed } : State).setVm s₂.vm).frames = .java g₀ :: r := hr
  rcases hq' with ⟨hqc, L, hfe, hL⟩ | ⟨q, rfl, E, ce, L, hx, hce, hcv, hcl, hW₂, hsm, hL⟩
  · obtain ⟨⟨v, rfl⟩, hW₂, e2, q2, q3, q4, q5, q6⟩ := id hfe
    have e3 : s₂ = ({ (U.calling g mk a).setFrames s₂.frames with heap := s₂.heap, slotsUsed := s₂.slotsUsed } : State).setVm s₂.vm := by
      have : s₂ = ({ s₂ with vm := (U.calling g mk a).vm } : State).setVm s₂.vm := rfl
      rw [e2] at this
      exact this
    obtain ⟨c₂, i₂, len₂, hc₂, hd₂, hf₂⟩ := hend
    have hW' : U.WarmedH s₂.vm := hW₂
    have hcc : c₂ = c := by
      have h1 : s₂.code? g.method = U.code? g.method := by
        rw [State.code?_eq, State.code?_eq, hW'.alike.method?]
      exact Option.some.inj (hc₂.symm.trans (h1.trans h.code))
    subst hcc
    have hlen : len₂ = len := by rw [hdg] at hd₂; cases hd₂; rfl
    subst hlen
    have hs₂ : s₂ = (({ U with heap := s₂.heap, slotsUsed := s₂.slotsUsed } : State).setVm s₂.vm).setTop { g with pc := g.pc + len₂, stack := v.toList ++ g.stack } := by
      refine e3.trans ?_
      rw [hf₂, State.calling_eq h.top, State.setFrames_setFrames, State.setTop_of_frames _ hr', hr]
      rfl
    have hsame : U.sameButNew ({ U with heap := s₂.heap, slotsUsed := s₂.slotsUsed } : State) L mc ms := by
      refine ⟨?_, q2, q3, q4, q5, q6⟩
      obtain ⟨t, ht, -⟩ := State.frames_cons hr
      show ({ U with heap := s₂.heap, slotsUsed := s₂.slotsUsed } : State) = { U.setFrames U.frames with heap := s₂.heap, slotsUsed := s₂.slotsUsed }
      rw [State.setFrames_self ht]
    subst hg
    refine Or.inl ⟨v, ⟨(({ U with heap := s₂.heap, slotsUsed := s₂.slotsUsed } : State).setVm s₂.vm), Ls ++ L, c0 + mc, s0 + ms⟩,
      ⟨X.admits, X.cas, X.clock, X.frames, X.room, X.hears, X.method, X.code, (X.here.setHeapUsed s₂.heap s₂.slotsUsed).setVm hW'.alike, X.tail, State.WarmedH.trans X.warmed hW', X.limits, X.bytes, X.same.trans (hsame.setVm s.vm)⟩,
      ⟨g, mk, s₂, L, rfl, rfl, hqc, rfl, hL, rfl, rfl⟩, ?_⟩
    show Steps p.tables e below _ ((({ U with heap := s₂.heap, slotsUsed := s₂.slotsUsed } : State).setVm s₂.vm).setTop { g with pc := g.pc + len₂, stack := v.toList ++ g.stack })
    rw [← hs₂]
    exact hsteps
  · obtain ⟨e2, q2, q3, q4, q5, q6⟩ := id hsm
    have e3 : s₂ = ({ (U.calling g mk a).setFrames s₂.frames with heap := s₂.heap, slotsUsed := s₂.slotsUsed } : State).setVm s₂.vm := by
      have : s₂ = ({ s₂ with vm := (U.calling g mk a).vm } : State).setVm s₂.vm := rfl
      rw [e2] at this
      exact this
    have hf₂ : s₂.frames = .throwing q :: .java g :: U.frames.tail := hend
    have hW' : U.WarmedH s₂.vm := hW₂
    have hs₂ : s₂ = ((({ U with heap := s₂.heap, slotsUsed := s₂.slotsUsed } : State).setVm s₂.vm).setTop g).pushFrame (.throwing q) := by
      refine e3.trans ?_
      rw [hf₂, State.calling_eq h.top, State.setFrames_setFrames, State.pushFrame, State.frames_setTop _ hr', State.setTop_of_frames _ hr', State.setFrames_setFrames, hr]
      rfl
    have hsame : U.sameButNew ({ U with heap := s₂.heap, slotsUsed := s₂.slotsUsed } : State) L mc ms := by
      refine ⟨?_, q2, q3, q4, q5, q6⟩
      obtain ⟨t, ht, -⟩ := State.frames_cons hr
      show ({ U with heap := s₂.heap, slotsUsed := s₂.slotsUsed } : State) = { U.setFrames U.frames with heap := s₂.heap, slotsUsed := s₂.slotsUsed }
      rw [State.setFrames_self ht]
    subst hg
    refine Or.inr ⟨q, ⟨(({ U with heap := s₂.heap, slotsUsed := s₂.slotsUsed } : State).setVm s₂.vm), Ls ++ L, c0 + mc, s0 + ms⟩,
      ⟨X.admits, X.cas, X.clock, X.frames, X.room, X.hears, X.method, X.code, (X.here.setHeapUsed s₂.heap s₂.slotsUsed).setVm hW'.alike, X.tail, State.WarmedH.trans X.warmed hW', X.limits, X.bytes, X.same.trans (hsame.setVm s.vm)⟩,
      ⟨g, mk, s₂, L, E, ce, rfl, rfl, hx, hce, hcv, hcl, rfl, hL, rfl, rfl⟩, ?_⟩
    show Steps p.tables e below _ (((({ U with heap := s₂.heap, slotsUsed := s₂.slotsUsed } : State).setVm s₂.vm).setTop g).pushFrame (.throwing q))
    rw [← hs₂]
    exact hsteps
end Payer
section Calls
variable {p : Program} {l : Launch} {e : Env} {R : Room} {s : State} {m : MethodId} {args : Array Value} {below : List Frame} {meth : Method} {c : Code} {T : State} {locs : List Loc} {cells slots : Nat}
theorem vx_callV (X : Stand p l e R s m args below meth c T locs cells slots) (hexec : p.tables.exec = Jvm.exec) {own C : String} {index : Nat} {y : MethodName} {bytes : ByteArray} {maxL : Nat} {ret : Option FieldType}
    (hown : s.vm.findClass own = some m.cls) (hlink : (Cond.methodLink own index y).before args s = true) (hinst : (Cond.instanceMethod y).before args s = true) (hsel : (Cond.selects C y y).before args s = true)
    (hcode : (Cond.code y bytes maxL ret).before args s = true) (hy : y.cls ≠ "java/lang/invoke/MethodHandle" ∧ y.cls ≠ "java/lang/invoke/VarHandle")
    {W9 : Nat} {Pre : Pt → Array Value → Prop} {Post : Pt → Array Value → Option Value → Pt → Prop} {PostX : Pt → Array Value → Addr → Pt → Prop} (hK : vx_Back l R p e below s args y 3 W9 Pre Post PostX)
    {b : Addr} {cellB : Cell} (hcell : T.heap[b]? = some cellB) (hobj : cellB.vm.isStatics = false) (hcls : s.vm.findClass C = some cellB.cls)
    {g : JFrame} (hg : g.method = m) (hsize : g.locals.size = c.maxLocals) {argsL rest : List Value} (hlen : ∀ sig, parseMethodDescriptor y.desc = some sig → argsL.length = sig.parameters.length)
    (hstack : g.stack = argsL.reverse ++ .ref b :: rest) (hW : 2 * g.monitorRoom + (rest.map fun v => v.category).sum ≤ W9) (hdg : decode c.code g.pc = .ok (.invokevirtual index, 3))
    (hpre : ∀ vm₁, s.WarmedH vm₁ → Pre ⟨T.setVm vm₁, locs, cells, slots⟩ (Value.ref b :: argsL).toArray) :
    (∃ (v : Option Value) (vm₁ : Vm) (B : Pt), s.WarmedH vm₁ ∧ Stand p l e R s m args below meth c B.U B.locs B.cells B.slots ∧ Post ⟨T.setVm vm₁, locs, cells, slots⟩ (Value.ref b :: argsL).toArray v B ∧
      ∀ target, Steps p.tables e below (B.U.setTop { g with pc := g.pc + 3, stack := v.toList ++ rest }) target → Steps p.tables e below (T.setTop g) target) ∨
    (∃ (q : Addr) (vm₁ : Vm) (B : Pt), s.WarmedH vm₁ ∧ Stand p l e R s m args below meth c B.U B.locs B.cells B.slots ∧ PostX ⟨T.setVm vm₁, locs, cells, slots⟩ (Value.ref b :: argsL).toArray q B ∧
      Steps p.tables e below (T.setTop g) ((B.U.setTop { g with stack := rest }).pushFrame (.throwing q))) := by
  obtain ⟨mk, methM, hnamed, hmethM, hstM, habM⟩ := Cond.instanceMethod_spec hinst
  obtain ⟨methM', cM, hmethM', -, -, -, -, -, -, hsigM⟩ := Cond.code_spec hnamed hcode
  cases hmethM.symm.trans hmethM'
  obtain ⟨c2, r2, m2, q1, q2, q3, q4, kP, hkP, hkPi⟩ := Cond.selects_spec hsel
  cases hcls.symm.trans q1
  cases (State.methodFound?_of_named hnamed hy).symm.trans q2
  cases hnamed.symm.trans q3
  have hselP : selectMethod e.platform s.vm cellB.cls mk = .method mk := by rw [Launch.admits_selectMethod X.admits]; exact q4
  obtain ⟨vm₁, X₁, hstep₁⟩ := X.invokevirtual hexec hown hlink hnamed hmethM hstM hkP hkPi hy (a := b) (cell := cellB) hcell
    (fun z h => by rw [h] at hobj; cases hobj) hselP hmethM habM hkP hkPi (g := g) hg (argsL := argsL) (rest := rest) (hlen _ hsigM) hstack hdg
  rcases hK m meth c ⟨T.setVm vm₁, locs, cells, slots⟩ { g with stack := rest } (.invokevirtual index) mk (Value.ref b :: argsL).toArray X₁ hg hsize hdg hW (X₁.named hnamed) (hpre vm₁ X₁.warmed) with ⟨v, B, X', hpost, hsteps⟩ | ⟨q, B, X', hpost, hsteps⟩
  · exact Or.inl ⟨v, vm₁, B, X₁.warmed, X', hpost, fun target h => hstep₁ _ fun acts => by rw [doInvoke_state]; exact hsteps.trans h⟩
  · exact Or.inr ⟨q, vm₁, B, X₁.warmed, X', hpost, hstep₁ _ fun acts => by rw [doInvoke_state]; exact hsteps⟩
theorem vx_callS (X : Stand p l e R s m args below meth c T locs cells slots) (hexec : p.tables.exec = Jvm.exec) {own : String} {index : Nat} {y : MethodName} {bytes : ByteArray} {maxL : Nat} {ret : Option FieldType}
    (hown : s.vm.findClass own = some m.cls) (hlink : (Cond.methodLink own index y).before args s = true) (hstat : (Cond.static y).before args s = true) (hinit : (Cond.initialized y.cls).before args s = true)
    (hcode : (Cond.code y bytes maxL ret).before args s = true) (hy : y.cls ≠ "java/lang/invoke/MethodHandle" ∧ y.cls ≠ "java/lang/invoke/VarHandle")
    {W9 : Nat} {Pre : Pt → Array Value → Prop} {Post : Pt → Array Value → Option Value → Pt → Prop} {PostX : Pt → Array Value → Addr → Pt → Prop} (hK : vx_Back l R p e below s args y 3 W9 Pre Post PostX)
    {g : JFrame} (hg : g.method = m) (hsize : g.locals.size = c.maxLocals) {argsL rest : List Value} (hlen : ∀ sig, parseMethodDescriptor y.desc = some sig → argsL.length = sig.parameters.length)
    (hstack : g.stack = argsL.reverse ++ rest) (hW : 2 * g.monitorRoom + (rest.map fun v => v.category).sum ≤ W9) (hdg : decode c.code g.pc = .ok (.invokestatic index, 3))
    (hpre : ∀ vm₁, s.WarmedH vm₁ → Pre ⟨T.setVm vm₁, locs, cells, slots⟩ argsL.toArray) :
    (∃ (v : Option Value) (vm₁ : Vm) (B : Pt), s.WarmedH vm₁ ∧ Stand p l e R s m args below meth c B.U B.locs B.cells B.slots ∧ Post ⟨T.setVm vm₁, locs, cells, slots⟩ argsL.toArray v B ∧
      ∀ target, Steps p.tables e below (B.U.setTop { g with pc := g.pc + 3, stack := v.toList ++ rest }) target → Steps p.tables e below (T.setTop g) target) ∨
    (∃ (q : Addr) (vm₁ : Vm) (B : Pt), s.WarmedH vm₁ ∧ Stand p l e R s m args below meth c B.U B.locs B.cells B.slots ∧ PostX ⟨T.setVm vm₁, locs, cells, slots⟩ argsL.toArray q B ∧
      Steps p.tables e below (T.setTop g) ((B.U.setTop { g with stack := rest }).pushFrame (.throwing q))) := by
  obtain ⟨mk, hnamed⟩ := Cond.code_named hcode
  obtain ⟨methM, cM, hmethM, -, -, -, -, -, -, hsigM⟩ := Cond.code_spec hnamed hcode
  have hstatic : methM.isStatic = true := Cond.static_spec hnamed hmethM hstat
  obtain ⟨kP, hkP, -⟩ := className_of_methodNamed hnamed
  have hinitP : kP.init = .initialized := Cond.initialized_spec (findClass_of_methodNamed hnamed) hkP hinit
  obtain ⟨vm₁, X₁, hstep₁⟩ := X.invokestatic hexec hown hlink hnamed hmethM hstatic hkP hinitP hy (g := g) hg (argsL := argsL) (rest := rest) (hlen _ hsigM) hstack hdg
  rcases hK m meth c ⟨T.setVm vm₁, locs, cells, slots⟩ { g with stack := rest } (.invokestatic index) mk argsL.toArray X₁ hg hsize hdg hW (X₁.named hnamed) (hpre vm₁ X₁.warmed) with ⟨v, B, X', hpost, hsteps⟩ | ⟨q, B, X', hpost, hsteps⟩
  · exact Or.inl ⟨v, vm₁, B, X₁.warmed, X', hpost, fun target h => hstep₁ _ fun acts => by rw [doInvoke_state]; exact hsteps.trans h⟩
  · exact Or.inr ⟨q, vm₁, B, X₁.warmed, X', hpost, hstep₁ _ fun acts => by rw [doInvoke_state]; exact hsteps⟩
end Calls
theorem vx_cls {s : State} {T : State} {vm₁ : Vm} {E : String} {k : ClassId} (hW : s.WarmedH vm₁) (h : (T.setVm vm₁).vm.findClass E = some k) : s.vm.findClass E = some k := by
  have h1 : vm₁.findClass E = some k := h
  rw [hW.alike.findClass] at h1
  exact h1
/-- the method's frame g, with q thrown over it -/
def vx_W (p : Program) (l : Launch) (e : Env) (R : Room) (s : State) (m : MethodId) (args : Array Value) (below : List Frame) (meth : Method) (c : Code) (H : Heap) (locs : List Loc) (cells slots : Nat) (Q : State → Prop) (g : JFrame) (q : Addr) : Prop :=
  ∀ T : State, T.heap = H → Stand p l e R s m args below meth c T locs cells slots → ∃ t, Steps p.tables e below ((T.setTop g).pushFrame (.throwing q)) t ∧ Q t
def vx_Run (p : Program) (l : Launch) (e : Env) (R : Room) (s : State) (m : MethodId) (args : Array Value) (below : List Frame) (meth : Method) (c : Code) (H : Heap) (locs : List Loc) (cells slots mc ms : Nat) (g : JFrame) (rest : List Value) (Qa : State → Outcome → State → Prop) (XC : String → State → State → Prop) (free : Addr → Prop) : Prop :=
  ∀ T : State, T.heap = H → Stand p l e R s m args below meth c T locs cells slots →
    (∃ (v : Option Value) (st₀ t T' : State) (L : List Loc), st₀.heap = H ∧ Stand p l e R s m args below meth c T' (locs ++ L) (cells + mc) (slots + ms) ∧ (∀ q ∈ L, free q.base) ∧ T'.heap = t.heap ∧ T'.vm = t.vm ∧ Qa st₀ (.returned v) t ∧
      Goes p e below T g T' { g with pc := g.pc + 3, stack := v.toList ++ rest }) ∨
    (∃ (q : Addr) (st₀ t T' : State) (L : List Loc) (E : String) (ce : Cell), st₀.heap = H ∧ Stand p l e R s m args below meth c T' (locs ++ L) (cells + mc) (slots + ms) ∧ (∀ z ∈ L, free z.base) ∧ T'.heap = t.heap ∧ T'.vm = t.vm ∧ XC E st₀ t ∧ t.heap[q]? = some ce ∧ ce.vm = .none ∧ s.vm.findClass E = some ce.cls ∧
      Steps p.tables e below (T.setTop g) ((T'.setTop { g with stack := rest }).pushFrame (.throwing q)))
def vx_X {S : Type} (px : S → Prop) (B : String → S → State → Prop) (A : Nat → Prop) : String → State → State → Prop := fun E st t => ∃ u : S, px u ∧ B E u t ∧ va_F A st t
section Runs
variable {p : Program} {l : Launch} {e : Env} {R : Room} {s : State} {m : MethodId} {args : Array Value} {below : List Frame} {meth : Method} {c : Code} {H : Heap} {locs : List Loc} {cells slots : Nat}
variable {y : MethodName} {bytes cc : ByteArray} {maxL nL mc ms n index : Nat} {ret : Option FieldType} {ws : List Cond} {rm : Room} {Pc : Array Value → State → Prop} {Qc : Array Value → State → Outcome → State → Prop} {XC : String → State → State → Prop} {free : Addr → Prop} {Ts : List Cond} {own C : String} {b : Addr} {As rest : List Value} {g : JFrame}
theorem vx_callBack (cb : CallB R s args own index y bytes maxL ret ws rm mc ms n) (hM : vx_Met l y ws rm Pc Qc XC mc ms free) (hbl : FrameBlind Pc) : vx_Back l R p e below s args y 3 8 (PreOf R mc ms Pc) (PostOf Qc mc ms free) (vx_Post XC mc ms free) := by
  obtain ⟨hrc, hrs, hfr, hlo, hws, hcw, -, hini, -⟩ := cb
  exact vx_back (bytes := bytes) (maxL := maxL) (ret := ret) hM hbl hrc hrs hfr hlo hws hcw (fun a' U hW => word_at hW (Or.inl (by first | rfl | simp [Cond.onTables, Cond.keeps, Cond.steady])) hini)
theorem vx_runV (S : CallFix p m c cc nL s args Ts own) (hM : vx_Met l y ws rm Pc Qc XC mc ms free) (cw : CallW R s args own C index y bytes maxL ret ws rm mc ms n) (hp : PreV s H C b Pc As)
    (hg : g.method = m) (hn : As.length = n) (hsize : g.locals.size = nL) (hstack : g.stack = As.reverse ++ .ref b :: rest) (hW : 2 * g.monitorRoom + (rest.map fun v => v.category).sum ≤ 8) (hdg : decode cc g.pc = .ok (.invokevirtual index, 3)) (hf : cells + mc ≤ R.cells ∧ slots + ms ≤ R.slots) :
    vx_Run p l e R s m args below meth c H locs cells slots mc ms g rest (Qc (Value.ref b :: As).toArray) XC free := by
  have hK : vx_Back l R p e below s args y 3 8 (PreOf R mc ms Pc) (PostOf Qc mc ms free) (vx_Post XC mc ms free) := vx_callBack cw.1 hM hp.1
  obtain ⟨⟨-, -, -, -, -, -, hcode, -, hy, hlen, hl⟩, hin, hse⟩ := cw
  obtain ⟨hx, hb, hml, ho, -⟩ := S
  obtain ⟨-, ⟨cellB, hcB, hoB, hclB⟩, hPc⟩ := hp
  intro T hT X
  rcases vx_callV X hx (C := C) (bytes := bytes) (maxL := maxL) (ret := ret) ho hl hin hse hcode hy hK (by rw [hT]; exact hcB) hoB hclB hg (hsize.trans hml.symm) (argsL := As) (rest := rest) (fun sig h => hn.trans (hlen sig h)) hstack hW (by rw [hb]; exact hdg)
    (fun vm₁ hW₁ => ⟨hf.1, hf.2, hPc (T.setVm vm₁) hT hW₁⟩) with ⟨v, vm₁, ⟨U', l2, c2, s2⟩, hW₁, X', ⟨g', mk, t, L, e1, e2, hq, h1, hL, h2, h3⟩, st⟩ | ⟨q, vm₁, ⟨U', l2, c2, s2⟩, hW₁, X', ⟨g', mk, t, L, E, ce, e1, e2, hq, hce, hcv, hcl, h1, hL, h2, h3⟩, st⟩
  · dsimp only [Pt.U, Pt.locs, Pt.cells, Pt.slots] at X' e1 e2 h1 h2 h3 st
    subst h1; subst h2; subst h3
    exact Or.inl ⟨v, (T.setVm vm₁).calling g' mk (Value.ref b :: As).toArray, t, U', L, hT, X', hL, e1, e2, hq, st⟩
  · dsimp only [Pt.U, Pt.locs, Pt.cells, Pt.slots] at X' e1 e2 h1 h2 h3 st hcl
    subst h1; subst h2; subst h3
    exact Or.inr ⟨q, (T.setVm vm₁).calling g' mk (Value.ref b :: As).toArray, t, U', L, E, ce, hT, X', hL, e1, e2, hq, hce, hcv, vx_cls hW₁ hcl, st⟩
theorem vx_runS (S : CallFix p m c cc nL s args Ts own) (hM : vx_Met l y ws rm Pc Qc XC mc ms free) (cw : CallB R s args own index y bytes maxL ret ws rm mc ms n ∧ (Cond.static y).before args s = true) (hp : PreS s H Pc As)
    (hg : g.method = m) (hn : As.length = n) (hsize : g.locals.size = nL) (hstack : g.stack = As.reverse ++ rest) (hW : 2 * g.monitorRoom + (rest.map fun v => v.category).sum ≤ 8) (hdg : decode cc g.pc = .ok (.invokestatic index, 3)) (hf : cells + mc ≤ R.cells ∧ slots + ms ≤ R.slots) :
    vx_Run p l e R s m args below meth c H locs cells slots mc ms g rest (Qc As.toArray) XC free := by
  have hK : vx_Back l R p e below s args y 3 8 (PreOf R mc ms Pc) (PostOf Qc mc ms free) (vx_Post XC mc ms free) := vx_callBack cw.1 hM hp.1
  obtain ⟨⟨-, -, -, -, -, -, hcode, hini, hy, hlen, hl⟩, hstt⟩ := cw
  obtain ⟨hx, hb, hml, ho, -⟩ := S
  intro T hT X
  rcases vx_callS X hx (bytes := bytes) (maxL := maxL) (ret := ret) ho hl hstt hini hcode hy hK hg (hsize.trans hml.symm) (argsL := As) (rest := rest) (fun sig h => hn.trans (hlen sig h)) hstack hW (by rw [hb]; exact hdg)
    (fun vm₁ hW₁ => ⟨hf.1, hf.2, hp.2 (T.setVm vm₁) hT hW₁⟩) with ⟨v, vm₁, ⟨U', l2, c2, s2⟩, hW₁, X', ⟨g', mk, t, L, e1, e2, hq, h1, hL, h2, h3⟩, st⟩ | ⟨q, vm₁, ⟨U', l2, c2, s2⟩, hW₁, X', ⟨g', mk, t, L, E, ce, e1, e2, hq, hce, hcv, hcl, h1, hL, h2, h3⟩, st⟩
  · dsimp only [Pt.U, Pt.locs, Pt.cells, Pt.slots] at X' e1 e2 h1 h2 h3 st
    subst h1; subst h2; subst h3
    exact Or.inl ⟨v, (T.setVm vm₁).calling g' mk As.toArray, t, U', L, hT, X', hL, e1, e2, hq, st⟩
  · dsimp only [Pt.U, Pt.locs, Pt.cells, Pt.slots] at X' e1 e2 h1 h2 h3 st hcl
    subst h1; subst h2; subst h3
    exact Or.inr ⟨q, (T.setVm vm₁).calling g' mk As.toArray, t, U', L, E, ce, hT, X', hL, e1, e2, hq, hce, hcv, vx_cls hW₁ hcl, st⟩
end Runs
section Rows
variable {p : Program} {l : Launch} {e : Env} {R : Room} {s : State} {m : MethodId} {args : Array Value} {below : List Frame} {meth : Method} {c : Code} {H : Heap} {locs : List Loc} {cells slots : Nat} {Q : State → Prop}
variable {mc ms : Nat} {free : Addr → Prop} {A0 A1 : Nat → Prop} {H0 : Heap} {a : Array Value} {pc : Nat} {ls : Array Slot} {st0 rest : List Value}
theorem vx_keep {st₀ t T' : State} {L : List Loc} (h0 : st₀.heap = H) (e1 : T'.heap = t.heap) (hS : va_S A0 H0 H locs) (hA : ∀ q, q < H.size → A1 q → A0 q) (hf : ∀ q, free q → A0 q) (hL : ∀ q ∈ L, free q.base) (hF : va_F A1 st₀ t) :
    H.size ≤ T'.heap.size ∧ (∀ q : Nat, q < H.size → ¬ A1 q → T'.heap[q]? = H[q]?) ∧ va_S A0 H0 T'.heap (locs ++ L) := by
  obtain ⟨hz, hk⟩ := hF
  rw [h0] at hz hk
  exact ⟨by rw [e1]; exact hz, fun q h1 h2 => by rw [e1]; exact hk q h1 h2,
    ⟨Nat.le_trans hS.1 (by rw [e1]; exact hz), fun q h1 h2 => by rw [e1, hk q (Nat.lt_of_lt_of_le h1 hS.1) (fun z => h2 (hA q (Nat.lt_of_lt_of_le h1 hS.1) z))]; exact hS.2.1 q h1 h2, fun q hq => by
      rcases List.mem_append.mp hq with h | h
      · exact hS.2.2 q h
      · exact hf _ (hL q h)⟩⟩
theorem vx_calli {S SX : Type} {post : Int32 → S → Prop} {px : SX → Prop} {B : S → State → Prop} {BX : String → SX → State → Prop} {AX : Nat → Prop} (hr : vx_Run p l e R s m args below meth c H locs cells slots mc ms (F0 m pc ls st0) rest (va_Qi post B A1 a) (vx_X px BX AX) free) (hS : va_S A0 H0 H locs) (hA : ∀ q, q < H.size → A1 q → A0 q) (hf : ∀ q, free q → A0 q) (hAX : ∀ q, q < H.size → AX q → A0 q)
    (kx : ∀ (E : String) (ce : Cell) (q9 : Addr) (u : SX) (t : State) (H1 : Heap) (locs1 : List Loc), t.heap = H1 → s.vm.Alike t.vm → px u → BX E u t → H.size ≤ H1.size → (∀ q : Nat, q < H.size → ¬ AX q → H1[q]? = H[q]?) → va_S A0 H0 H1 locs1 → H1[q9]? = some ce → ce.vm = .none → s.vm.findClass E = some ce.cls → vx_W p l e R s m args below meth c H1 locs1 (cells + mc) (slots + ms) Q (F0 m pc ls rest) q9)
    (kk : ∀ (r : Int32) (u : S) (t : State) (H1 : Heap) (locs1 : List Loc), t.heap = H1 → s.vm.Alike t.vm → post r u → B u t → H.size ≤ H1.size → (∀ q : Nat, q < H.size → ¬ A1 q → H1[q]? = H[q]?) → va_S A0 H0 H1 locs1 → W p l e R s m args below meth c H1 locs1 (cells + mc) (slots + ms) Q (F0 m (pc + 3) ls (.int r :: rest))) : W p l e R s m args below meth c H locs cells slots Q (F0 m pc ls st0) := by
  intro T hT X
  rcases hr T hT X with ⟨v, st₀, t, T', L, h0, X', hL, e1, e2, ⟨⟨r, u, hv, hp, hb⟩, hF⟩, st⟩ | ⟨q, st₀, t, T', L, E, ce, h0, X', hL, e1, e2, ⟨u, hp, hb, hF⟩, hce, hcv, hcl, st⟩
  · cases hv
    obtain ⟨k1, k2, k3⟩ := vx_keep h0 e1 hS hA hf hL hF
    obtain ⟨t2, a1, b1⟩ := kk r u t T'.heap (locs ++ L) e1.symm (by rw [← e2]; exact X'.warmed.alike) hp hb k1 k2 k3 T' rfl X'
    exact ⟨t2, st t2 a1, b1⟩
  · obtain ⟨k1, k2, k3⟩ := vx_keep h0 e1 hS hAX hf hL hF
    obtain ⟨t2, a1, b1⟩ := kx E ce q u t T'.heap (locs ++ L) e1.symm (by rw [← e2]; exact X'.warmed.alike) hp hb k1 k2 k3 (by rw [e1]; exact hce) hcv hcl T' rfl X'
    exact ⟨t2, st.trans a1, b1⟩
theorem vx_calll {S SX : Type} {post : Int64 → S → Prop} {px : SX → Prop} {B : S → State → Prop} {BX : String → SX → State → Prop} {AX : Nat → Prop} (hr : vx_Run p l e R s m args below meth c H locs cells slots mc ms (F0 m pc ls st0) rest (va_Ql post B A1 a) (vx_X px BX AX) free) (hS : va_S A0 H0 H locs) (hA : ∀ q, q < H.size → A1 q → A0 q) (hf : ∀ q, free q → A0 q) (hAX : ∀ q, q < H.size → AX q → A0 q)
    (kx : ∀ (E : String) (ce : Cell) (q9 : Addr) (u : SX) (t : State) (H1 : Heap) (locs1 : List Loc), t.heap = H1 → s.vm.Alike t.vm → px u → BX E u t → H.size ≤ H1.size → (∀ q : Nat, q < H.size → ¬ AX q → H1[q]? = H[q]?) → va_S A0 H0 H1 locs1 → H1[q9]? = some ce → ce.vm = .none → s.vm.findClass E = some ce.cls → vx_W p l e R s m args below meth c H1 locs1 (cells + mc) (slots + ms) Q (F0 m pc ls rest) q9)
    (kk : ∀ (r : Int64) (u : S) (t : State) (H1 : Heap) (locs1 : List Loc), t.heap = H1 → s.vm.Alike t.vm → post r u → B u t → H.size ≤ H1.size → (∀ q : Nat, q < H.size → ¬ A1 q → H1[q]? = H[q]?) → va_S A0 H0 H1 locs1 → W p l e R s m args below meth c H1 locs1 (cells + mc) (slots + ms) Q (F0 m (pc + 3) ls (.long r :: rest))) : W p l e R s m args below meth c H locs cells slots Q (F0 m pc ls st0) := by
  intro T hT X
  rcases hr T hT X with ⟨v, st₀, t, T', L, h0, X', hL, e1, e2, ⟨⟨r, u, hv, hp, hb⟩, hF⟩, st⟩ | ⟨q, st₀, t, T', L, E, ce, h0, X', hL, e1, e2, ⟨u, hp, hb, hF⟩, hce, hcv, hcl, st⟩
  · cases hv
    obtain ⟨k1, k2, k3⟩ := vx_keep h0 e1 hS hA hf hL hF
    obtain ⟨t2, a1, b1⟩ := kk r u t T'.heap (locs ++ L) e1.symm (by rw [← e2]; exact X'.warmed.alike) hp hb k1 k2 k3 T' rfl X'
    exact ⟨t2, st t2 a1, b1⟩
  · obtain ⟨k1, k2, k3⟩ := vx_keep h0 e1 hS hAX hf hL hF
    obtain ⟨t2, a1, b1⟩ := kx E ce q u t T'.heap (locs ++ L) e1.symm (by rw [← e2]; exact X'.warmed.alike) hp hb k1 k2 k3 (by rw [e1]; exact hce) hcv hcl T' rfl X'
    exact ⟨t2, st.trans a1, b1⟩
theorem vx_callf {S SX : Type} {post : UInt32 → S → Prop} {px : SX → Prop} {B : S → State → Prop} {BX : String → SX → State → Prop} {AX : Nat → Prop} (hr : vx_Run p l e R s m args below meth c H locs cells slots mc ms (F0 m pc ls st0) rest (va_Qf post B A1 a) (vx_X px BX AX) free) (hS : va_S A0 H0 H locs) (hA : ∀ q, q < H.size → A1 q → A0 q) (hf : ∀ q, free q → A0 q) (hAX : ∀ q, q < H.size → AX q → A0 q)
    (kx : ∀ (E : String) (ce : Cell) (q9 : Addr) (u : SX) (t : State) (H1 : Heap) (locs1 : List Loc), t.heap = H1 → s.vm.Alike t.vm → px u → BX E u t → H.size ≤ H1.size → (∀ q : Nat, q < H.size → ¬ AX q → H1[q]? = H[q]?) → va_S A0 H0 H1 locs1 → H1[q9]? = some ce → ce.vm = .none → s.vm.findClass E = some ce.cls → vx_W p l e R s m args below meth c H1 locs1 (cells + mc) (slots + ms) Q (F0 m pc ls rest) q9)
    (kk : ∀ (r : UInt32) (u : S) (t : State) (H1 : Heap) (locs1 : List Loc), t.heap = H1 → s.vm.Alike t.vm → post r u → B u t → H.size ≤ H1.size → (∀ q : Nat, q < H.size → ¬ A1 q → H1[q]? = H[q]?) → va_S A0 H0 H1 locs1 → W p l e R s m args below meth c H1 locs1 (cells + mc) (slots + ms) Q (F0 m (pc + 3) ls (.float r :: rest))) : W p l e R s m args below meth c H locs cells slots Q (F0 m pc ls st0) := by
  intro T hT X
  rcases hr T hT X with ⟨v, st₀, t, T', L, h0, X', hL, e1, e2, ⟨⟨r, u, hv, hp, hb⟩, hF⟩, st⟩ | ⟨q, st₀, t, T', L, E, ce, h0, X', hL, e1, e2, ⟨u, hp, hb, hF⟩, hce, hcv, hcl, st⟩
  · cases hv
    obtain ⟨k1, k2, k3⟩ := vx_keep h0 e1 hS hA hf hL hF
    obtain ⟨t2, a1, b1⟩ := kk r u t T'.heap (locs ++ L) e1.symm (by rw [← e2]; exact X'.warmed.alike) hp hb k1 k2 k3 T' rfl X'
    exact ⟨t2, st t2 a1, b1⟩
  · obtain ⟨k1, k2, k3⟩ := vx_keep h0 e1 hS hAX hf hL hF
    obtain ⟨t2, a1, b1⟩ := kx E ce q u t T'.heap (locs ++ L) e1.symm (by rw [← e2]; exact X'.warmed.alike) hp hb k1 k2 k3 (by rw [e1]; exact hce) hcv hcl T' rfl X'
    exact ⟨t2, st.trans a1, b1⟩
theorem vx_calld {S SX : Type} {post : UInt64 → S → Prop} {px : SX → Prop} {B : S → State → Prop} {BX : String → SX → State → Prop} {AX : Nat → Prop} (hr : vx_Run p l e R s m args below meth c H locs cells slots mc ms (F0 m pc ls st0) rest (va_Qd post B A1 a) (vx_X px BX AX) free) (hS : va_S A0 H0 H locs) (hA : ∀ q, q < H.size → A1 q → A0 q) (hf : ∀ q, free q → A0 q) (hAX : ∀ q, q < H.size → AX q → A0 q)
    (kx : ∀ (E : String) (ce : Cell) (q9 : Addr) (u : SX) (t : State) (H1 : Heap) (locs1 : List Loc), t.heap = H1 → s.vm.Alike t.vm → px u → BX E u t → H.size ≤ H1.size → (∀ q : Nat, q < H.size → ¬ AX q → H1[q]? = H[q]?) → va_S A0 H0 H1 locs1 → H1[q9]? = some ce → ce.vm = .none → s.vm.findClass E = some ce.cls → vx_W p l e R s m args below meth c H1 locs1 (cells + mc) (slots + ms) Q (F0 m pc ls rest) q9)
    (kk : ∀ (r : UInt64) (u : S) (t : State) (H1 : Heap) (locs1 : List Loc), t.heap = H1 → s.vm.Alike t.vm → post r u → B u t → H.size ≤ H1.size → (∀ q : Nat, q < H.size → ¬ A1 q → H1[q]? = H[q]?) → va_S A0 H0 H1 locs1 → W p l e R s m args below meth c H1 locs1 (cells + mc) (slots + ms) Q (F0 m (pc + 3) ls (.double r :: rest))) : W p l e R s m args below meth c H locs cells slots Q (F0 m pc ls st0) := by
  intro T hT X
  rcases hr T hT X with ⟨v, st₀, t, T', L, h0, X', hL, e1, e2, ⟨⟨r, u, hv, hp, hb⟩, hF⟩, st⟩ | ⟨q, st₀, t, T', L, E, ce, h0, X', hL, e1, e2, ⟨u, hp, hb, hF⟩, hce, hcv, hcl, st⟩
  · cases hv
    obtain ⟨k1, k2, k3⟩ := vx_keep h0 e1 hS hA hf hL hF
    obtain ⟨t2, a1, b1⟩ := kk r u t T'.heap (locs ++ L) e1.symm (by rw [← e2]; exact X'.warmed.alike) hp hb k1 k2 k3 T' rfl X'
    exact ⟨t2, st t2 a1, b1⟩
  · obtain ⟨k1, k2, k3⟩ := vx_keep h0 e1 hS hAX hf hL hF
    obtain ⟨t2, a1, b1⟩ := kx E ce q u t T'.heap (locs ++ L) e1.symm (by rw [← e2]; exact X'.warmed.alike) hp hb k1 k2 k3 (by rw [e1]; exact hce) hcv hcl T' rfl X'
    exact ⟨t2, st.trans a1, b1⟩
theorem vx_callv {S SX : Type} {post : S → Prop} {px : SX → Prop} {B : S → State → Prop} {BX : String → SX → State → Prop} {AX : Nat → Prop} (hr : vx_Run p l e R s m args below meth c H locs cells slots mc ms (F0 m pc ls st0) rest (va_Qv post B A1 a) (vx_X px BX AX) free) (hS : va_S A0 H0 H locs) (hA : ∀ q, q < H.size → A1 q → A0 q) (hf : ∀ q, free q → A0 q) (hAX : ∀ q, q < H.size → AX q → A0 q)
    (kx : ∀ (E : String) (ce : Cell) (q9 : Addr) (u : SX) (t : State) (H1 : Heap) (locs1 : List Loc), t.heap = H1 → s.vm.Alike t.vm → px u → BX E u t → H.size ≤ H1.size → (∀ q : Nat, q < H.size → ¬ AX q → H1[q]? = H[q]?) → va_S A0 H0 H1 locs1 → H1[q9]? = some ce → ce.vm = .none → s.vm.findClass E = some ce.cls → vx_W p l e R s m args below meth c H1 locs1 (cells + mc) (slots + ms) Q (F0 m pc ls rest) q9)
    (kk : ∀ (u : S) (t : State) (H1 : Heap) (locs1 : List Loc), t.heap = H1 → s.vm.Alike t.vm → post u → B u t → H.size ≤ H1.size → (∀ q : Nat, q < H.size → ¬ A1 q → H1[q]? = H[q]?) → va_S A0 H0 H1 locs1 → W p l e R s m args below meth c H1 locs1 (cells + mc) (slots + ms) Q (F0 m (pc + 3) ls (rest))) : W p l e R s m args below meth c H locs cells slots Q (F0 m pc ls st0) := by
  intro T hT X
  rcases hr T hT X with ⟨v, st₀, t, T', L, h0, X', hL, e1, e2, ⟨⟨u, hv, hp, hb⟩, hF⟩, st⟩ | ⟨q, st₀, t, T', L, E, ce, h0, X', hL, e1, e2, ⟨u, hp, hb, hF⟩, hce, hcv, hcl, st⟩
  · cases hv
    obtain ⟨k1, k2, k3⟩ := vx_keep h0 e1 hS hA hf hL hF
    obtain ⟨t2, a1, b1⟩ := kk u t T'.heap (locs ++ L) e1.symm (by rw [← e2]; exact X'.warmed.alike) hp hb k1 k2 k3 T' rfl X'
    exact ⟨t2, st t2 a1, b1⟩
  · obtain ⟨k1, k2, k3⟩ := vx_keep h0 e1 hS hAX hf hL hF
    obtain ⟨t2, a1, b1⟩ := kx E ce q u t T'.heap (locs ++ L) e1.symm (by rw [← e2]; exact X'.warmed.alike) hp hb k1 k2 k3 (by rw [e1]; exact hce) hcv hcl T' rfl X'
    exact ⟨t2, st.trans a1, b1⟩
/-- caught by the row x of this method's table; the rows ahead don't take it -/
theorem vx_catch {own name : String} {E : String} {ce : Cell} {q : Addr} (hown : s.vm.findClass own = some m.cls) (pre : List ExceptionTableEntry) (x : ExceptionTableEntry) (suf : List ExceptionTableEntry) (hsplit : c.exceptionTable.toList = pre ++ x :: suf)
    (hpass : ∀ z ∈ pre, covers z pc = false ∨ (z.catchType ≠ 0 ∧ ∃ nm : String, (Cond.classLink own z.catchType nm).before args s = true ∧ va_Nc E nm s)) (hx : covers x pc = true) (h0 : x.catchType ≠ 0)
    (hlink : (Cond.classLink own x.catchType name).before args s = true) (hcast : (Cond.castable E name).before args s = true) (hcell : H[q]? = some ce) (hv : ce.vm = .none) (hcl : s.vm.findClass E = some ce.cls)
    (kk : W p l e R s m args below meth c H locs cells slots Q (F0 m x.handlerPc ls [.ref q])) : vx_W p l e R s m args below meth c H locs cells slots Q (F0 m pc ls rest) q := by
  intro T hT X
  have hpl : e.platform.magicAccessors = ({} : Platform).magicAccessors := by rw [X.admits.platform]
  obtain ⟨c3, c4, hc3, hc4, hasg⟩ := Cond.castable_spec hcast
  cases Option.some.inj (hc3.symm.trans hcl)
  obtain ⟨c5, hc5, hcl5⟩ := Cond.classLink_spec hown hlink e.platform hpl
  cases Option.some.inj (hc4.symm.trans hc5)
  obtain ⟨vm', X', st⟩ := cz_through X q (g := F0 m pc ls rest) rfl (Steps.refl _) (by rw [hT]; exact hcell) (by rw [hv]; rfl) (by obtain ⟨k9, h9, -⟩ := Vm.findClass_spec hcl; exact ⟨k9, h9⟩) pre x suf hsplit
    (fun z hz => by
      rcases hpass z hz with h | ⟨hz0, nm, hl1, hn1⟩
      · exact Or.inl h
      · obtain ⟨c6, hc6, hcl6⟩ := Cond.classLink_spec hown hl1 e.platform hpl
        obtain ⟨a8, b8, h1, h2, h3⟩ := hn1
        cases Option.some.inj (h1.symm.trans hcl)
        cases Option.some.inj (h2.symm.trans hc6)
        exact Or.inr ⟨hz0, _, hcl6, h3⟩) hx (Or.inr ⟨h0, c4, hcl5, hasg⟩)
  obtain ⟨t, a1, b1⟩ := kk (T.setVm vm') hT X'
  exact ⟨t, st.trans a1, b1⟩
end Rows
section Ends
variable {p : Program} {l : Launch} {e : Env} {R : Room} {s : State} {m : MethodId} {args : Array Value} {below : List Frame} {meth : Method} {c : Code} {H : Heap} {locs : List Loc} {cells slots : Nat} {Q : State → Prop}
variable {mc ms : Nat} {free : Addr → Prop} {A0 A1 : Nat → Prop} {H0 : Heap} {a : Array Value} {ls : Array Slot} {st0 rest : List Value}
variable {Qc : Array Value → State → Outcome → State → Prop} {XC : String → State → State → Prop}
/-- what a body that may throw owes at its end -/
def vx_MQ (below : List Frame) (Qc : Array Value → State → Outcome → State → Prop) (XC : String → State → State → Prop) (a : Array Value) (s : State) (mc ms : Nat) (free : Addr → Prop) : State → Prop := fun t =>
  ∃ o, t.status = .running ∧ Ended t below o ∧ vx_Q Qc XC mc ms free a s o t
theorem vx_ret {g : JFrame} {mc ms : Nat} (k : W p l e R s m args below meth c H locs cells slots (MQ below Qc args s mc ms free) g) : W p l e R s m args below meth c H locs cells slots (vx_MQ below Qc XC args s mc ms free) g := by
  intro T hT X
  obtain ⟨t, a1, o, b1, b2, b3, b4⟩ := k T hT X
  exact ⟨t, a1, o, b1, b2, Or.inl ⟨b3, b4⟩⟩
/-- not caught here: it goes on to the caller -/
theorem vx_widen {g : JFrame} {q : Addr} {k n : Nat} (h1 : cells ≤ k) (h2 : slots ≤ n) (kk : vx_W p l e R s m args below meth c H locs k n Q g q) : vx_W p l e R s m args below meth c H locs cells slots Q g q := fun T hT X => kk T hT (stand_widen X h1 h2)
theorem vx_out {pc : Nat} {E : String} {ce : Cell} {q : Addr} {mc ms : Nat} (hout : ∀ x ∈ c.exceptionTable.toList, covers x pc = false) (hlocks : meth.locks = false) (hcell : H[q]? = some ce) (hv : ce.vm = .none) (hcl : s.vm.findClass E = some ce.cls)
    (hx : ∀ t : State, t.heap = H → s.vm.Alike t.vm → XC E s t) (hf : ∀ z ∈ locs, free z.base) (hc : cells ≤ mc) (hs : slots ≤ ms) :
    vx_W p l e R s m args below meth c H locs cells slots (vx_MQ below Qc XC args s mc ms free) (F0 m pc ls rest) q := by
  intro T hT X
  obtain ⟨st1, hrun, hend, hW, hsm⟩ := X.leaveThrown q (g := F0 m pc ls rest) rfl rfl rfl hout hlocks
  have hcell9 : (T.setFrames (.throwing q :: below)).heap[q]? = some ce := by
    show T.heap[q]? = some ce
    rw [hT]; exact hcell
  exact ⟨_, st1, .threw q, hrun, hend, Or.inr ⟨q, rfl, E, ce, locs, hx _ hT hW.alike, hcell9, hv, hcl, hW, hsm.mono hc hs, hf⟩⟩
theorem vx_frame {U : State} {k n : Nat} (h : s.sameButNew ({ U with vm := s.vm } : State) locs k n) : s.heap.size ≤ U.heap.size ∧ ∀ q : Nat, q < s.heap.size → (∀ z ∈ locs, z.base ≠ q) → U.heap[q]? = s.heap[q]? := by
  obtain ⟨-, h2, -, -, -, h6⟩ := h
  refine ⟨h2, fun q hq hz => ?_⟩
  obtain ⟨c9, e1, e2, e3, e4⟩ := h6 q _ (Array.getElem?_eq_getElem hq)
  have hs : c9.slots = (s.heap[q]).slots := Array.ext_getElem? fun i => e4 i fun hm => hz _ hm rfl
  have h9 : c9 = s.heap[q] := by
    rw [hs] at e2
    exact e2
  have e5 : U.heap[q]? = some c9 := e1
  rw [e5, h9, Array.getElem?_eq_getElem hq]
/-- the words of a throw but the four that speak of the heap -/
def vx_no (w : Cond) : Bool := decide (w ≠ .isRef (.static Jvm.Bundle.tN "UNASSIGNED_STACK" Jvm.Bundle.steD)) && decide (w ≠ .isRef (.static Jvm.Bundle.tN "SUPPRESSED_SENTINEL" Jvm.Bundle.listD)) && decide (w ≠ .laysStatic Jvm.Bundle.tN "UNASSIGNED_STACK" Jvm.Bundle.steD) && decide (w ≠ .laysStatic Jvm.Bundle.tN "SUPPRESSED_SENTINEL" Jvm.Bundle.listD)
def vx_at0 (own : String) (ic : Nat) (X : String) (names : List String) : List Cond := (Jvm.Bundle.ownAtoms0 own ic X names).filter vx_no
def vx_atS (own : String) (ic : Nat) (X : String) (names : List String) : List Cond := (Jvm.Bundle.ownAtoms own ic X names).filter vx_no
/-- a word that the tables alone decide, or a good one -/
def vx_ot (w : Cond) : Bool := w.onTables || goodWord w
theorem vx_ot_at {args a' : Array Value} {s U : State} {w : Cond} (hW : s.WarmedH U.vm) (hvm : s.vm = U.vm) (hg : vx_ot w = true) (h : w.before args s = true) : w.before a' U = true := by
  simp only [vx_ot, Bool.or_eq_true] at hg
  rcases hg with hg | hg
  · exact va_tabs hg hvm h
  · exact word_at hW (good_of_word hg) h
/-- a list's words: the good ones out of the method's own list, the others by premises of their own -/
theorem vx_hat {args : Array Value} {s : State} {L B : List Cond} (h1 : ∀ w ∈ L.filter goodWord, w.before args s = true) (h2 : ∀ w ∈ L.filter (fun w => !goodWord w), w ∈ B) (h3 : ∀ w ∈ B, w.before args s = true) : ∀ w ∈ L, w.before args s = true := by
  intro w hw
  by_cases g : goodWord w = true
  · exact h1 w (List.mem_filter.mpr ⟨hw, g⟩)
  · refine h3 w (h2 w (List.mem_filter.mpr ⟨hw, ?_⟩))
    show (!goodWord w) = true
    cases hgw : goodWord w
    · rfl
    · exact absurd hgw g
theorem vx_c {args : Array Value} {s : State} {w : Cond} {B : List Cond} (h : w.before args s = true) (t : ∀ w ∈ B, w.before args s = true) : ∀ w' ∈ w :: B, w'.before args s = true := fun w' h' => (List.mem_cons.mp h').elim (fun e => by rw [e]; exact h) (t w')
theorem vx_n {args : Array Value} {s : State} : ∀ w ∈ ([] : List Cond), w.before args s = true := fun _ h => nomatch h
theorem vx_own {args : Array Value} {s : State} {L : List Cond} (h1 : ∀ w ∈ L.filter vx_no, w.before args s = true)
    (hU : (Cond.isRef (.static Jvm.Bundle.tN "UNASSIGNED_STACK" Jvm.Bundle.steD)).before args s = true) (hN : (Cond.isRef (.static Jvm.Bundle.tN "SUPPRESSED_SENTINEL" Jvm.Bundle.listD)).before args s = true)
    (lU : (Cond.laysStatic Jvm.Bundle.tN "UNASSIGNED_STACK" Jvm.Bundle.steD).before args s = true) (lN : (Cond.laysStatic Jvm.Bundle.tN "SUPPRESSED_SENTINEL" Jvm.Bundle.listD).before args s = true) : ∀ w ∈ L, w.before args s = true := by
  intro w hw
  by_cases e1 : w = .isRef (.static Jvm.Bundle.tN "UNASSIGNED_STACK" Jvm.Bundle.steD)
  · rw [e1]; exact hU
  · by_cases e2 : w = .isRef (.static Jvm.Bundle.tN "SUPPRESSED_SENTINEL" Jvm.Bundle.listD)
    · rw [e2]; exact hN
    · by_cases e3 : w = .laysStatic Jvm.Bundle.tN "UNASSIGNED_STACK" Jvm.Bundle.steD
      · rw [e3]; exact lU
      · by_cases e4 : w = .laysStatic Jvm.Bundle.tN "SUPPRESSED_SENTINEL" Jvm.Bundle.listD
        · rw [e4]; exact lN
        · exact h1 w (List.mem_filter.mpr ⟨hw, by unfold vx_no; rw [decide_eq_true e1, decide_eq_true e2, decide_eq_true e3, decide_eq_true e4]; rfl⟩)
/-- where a static field lies, its class's statics cell in H -/
def vx_L (C n d : String) (A : Nat → Prop) (U : State) (H : Heap) : Prop := ∃ (c : ClassId) (k : Class) (i : Nat) (f : Field) (a : Nat) (cell : Cell), U.vm.findClass C = some c ∧ U.fieldFound? C n d = some (c, k, i, f) ∧ f.isStatic = true ∧ k.statics = some a ∧ H[a]? = some cell ∧ cell.vm.isStatics = true ∧ cell.cls = c ∧ f.slot < cell.slots.size ∧ k.staticTypes[f.slot]? = some f.type ∧ ¬ A a
theorem vx_L.moved {C n d : String} {A : Nat → Prop} {u U : State} {H : Heap} (hvm : u.vm.Alike U.vm) (h : vx_L C n d A u H) : vx_L C n d A U H := by
  obtain ⟨c, k, i, f, a, cell, h1, h2, h3, h4, h5, h6, h7, h8, h9, h10⟩ := h
  obtain ⟨k', hi', he⟩ := State.fieldFound?_setVm hvm h2
  exact ⟨c, k', i, f, a, cell, by rw [hvm.findClass]; exact h1, hi', h3, by rw [he]; exact h4, h5, h6, h7, h8, by rw [he]; exact h9, h10⟩
theorem vx_L.kept {C n d : String} {A : Nat → Prop} {U : State} {H H1 : Heap} (h : vx_L C n d A U H) (hq : ∀ a : Nat, a < H.size → ¬ A a → H1[a]? = H[a]?) : vx_L C n d A U H1 := by
  obtain ⟨c, k, i, f, a, cell, h1, h2, h3, h4, h5, h6, h7, h8, h9, h10⟩ := h
  exact ⟨c, k, i, f, a, cell, h1, h2, h3, h4, by rw [hq a (Array.getElem?_eq_some_iff.mp h5).1 h10]; exact h5, h6, h7, h8, h9, h10⟩
theorem vx_L.narrow {C n d : String} {A B : Nat → Prop} {U : State} {H : Heap} (h : vx_L C n d A U H) (hAB : ∀ q, B q → A q) : vx_L C n d B U H := by
  obtain ⟨c, k, i, f, a, cell, h1, h2, h3, h4, h5, h6, h7, h8, h9, h10⟩ := h
  exact ⟨c, k, i, f, a, cell, h1, h2, h3, h4, h5, h6, h7, h8, h9, fun z => h10 (hAB _ z)⟩
theorem vx_L.word {C n d : String} {A : Nat → Prop} {s : State} {args : Array Value} (h : vx_L C n d A s s.heap) : (Cond.laysStatic C n d).before args s = true := by
  obtain ⟨c, k, i, f, a, cell, h1, h2, h3, h4, h5, h6, h7, h8, h9, -⟩ := h
  show (Cond.laysStatic C n d).holds args s none s [] = true
  exact Cond.laysStatic_of h1 h2 h3 h4 h5 h6 h7 h8 h9
/-- .. and what it holds: null or some reference -/
def vx_Zq (C n d : String) (A : Nat → Prop) (U : State) (H : Heap) : Prop := va_Zq C n d A U H ∧ vx_L C n d A U H
theorem vx_Zq.moved {C n d : String} {A : Nat → Prop} {u U : State} {H : Heap} (hvm : u.vm.Alike U.vm) (h : vx_Zq C n d A u H) : vx_Zq C n d A U H := ⟨va_Zq.moved hvm h.1, vx_L.moved hvm h.2⟩
theorem vx_Zq.kept {C n d : String} {A : Nat → Prop} {U : State} {H H1 : Heap} (h : vx_Zq C n d A U H) (hq : ∀ a : Nat, a < H.size → ¬ A a → H1[a]? = H[a]?) : vx_Zq C n d A U H1 := ⟨va_Zq.kept h.1 hq, vx_L.kept h.2 hq⟩
theorem vx_Zq.narrow {C n d : String} {A B : Nat → Prop} {U : State} {H : Heap} (h : vx_Zq C n d A U H) (hAB : ∀ q, B q → A q) : vx_Zq C n d B U H := ⟨va_Zq.narrow h.1 hAB, vx_L.narrow h.2 hAB⟩
theorem vx_Zqof {args : Array Value} {s : State} {C n d : String} {A : Nat → Prop} (hl : (Cond.laysStatic C n d).before args s = true) (hini : (Cond.initialized C).before args s = true) (h : (Cond.isRef (.static C n d)).before args s = true) (hA : ∀ a : Nat, a < s.heap.size → ¬ A a) : vx_Zq C n d A s s.heap := by
  refine ⟨va_Zqof hl hini h hA, ?_⟩
  obtain ⟨c, k, i, f, a, cell, h1, h2, h3, h4, h5, h6, h7, h8, h9⟩ := Cond.laysStatic_spec hl
  exact ⟨c, k, i, f, a, cell, h1, h2, h3, h4, h5, h6, h7, h8, h9, hA a (Array.getElem?_eq_some_iff.mp h5).1⟩
theorem vx_isRef {C n d : String} {v : Value} {A : Nat → Prop} {s : State} {args : Array Value} (h : va_Z C n d v A s s.heap) (hv : v.isRef = true) : (Cond.isRef (.static C n d)).before args s = true := by
  obtain ⟨cf, kf, fi, f, a, cell, h1, h2, h3, h4, h5, h6, h7, -⟩ := h
  have he : (Term.static C n d).eval args s none [] s = some v := by
    simp [Term.eval, State.fieldNamed?, h1, h2, h4, h5, h6, h7]
  simp only [Cond.before, Cond.holds, Cond.value, he]
  cases v <;> simp_all [Value.isRef]
theorem vx_isRefq {C n d : String} {A : Nat → Prop} {s : State} {args : Array Value} (h : va_Zq C n d A s s.heap) : (Cond.isRef (.static C n d)).before args s = true := by
  rcases h with h | ⟨t, h⟩
  · exact vx_isRef h rfl
  · exact vx_isRef h rfl
/-- the same frame, seen from here: as if the method were called anew in this heap -/
theorem vx_rebase {T : State} (X : Stand p l e R s m args below meth c T locs cells slots) {R' : Room} (hf : R'.frames ≤ R.frames) (hl : R'.locals ≤ R.locals) (hc : cells + R'.cells ≤ R.cells) (hs : slots + R'.slots ≤ R.slots) :
    Stand p l e R' ((T.setVm s.vm).setFrames (.invoking m args :: below)) m args below meth c T [] 0 0 := by
  have htop : (T.setVm s.vm).topJava?.isSome := X.here.top
  have hF : ((T.setVm s.vm).setFrames (.invoking m args :: below)).frames = .invoking m args :: below := State.frames_setFrames _ (State.cur_lt_of_top htop)
  obtain ⟨g₀, hg0⟩ := Option.isSome_iff_exists.mp htop
  obtain ⟨r, hr⟩ := State.topJava?_eq_some.mp hg0
  have hl9 : e.platform.stackLimits (T.setVm s.vm).me = e.platform.stackLimits s.me := X.limits
  have hb9 : (T.setVm s.vm).me.stackBytes = s.me.stackBytes := X.bytes
  refine ⟨X.admits, X.cas, X.clock, hF, ?_, X.hears, X.method, X.code, X.here, X.tail, X.warmed, ?_, ?_, ?_⟩
  · have h := X.room
    have hU : ((T.setVm s.vm).setFrames (.invoking m args :: below)).localsInUse = s.localsInUse := by
      rw [State.localsInUse_invoking hF (meth := meth) (c := c) X.method X.code, State.localsInUse_invoking X.frames X.method X.code]
    simp only [State.hasRoom, Bool.and_eq_true, decide_eq_true_eq] at h ⊢
    obtain ⟨⟨⟨⟨h1, h2, h3, h4, h5, h6⟩, h7⟩, h8⟩, h9⟩ := h
    rw [X.frames, List.length_cons] at h2 h3
    have q1 := X.heapSize
    have q2 := X.used
    simp only [hF, hU, List.length_cons, State.stackLimits_setFrames, State.stackBytes_setFrames, hl9, hb9]
    refine ⟨⟨⟨⟨by omega, by omega, by omega, by omega, by omega, h6⟩, ?_⟩, ?_⟩, X.book⟩
    · show T.heap.size + R'.cells ≤ e.platform.maxCells
      omega
    · show T.slotsUsed + R'.slots ≤ e.platform.maxSlots
      omega
  · rw [State.stackLimits_setFrames]; rfl
  · rw [State.stackBytes_setFrames]; rfl
  · refine ⟨?_, Nat.le_refl _, Nat.le_refl _, ?_, ?_, fun a c9 h9 => ⟨c9, h9, rfl, rfl, fun _ _ => rfl⟩⟩
    · obtain ⟨t, ht, -⟩ := State.frames_cons hr
      show T.setVm s.vm = { ((T.setVm s.vm).setFrames (.invoking m args :: below)).setFrames (T.setVm s.vm).frames with heap := T.heap, slotsUsed := T.slotsUsed }
      rw [State.setFrames_setFrames, State.setFrames_self ht]
      rfl
    · show T.slotsUsed = T.slotsUsed + ((T.heap.toList.drop T.heap.size).map (·.slots.size)).sum
      rw [List.drop_eq_nil_of_le (Nat.le_of_eq Array.length_toList)]
      rfl
    · show ((T.heap.toList.drop T.heap.size).map (·.slots.size)).sum ≤ 0
      rw [List.drop_eq_nil_of_le (Nat.le_of_eq Array.length_toList)]
      exact Nat.le_refl _
/-- 'throw new E()': new; dup; invokespecial; athrow -/
theorem vx_throw0 {cc : ByteArray} {pc : Nat} (hexec : p.tables.exec = Jvm.exec) (hb : c.code = cc) (hl : l.stackTraces = false) {own cls : String} {names : List String} {ik ic mc ms : Nat} {A : Nat → Prop}
    (hown : s.vm.findClass own = some m.cls) (hcls : Jvm.Bundle.fit cls = true) (hnames : ∀ n ∈ names, Jvm.Bundle.fit n = true)
    (hk : (Cond.classLink own ik cls).before args s = true) (hini : (Cond.initialized cls).before args s = true) (hat : ∀ w ∈ vx_at0 own ic cls names, w.before args s = true)
    (hgood : ∀ w ∈ Cond.classLink own ik cls :: Cond.initialized cls :: vx_at0 own ic cls names, vx_ot w = true)
    (hU : vx_Zq Jvm.Bundle.tN "UNASSIGNED_STACK" Jvm.Bundle.steD A s s.heap) (hN : vx_Zq Jvm.Bundle.tN "SUPPRESSED_SENTINEL" Jvm.Bundle.listD A s s.heap) (hS : va_S A s.heap H locs) (hsize : ls.size = c.maxLocals)
    (d0 : decode cc pc = .ok (.new ik, 3)) (d3 : decode cc (pc + 3) = .ok (.dup, 1)) (d4 : decode cc (pc + 4) = .ok (.invokespecial ic, 3)) (d7 : decode cc (pc + 7) = .ok (.athrow, 1))
    (hout : ∀ x ∈ c.exceptionTable.toList, covers x (pc + 7) = false)
    (hRframes : names.length + 3 < R.frames) (hRlocals : (rest.map fun v => v.category).sum + (13 * (names.length + 1) + 42) ≤ R.locals) (hRcells : cells + 1 ≤ R.cells) (hRslots : slots + 6 ≤ R.slots) (hlocks : meth.locks = false)
    (hx : ∀ t : State, s.vm.Alike t.vm → H.size ≤ t.heap.size → (∀ q : Nat, q < H.size → t.heap[q]? = H[q]?) → XC cls s t)
    (hf : ∀ z ∈ locs, free z.base) (hc : cells + 1 ≤ mc) (hs : slots + 6 ≤ ms) :
    W p l e R s m args below meth c H locs cells slots (vx_MQ below Qc XC args s mc ms free) (F0 m pc ls rest) := by
  intro T hT X
  have htr : e.platform.stackTraces = false := (show e.platform.stackTraces = l.stackTraces by rw [X.admits.platform]).trans hl
  have Y := vx_rebase X (R' := { frames := R.frames, locals := R.locals, cells := 1, slots := 6 }) (Nat.le_refl _) (Nat.le_refl _) hRcells hRslots
  obtain ⟨s', hA⟩ : ∃ z, z = (T.setVm s.vm).setFrames (.invoking m args :: below) := ⟨_, rfl⟩
  rw [← hA] at Y
  have hvm : s'.vm = s.vm := by rw [hA]; rfl
  have hhp : s'.heap = H := by rw [hA]; exact hT
  have hW0 : s.WarmedH s'.vm := by rw [hvm]; exact State.WarmedH.refl s
  have hat' : ∀ w ∈ vx_at0 own ic cls names, w.before args s' = true := fun w hw => vx_ot_at hW0 hvm.symm (hgood w (List.mem_cons_of_mem _ (List.mem_cons_of_mem _ hw))) (hat w hw)
  have hk' : (Cond.classLink own ik cls).before args s' = true := vx_ot_at hW0 hvm.symm (hgood _ List.mem_cons_self) hk
  have hini' : (Cond.initialized cls).before args s' = true := vx_ot_at hW0 hvm.symm (hgood _ (List.mem_cons_of_mem _ List.mem_cons_self)) hini
  have hU' : vx_Zq Jvm.Bundle.tN "UNASSIGNED_STACK" Jvm.Bundle.steD A s' s'.heap := by rw [hhp]; exact vx_Zq.moved hW0.alike (hU.kept hS.2.1)
  have hN' : vx_Zq Jvm.Bundle.tN "SUPPRESSED_SENTINEL" Jvm.Bundle.listD A s' s'.heap := by rw [hhp]; exact vx_Zq.moved hW0.alike (hN.kept hS.2.1)
  have h : ∀ w ∈ Jvm.Bundle.ownAtoms0 own ic cls names, w.before args s' = true := vx_own hat' (vx_isRefq hU'.1) (vx_isRefq hN'.1) hU'.2.word hN'.2.word
  have hown' : s'.vm.findClass own = some m.cls := by rw [hvm]; exact hown
  have hins : (Cond.instantiable cls 6).before args s' = true := h _ (by simp [Jvm.Bundle.ownAtoms0])
  obtain ⟨vm₁, cX, kX, hfX, hkX, -, -, X₁, st1⟩ := Y.newCold hexec (own := own) (C := cls) (index := ik) (n := 6) hown' hk' hins hini'
    (g := F0 m pc ls rest) rfl (by rw [hb]; exact d0) (Nat.le_refl _) (Nat.le_refl _)
  generalize hT1 : (T.setVm vm₁).pushCell { cls := cX, slots := kX.instanceTypes.map defaultValue, vm := .none } = T1 at X₁ st1
  have hcat : (Value.ref T.heap.size).category = 1 := rfl
  have hcellA : T1.heap[T.heap.size]? = some (freshCell cX kX) := by rw [← hT1]; exact State.heap_pushCell_size _ _
  have d3' : decode c.code (pc + 3) = .ok (.dup, 1) := by rw [hb]; exact d3
  obtain ⟨U, hsteps, hrun, hend, hW, hsame, ce, hce, hO⟩ := X₁.ctorThrow0 hexec htr (own := own) (cls := cls) (names := names) (ic := ic) hown' hcls hnames h (fun x hx => nomatch hx) hfX hkX hcellA (by rw [hhp, hT]; exact Nat.le_refl _)
    (g := { method := m, pc := pc + 4, locals := ls, stack := .ref T.heap.size :: .ref T.heap.size :: rest, locked := none }) rfl hsize rfl rfl (rest := rest) rfl
    (by rw [hb]; exact d4) (by rw [hb]; exact d7) hout hRframes (by simp only [List.map_cons, List.sum_cons, hcat]; omega) hlocks
  obtain ⟨f1, f2⟩ := vx_frame hsame
  rw [hhp] at f1 f2
  have hWs : s.WarmedH U.vm := State.WarmedH.trans hW0 hW
  have hcl : s.vm.findClass cls = some ce.cls := by
    have h9 := hO.cls
    rw [hvm] at h9
    exact h9
  have hall : s.sameButNew ({ U with vm := s.vm } : State) locs mc ms := by
    subst hA
    obtain ⟨e1, e2⟩ := hsame
    rw [State.setFrames_setFrames] at e1
    have h2 : (T.setVm s.vm).sameButNew ({ U with vm := s.vm } : State) [] (0 + 1) (0 + 6) := ⟨e1, e2⟩
    have h3 := X.same.trans h2
    rw [List.append_nil] at h3
    exact h3.mono hc hs
  refine ⟨U, ?_, .threw T.heap.size, hrun, hend, Or.inr ⟨T.heap.size, rfl, cls, ce, locs, hx U hWs.alike f1 (fun q hq => f2 q hq (fun z hz => nomatch hz)), hce, hO.vm, hcl, hWs, hall, hf⟩⟩
  refine st1 _ ?_
  show Steps p.tables e below (T1.setTop { method := m, pc := pc + 3, locals := ls, stack := .ref T.heap.size :: rest, locked := none }) _
  jvm_step X₁.here [X₁.here.top, hexec, d3', Value.category]
  exact hsteps
/-- 'throw new E("text")': new; dup; ldc; invokespecial; athrow -/
theorem vx_throwS {cc : ByteArray} {pc : Nat} (hexec : p.tables.exec = Jvm.exec) (hb : c.code = cc) (hl : l.stackTraces = false) {own cls text : String} {names : List String} {ik is ic mc ms sa : Nat} {A : Nat → Prop}
    (hown : s.vm.findClass own = some m.cls) (hcls : Jvm.Bundle.fit cls = true) (hnames : ∀ n ∈ names, Jvm.Bundle.fit n = true)
    (hk : (Cond.classLink own ik cls).before args s = true) (hini : (Cond.initialized cls).before args s = true) (hstr : vk_R own is text sa s) (hat : ∀ w ∈ vx_atS own ic cls names, w.before args s = true)
    (hgood : ∀ w ∈ Cond.classLink own ik cls :: Cond.initialized cls :: vx_atS own ic cls names, vx_ot w = true)
    (hU : vx_Zq Jvm.Bundle.tN "UNASSIGNED_STACK" Jvm.Bundle.steD A s s.heap) (hN : vx_Zq Jvm.Bundle.tN "SUPPRESSED_SENTINEL" Jvm.Bundle.listD A s s.heap) (hS : va_S A s.heap H locs) (hsize : ls.size = c.maxLocals)
    (d0 : decode cc pc = .ok (.new ik, 3)) (d3 : decode cc (pc + 3) = .ok (.dup, 1)) (d4 : decode cc (pc + 4) = .ok (.ldc is, 2)) (d6 : decode cc (pc + 6) = .ok (.invokespecial ic, 3)) (d9 : decode cc (pc + 9) = .ok (.athrow, 1))
    (hout : ∀ x ∈ c.exceptionTable.toList, covers x (pc + 9) = false)
    (hRframes : names.length + 3 < R.frames) (hRlocals : (rest.map fun v => v.category).sum + (13 * (names.length + 1) + 43) ≤ R.locals) (hRcells : cells + 1 ≤ R.cells) (hRslots : slots + 6 ≤ R.slots) (hlocks : meth.locks = false)
    (hx : ∀ t : State, s.vm.Alike t.vm → H.size ≤ t.heap.size → (∀ q : Nat, q < H.size → t.heap[q]? = H[q]?) → XC cls s t)
    (hf : ∀ z ∈ locs, free z.base) (hc : cells + 1 ≤ mc) (hs : slots + 6 ≤ ms) :
    W p l e R s m args below meth c H locs cells slots (vx_MQ below Qc XC args s mc ms free) (F0 m pc ls rest) := by
  intro T hT X
  have htr : e.platform.stackTraces = false := (show e.platform.stackTraces = l.stackTraces by rw [X.admits.platform]).trans hl
  have Y := vx_rebase X (R' := { frames := R.frames, locals := R.locals, cells := 1, slots := 6 }) (Nat.le_refl _) (Nat.le_refl _) hRcells hRslots
  obtain ⟨s', hA⟩ : ∃ z, z = (T.setVm s.vm).setFrames (.invoking m args :: below) := ⟨_, rfl⟩
  rw [← hA] at Y
  have hvm : s'.vm = s.vm := by rw [hA]; rfl
  have hhp : s'.heap = H := by rw [hA]; exact hT
  have hW0 : s.WarmedH s'.vm := by rw [hvm]; exact State.WarmedH.refl s
  have hat' : ∀ w ∈ vx_atS own ic cls names, w.before args s' = true := fun w hw => vx_ot_at hW0 hvm.symm (hgood w (List.mem_cons_of_mem _ (List.mem_cons_of_mem _ hw))) (hat w hw)
  have hk' : (Cond.classLink own ik cls).before args s' = true := vx_ot_at hW0 hvm.symm (hgood _ List.mem_cons_self) hk
  have hini' : (Cond.initialized cls).before args s' = true := vx_ot_at hW0 hvm.symm (hgood _ (List.mem_cons_of_mem _ List.mem_cons_self)) hini
  have hU' : vx_Zq Jvm.Bundle.tN "UNASSIGNED_STACK" Jvm.Bundle.steD A s' s'.heap := by rw [hhp]; exact vx_Zq.moved hW0.alike (hU.kept hS.2.1)
  have hN' : vx_Zq Jvm.Bundle.tN "SUPPRESSED_SENTINEL" Jvm.Bundle.listD A s' s'.heap := by rw [hhp]; exact vx_Zq.moved hW0.alike (hN.kept hS.2.1)
  have h : ∀ w ∈ Jvm.Bundle.ownAtoms own ic cls names, w.before args s' = true := vx_own hat' (vx_isRefq hU'.1) (vx_isRefq hN'.1) hU'.2.word hN'.2.word
  have hown' : s'.vm.findClass own = some m.cls := by rw [hvm]; exact hown
  have hins : (Cond.instantiable cls 6).before args s' = true := h _ (by simp [Jvm.Bundle.ownAtoms])
  obtain ⟨vm₁, cX, kX, hfX, hkX, -, -, X₁, st1⟩ := Y.newCold hexec (own := own) (C := cls) (index := ik) (n := 6) hown' hk' hins hini'
    (g := F0 m pc ls rest) rfl (by rw [hb]; exact d0) (Nat.le_refl _) (Nat.le_refl _)
  generalize hT1 : (T.setVm vm₁).pushCell { cls := cX, slots := kX.instanceTypes.map defaultValue, vm := .none } = T1 at X₁ st1
  have hcat : (Value.ref T.heap.size).category = 1 := rfl
  have hcellA : T1.heap[T.heap.size]? = some (freshCell cX kX) := by rw [← hT1]; exact State.heap_pushCell_size _ _
  have d3' : decode c.code (pc + 3) = .ok (.dup, 1) := by rw [hb]; exact d3
  have d4' : decode c.code (pc + 4) = .ok (.ldc is, 2) := by rw [hb]; exact d4
  have hstr' : vk_R own is text sa s' := vk_R.warm hW0 hstr
  obtain ⟨U, hsteps, hrun, hend, hW, hsame, ce, hce, hO⟩ := X₁.ctorThrowS hexec htr (own := own) (cls := cls) (names := names) (ic := ic) hown' hcls hnames h (fun x hx => nomatch hx) hfX hkX hcellA (by rw [hhp, hT]; exact Nat.le_refl _) (msg := .ref sa) rfl
    (g := { method := m, pc := pc + 6, locals := ls, stack := .ref sa :: .ref T.heap.size :: .ref T.heap.size :: rest, locked := none }) rfl hsize rfl rfl (rest := rest) rfl
    (by rw [hb]; exact d6) (by rw [hb]; exact d9) hout hRframes (by simp only [List.map_cons, List.sum_cons, hcat]; omega) hlocks
  obtain ⟨f1, f2⟩ := vx_frame hsame
  rw [hhp] at f1 f2
  have hWs : s.WarmedH U.vm := State.WarmedH.trans hW0 hW
  have hcl : s.vm.findClass cls = some ce.cls := by
    have h9 := hO.cls
    rw [hvm] at h9
    exact h9
  have hall : s.sameButNew ({ U with vm := s.vm } : State) locs mc ms := by
    subst hA
    obtain ⟨e1, e2⟩ := hsame
    rw [State.setFrames_setFrames] at e1
    have h2 : (T.setVm s.vm).sameButNew ({ U with vm := s.vm } : State) [] (0 + 1) (0 + 6) := ⟨e1, e2⟩
    have h3 := X.same.trans h2
    rw [List.append_nil] at h3
    exact h3.mono hc hs
  refine ⟨U, ?_, .threw T.heap.size, hrun, hend, Or.inr ⟨T.heap.size, rfl, cls, ce, locs, hx U hWs.alike f1 (fun q hq => f2 q hq (fun z hz => nomatch hz)), hce, hO.vm, hcl, hWs, hall, hf⟩⟩
  refine st1 _ ?_
  show Steps p.tables e below (T1.setTop { method := m, pc := pc + 3, locals := ls, stack := .ref T.heap.size :: rest, locked := none }) _
  jvm_step X₁.here [X₁.here.top, hexec, d3', Value.category]
  exact X₁.ldcString hexec (own := own) (text := text) (index := is) (a := sa) hown' hstr'.1 hstr'.2
    (g := { method := m, pc := pc + 4, locals := ls, stack := .ref T.heap.size :: .ref T.heap.size :: rest, locked := none }) rfl d4' _ hsteps
/-- 'throw new E("text")', the text by a wide index -/
theorem vx_throwSW {cc : ByteArray} {pc : Nat} (hexec : p.tables.exec = Jvm.exec) (hb : c.code = cc) (hl : l.stackTraces = false) {own cls text : String} {names : List String} {ik is ic mc ms sa : Nat} {A : Nat → Prop}
    (hown : s.vm.findClass own = some m.cls) (hcls : Jvm.Bundle.fit cls = true) (hnames : ∀ n ∈ names, Jvm.Bundle.fit n = true)
    (hk : (Cond.classLink own ik cls).before args s = true) (hini : (Cond.initialized cls).before args s = true) (hstr : vk_R own is text sa s) (hat : ∀ w ∈ vx_atS own ic cls names, w.before args s = true)
    (hgood : ∀ w ∈ Cond.classLink own ik cls :: Cond.initialized cls :: vx_atS own ic cls names, vx_ot w = true)
    (hU : vx_Zq Jvm.Bundle.tN "UNASSIGNED_STACK" Jvm.Bundle.steD A s s.heap) (hN : vx_Zq Jvm.Bundle.tN "SUPPRESSED_SENTINEL" Jvm.Bundle.listD A s s.heap) (hS : va_S A s.heap H locs) (hsize : ls.size = c.maxLocals)
    (d0 : decode cc pc = .ok (.new ik, 3)) (d3 : decode cc (pc + 3) = .ok (.dup, 1)) (d4 : decode cc (pc + 4) = .ok (.ldc_w is, 3)) (d7 : decode cc (pc + 7) = .ok (.invokespecial ic, 3)) (d10 : decode cc (pc + 10) = .ok (.athrow, 1))
    (hout : ∀ x ∈ c.exceptionTable.toList, covers x (pc + 10) = false)
    (hRframes : names.length + 3 < R.frames) (hRlocals : (rest.map fun v => v.category).sum + (13 * (names.length + 1) + 43) ≤ R.locals) (hRcells : cells + 1 ≤ R.cells) (hRslots : slots + 6 ≤ R.slots) (hlocks : meth.locks = false)
    (hx : ∀ t : State, s.vm.Alike t.vm → H.size ≤ t.heap.size → (∀ q : Nat, q < H.size → t.heap[q]? = H[q]?) → XC cls s t)
    (hf : ∀ z ∈ locs, free z.base) (hc : cells + 1 ≤ mc) (hs : slots + 6 ≤ ms) :
    W p l e R s m args below meth c H locs cells slots (vx_MQ below Qc XC args s mc ms free) (F0 m pc ls rest) := by
  intro T hT X
  have htr : e.platform.stackTraces = false := (show e.platform.stackTraces = l.stackTraces by rw [X.admits.platform]).trans hl
  have Y := vx_rebase X (R' := { frames := R.frames, locals := R.locals, cells := 1, slots := 6 }) (Nat.le_refl _) (Nat.le_refl _) hRcells hRslots
  obtain ⟨s', hA⟩ : ∃ z, z = (T.setVm s.vm).setFrames (.invoking m args :: below) := ⟨_, rfl⟩
  rw [← hA] at Y
  have hvm : s'.vm = s.vm := by rw [hA]; rfl
  have hhp : s'.heap = H := by rw [hA]; exact hT
  have hW0 : s.WarmedH s'.vm := by rw [hvm]; exact State.WarmedH.refl s
  have hat' : ∀ w ∈ vx_atS own ic cls names, w.before args s' = true := fun w hw => vx_ot_at hW0 hvm.symm (hgood w (List.mem_cons_of_mem _ (List.mem_cons_of_mem _ hw))) (hat w hw)
  have hk' : (Cond.classLink own ik cls).before args s' = true := vx_ot_at hW0 hvm.symm (hgood _ List.mem_cons_self) hk
  have hini' : (Cond.initialized cls).before args s' = true := vx_ot_at hW0 hvm.symm (hgood _ (List.mem_cons_of_mem _ List.mem_cons_self)) hini
  have hU' : vx_Zq Jvm.Bundle.tN "UNASSIGNED_STACK" Jvm.Bundle.steD A s' s'.heap := by rw [hhp]; exact vx_Zq.moved hW0.alike (hU.kept hS.2.1)
  have hN' : vx_Zq Jvm.Bundle.tN "SUPPRESSED_SENTINEL" Jvm.Bundle.listD A s' s'.heap := by rw [hhp]; exact vx_Zq.moved hW0.alike (hN.kept hS.2.1)
  have h : ∀ w ∈ Jvm.Bundle.ownAtoms own ic cls names, w.before args s' = true := vx_own hat' (vx_isRefq hU'.1) (vx_isRefq hN'.1) hU'.2.word hN'.2.word
  have hown' : s'.vm.findClass own = some m.cls := by rw [hvm]; exact hown
  have hins : (Cond.instantiable cls 6).before args s' = true := h _ (by simp [Jvm.Bundle.ownAtoms])
  obtain ⟨vm₁, cX, kX, hfX, hkX, -, -, X₁, st1⟩ := Y.newCold hexec (own := own) (C := cls) (index := ik) (n := 6) hown' hk' hins hini'
    (g := F0 m pc ls rest) rfl (by rw [hb]; exact d0) (Nat.le_refl _) (Nat.le_refl _)
  generalize hT1 : (T.setVm vm₁).pushCell { cls := cX, slots := kX.instanceTypes.map defaultValue, vm := .none } = T1 at X₁ st1
  have hcat : (Value.ref T.heap.size).category = 1 := rfl
  have hcellA : T1.heap[T.heap.size]? = some (freshCell cX kX) := by rw [← hT1]; exact State.heap_pushCell_size _ _
  have d3' : decode c.code (pc + 3) = .ok (.dup, 1) := by rw [hb]; exact d3
  have d4' : decode c.code (pc + 4) = .ok (.ldc_w is, 3) := by rw [hb]; exact d4
  have hstr' : vk_R own is text sa s' := vk_R.warm hW0 hstr
  obtain ⟨U, hsteps, hrun, hend, hW, hsame, ce, hce, hO⟩ := X₁.ctorThrowS hexec htr (own := own) (cls := cls) (names := names) (ic := ic) hown' hcls hnames h (fun x hx => nomatch hx) hfX hkX hcellA (by rw [hhp, hT]; exact Nat.le_refl _) (msg := .ref sa) rfl
    (g := { method := m, pc := pc + 7, locals := ls, stack := .ref sa :: .ref T.heap.size :: .ref T.heap.size :: rest, locked := none }) rfl hsize rfl rfl (rest := rest) rfl
    (by rw [hb]; exact d7) (by rw [hb]; exact d10) hout hRframes (by simp only [List.map_cons, List.sum_cons, hcat]; omega) hlocks
  obtain ⟨f1, f2⟩ := vx_frame hsame
  rw [hhp] at f1 f2
  have hWs : s.WarmedH U.vm := State.WarmedH.trans hW0 hW
  have hcl : s.vm.findClass cls = some ce.cls := by
    have h9 := hO.cls
    rw [hvm] at h9
    exact h9
  have hall : s.sameButNew ({ U with vm := s.vm } : State) locs mc ms := by
    subst hA
    obtain ⟨e1, e2⟩ := hsame
    rw [State.setFrames_setFrames] at e1
    have h2 : (T.setVm s.vm).sameButNew ({ U with vm := s.vm } : State) [] (0 + 1) (0 + 6) := ⟨e1, e2⟩
    have h3 := X.same.trans h2
    rw [List.append_nil] at h3
    exact h3.mono hc hs
  refine ⟨U, ?_, .threw T.heap.size, hrun, hend, Or.inr ⟨T.heap.size, rfl, cls, ce, locs, hx U hWs.alike f1 (fun q hq => f2 q hq (fun z hz => nomatch hz)), hce, hO.vm, hcl, hWs, hall, hf⟩⟩
  refine st1 _ ?_
  show Steps p.tables e below (T1.setTop { method := m, pc := pc + 3, locals := ls, stack := .ref T.heap.size :: rest, locked := none }) _
  jvm_step X₁.here [X₁.here.top, hexec, d3', Value.category]
  exact X₁.ldcStringW hexec (own := own) (text := text) (index := is) (a := sa) hown' hstr'.1 hstr'.2
    (g := { method := m, pc := pc + 4, locals := ls, stack := .ref T.heap.size :: .ref T.heap.size :: rest, locked := none }) rfl d4' _ hsteps
end Ends
section Bodies
variable {l : Launch}
theorem vx_ofW {y : MethodName} {ws ws' : List Cond} {rm : Room} {Pc : Array Value → State → Prop} {Qc : Array Value → State → Outcome → State → Prop} {XC : String → State → State → Prop} {mc ms : Nat} {free : Addr → Prop} {cc : ByteArray} {maxL : Nat} {ret : Option FieldType}
    (hy : plainName y.cls = true) (hw : ws = Cond.code y cc maxL ret :: ws')
    (body : ∀ p e s m args below meth c s₁, BodyLoose p l y (headSpec ws rm) cc maxL ret e s m args below meth c s₁ → c.maxLocals = maxL → (∀ x ∈ c.exceptionTable.toList, False) → Pc args s →
      W p l e (headSpec ws rm).room s m args below meth c s.heap [] 0 0 (vx_MQ below Qc XC args s mc ms free) (entryFrame m args maxL)) : vx_Met l y ws rm Pc Qc XC mc ms free := by
  refine MetFree.of_bodyS (code := cc) (maxLocals := maxL) (ret := ret) hy ?_ ?_
  · intro args s m h hn
    obtain ⟨meth, c, h1, h2, h3, h4, h5, h6, -, -⟩ := Cond.code_spec hn (atoms_spec (ws := ws) h _ (by rw [hw]; exact List.mem_cons_self))
    exact ⟨meth, c, h1, h2, h3, h4, h5, h6⟩
  · intro p e s m args below meth c s₁ B hml hP _
    have hh0 : s₁.heap = s.heap := by rw [B.state]; rfl
    have ht : ∀ x ∈ c.exceptionTable.toList, False := by
      obtain ⟨meth9, c9, h1, h2, -, -, -, -, h7, -⟩ := Cond.code_spec B.named (atoms_spec (ws := ws) B.pre _ (by rw [hw]; exact List.mem_cons_self))
      cases Option.some.inj (h1.symm.trans B.method)
      cases Option.some.inj (h2.symm.trans (Stand.of_body B).code)
      intro x hx
      rw [Array.isEmpty_iff.mp h7] at hx
      cases hx
    obtain ⟨t, a1, o, b1, b2, b3⟩ := body p e s m args below meth c s₁ B hml ht hP s₁ hh0 (Stand.of_body B)
    exact ⟨t, o, a1, b1, b2, b3⟩
/-- the table of a body with handlers -/
theorem vx_table {p : Program} {x y : MethodName} {S : Spec} {cc bytes : ByteArray} {maxL maxL' : Nat} {ret ret' : Option FieldType} {e : Env} {s s₁ : State} {m : MethodId} {args : Array Value} {below : List Frame} {meth : Method} {c : Code} {hh : List (Nat × Nat × Nat × Nat)}
    (B : BodyLoose p l y S cc maxL ret e s m args below meth c s₁) (h : (Cond.codeWith y bytes maxL' ret' hh).before args s = true) : c.exceptionTable.toList = tableOf hh := by
  obtain ⟨m9, meth9, c9, hn9, h1, h2, -, -, h6, -⟩ := Cond.codeWith_spec h
  cases Option.some.inj (hn9.symm.trans B.named)
  cases Option.some.inj (h1.symm.trans B.method)
  cases Option.some.inj (h2.symm.trans (Stand.of_body B).code)
  rw [← h6, table_eq]
end Bodies
end VXA
/-! ===== END ===== -/
/-! ===== BEGIN a static call of a method with an exception table ===== -/
section VXS
variable {p : Program} {l : Launch} {e : Env} {R : Room} {s : State} {m : MethodId} {args : Array Value} {below : List Frame} {meth : Method} {c : Code} {T : State} {H : Heap} {locs : List Loc} {cells slots : Nat}
abbrev vx_CSW (R : Room) (s : State) (args : Array Value) (own : String) (index : Nat) (y : MethodName) (bytes : ByteArray) (maxL : Nat) (ret : Option FieldType) (hh : List (Nat × Nat × Nat × Nat)) (ws : List Cond) (rm : Room) (mc ms n : Nat) : Prop :=
  (rm.cells = mc ∧ rm.slots = ms ∧ rm.frames + 1 ≤ R.frames ∧ 8 + (maxL + 11) + rm.locals ≤ R.locals ∧ (∀ w ∈ ws, ∀ (a' : Array Value) (U : State), s.WarmedH U.vm → w.before a' U = true) ∧ Cond.codeWith y bytes maxL ret hh ∈ ws) ∧
  (Cond.codeWith y bytes maxL ret hh).before args s = true ∧ (Cond.initialized y.cls).before args s = true ∧ (y.cls ≠ "java/lang/invoke/MethodHandle" ∧ y.cls ≠ "java/lang/invoke/VarHandle") ∧
  (∀ sig, parseMethodDescriptor y.desc = some sig → n = sig.parameters.length) ∧ (Cond.methodLink own index y).before args s = true ∧ (Cond.static y).before args s = true
theorem vx_cwSW {own : String} {index maxL mc ms : Nat} {y : MethodName} {bytes : ByteArray} {ret : Option FieldType} {hh : List (Nat × Nat × Nat × Nat)} {Ts ws ws' : List Cond} {rm : Room} (n : Nat) (ht : ∀ w ∈ Ts, w.before args s = true) (hT : GoodIn Ts (va_wsS own index y ws)) (hw : ws = Cond.codeWith y bytes maxL ret hh :: ws') (hrc : rm.cells = mc) (hrs : rm.slots = ms)
    (hd : y.cls ≠ "java/lang/invoke/MethodHandle" ∧ y.cls ≠ "java/lang/invoke/VarHandle" ∧ (parseMethodDescriptor y.desc).map (fun d => d.parameters.length) = some n) (hR : rm.frames + 1 ≤ R.frames ∧ 8 + (maxL + 11) + rm.locals ≤ R.locals) :
    vx_CSW R s args own index y bytes maxL ret hh ws rm mc ms n := by
  have ok : ∀ w ∈ va_wsS own index y ws, w.before args s = true := fun w h => ht w (hT w h).1
  have hG : GoodIn Ts ws := fun w h => hT w (by unfold va_wsS; exact List.mem_append_right _ h)
  have hc : Cond.codeWith y bytes maxL ret hh ∈ ws := by rw [hw]; exact List.mem_cons_self
  refine ⟨⟨hrc, hrs, hR.1, hR.2, pay_in ht hG, hc⟩, ht _ (hG _ hc).1, ok _ (by simp [va_wsS]), ⟨hd.1, hd.2.1⟩, fun sig h => ?_, ok _ (by simp [va_wsS]), ok _ (by simp [va_wsS])⟩
  have h2 := hd.2.2
  rw [h] at h2
  exact (Option.some.inj h2).symm
theorem vx_callSW (X : Stand p l e R s m args below meth c T locs cells slots) (hexec : p.tables.exec = Jvm.exec) {own : String} {index : Nat} {y : MethodName} {bytes : ByteArray} {maxL : Nat} {ret : Option FieldType} {hh : List (Nat × Nat × Nat × Nat)}
    (hown : s.vm.findClass own = some m.cls) (hlink : (Cond.methodLink own index y).before args s = true) (hstat : (Cond.static y).before args s = true) (hinit : (Cond.initialized y.cls).before args s = true)
    (hcode : (Cond.codeWith y bytes maxL ret hh).before args s = true) (hy : y.cls ≠ "java/lang/invoke/MethodHandle" ∧ y.cls ≠ "java/lang/invoke/VarHandle")
    {W9 : Nat} {Pre : Pt → Array Value → Prop} {Post : Pt → Array Value → Option Value → Pt → Prop} (hK : Back l R p e below s args y 3 W9 Pre Post)
    {g : JFrame} (hg : g.method = m) (hsize : g.locals.size = c.maxLocals) {argsL rest : List Value} (hlen : ∀ sig, parseMethodDescriptor y.desc = some sig → argsL.length = sig.parameters.length)
    (hstack : g.stack = argsL.reverse ++ rest) (hW : 2 * g.monitorRoom + (rest.map fun v => v.category).sum ≤ W9) (hdg : decode c.code g.pc = .ok (.invokestatic index, 3))
    (hpre : ∀ vm₁, s.WarmedH vm₁ → Pre ⟨T.setVm vm₁, locs, cells, slots⟩ argsL.toArray) :
    ∃ (v : Option Value) (vm₁ : Vm) (B : Pt), s.WarmedH vm₁ ∧ Stand p l e R s m args below meth c B.U B.locs B.cells B.slots ∧ Post ⟨T.setVm vm₁, locs, cells, slots⟩ argsL.toArray v B ∧
      ∀ target, Steps p.tables e below (B.U.setTop { g with pc := g.pc + 3, stack := v.toList ++ rest }) target → Steps p.tables e below (T.setTop g) target := by
  obtain ⟨mk, methM, cM, hnamed, hmethM, -, -, -, -, -, -, hsigM⟩ := Cond.codeWith_spec hcode
  have hstatic : methM.isStatic = true := Cond.static_spec hnamed hmethM hstat
  obtain ⟨kP, hkP, -⟩ := className_of_methodNamed hnamed
  have hinitP : kP.init = .initialized := Cond.initialized_spec (findClass_of_methodNamed hnamed) hkP hinit
  obtain ⟨vm₁, X₁, hstep₁⟩ := X.invokestatic hexec hown hlink hnamed hmethM hstatic hkP hinitP hy (g := g) hg (argsL := argsL) (rest := rest) (hlen _ hsigM) hstack hdg
  obtain ⟨v, B, X', hpost, hsteps⟩ := hK m meth c ⟨T.setVm vm₁, locs, cells, slots⟩ { g with stack := rest } (.invokestatic index) mk argsL.toArray X₁ hg hsize hdg hW (X₁.named hnamed) (hpre vm₁ X₁.warmed)
  exact ⟨v, vm₁, B, X₁.warmed, X', hpost, fun target h => hstep₁ _ fun acts => by rw [doInvoke_state]; exact hsteps.trans h⟩
theorem vx_runSW {y : MethodName} {bytes cc : ByteArray} {maxL nL mc ms n index : Nat} {ret : Option FieldType} {hh : List (Nat × Nat × Nat × Nat)} {ws : List Cond} {rm : Room} {Pc : Array Value → State → Prop} {Qc : Array Value → State → Outcome → State → Prop} {free : Addr → Prop} {Ts : List Cond} {own : String} {As rest : List Value} {g : JFrame}
    (S : CallFix p m c cc nL s args Ts own) (hM : Met l y ws rm Pc Qc mc ms free) (cw : vx_CSW R s args own index y bytes maxL ret hh ws rm mc ms n) (hp : PreS s H Pc As)
    (hg : g.method = m) (hn : As.length = n) (hsize : g.locals.size = nL) (hstack : g.stack = As.reverse ++ rest) (hW : 2 * g.monitorRoom + (rest.map fun v => v.category).sum ≤ 8) (hdg : decode cc g.pc = .ok (.invokestatic index, 3)) (hf : cells + mc ≤ R.cells ∧ slots + ms ≤ R.slots) :
    va_Run p l e R s m args below meth c H locs cells slots mc ms g rest (Qc As.toArray) (free) := by
  obtain ⟨⟨hrc, hrs, hfr, hlo, hws, hcw⟩, hcode, hini, hy, hlen, hl, hstt⟩ := cw
  have hK : Back l R p e below s args y 3 8 (PreOf R mc ms Pc) (PostOf Qc mc ms free) := va_backW (hh := hh) (bytes := bytes) (maxL := maxL) (ret := ret) hM hp.1 hrc hrs hfr hlo hws hcw (fun a' U hW => word_at hW (Or.inl (by first | rfl | simp [Cond.onTables, Cond.keeps, Cond.steady])) hini)
  obtain ⟨hx, hb, hml, ho, -⟩ := S
  intro T hT X
  obtain ⟨v, vm₁, ⟨U', l2, c2, s2⟩, hW₁, X', ⟨g', mk, t, L, e1, e2, hq, h1, hL, h2, h3⟩, st⟩ := vx_callSW X hx (hh := hh) (bytes := bytes) (maxL := maxL) (ret := ret) ho hl hstt hini hcode hy hK hg (hsize.trans hml.symm) (argsL := As) (rest := rest) (fun sig h => hn.trans (hlen sig h)) hstack hW (by rw [hb]; exact hdg)
    (fun vm₁ hW₁ => ⟨hf.1, hf.2, hp.2 (T.setVm vm₁) hT hW₁⟩)
  dsimp only [Pt.U, Pt.locs, Pt.cells, Pt.slots] at X' e1 e2 h1 h2 h3 st
  subst h1; subst h2; subst h3
  exact ⟨v, (T.setVm vm₁).calling g' mk As.toArray, t, U', L, hT, X', hL, e1, e2, hq, st⟩
/-- a thing of a world lies in the heap -/
theorem vx_lt {D : va_G} {cl : List vw_C} {ws : va_W} {H1 : Heap} (h : va_P D cl ws H1) {k : Nat} {q : Nat × va_E} (hk : ws[k]? = some q) : q.1 < H1.size := (h k q hk).lt
end VXS
/-! ===== END ===== -/
/-! ===== BEGIN methods with a table of their own: called by a name, returning or throwing ===== -/
section VXH
/-! vx_backW, vx_callVX, vx_callSX, vx_callVW, vx_runVW, vx_runVX, vx_runSX, vx_ofWH follow the same proofs as their sisters above (Free/Laws.lean, Shelf42/LK1.lean); vx_outP calls Shelf42/NT130.lean (outThrough). -/
section
variable {l : Launch} {R : Room} {p : Program} {e : Env} {below : List Frame} {s : State} {sargs : Array Value} {y : MethodName} {len W9 : Nat}
theorem vx_backW {ws : List Cond} {rm : Room} {Pc : Array Value → State → Prop} {Qc : Array Value → State → Outcome → State → Prop} {XC : String → State → State → Prop} {mc ms : Nat} {free : Addr → Prop} {bytes : ByteArray} {maxL : Nat} {ret : Option FieldType} {hh : List (Nat × Nat × Nat × Nat)}
    (hM : vx_Met l y ws rm Pc Qc XC mc ms free) (hblind : FrameBlind Pc) (hrc : rm.cells = mc) (hrs : rm.slots = ms)
    (hframes : rm.frames + 1 ≤ R.frames) (hlocals : W9 + (maxL + 11) + rm.locals ≤ R.locals)
    (hws : ∀ w ∈ ws, ∀ a' U, s.WarmedH U.vm → w.before a' U = true) (hcode : Cond.codeWith y bytes maxL ret hh ∈ ws) (hinit : ∀ a' U, s.WarmedH U.vm → (Cond.initialized y.cls).before a' U = true) :
    vx_Back l R p e below s sargs y len W9 (PreOf R mc ms Pc) (PostOf Qc mc ms free) (vx_Post XC mc ms free) := by
  intro m meth c A g ig mk a X hg hsize hdg hW hn hp
  have h1 : (headSpec ws rm).pre.before a A.U = true := atoms_intro fun w hw => hws w hw _ _ X.warmed
  have h2 : (Cond.codeWith y bytes maxL ret hh).before a A.U = true := hws _ hcode _ _ X.warmed
  have h3 : (Cond.initialized y.cls).before a A.U = true := hinit _ _ X.warmed
  have h4 : A.cells + (headSpec ws rm).room.cells ≤ R.cells := by rw [show (headSpec ws rm).room.cells = mc from hrc]; exact hp.1
  have h5 : A.slots + (headSpec ws rm).room.slots ≤ R.slots := by rw [show (headSpec ws rm).room.slots = ms from hrs]; exact hp.2.1
  have hPc : Pc a (A.U.calling g mk a) := hblind _ _ _ _ hp.2.2
  obtain ⟨U, Ls, c0, s0⟩ := A
  dsimp only [Pt.U, Pt.locs, Pt.cells, Pt.slots] at h1 h2 h3 h4 h5 X hn hPc ⊢
  obtain ⟨m9, methY, cY, hn9, hmY, hcY, -, hlY, -⟩ := Cond.codeWith_spec h2
  cases Option.some.inj (hn9.symm.trans hn)
  obtain ⟨kY, hkY, -⟩ := className_of_methodNamed hn
  have hinitY : kY.init = .initialized := Cond.initialized_spec (findClass_of_methodNamed hn) hkY h3
  have h : At U g.method c below := by rw [hg]; exact X.here
  have hlocals9 : W9 + (maxL + 11) + (headSpec ws rm).room.locals ≤ R.locals := hlocals
  have happ : (headSpec ws rm).appliesLoose y e.platform (U.calling g mk a) = true :=
    Spec.appliesLoose_calling (g := g) h hdg hn hkY hinitY
      (X.room_calling (g := g) (R' := (headSpec ws rm).room) hsize hmY hcY hframes (by rw [hlY]; omega) h4 h5) h1
  obtain ⟨mid, hmid⟩ := h.above
  have hfr : (U.setTop g).frames = (.java g :: mid) ++ below := by rw [State.frames_setTop' g h.top, hmid]; rfl
  obtain ⟨o, s₂, hsteps, -, hend, hq⟩ := Steps.callFree hM p X.admits X.cas X.clock (acts := []) hfr happ hPc trivial
  have hq' : vx_Q Qc XC mc ms free a (U.calling g mk a) o s₂ := hq
  rw [State.frames_setTop' g h.top] at hend
  obtain ⟨g₀, hg0⟩ := Option.isSome_iff_exists.mp h.top
  obtain ⟨r, hr⟩ := State.topJava?_eq_some.mp hg0
  have hr' : (({ U with heap := s₂.heap, slotsUsed := s₂.slotsUsed } : State).setVm s₂.vm).frames = .java g₀ :: r := hr
  rcases hq' with ⟨hqc, L, hfe, hL⟩ | ⟨q, rfl, E, ce, L, hx, hce, hcv, hcl, hW₂, hsm, hL⟩
  · obtain ⟨⟨v, rfl⟩, hW₂, e2, q2, q3, q4, q5, q6⟩ := id hfe
    have e3 : s₂ = ({ (U.calling g mk a).setFrames s₂.frames with heap := s₂.heap, slotsUsed := s₂.slotsUsed } : State).setVm s₂.vm := by
      have : s₂ = ({ s₂ with vm := (U.calling g mk a).vm } : State).setVm s₂.vm := rfl
      rw [e2] at this
      exact this
    obtain ⟨c₂, i₂, len₂, hc₂, hd₂, hf₂⟩ := hend
    have hW' : U.WarmedH s₂.vm := hW₂
    have hcc : c₂ = c := by
      have h1 : s₂.code? g.method = U.code? g.method := by
        rw [State.code?_eq, State.code?_eq, hW'.alike.method?]
      exact Option.some.inj (hc₂.symm.trans (h1.trans h.code))
    subst hcc
    have hlen : len₂ = len := by rw [hdg] at hd₂; cases hd₂; rfl
    subst hlen
    have hs₂ : s₂ = (({ U with heap := s₂.heap, slotsUsed := s₂.slotsUsed } : State).setVm s₂.vm).setTop { g with pc := g.pc + len₂, stack := v.toList ++ g.stack } := by
      refine e3.trans ?_
      rw [hf₂, State.calling_eq h.top, State.setFrames_setFrames, State.setTop_of_frames _ hr', hr]
      rfl
    have hsame : U.sameButNew ({ U with heap := s₂.heap, slotsUsed := s₂.slotsUsed } : State) L mc ms := by
      refine ⟨?_, q2, q3, q4, q5, q6⟩
      obtain ⟨t, ht, -⟩ := State.frames_cons hr
      show ({ U with heap := s₂.heap, slotsUsed := s₂.slotsUsed } : State) = { U.setFrames U.frames with heap := s₂.heap, slotsUsed := s₂.slotsUsed }
      rw [State.setFrames_self ht]
    subst hg
    refine Or.inl ⟨v, ⟨(({ U with heap := s₂.heap, slotsUsed := s₂.slotsUsed } : State).setVm s₂.vm), Ls ++ L, c0 + mc, s0 + ms⟩,
      ⟨X.admits, X.cas, X.clock, X.frames, X.room, X.hears, X.method, X.code, (X.here.setHeapUsed s₂.heap s₂.slotsUsed).setVm hW'.alike, X.tail, State.WarmedH.trans X.warmed hW', X.limits, X.bytes, X.same.trans (hsame.setVm s.vm)⟩,
      ⟨g, mk, s₂, L, rfl, rfl, hqc, rfl, hL, rfl, rfl⟩, ?_⟩
    show Steps p.tables e below _ ((({ U with heap := s₂.heap, slotsUsed := s₂.slotsUsed } : State).setVm s₂.vm).setTop { g with pc := g.pc + len₂, stack := v.toList ++ g.stack })
    rw [← hs₂]
    exact hsteps
  · obtain ⟨e2, q2, q3, q4, q5, q6⟩ := id hsm
    have e3 : s₂ = ({ (U.calling g mk a).setFrames s₂.frames with heap := s₂.heap, slotsUsed := s₂.slotsUsed } : State).setVm s₂.vm := by
      have : s₂ = ({ s₂ with vm := (U.calling g mk a).vm } : State).setVm s₂.vm := rfl
      rw [e2] at this
      exact this
    have hf₂ : s₂.frames = .throwing q :: .java g :: U.frames.tail := hend
    have hW' : U.WarmedH s₂.vm := hW₂
    have hs₂ : s₂ = ((({ U with heap := s₂.heap, slotsUsed := s₂.slotsUsed } : State).setVm s₂.vm).setTop g).pushFrame (.throwing q) := by
      refine e3.trans ?_
      rw [hf₂, State.calling_eq h.top, State.setFrames_setFrames, State.pushFrame, State.frames_setTop _ hr', State.setTop_of_frames _ hr', State.setFrames_setFrames, hr]
      rfl
    have hsame : U.sameButNew ({ U with heap := s₂.heap, slotsUsed := s₂.slotsUsed } : State) L mc ms := by
      refine ⟨?_, q2, q3, q4, q5, q6⟩
      obtain ⟨t, ht, -⟩ := State.frames_cons hr
      show ({ U with heap := s₂.heap, slotsUsed := s₂.slotsUsed } : State) = { U.setFrames U.frames with heap := s₂.heap, slotsUsed := s₂.slotsUsed }
      rw [State.setFrames_self ht]
    subst hg
    refine Or.inr ⟨q, ⟨(({ U with heap := s₂.heap, slotsUsed := s₂.slotsUsed } : State).setVm s₂.vm), Ls ++ L, c0 + mc, s0 + ms⟩,
      ⟨X.admits, X.cas, X.clock, X.frames, X.room, X.hears, X.method, X.code, (X.here.setHeapUsed s₂.heap s₂.slotsUsed).setVm hW'.alike, X.tail, State.WarmedH.trans X.warmed hW', X.limits, X.bytes, X.same.trans (hsame.setVm s.vm)⟩,
      ⟨g, mk, s₂, L, E, ce, rfl, rfl, hx, hce, hcv, hcl, rfl, hL, rfl, rfl⟩, ?_⟩
    show Steps p.tables e below _ (((({ U with heap := s₂.heap, slotsUsed := s₂.slotsUsed } : State).setVm s₂.vm).setTop g).pushFrame (.throwing q))
    rw [← hs₂]
    exact hsteps
end
variable {p : Program} {l : Launch} {e : Env} {R : Room} {s : State} {m : MethodId} {args : Array Value} {below : List Frame} {meth : Method} {c : Code} {T : State} {H : Heap} {locs : List Loc} {cells slots : Nat}
theorem vx_callVX (X : Stand p l e R s m args below meth c T locs cells slots) (hexec : p.tables.exec = Jvm.exec) {own C : String} {index : Nat} {y : MethodName} {bytes : ByteArray} {maxL : Nat} {ret : Option FieldType} {hh : List (Nat × Nat × Nat × Nat)}
    (hown : s.vm.findClass own = some m.cls) (hlink : (Cond.methodLink own index y).before args s = true) (hinst : (Cond.instanceMethod y).before args s = true) (hsel : (Cond.selects C y y).before args s = true)
    (hcode : (Cond.codeWith y bytes maxL ret hh).before args s = true) (hy : y.cls ≠ "java/lang/invoke/MethodHandle" ∧ y.cls ≠ "java/lang/invoke/VarHandle")
    {W9 : Nat} {Pre : Pt → Array Value → Prop} {Post : Pt → Array Value → Option Value → Pt → Prop} {PostX : Pt → Array Value → Addr → Pt → Prop} (hK : vx_Back l R p e below s args y 3 W9 Pre Post PostX)
    {b : Addr} {cellB : Cell} (hcell : T.heap[b]? = some cellB) (hobj : cellB.vm.isStatics = false) (hcls : s.vm.findClass C = some cellB.cls)
    {g : JFrame} (hg : g.method = m) (hsize : g.locals.size = c.maxLocals) {argsL rest : List Value} (hlen : ∀ sig, parseMethodDescriptor y.desc = some sig → argsL.length = sig.parameters.length)
    (hstack : g.stack = argsL.reverse ++ .ref b :: rest) (hW : 2 * g.monitorRoom + (rest.map fun v => v.category).sum ≤ W9) (hdg : decode c.code g.pc = .ok (.invokevirtual index, 3))
    (hpre : ∀ vm₁, s.WarmedH vm₁ → Pre ⟨T.setVm vm₁, locs, cells, slots⟩ (Value.ref b :: argsL).toArray) :
    (∃ (v : Option Value) (vm₁ : Vm) (B : Pt), s.WarmedH vm₁ ∧ Stand p l e R s m args below meth c B.U B.locs B.cells B.slots ∧ Post ⟨T.setVm vm₁, locs, cells, slots⟩ (Value.ref b :: argsL).toArray v B ∧
      ∀ target, Steps p.tables e below (B.U.setTop { g with pc := g.pc + 3, stack := v.toList ++ rest }) target → Steps p.tables e below (T.setTop g) target) ∨
    (∃ (q : Addr) (vm₁ : Vm) (B : Pt), s.WarmedH vm₁ ∧ Stand p l e R s m args below meth c B.U B.locs B.cells B.slots ∧ PostX ⟨T.setVm vm₁, locs, cells, slots⟩ (Value.ref b :: argsL).toArray q B ∧
      Steps p.tables e below (T.setTop g) ((B.U.setTop { g with stack := rest }).pushFrame (.throwing q))) := by
  obtain ⟨mk, methM, hnamed, hmethM, hstM, habM⟩ := Cond.instanceMethod_spec hinst
  obtain ⟨m8, methM', cM, hn8, hmethM', -, -, -, -, -, -, hsigM⟩ := Cond.codeWith_spec hcode
  cases Option.some.inj (hn8.symm.trans hnamed)
  cases hmethM.symm.trans hmethM'
  obtain ⟨c2, r2, m2, q1, q2, q3, q4, kP, hkP, hkPi⟩ := Cond.selects_spec hsel
  cases hcls.symm.trans q1
  cases (State.methodFound?_of_named hnamed hy).symm.trans q2
  cases hnamed.symm.trans q3
  have hselP : selectMethod e.platform s.vm cellB.cls mk = .method mk := by rw [Launch.admits_selectMethod X.admits]; exact q4
  obtain ⟨vm₁, X₁, hstep₁⟩ := X.invokevirtual hexec hown hlink hnamed hmethM hstM hkP hkPi hy (a := b) (cell := cellB) hcell
    (fun z h => by rw [h] at hobj; cases hobj) hselP hmethM habM hkP hkPi (g := g) hg (argsL := argsL) (rest := rest) (hlen _ hsigM) hstack hdg
  rcases hK m meth c ⟨T.setVm vm₁, locs, cells, slots⟩ { g with stack := rest } (.invokevirtual index) mk (Value.ref b :: argsL).toArray X₁ hg hsize hdg hW (X₁.named hnamed) (hpre vm₁ X₁.warmed) with ⟨v, B, X', hpost, hsteps⟩ | ⟨q, B, X', hpost, hsteps⟩
  · exact Or.inl ⟨v, vm₁, B, X₁.warmed, X', hpost, fun target h => hstep₁ _ fun acts => by rw [doInvoke_state]; exact hsteps.trans h⟩
  · exact Or.inr ⟨q, vm₁, B, X₁.warmed, X', hpost, hstep₁ _ fun acts => by rw [doInvoke_state]; exact hsteps⟩
theorem vx_callSX (X : Stand p l e R s m args below meth c T locs cells slots) (hexec : p.tables.exec = Jvm.exec) {own : String} {index : Nat} {y : MethodName} {bytes : ByteArray} {maxL : Nat} {ret : Option FieldType} {hh : List (Nat × Nat × Nat × Nat)}
    (hown : s.vm.findClass own = some m.cls) (hlink : (Cond.methodLink own index y).before args s = true) (hstat : (Cond.static y).before args s = true) (hinit : (Cond.initialized y.cls).before args s = true)
    (hcode : (Cond.codeWith y bytes maxL ret hh).before args s = true) (hy : y.cls ≠ "java/lang/invoke/MethodHandle" ∧ y.cls ≠ "java/lang/invoke/VarHandle")
    {W9 : Nat} {Pre : Pt → Array Value → Prop} {Post : Pt → Array Value → Option Value → Pt → Prop} {PostX : Pt → Array Value → Addr → Pt → Prop} (hK : vx_Back l R p e below s args y 3 W9 Pre Post PostX)
    {g : JFrame} (hg : g.method = m) (hsize : g.locals.size = c.maxLocals) {argsL rest : List Value} (hlen : ∀ sig, parseMethodDescriptor y.desc = some sig → argsL.length = sig.parameters.length)
    (hstack : g.stack = argsL.reverse ++ rest) (hW : 2 * g.monitorRoom + (rest.map fun v => v.category).sum ≤ W9) (hdg : decode c.code g.pc = .ok (.invokestatic index, 3))
    (hpre : ∀ vm₁, s.WarmedH vm₁ → Pre ⟨T.setVm vm₁, locs, cells, slots⟩ argsL.toArray) :
    (∃ (v : Option Value) (vm₁ : Vm) (B : Pt), s.WarmedH vm₁ ∧ Stand p l e R s m args below meth c B.U B.locs B.cells B.slots ∧ Post ⟨T.setVm vm₁, locs, cells, slots⟩ argsL.toArray v B ∧
      ∀ target, Steps p.tables e below (B.U.setTop { g with pc := g.pc + 3, stack := v.toList ++ rest }) target → Steps p.tables e below (T.setTop g) target) ∨
    (∃ (q : Addr) (vm₁ : Vm) (B : Pt), s.WarmedH vm₁ ∧ Stand p l e R s m args below meth c B.U B.locs B.cells B.slots ∧ PostX ⟨T.setVm vm₁, locs, cells, slots⟩ argsL.toArray q B ∧
      Steps p.tables e below (T.setTop g) ((B.U.setTop { g with stack := rest }).pushFrame (.throwing q))) := by
  obtain ⟨mk, methM, cM, hnamed, hmethM, -, -, -, -, -, -, hsigM⟩ := Cond.codeWith_spec hcode
  have hstatic : methM.isStatic = true := Cond.static_spec hnamed hmethM hstat
  obtain ⟨kP, hkP, -⟩ := className_of_methodNamed hnamed
  have hinitP : kP.init = .initialized := Cond.initialized_spec (findClass_of_methodNamed hnamed) hkP hinit
  obtain ⟨vm₁, X₁, hstep₁⟩ := X.invokestatic hexec hown hlink hnamed hmethM hstatic hkP hinitP hy (g := g) hg (argsL := argsL) (rest := rest) (hlen _ hsigM) hstack hdg
  rcases hK m meth c ⟨T.setVm vm₁, locs, cells, slots⟩ { g with stack := rest } (.invokestatic index) mk argsL.toArray X₁ hg hsize hdg hW (X₁.named hnamed) (hpre vm₁ X₁.warmed) with ⟨v, B, X', hpost, hsteps⟩ | ⟨q, B, X', hpost, hsteps⟩
  · exact Or.inl ⟨v, vm₁, B, X₁.warmed, X', hpost, fun target h => hstep₁ _ fun acts => by rw [doInvoke_state]; exact hsteps.trans h⟩
  · exact Or.inr ⟨q, vm₁, B, X₁.warmed, X', hpost, hstep₁ _ fun acts => by rw [doInvoke_state]; exact hsteps⟩
theorem vx_callVW (X : Stand p l e R s m args below meth c T locs cells slots) (hexec : p.tables.exec = Jvm.exec) {own C : String} {index : Nat} {y : MethodName} {bytes : ByteArray} {maxL : Nat} {ret : Option FieldType} {hh : List (Nat × Nat × Nat × Nat)}
    (hown : s.vm.findClass own = some m.cls) (hlink : (Cond.methodLink own index y).before args s = true) (hinst : (Cond.instanceMethod y).before args s = true) (hsel : (Cond.selects C y y).before args s = true)
    (hcode : (Cond.codeWith y bytes maxL ret hh).before args s = true) (hy : y.cls ≠ "java/lang/invoke/MethodHandle" ∧ y.cls ≠ "java/lang/invoke/VarHandle")
    {W9 : Nat} {Pre : Pt → Array Value → Prop} {Post : Pt → Array Value → Option Value → Pt → Prop} (hK : Back l R p e below s args y 3 W9 Pre Post)
    {b : Addr} {cellB : Cell} (hcell : T.heap[b]? = some cellB) (hobj : cellB.vm.isStatics = false) (hcls : s.vm.findClass C = some cellB.cls)
    {g : JFrame} (hg : g.method = m) (hsize : g.locals.size = c.maxLocals) {argsL rest : List Value} (hlen : ∀ sig, parseMethodDescriptor y.desc = some sig → argsL.length = sig.parameters.length)
    (hstack : g.stack = argsL.reverse ++ .ref b :: rest) (hW : 2 * g.monitorRoom + (rest.map fun v => v.category).sum ≤ W9) (hdg : decode c.code g.pc = .ok (.invokevirtual index, 3))
    (hpre : ∀ vm₁, s.WarmedH vm₁ → Pre ⟨T.setVm vm₁, locs, cells, slots⟩ (Value.ref b :: argsL).toArray) :
    ∃ (v : Option Value) (vm₁ : Vm) (B : Pt), s.WarmedH vm₁ ∧ Stand p l e R s m args below meth c B.U B.locs B.cells B.slots ∧ Post ⟨T.setVm vm₁, locs, cells, slots⟩ (Value.ref b :: argsL).toArray v B ∧
      ∀ target, Steps p.tables e below (B.U.setTop { g with pc := g.pc + 3, stack := v.toList ++ rest }) target → Steps p.tables e below (T.setTop g) target := by
  obtain ⟨mk, methM, hnamed, hmethM, hstM, habM⟩ := Cond.instanceMethod_spec hinst
  obtain ⟨m8, methM', cM, hn8, hmethM', -, -, -, -, -, -, hsigM⟩ := Cond.codeWith_spec hcode
  cases Option.some.inj (hn8.symm.trans hnamed)
  cases hmethM.symm.trans hmethM'
  obtain ⟨c2, r2, m2, q1, q2, q3, q4, kP, hkP, hkPi⟩ := Cond.selects_spec hsel
  cases hcls.symm.trans q1
  cases (State.methodFound?_of_named hnamed hy).symm.trans q2
  cases hnamed.symm.trans q3
  have hselP : selectMethod e.platform s.vm cellB.cls mk = .method mk := by rw [Launch.admits_selectMethod X.admits]; exact q4
  obtain ⟨vm₁, X₁, hstep₁⟩ := X.invokevirtual hexec hown hlink hnamed hmethM hstM hkP hkPi hy (a := b) (cell := cellB) hcell
    (fun z h => by rw [h] at hobj; cases hobj) hselP hmethM habM hkP hkPi (g := g) hg (argsL := argsL) (rest := rest) (hlen _ hsigM) hstack hdg
  obtain ⟨v, B, X', hpost, hsteps⟩ := hK m meth c ⟨T.setVm vm₁, locs, cells, slots⟩ { g with stack := rest } (.invokevirtual index) mk (Value.ref b :: argsL).toArray X₁ hg hsize hdg hW (X₁.named hnamed) (hpre vm₁ X₁.warmed)
  exact ⟨v, vm₁, B, X₁.warmed, X', hpost, fun target h => hstep₁ _ fun acts => by rw [doInvoke_state]; exact hsteps.trans h⟩
abbrev vx_CVW (R : Room) (s : State) (args : Array Value) (own C : String) (index : Nat) (y : MethodName) (bytes : ByteArray) (maxL : Nat) (ret : Option FieldType) (hh : List (Nat × Nat × Nat × Nat)) (ws : List Cond) (rm : Room) (mc ms n : Nat) : Prop :=
  (rm.cells = mc ∧ rm.slots = ms ∧ rm.frames + 1 ≤ R.frames ∧ 8 + (maxL + 11) + rm.locals ≤ R.locals ∧ (∀ w ∈ ws, ∀ (a' : Array Value) (U : State), s.WarmedH U.vm → w.before a' U = true) ∧ Cond.codeWith y bytes maxL ret hh ∈ ws) ∧
  (Cond.codeWith y bytes maxL ret hh).before args s = true ∧ (Cond.initialized y.cls).before args s = true ∧ (y.cls ≠ "java/lang/invoke/MethodHandle" ∧ y.cls ≠ "java/lang/invoke/VarHandle") ∧
  (∀ sig, parseMethodDescriptor y.desc = some sig → n = sig.parameters.length) ∧ (Cond.methodLink own index y).before args s = true ∧ (Cond.instanceMethod y).before args s = true ∧ (Cond.selects C y y).before args s = true
theorem vx_cwVW {own C : String} {index maxL mc ms : Nat} {y : MethodName} {bytes : ByteArray} {ret : Option FieldType} {hh : List (Nat × Nat × Nat × Nat)} {Ts ws ws' : List Cond} {rm : Room} (n : Nat) (ht : ∀ w ∈ Ts, w.before args s = true) (hT : GoodIn Ts (wsV own index C y ws)) (hw : ws = Cond.codeWith y bytes maxL ret hh :: ws') (hrc : rm.cells = mc) (hrs : rm.slots = ms)
    (hd : y.cls = C ∧ y.cls ≠ "java/lang/invoke/MethodHandle" ∧ y.cls ≠ "java/lang/invoke/VarHandle" ∧ (parseMethodDescriptor y.desc).map (fun d => d.parameters.length) = some n) (hR : rm.frames + 1 ≤ R.frames ∧ 8 + (maxL + 11) + rm.locals ≤ R.locals) :
    vx_CVW R s args own C index y bytes maxL ret hh ws rm mc ms n := by
  obtain ⟨hC, hd⟩ := hd
  subst hC
  have ok : ∀ w ∈ wsV own index y.cls y ws, w.before args s = true := fun w h => ht w (hT w h).1
  have hG : GoodIn Ts ws := fun w h => hT w (by unfold wsV; exact List.mem_append_right _ h)
  have hc : Cond.codeWith y bytes maxL ret hh ∈ ws := by rw [hw]; exact List.mem_cons_self
  refine ⟨⟨hrc, hrs, hR.1, hR.2, pay_in ht hG, hc⟩, ht _ (hG _ hc).1, ok _ (by simp [wsV]), ⟨hd.1, hd.2.1⟩, fun sig h => ?_, ok _ (by simp [wsV]), ok _ (by simp [wsV]), ok _ (by simp [wsV])⟩
  have h2 := hd.2.2
  rw [h] at h2
  exact (Option.some.inj h2).symm
theorem vx_runVW {y : MethodName} {bytes cc : ByteArray} {maxL nL mc ms n index : Nat} {ret : Option FieldType} {hh : List (Nat × Nat × Nat × Nat)} {ws : List Cond} {rm : Room} {Pc : Array Value → State → Prop} {Qc : Array Value → State → Outcome → State → Prop} {free : Addr → Prop} {Ts : List Cond} {own C : String} {b : Addr} {As rest : List Value} {g : JFrame}
    (S : CallFix p m c cc nL s args Ts own) (hM : Met l y ws rm Pc Qc mc ms free) (cw : vx_CVW R s args own C index y bytes maxL ret hh ws rm mc ms n) (hp : PreV s H C b Pc As)
    (hg : g.method = m) (hn : As.length = n) (hsize : g.locals.size = nL) (hstack : g.stack = As.reverse ++ .ref b :: rest) (hW : 2 * g.monitorRoom + (rest.map fun v => v.category).sum ≤ 8) (hdg : decode cc g.pc = .ok (.invokevirtual index, 3)) (hf : cells + mc ≤ R.cells ∧ slots + ms ≤ R.slots) :
    va_Run p l e R s m args below meth c H locs cells slots mc ms g rest (Qc (Value.ref b :: As).toArray) free := by
  obtain ⟨⟨hrc, hrs, hfr, hlo, hws, hcw⟩, hcode, hini, hy, hlen, hl, hin, hse⟩ := cw
  have hK : Back l R p e below s args y 3 8 (PreOf R mc ms Pc) (PostOf Qc mc ms free) := va_backW (hh := hh) (bytes := bytes) (maxL := maxL) (ret := ret) hM hp.1 hrc hrs hfr hlo hws hcw (fun a' U hW => word_at hW (Or.inl (by first | rfl | simp [Cond.onTables, Cond.keeps, Cond.steady])) hini)
  obtain ⟨hx, hb, hml, ho, -⟩ := S
  obtain ⟨-, ⟨cellB, hcB, hoB, hclB⟩, hPc⟩ := hp
  intro T hT X
  obtain ⟨v, vm₁, ⟨U', l2, c2, s2⟩, hW₁, X', ⟨g', mk, t, L, e1, e2, hq, h1, hL, h2, h3⟩, st⟩ := vx_callVW X hx (C := C) (hh := hh) (bytes := bytes) (maxL := maxL) (ret := ret) ho hl hin hse hcode hy hK (by rw [hT]; exact hcB) hoB hclB hg (hsize.trans hml.symm) (argsL := As) (rest := rest) (fun sig h => hn.trans (hlen sig h)) hstack hW (by rw [hb]; exact hdg)
    (fun vm₁ hW₁ => ⟨hf.1, hf.2, hPc (T.setVm vm₁) hT hW₁⟩)
  dsimp only [Pt.U, Pt.locs, Pt.cells, Pt.slots] at X' e1 e2 h1 h2 h3 st
  subst h1; subst h2; subst h3
  exact ⟨v, (T.setVm vm₁).calling g' mk (Value.ref b :: As).toArray, t, U', L, hT, X', hL, e1, e2, hq, st⟩
section
variable {y : MethodName} {bytes cc : ByteArray} {maxL nL mc ms n index : Nat} {ret : Option FieldType} {ws : List Cond} {rm : Room} {Pc : Array Value → State → Prop} {Qc : Array Value → State → Outcome → State → Prop} {XC : String → State → State → Prop} {free : Addr → Prop} {Ts : List Cond} {own C : String} {b : Addr} {As rest : List Value} {g : JFrame}
theorem vx_runVX {hh : List (Nat × Nat × Nat × Nat)} (S : CallFix p m c cc nL s args Ts own) (hM : vx_Met l y ws rm Pc Qc XC mc ms free) (cw : vx_CVW R s args own C index y bytes maxL ret hh ws rm mc ms n) (hp : PreV s H C b Pc As)
    (hg : g.method = m) (hn : As.length = n) (hsize : g.locals.size = nL) (hstack : g.stack = As.reverse ++ .ref b :: rest) (hW : 2 * g.monitorRoom + (rest.map fun v => v.category).sum ≤ 8) (hdg : decode cc g.pc = .ok (.invokevirtual index, 3)) (hf : cells + mc ≤ R.cells ∧ slots + ms ≤ R.slots) :
    vx_Run p l e R s m args below meth c H locs cells slots mc ms g rest (Qc (Value.ref b :: As).toArray) XC free := by
  obtain ⟨⟨hrc, hrs, hfr, hlo, hws, hcw⟩, hcode, hini, hy, hlen, hl, hin, hse⟩ := cw
  have hK : vx_Back l R p e below s args y 3 8 (PreOf R mc ms Pc) (PostOf Qc mc ms free) (vx_Post XC mc ms free) := vx_backW (hh := hh) (bytes := bytes) (maxL := maxL) (ret := ret) hM hp.1 hrc hrs hfr hlo hws hcw (fun a' U hW => word_at hW (Or.inl (by first | rfl | simp [Cond.onTables, Cond.keeps, Cond.steady])) hini)
  obtain ⟨hx, hb, hml, ho, -⟩ := S
  obtain ⟨-, ⟨cellB, hcB, hoB, hclB⟩, hPc⟩ := hp
  intro T hT X
  rcases vx_callVX X hx (C := C) (hh := hh) (bytes := bytes) (maxL := maxL) (ret := ret) ho hl hin hse hcode hy hK (by rw [hT]; exact hcB) hoB hclB hg (hsize.trans hml.symm) (argsL := As) (rest := rest) (fun sig h => hn.trans (hlen sig h)) hstack hW (by rw [hb]; exact hdg)
    (fun vm₁ hW₁ => ⟨hf.1, hf.2, hPc (T.setVm vm₁) hT hW₁⟩) with ⟨v, vm₁, ⟨U', l2, c2, s2⟩, hW₁, X', ⟨g', mk, t, L, e1, e2, hq, h1, hL, h2, h3⟩, st⟩ | ⟨q, vm₁, ⟨U', l2, c2, s2⟩, hW₁, X', ⟨g', mk, t, L, E, ce, e1, e2, hq, hce, hcv, hcl, h1, hL, h2, h3⟩, st⟩
  · dsimp only [Pt.U, Pt.locs, Pt.cells, Pt.slots] at X' e1 e2 h1 h2 h3 st
    subst h1; subst h2; subst h3
    exact Or.inl ⟨v, (T.setVm vm₁).calling g' mk (Value.ref b :: As).toArray, t, U', L, hT, X', hL, e1, e2, hq, st⟩
  · dsimp only [Pt.U, Pt.locs, Pt.cells, Pt.slots] at X' e1 e2 h1 h2 h3 st hcl
    subst h1; subst h2; subst h3
    exact Or.inr ⟨q, (T.setVm vm₁).calling g' mk (Value.ref b :: As).toArray, t, U', L, E, ce, hT, X', hL, e1, e2, hq, hce, hcv, vx_cls hW₁ hcl, st⟩
theorem vx_runSX {hh : List (Nat × Nat × Nat × Nat)} (S : CallFix p m c cc nL s args Ts own) (hM : vx_Met l y ws rm Pc Qc XC mc ms free) (cw : vx_CSW R s args own index y bytes maxL ret hh ws rm mc ms n) (hp : PreS s H Pc As)
    (hg : g.method = m) (hn : As.length = n) (hsize : g.locals.size = nL) (hstack : g.stack = As.reverse ++ rest) (hW : 2 * g.monitorRoom + (rest.map fun v => v.category).sum ≤ 8) (hdg : decode cc g.pc = .ok (.invokestatic index, 3)) (hf : cells + mc ≤ R.cells ∧ slots + ms ≤ R.slots) :
    vx_Run p l e R s m args below meth c H locs cells slots mc ms g rest (Qc As.toArray) XC free := by
  obtain ⟨⟨hrc, hrs, hfr, hlo, hws, hcw⟩, hcode, hini, hy, hlen, hl, hstt⟩ := cw
  have hK : vx_Back l R p e below s args y 3 8 (PreOf R mc ms Pc) (PostOf Qc mc ms free) (vx_Post XC mc ms free) := vx_backW (hh := hh) (bytes := bytes) (maxL := maxL) (ret := ret) hM hp.1 hrc hrs hfr hlo hws hcw (fun a' U hW => word_at hW (Or.inl (by first | rfl | simp [Cond.onTables, Cond.keeps, Cond.steady])) hini)
  obtain ⟨hx, hb, hml, ho, -⟩ := S
  intro T hT X
  rcases vx_callSX X hx (hh := hh) (bytes := bytes) (maxL := maxL) (ret := ret) ho hl hstt hini hcode hy hK hg (hsize.trans hml.symm) (argsL := As) (rest := rest) (fun sig h => hn.trans (hlen sig h)) hstack hW (by rw [hb]; exact hdg)
    (fun vm₁ hW₁ => ⟨hf.1, hf.2, hp.2 (T.setVm vm₁) hT hW₁⟩) with ⟨v, vm₁, ⟨U', l2, c2, s2⟩, hW₁, X', ⟨g', mk, t, L, e1, e2, hq, h1, hL, h2, h3⟩, st⟩ | ⟨q, vm₁, ⟨U', l2, c2, s2⟩, hW₁, X', ⟨g', mk, t, L, E, ce, e1, e2, hq, hce, hcv, hcl, h1, hL, h2, h3⟩, st⟩
  · dsimp only [Pt.U, Pt.locs, Pt.cells, Pt.slots] at X' e1 e2 h1 h2 h3 st
    subst h1; subst h2; subst h3
    exact Or.inl ⟨v, (T.setVm vm₁).calling g' mk As.toArray, t, U', L, hT, X', hL, e1, e2, hq, st⟩
  · dsimp only [Pt.U, Pt.locs, Pt.cells, Pt.slots] at X' e1 e2 h1 h2 h3 st hcl
    subst h1; subst h2; subst h3
    exact Or.inr ⟨q, (T.setVm vm₁).calling g' mk As.toArray, t, U', L, E, ce, hT, X', hL, e1, e2, hq, hce, hcv, vx_cls hW₁ hcl, st⟩
end
end VXH
theorem vx_ofWH {l : Launch} {y : MethodName} {ws ws' : List Cond} {rm : Room} {Pc : Array Value → State → Prop} {Qc : Array Value → State → Outcome → State → Prop} {XC : String → State → State → Prop} {mc ms : Nat} {free : Addr → Prop} {cc : ByteArray} {maxL : Nat} {ret : Option FieldType} {hh : List (Nat × Nat × Nat × Nat)}
    (hy : plainName y.cls = true) (hw : ws = Cond.codeWith y cc maxL ret hh :: ws')
    (body : ∀ p e s m args below meth c s₁, BodyLoose p l y (headSpec ws rm) cc maxL ret e s m args below meth c s₁ → c.maxLocals = maxL → Pc args s →
      W p l e (headSpec ws rm).room s m args below meth c s.heap [] 0 0 (vx_MQ below Qc XC args s mc ms free) (entryFrame m args maxL)) : vx_Met l y ws rm Pc Qc XC mc ms free := by
  refine MetFree.of_bodyS (code := cc) (maxLocals := maxL) (ret := ret) hy ?_ ?_
  · intro args s m h hn
    obtain ⟨m9, meth, c, hn9, h1, h2, h3, h4, -, h5, h6, -⟩ := Cond.codeWith_spec (atoms_spec (ws := ws) h _ (by rw [hw]; exact List.mem_cons_self))
    cases hn.symm.trans hn9
    exact ⟨meth, c, h1, h2, h3, h4, h5, h6⟩
  · intro p e s m args below meth c s₁ B hml hP _
    have hh0 : s₁.heap = s.heap := by rw [B.state]; rfl
    obtain ⟨t, a1, o, b1, b2, b3⟩ := body p e s m args below meth c s₁ B hml hP s₁ hh0 (Stand.of_body B)
    exact ⟨t, o, a1, b1, b2, b3⟩
/-! ===== END ===== -/

/-! ===== BEGIN printed: names, fields, word lists, decode rows ===== -/
end
section
def RX0 : String := "OctagonDesk$Numbers"
def TX0 : u_T := fun k => match k with
  | 0 => ("OctagonDesk$Numbers", "cells", "I", true)
  | 1 => ("OctagonDesk$Numbers", "sum", "I", true)
  | 2 => ("OctagonDesk$Numbers", "limbs", "[J", false)
  | _ => ("OctagonDesk$Numbers", "top", "I", false)
def tyX0 : Nat → FieldType := fun k => match k with
  | 0 => .int
  | 1 => .int
  | 2 => .array .long
  | _ => .int
abbrev wsX00 : List Cond := u_ws RX0 TX0 4
theorem nmX0 : ∀ a, a < 4 → ∀ b, b < 4 → a ≠ b → (TX0 a).2.1 ≠ (TX0 b).2.1 := by decide +kernel
theorem tyX0_ok : ∀ k, k < 4 → parseFieldDescriptor (TX0 k).2.2.1 = some (tyX0 k) := by decide +kernel
abbrev cX0_init : ByteArray := prog_2_method_1_code
def yX0_init : MethodName := ⟨RX0, "<init>", "(I)V"⟩
abbrev cX0_isInfinite : ByteArray := prog_2_method_2_code
def yX0_isInfinite : MethodName := ⟨RX0, "isInfinite", "(I)Z"⟩
abbrev cX0_isNegative : ByteArray := prog_2_method_3_code
def yX0_isNegative : MethodName := ⟨RX0, "isNegative", "(I)Z"⟩
abbrev cX0_isLess : ByteArray := prog_2_method_4_code
def yX0_isLess : MethodName := ⟨RX0, "isLess", "(ILOctagonDesk$Numbers;I)Z"⟩
abbrev cX0_nearestLong : ByteArray := prog_2_method_5_code
def yX0_nearestLong : MethodName := ⟨RX0, "nearestLong", "(I)J"⟩
abbrev cX0_takeOver : ByteArray := prog_2_method_6_code
def yX0_takeOver : MethodName := ⟨RX0, "takeOver", "(LOctagonDesk$Numbers;)V"⟩
abbrev cX0_set : ByteArray := prog_2_method_7_code
def yX0_set : MethodName := ⟨RX0, "set", "(IJ)V"⟩
abbrev cX0_setInfinite : ByteArray := prog_2_method_8_code
def yX0_setInfinite : MethodName := ⟨RX0, "setInfinite", "(I)V"⟩
abbrev cX0_put : ByteArray := prog_2_method_9_code
def yX0_put : MethodName := ⟨RX0, "put", "(ILOctagonDesk$Numbers;I)V"⟩
abbrev cX0_putMore : ByteArray := prog_2_method_10_code
def yX0_putMore : MethodName := ⟨RX0, "putMore", "(ILOctagonDesk$Numbers;IJ)V"⟩
abbrev cX0_putSum : ByteArray := prog_2_method_11_code
def yX0_putSum : MethodName := ⟨RX0, "putSum", "(III)V"⟩
abbrev cX0_lower : ByteArray := prog_2_method_12_code
def yX0_lower : MethodName := ⟨RX0, "lower", "(III)V"⟩
abbrev cX0_putNegative : ByteArray := prog_2_method_13_code
def yX0_putNegative : MethodName := ⟨RX0, "putNegative", "(II)V"⟩
abbrev cX0_putHalf : ByteArray := prog_2_method_14_code
def yX0_putHalf : MethodName := ⟨RX0, "putHalf", "(II)V"⟩
abbrev cX0_isCrowded : ByteArray := prog_2_method_15_code
def yX0_isCrowded : MethodName := ⟨RX0, "isCrowded", "()Z"⟩
abbrev cX0_growTwofold : ByteArray := prog_2_method_16_code
def yX0_growTwofold : MethodName := ⟨RX0, "growTwofold", "()V"⟩
abbrev cX0_extend : ByteArray := prog_2_method_17_code
def yX0_extend : MethodName := ⟨RX0, "extend", "(II)V"⟩
def RX1 : String := "OctagonDesk$Shape"
def TX1 : u_T := fun k => match k with
  | 0 => ("OctagonDesk$Shape", "numbers", "LOctagonDesk$Numbers;", true)
  | _ => ("OctagonDesk$Shape", "empty", "Z", false)
def tyX1 : Nat → FieldType := fun k => match k with
  | 0 => .object "OctagonDesk$Numbers"
  | _ => .boolean
abbrev wsX10 : List Cond := u_ws RX1 TX1 2
theorem nmX1 : ∀ a, a < 2 → ∀ b, b < 2 → a ≠ b → (TX1 a).2.1 ≠ (TX1 b).2.1 := by decide +kernel
theorem tyX1_ok : ∀ k, k < 2 → parseFieldDescriptor (TX1 k).2.2.1 = some (tyX1 k) := by decide +kernel
abbrev cX1_init : ByteArray := prog_3_method_1_code
def yX1_init : MethodName := ⟨RX1, "<init>", "()V"⟩
abbrev cX1_cell : ByteArray := prog_3_method_2_code
def yX1_cell : MethodName := ⟨RX1, "cell", "(II)I"⟩
abbrev cX1_allowAll : ByteArray := prog_3_method_3_code
def yX1_allowAll : MethodName := ⟨RX1, "allowAll", "()V"⟩
abbrev cX1_takeOver : ByteArray := prog_3_method_4_code
def yX1_takeOver : MethodName := ⟨RX1, "takeOver", "(LOctagonDesk$Shape;)V"⟩
abbrev cX1_makeFrom : ByteArray := prog_3_method_5_code
def yX1_makeFrom : MethodName := ⟨RX1, "makeFrom", "(LOctagonDesk$Shape;IIII)V"⟩
abbrev cX1_release : ByteArray := prog_3_method_6_code
def yX1_release : MethodName := ⟨RX1, "release", "(I)V"⟩
abbrev cX1_holdToSpare : ByteArray := prog_3_method_7_code
def yX1_holdToSpare : MethodName := ⟨RX1, "holdToSpare", "(II)V"⟩
abbrev cX1_tell : ByteArray := prog_3_method_8_code
def yX1_tell : MethodName := ⟨RX1, "tell", "(LOctagonDesk$Shape;III)V"⟩
abbrev cX1_oldTerm : ByteArray := prog_3_method_9_code
def yX1_oldTerm : MethodName := ⟨RX1, "oldTerm", "(III)I"⟩
abbrev cX1_moreOf : ByteArray := prog_3_method_10_code
def yX1_moreOf : MethodName := ⟨RX1, "moreOf", "(III)I"⟩
abbrev cX1_scatter : ByteArray := prog_3_method_11_code
def yX1_scatter : MethodName := ⟨RX1, "scatter", "(IJJ)V"⟩
abbrev cX1_cutTo : ByteArray := prog_3_method_12_code
def yX1_cutTo : MethodName := ⟨RX1, "cutTo", "(LOctagonDesk$Shape;)V"⟩
abbrev cX1_isSettledByEmptiness : ByteArray := prog_3_method_13_code
def yX1_isSettledByEmptiness : MethodName := ⟨RX1, "isSettledByEmptiness", "(LOctagonDesk$Shape;)Z"⟩
abbrev cX1_stretchOver : ByteArray := prog_3_method_14_code
def yX1_stretchOver : MethodName := ⟨RX1, "stretchOver", "(LOctagonDesk$Shape;)V"⟩
abbrev cX1_loosenBy : ByteArray := prog_3_method_15_code
def yX1_loosenBy : MethodName := ⟨RX1, "loosenBy", "(LOctagonDesk$Shape;)V"⟩
abbrev cX1_isWithin : ByteArray := prog_3_method_16_code
def yX1_isWithin : MethodName := ⟨RX1, "isWithin", "(LOctagonDesk$Shape;)Z"⟩
abbrev cX1_mostOf : ByteArray := prog_3_method_17_code
def yX1_mostOf : MethodName := ⟨RX1, "mostOf", "(II)J"⟩
abbrev cX1_countBounds : ByteArray := prog_3_method_18_code
def yX1_countBounds : MethodName := ⟨RX1, "countBounds", "()I"⟩
abbrev cX1_settle : ByteArray := prog_3_method_19_code
def yX1_settle : MethodName := ⟨RX1, "settle", "(I)V"⟩
abbrev cX1_shiftToLeast : ByteArray := prog_3_method_20_code
def yX1_shiftToLeast : MethodName := ⟨RX1, "shiftToLeast", "()Z"⟩
abbrev cX1_passThrough : ByteArray := prog_3_method_21_code
def yX1_passThrough : MethodName := ⟨RX1, "passThrough", "(II)V"⟩
abbrev cX1_close : ByteArray := prog_3_method_22_code
def yX1_close : MethodName := ⟨RX1, "close", "()V"⟩
abbrev cX1_combineSingles : ByteArray := prog_3_method_23_code
def yX1_combineSingles : MethodName := ⟨RX1, "combineSingles", "()V"⟩
abbrev cX1_findContradiction : ByteArray := prog_3_method_24_code
def yX1_findContradiction : MethodName := ⟨RX1, "findContradiction", "()V"⟩
def RX2 : String := "OctagonDesk$Step"
def TX2 : u_T := fun k => match k with
  | 0 => ("OctagonDesk$Step", "from", "I", false)
  | 1 => ("OctagonDesk$Step", "to", "I", false)
  | 2 => ("OctagonDesk$Step", "kind", "I", false)
  | 3 => ("OctagonDesk$Step", "a", "I", false)
  | 4 => ("OctagonDesk$Step", "b", "I", false)
  | _ => ("OctagonDesk$Step", "c", "I", false)
def tyX2 : Nat → FieldType := fun k => match k with
  | 0 => .int
  | 1 => .int
  | 2 => .int
  | 3 => .int
  | 4 => .int
  | _ => .int
abbrev wsX20 : List Cond := u_ws RX2 TX2 6
theorem nmX2 : ∀ a, a < 6 → ∀ b, b < 6 → a ≠ b → (TX2 a).2.1 ≠ (TX2 b).2.1 := by decide +kernel
theorem tyX2_ok : ∀ k, k < 6 → parseFieldDescriptor (TX2 k).2.2.1 = some (tyX2 k) := by decide +kernel
abbrev cX2_init : ByteArray := prog_4_method_1_code
def yX2_init : MethodName := ⟨RX2, "<init>", "()V"⟩
abbrev cX2_write : ByteArray := prog_4_method_2_code
def yX2_write : MethodName := ⟨RX2, "write", "(IIIII)V"⟩
def RX3 : String := "OctagonDesk"
def TX3 : u_T := fun k => match k with
  | 0 => ("OctagonDesk", "slots", "[LOctagonDesk$Shape;", true)
  | 1 => ("OctagonDesk", "made", "LOctagonDesk$Shape;", true)
  | 2 => ("OctagonDesk", "steps", "[LOctagonDesk$Step;", true)
  | 3 => ("OctagonDesk", "offsets", "[J", true)
  | 4 => ("OctagonDesk", "stepCount", "I", false)
  | 5 => ("OctagonDesk", "left", "[LOctagonDesk$Shape;", false)
  | _ => ("OctagonDesk", "reached", "[LOctagonDesk$Shape;", false)
def tyX3 : Nat → FieldType := fun k => match k with
  | 0 => .array (.object "OctagonDesk$Shape")
  | 1 => .object "OctagonDesk$Shape"
  | 2 => .array (.object "OctagonDesk$Step")
  | 3 => .array .long
  | 4 => .int
  | 5 => .array (.object "OctagonDesk$Shape")
  | _ => .array (.object "OctagonDesk$Shape")
abbrev wsX30 : List Cond := u_ws RX3 TX3 7
theorem nmX3 : ∀ a, a < 7 → ∀ b, b < 7 → a ≠ b → (TX3 a).2.1 ≠ (TX3 b).2.1 := by decide +kernel
theorem tyX3_ok : ∀ k, k < 7 → parseFieldDescriptor (TX3 k).2.2.1 = some (tyX3 k) := by decide +kernel
abbrev cX3_init : ByteArray := prog_1_method_1_code
def yX3_init : MethodName := ⟨RX3, "<init>", "()V"⟩
abbrev cX3_act : ByteArray := prog_1_method_2_code
def yX3_act : MethodName := ⟨RX3, "act", "(IIIII)Z"⟩
abbrev cX3_clear : ByteArray := prog_1_method_3_code
def yX3_clear : MethodName := ⟨RX3, "clear", "(I)V"⟩
abbrev cX3_copy : ByteArray := prog_1_method_4_code
def yX3_copy : MethodName := ⟨RX3, "copy", "(II)V"⟩
abbrev cX3_meet : ByteArray := prog_1_method_5_code
def yX3_meet : MethodName := ⟨RX3, "meet", "(III)Z"⟩
abbrev cX3_join : ByteArray := prog_1_method_6_code
def yX3_join : MethodName := ⟨RX3, "join", "(III)V"⟩
abbrev cX3_widen : ByteArray := prog_1_method_7_code
def yX3_widen : MethodName := ⟨RX3, "widen", "(III)V"⟩
abbrev cX3_forget : ByteArray := prog_1_method_8_code
def yX3_forget : MethodName := ⟨RX3, "forget", "(II)V"⟩
abbrev cX3_isEmpty : ByteArray := prog_1_method_9_code
def yX3_isEmpty : MethodName := ⟨RX3, "isEmpty", "(I)Z"⟩
abbrev cX3_most : ByteArray := prog_1_method_10_code
def yX3_most : MethodName := ⟨RX3, "most", "(III)J"⟩
abbrev cX3_inside : ByteArray := prog_1_method_11_code
def yX3_inside : MethodName := ⟨RX3, "inside", "(II)Z"⟩
abbrev cX3_bounds : ByteArray := prog_1_method_12_code
def yX3_bounds : MethodName := ⟨RX3, "bounds", "(I)I"⟩
abbrev cX3_first : ByteArray := prog_1_method_13_code
def yX3_first : MethodName := ⟨RX3, "first", "(II)J"⟩
abbrev cX3_places : ByteArray := prog_1_method_14_code
def yX3_places : MethodName := ⟨RX3, "places", "(I)I"⟩
abbrev cX3_step : ByteArray := prog_1_method_15_code
def yX3_step : MethodName := ⟨RX3, "step", "(IIIII)I"⟩
abbrev cX3_erase : ByteArray := prog_1_method_16_code
def yX3_erase : MethodName := ⟨RX3, "erase", "()I"⟩
abbrev cX3_run : ByteArray := prog_1_method_17_code
def yX3_run : MethodName := ⟨RX3, "run", "(I)I"⟩
abbrev cX3_take : ByteArray := prog_1_method_18_code
def yX3_take : MethodName := ⟨RX3, "take", "(II)Z"⟩
abbrev cX3_emptyShapes : ByteArray := prog_1_method_19_code
def yX3_emptyShapes : MethodName := ⟨RX3, "emptyShapes", "(I)[LOctagonDesk$Shape;"⟩
abbrev cX3_requireSlot : ByteArray := prog_1_method_20_code
def yX3_requireSlot : MethodName := ⟨RX3, "requireSlot", "(I)V"⟩
abbrev cX3_requireThreeSlots : ByteArray := prog_1_method_21_code
def yX3_requireThreeSlots : MethodName := ⟨RX3, "requireThreeSlots", "(III)V"⟩
abbrev cX3_requireVariable : ByteArray := prog_1_method_22_code
def yX3_requireVariable : MethodName := ⟨RX3, "requireVariable", "(I)V"⟩
abbrev cX3_requireTerm : ByteArray := prog_1_method_23_code
def yX3_requireTerm : MethodName := ⟨RX3, "requireTerm", "(I)V"⟩
abbrev cX3_requireTerms : ByteArray := prog_1_method_24_code
def yX3_requireTerms : MethodName := ⟨RX3, "requireTerms", "(II)V"⟩
abbrev cX3_requireNumber : ByteArray := prog_1_method_25_code
def yX3_requireNumber : MethodName := ⟨RX3, "requireNumber", "(I)V"⟩
abbrev cX3_requireAction : ByteArray := prog_1_method_26_code
def yX3_requireAction : MethodName := ⟨RX3, "requireAction", "(IIII)V"⟩
abbrev cX3_requirePlace : ByteArray := prog_1_method_27_code
def yX3_requirePlace : MethodName := ⟨RX3, "requirePlace", "(I)V"⟩
abbrev cX3_negation : ByteArray := prog_1_method_28_code
def yX3_negation : MethodName := ⟨RX3, "negation", "(I)I"⟩
abbrev cX3_putMade : ByteArray := prog_1_method_29_code
def yX3_putMade : MethodName := ⟨RX3, "putMade", "(I)V"⟩
abbrev cX3_makeRoom : ByteArray := prog_1_method_30_code
def yX3_makeRoom : MethodName := ⟨RX3, "makeRoom", "(LOctagonDesk$Shape;)V"⟩
abbrev cX3_growAll : ByteArray := prog_1_method_31_code
def yX3_growAll : MethodName := ⟨RX3, "growAll", "([LOctagonDesk$Shape;)V"⟩
abbrev cX3_follow : ByteArray := prog_1_method_32_code
def yX3_follow : MethodName := ⟨RX3, "follow", "(LOctagonDesk$Step;I)Z"⟩
abbrev cX3_keepReached : ByteArray := prog_1_method_33_code
def yX3_keepReached : MethodName := ⟨RX3, "keepReached", "()V"⟩
abbrev cX3_madeFitsTheBox : ByteArray := prog_1_method_34_code
def yX3_madeFitsTheBox : MethodName := ⟨RX3, "madeFitsTheBox", "()Z"⟩
abbrev cX3_countFrom : ByteArray := prog_1_method_35_code
def yX3_countFrom : MethodName := ⟨RX3, "countFrom", "(I)I"⟩
def RX4 : String := "OctagonDeskModel"
def TX4 : u_T := fun k => match k with
  | 0 => ("OctagonDeskModel", "fault", "I", false)
  | 1 => ("OctagonDeskModel", "bound", "[J", true)
  | 2 => ("OctagonDeskModel", "isVoid", "[Z", true)
  | 3 => ("OctagonDeskModel", "steps", "I", false)
  | 4 => ("OctagonDeskModel", "fromPoint", "[I", true)
  | 5 => ("OctagonDeskModel", "toPoint", "[I", true)
  | 6 => ("OctagonDeskModel", "kinds", "[I", true)
  | 7 => ("OctagonDeskModel", "firsts", "[I", true)
  | 8 => ("OctagonDeskModel", "seconds", "[I", true)
  | 9 => ("OctagonDeskModel", "thirds", "[I", true)
  | 10 => ("OctagonDeskModel", "low", "[J", true)
  | 11 => ("OctagonDeskModel", "high", "[J", true)
  | _ => ("OctagonDeskModel", "value", "[J", true)
def tyX4 : Nat → FieldType := fun k => match k with
  | 0 => .int
  | 1 => .array .long
  | 2 => .array .boolean
  | 3 => .int
  | 4 => .array .int
  | 5 => .array .int
  | 6 => .array .int
  | 7 => .array .int
  | 8 => .array .int
  | 9 => .array .int
  | 10 => .array .long
  | 11 => .array .long
  | _ => .array .long
abbrev wsX40 : List Cond := u_ws RX4 TX4 13
theorem nmX4 : ∀ a, a < 13 → ∀ b, b < 13 → a ≠ b → (TX4 a).2.1 ≠ (TX4 b).2.1 := by decide +kernel
theorem tyX4_ok : ∀ k, k < 13 → parseFieldDescriptor (TX4 k).2.2.1 = some (tyX4 k) := by decide +kernel
abbrev cX4_init : ByteArray := prog_6_method_1_code
def yX4_init : MethodName := ⟨RX4, "<init>", "()V"⟩
abbrev cX4_thrown : ByteArray := prog_6_method_2_code
def yX4_thrown : MethodName := ⟨RX4, "thrown", "()I"⟩
abbrev cX4_refused : ByteArray := prog_6_method_3_code
def yX4_refused : MethodName := ⟨RX4, "refused", "(I)Z"⟩
abbrev cX4_isIn : ByteArray := prog_6_method_4_code
def yX4_isIn : MethodName := ⟨RX4, "isIn", "(III)Z"⟩
abbrev cX4_isSlot : ByteArray := prog_6_method_5_code
def yX4_isSlot : MethodName := ⟨RX4, "isSlot", "(I)Z"⟩
abbrev cX4_isTerm : ByteArray := prog_6_method_6_code
def yX4_isTerm : MethodName := ⟨RX4, "isTerm", "(I)Z"⟩
abbrev cX4_isNumber : ByteArray := prog_6_method_7_code
def yX4_isNumber : MethodName := ⟨RX4, "isNumber", "(I)Z"⟩
abbrev cX4_minus : ByteArray := prog_6_method_8_code
def yX4_minus : MethodName := ⟨RX4, "minus", "(I)I"⟩
abbrev cX4_sum : ByteArray := prog_6_method_9_code
def yX4_sum : MethodName := ⟨RX4, "sum", "(JJ)J"⟩
abbrev cX4_get : ByteArray := prog_6_method_10_code
def yX4_get : MethodName := ⟨RX4, "get", "(III)J"⟩
abbrev cX4_set : ByteArray := prog_6_method_11_code
def yX4_set : MethodName := ⟨RX4, "set", "(IIIJ)V"⟩
abbrev cX4_sumOf : ByteArray := prog_6_method_12_code
def yX4_sumOf : MethodName := ⟨RX4, "sumOf", "(III)J"⟩
abbrev cX4_lessen : ByteArray := prog_6_method_13_code
def yX4_lessen : MethodName := ⟨RX4, "lessen", "(IIIJ)Z"⟩
abbrev cX4_close : ByteArray := prog_6_method_14_code
def yX4_close : MethodName := ⟨RX4, "close", "(I)V"⟩
abbrev cX4_load : ByteArray := prog_6_method_15_code
def yX4_load : MethodName := ⟨RX4, "load", "(II)V"⟩
abbrev cX4_all : ByteArray := prog_6_method_16_code
def yX4_all : MethodName := ⟨RX4, "all", "(I)V"⟩
abbrev cX4_drop : ByteArray := prog_6_method_17_code
def yX4_drop : MethodName := ⟨RX4, "drop", "(II)V"⟩
abbrev cX4_isAction : ByteArray := prog_6_method_18_code
def yX4_isAction : MethodName := ⟨RX4, "isAction", "(IIII)Z"⟩
abbrev cX4_shift : ByteArray := prog_6_method_19_code
def yX4_shift : MethodName := ⟨RX4, "shift", "(IIIJ)V"⟩
abbrev cX4_make : ByteArray := prog_6_method_20_code
def yX4_make : MethodName := ⟨RX4, "make", "(IIIII)V"⟩
abbrev cX4_act : ByteArray := prog_6_method_21_code
def yX4_act : MethodName := ⟨RX4, "act", "(IIIII)Z"⟩
abbrev cX4_clear : ByteArray := prog_6_method_22_code
def yX4_clear : MethodName := ⟨RX4, "clear", "(I)V"⟩
abbrev cX4_copy : ByteArray := prog_6_method_23_code
def yX4_copy : MethodName := ⟨RX4, "copy", "(II)V"⟩
abbrev cX4_areSlots : ByteArray := prog_6_method_24_code
def yX4_areSlots : MethodName := ⟨RX4, "areSlots", "(III)Z"⟩
abbrev cX4_meet : ByteArray := prog_6_method_25_code
def yX4_meet : MethodName := ⟨RX4, "meet", "(III)Z"⟩
abbrev cX4_joined : ByteArray := prog_6_method_26_code
def yX4_joined : MethodName := ⟨RX4, "joined", "(II)V"⟩
abbrev cX4_join : ByteArray := prog_6_method_27_code
def yX4_join : MethodName := ⟨RX4, "join", "(III)V"⟩
abbrev cX4_widened : ByteArray := prog_6_method_28_code
def yX4_widened : MethodName := ⟨RX4, "widened", "(II)V"⟩
abbrev cX4_widen : ByteArray := prog_6_method_29_code
def yX4_widen : MethodName := ⟨RX4, "widen", "(III)V"⟩
abbrev cX4_forget : ByteArray := prog_6_method_30_code
def yX4_forget : MethodName := ⟨RX4, "forget", "(II)V"⟩
abbrev cX4_isEmpty : ByteArray := prog_6_method_31_code
def yX4_isEmpty : MethodName := ⟨RX4, "isEmpty", "(I)Z"⟩
abbrev cX4_most : ByteArray := prog_6_method_32_code
def yX4_most : MethodName := ⟨RX4, "most", "(III)J"⟩
abbrev cX4_isWithin : ByteArray := prog_6_method_33_code
def yX4_isWithin : MethodName := ⟨RX4, "isWithin", "(II)Z"⟩
abbrev cX4_inside : ByteArray := prog_6_method_34_code
def yX4_inside : MethodName := ⟨RX4, "inside", "(II)Z"⟩
abbrev cX4_bounds : ByteArray := prog_6_method_35_code
def yX4_bounds : MethodName := ⟨RX4, "bounds", "(I)I"⟩
abbrev cX4_first : ByteArray := prog_6_method_36_code
def yX4_first : MethodName := ⟨RX4, "first", "(II)J"⟩
abbrev cX4_holds : ByteArray := prog_6_method_37_code
def yX4_holds : MethodName := ⟨RX4, "holds", "(I)Z"⟩
abbrev cX4_places : ByteArray := prog_6_method_38_code
def yX4_places : MethodName := ⟨RX4, "places", "(I)I"⟩
abbrev cX4_step : ByteArray := prog_6_method_39_code
def yX4_step : MethodName := ⟨RX4, "step", "(IIIII)I"⟩
abbrev cX4_erase : ByteArray := prog_6_method_40_code
def yX4_erase : MethodName := ⟨RX4, "erase", "()I"⟩
abbrev cX4_go : ByteArray := prog_6_method_41_code
def yX4_go : MethodName := ⟨RX4, "go", "(II)Z"⟩
abbrev cX4_run : ByteArray := prog_6_method_42_code
def yX4_run : MethodName := ⟨RX4, "run", "(I)I"⟩
abbrev cX4_take : ByteArray := prog_6_method_43_code
def yX4_take : MethodName := ⟨RX4, "take", "(II)Z"⟩
def RJx8e188 : String := "java/lang/Cloneable"
def TJx8e188 : u_T := fun k => match k with
  | _ => ("", "", "", false)
def tyJx8e188 : Nat → FieldType := fun k => match k with
  | _ => .int
abbrev wsJx8e1880 : List Cond := u_ws RJx8e188 TJx8e188 0
theorem nmJx8e188 : ∀ a, a < 0 → ∀ b, b < 0 → a ≠ b → (TJx8e188 a).2.1 ≠ (TJx8e188 b).2.1 := by decide +kernel
theorem tyJx8e188_ok : ∀ k, k < 0 → parseFieldDescriptor (TJx8e188 k).2.2.1 = some (tyJx8e188 k) := by decide +kernel
def RJ9 : String := "java/lang/Math"
def TJ9 : u_T := fun k => match k with
  | _ => ("", "", "", false)
def tyJ9 : Nat → FieldType := fun k => match k with
  | _ => .int
abbrev wsJ90 : List Cond := u_ws RJ9 TJ9 0
theorem nmJ9 : ∀ a, a < 0 → ∀ b, b < 0 → a ≠ b → (TJ9 a).2.1 ≠ (TJ9 b).2.1 := by decide +kernel
theorem tyJ9_ok : ∀ k, k < 0 → parseFieldDescriptor (TJ9 k).2.2.1 = some (tyJ9 k) := by decide +kernel
abbrev cJ9_max_f86c9 : ByteArray := prog_11_method_66_code
def yJ9_max_f86c9 : MethodName := ⟨RJ9, "max", "(JJ)J"⟩
abbrev cJ9_min_7cf53 : ByteArray := prog_11_method_69_code
def yJ9_min_7cf53 : MethodName := ⟨RJ9, "min", "(II)I"⟩
abbrev cJ9_min_f86c9 : ByteArray := prog_11_method_70_code
def yJ9_min_f86c9 : MethodName := ⟨RJ9, "min", "(JJ)J"⟩
def RJ0 : String := "java/lang/String"
def TJ0 : u_T := fun k => match k with
  | _ => ("", "", "", false)
def tyJ0 : Nat → FieldType := fun k => match k with
  | _ => .int
abbrev wsJ00 : List Cond := u_ws RJ0 TJ0 0
theorem nmJ0 : ∀ a, a < 0 → ∀ b, b < 0 → a ≠ b → (TJ0 a).2.1 ≠ (TJ0 b).2.1 := by decide +kernel
theorem tyJ0_ok : ∀ k, k < 0 → parseFieldDescriptor (TJ0 k).2.2.1 = some (tyJ0 k) := by decide +kernel
def RJ10 : String := "java/lang/System"
def TJ10 : u_T := fun k => match k with
  | _ => ("", "", "", false)
def tyJ10 : Nat → FieldType := fun k => match k with
  | _ => .int
abbrev wsJ100 : List Cond := u_ws RJ10 TJ10 0
theorem nmJ10 : ∀ a, a < 0 → ∀ b, b < 0 → a ≠ b → (TJ10 a).2.1 ≠ (TJ10 b).2.1 := by decide +kernel
theorem tyJ10_ok : ∀ k, k < 0 → parseFieldDescriptor (TJ10 k).2.2.1 = some (tyJ10 k) := by decide +kernel
def RJ7 : String := "java/util/Arrays"
def TJ7 : u_T := fun k => match k with
  | _ => ("", "", "", false)
def tyJ7 : Nat → FieldType := fun k => match k with
  | _ => .int
abbrev wsJ70 : List Cond := u_ws RJ7 TJ7 0
theorem nmJ7 : ∀ a, a < 0 → ∀ b, b < 0 → a ≠ b → (TJ7 a).2.1 ≠ (TJ7 b).2.1 := by decide +kernel
theorem tyJ7_ok : ∀ k, k < 0 → parseFieldDescriptor (TJ7 k).2.2.1 = some (tyJ7 k) := by decide +kernel
abbrev cJ7_copyOf_c38d5 : ByteArray := prog_16_method_124_code
def yJ7_copyOf_c38d5 : MethodName := ⟨RJ7, "copyOf", "([JI)[J"⟩
def RL : String := "OctagonDeskLaw"
abbrev cL_act : ByteArray := method_3_code
def yL_act : MethodName := ⟨RL, "act", "(LOctagonDesk;IIIII[J)I"⟩
abbrev cL_clear : ByteArray := method_4_code
def yL_clear : MethodName := ⟨RL, "clear", "(LOctagonDesk;I)I"⟩
abbrev cL_copy : ByteArray := method_5_code
def yL_copy : MethodName := ⟨RL, "copy", "(LOctagonDesk;II)I"⟩
abbrev cL_meet : ByteArray := method_6_code
def yL_meet : MethodName := ⟨RL, "meet", "(LOctagonDesk;III[J)I"⟩
abbrev cL_join : ByteArray := method_7_code
def yL_join : MethodName := ⟨RL, "join", "(LOctagonDesk;III)I"⟩
abbrev cL_widen : ByteArray := method_8_code
def yL_widen : MethodName := ⟨RL, "widen", "(LOctagonDesk;III)I"⟩
abbrev cL_forget : ByteArray := method_9_code
def yL_forget : MethodName := ⟨RL, "forget", "(LOctagonDesk;II)I"⟩
abbrev cL_isEmpty : ByteArray := method_10_code
def yL_isEmpty : MethodName := ⟨RL, "isEmpty", "(LOctagonDesk;I[J)I"⟩
abbrev cL_most : ByteArray := method_11_code
def yL_most : MethodName := ⟨RL, "most", "(LOctagonDesk;III[J)I"⟩
abbrev cL_inside : ByteArray := method_12_code
def yL_inside : MethodName := ⟨RL, "inside", "(LOctagonDesk;II[J)I"⟩
abbrev cL_bounds : ByteArray := method_13_code
def yL_bounds : MethodName := ⟨RL, "bounds", "(LOctagonDesk;I[J)I"⟩
abbrev cL_first : ByteArray := method_14_code
def yL_first : MethodName := ⟨RL, "first", "(LOctagonDesk;II[J)I"⟩
abbrev cL_places : ByteArray := method_15_code
def yL_places : MethodName := ⟨RL, "places", "(LOctagonDesk;I[J)I"⟩
abbrev cL_step : ByteArray := method_16_code
def yL_step : MethodName := ⟨RL, "step", "(LOctagonDesk;IIIII[J)I"⟩
abbrev cL_run : ByteArray := method_17_code
def yL_run : MethodName := ⟨RL, "run", "(LOctagonDesk;I[J)I"⟩
abbrev cL_take : ByteArray := method_18_code
def yL_take : MethodName := ⟨RL, "take", "(LOctagonDesk;II[J)I"⟩
abbrev cL_law : ByteArray := code
def yL_law : MethodName := ⟨RL, "law", "([I)Z"⟩
def wsX0_init : List Cond := .code yX0_init cX0_init 2 none :: ([.methodLink RX0 5 objectInit, .instanceMethod objectInit, .code objectInit ⟨#[0xb1]⟩ 1 none, .fieldLink RX0 11 "OctagonDesk$Numbers" "sum" "I", .fieldLink RX0 15 "OctagonDesk$Numbers" "cells" "I", .arrayClass .long, .fieldLink RX0 18 "OctagonDesk$Numbers" "limbs" "[J", .fieldLink RX0 22 "OctagonDesk$Numbers" "top" "I"] ++ wsX00)
def wsX0_isInfinite : List Cond := .code yX0_isInfinite cX0_isInfinite 2 (some .boolean) :: ([.fieldLink RX0 18 "OctagonDesk$Numbers" "limbs" "[J", .fieldLink RX0 22 "OctagonDesk$Numbers" "top" "I", .constantLong RX0 25 (9223372036854775807)] ++ wsX00)
def wsX0_isNegative : List Cond := .code yX0_isNegative cX0_isNegative 2 (some .boolean) :: ([.fieldLink RX0 18 "OctagonDesk$Numbers" "limbs" "[J", .fieldLink RX0 22 "OctagonDesk$Numbers" "top" "I"] ++ wsX00)
def wsX0_isLess : List Cond := .code yX0_isLess cX0_isLess 9 (some .boolean) :: ([.fieldLink RX0 22 "OctagonDesk$Numbers" "top" "I", .fieldLink RX0 18 "OctagonDesk$Numbers" "limbs" "[J", .fieldLink RX0 15 "OctagonDesk$Numbers" "cells" "I"] ++ wsX00)
def wsX0_nearestLong : List Cond := .code yX0_nearestLong cX0_nearestLong 5 (some .long) :: ([.fieldLink RX0 18 "OctagonDesk$Numbers" "limbs" "[J", .fieldLink RX0 22 "OctagonDesk$Numbers" "top" "I", .constantLong RX0 25 (9223372036854775807), .fieldLink RX0 15 "OctagonDesk$Numbers" "cells" "I", .constantLong RX0 27 (7), .constantLong RX0 29 (-8), .constantLong RX0 31 (-9223372036854775808)] ++ wsX00)
def wsX0_takeOver : List Cond := .code yX0_takeOver cX0_takeOver 2 none :: ([.fieldLink RX0 18 "OctagonDesk$Numbers" "limbs" "[J", .methodLink RX0 33 arraycopyName, .native arraycopyName, .static arraycopyName, .initialized "java/lang/System"] ++ wsX00)
def wsX0_set : List Cond := .code yX0_set cX0_set 7 none :: ([.fieldLink RX0 22 "OctagonDesk$Numbers" "top" "I", .fieldLink RX0 18 "OctagonDesk$Numbers" "limbs" "[J", .constantLong RX0 39 (1152921504606846975), .fieldLink RX0 15 "OctagonDesk$Numbers" "cells" "I"] ++ wsX00)
def wsX0_setInfinite : List Cond := .code yX0_setInfinite cX0_setInfinite 3 none :: ([.fieldLink RX0 22 "OctagonDesk$Numbers" "top" "I", .fieldLink RX0 18 "OctagonDesk$Numbers" "limbs" "[J", .fieldLink RX0 15 "OctagonDesk$Numbers" "cells" "I", .constantLong RX0 25 (9223372036854775807)] ++ wsX00)
def wsX0_put : List Cond := .code yX0_put cX0_put 5 none :: ([.fieldLink RX0 22 "OctagonDesk$Numbers" "top" "I", .fieldLink RX0 18 "OctagonDesk$Numbers" "limbs" "[J", .fieldLink RX0 15 "OctagonDesk$Numbers" "cells" "I"] ++ wsX00)
def wsX0_putMore : List Cond := .code yX0_putMore cX0_putMore 9 none :: ([.fieldLink RX0 22 "OctagonDesk$Numbers" "top" "I", .fieldLink RX0 18 "OctagonDesk$Numbers" "limbs" "[J", .constantLong RX0 39 (1152921504606846975), .fieldLink RX0 15 "OctagonDesk$Numbers" "cells" "I", .methodLink RX0 41 yX0_isInfinite, .instanceMethod yX0_isInfinite, .selects RX0 yX0_isInfinite yX0_isInfinite, .initialized RX0, .code yX0_isInfinite cX0_isInfinite 2 (some .boolean), .constantLong RX0 25 (9223372036854775807), .methodLink RX0 45 yX0_setInfinite, .instanceMethod yX0_setInfinite, .selects RX0 yX0_setInfinite yX0_setInfinite, .code yX0_setInfinite cX0_setInfinite 3 none] ++ wsX00)
def wsX0_putSum : List Cond := .code yX0_putSum cX0_putSum 8 none :: ([.fieldLink RX0 18 "OctagonDesk$Numbers" "limbs" "[J", .fieldLink RX0 22 "OctagonDesk$Numbers" "top" "I", .constantLong RX0 25 (9223372036854775807), .constantLong RX0 39 (1152921504606846975), .fieldLink RX0 15 "OctagonDesk$Numbers" "cells" "I"] ++ wsX00)
def wsX0_lower : List Cond := .code yX0_lower cX0_lower 4 none :: ([.fieldLink RX0 11 "OctagonDesk$Numbers" "sum" "I", .methodLink RX0 49 yX0_putSum, .instanceMethod yX0_putSum, .selects RX0 yX0_putSum yX0_putSum, .initialized RX0, .code yX0_putSum cX0_putSum 8 none, .fieldLink RX0 18 "OctagonDesk$Numbers" "limbs" "[J", .fieldLink RX0 22 "OctagonDesk$Numbers" "top" "I", .constantLong RX0 25 (9223372036854775807), .constantLong RX0 39 (1152921504606846975), .fieldLink RX0 15 "OctagonDesk$Numbers" "cells" "I", .methodLink RX0 53 yX0_isLess, .instanceMethod yX0_isLess, .selects RX0 yX0_isLess yX0_isLess, .code yX0_isLess cX0_isLess 9 (some .boolean), .methodLink RX0 57 yX0_put, .instanceMethod yX0_put, .selects RX0 yX0_put yX0_put, .code yX0_put cX0_put 5 none] ++ wsX00)
def wsX0_putNegative : List Cond := .code yX0_putNegative cX0_putNegative 6 none :: ([.fieldLink RX0 22 "OctagonDesk$Numbers" "top" "I", .fieldLink RX0 18 "OctagonDesk$Numbers" "limbs" "[J", .constantLong RX0 39 (1152921504606846975), .fieldLink RX0 15 "OctagonDesk$Numbers" "cells" "I", .methodLink RX0 41 yX0_isInfinite, .instanceMethod yX0_isInfinite, .selects RX0 yX0_isInfinite yX0_isInfinite, .initialized RX0, .code yX0_isInfinite cX0_isInfinite 2 (some .boolean), .constantLong RX0 25 (9223372036854775807), .methodLink RX0 45 yX0_setInfinite, .instanceMethod yX0_setInfinite, .selects RX0 yX0_setInfinite yX0_setInfinite, .code yX0_setInfinite cX0_setInfinite 3 none] ++ wsX00)
def wsX0_putHalf : List Cond := .code yX0_putHalf cX0_putHalf 8 none :: ([.fieldLink RX0 18 "OctagonDesk$Numbers" "limbs" "[J", .fieldLink RX0 22 "OctagonDesk$Numbers" "top" "I", .fieldLink RX0 15 "OctagonDesk$Numbers" "cells" "I", .methodLink RX0 41 yX0_isInfinite, .instanceMethod yX0_isInfinite, .selects RX0 yX0_isInfinite yX0_isInfinite, .initialized RX0, .code yX0_isInfinite cX0_isInfinite 2 (some .boolean), .constantLong RX0 25 (9223372036854775807), .methodLink RX0 45 yX0_setInfinite, .instanceMethod yX0_setInfinite, .selects RX0 yX0_setInfinite yX0_setInfinite, .code yX0_setInfinite cX0_setInfinite 3 none] ++ wsX00)
def wsX0_isCrowded : List Cond := .code yX0_isCrowded cX0_isCrowded 4 (some .boolean) :: ([.fieldLink RX0 15 "OctagonDesk$Numbers" "cells" "I", .fieldLink RX0 18 "OctagonDesk$Numbers" "limbs" "[J", .fieldLink RX0 22 "OctagonDesk$Numbers" "top" "I", .constantLong RX0 25 (9223372036854775807), .constantLong RX0 61 (18014398509481984), .constantLong RX0 63 (-18014398509481984)] ++ wsX00)
def wsJ7_copyOf_c38d5 : List Cond := .code yJ7_copyOf_c38d5 cJ7_copyOf_c38d5 3 (some (.array .long)) :: ([.methodLink RJ7 319 ⟨"[J", "clone", "()Ljava/lang/Object;"⟩, .sameMethod "[J" "java/lang/Object" "clone" "()Ljava/lang/Object;", .native ⟨"java/lang/Object", "clone", "()Ljava/lang/Object;"⟩, .instanceMethod ⟨"java/lang/Object", "clone", "()Ljava/lang/Object;"⟩, .selects "[J" ⟨"[J", "clone", "()Ljava/lang/Object;"⟩ ⟨"java/lang/Object", "clone", "()Ljava/lang/Object;"⟩, .classLink RJ7 320 "[J", .arrayClass .long, .methodLink RJ7 304 Lib.Math.min.name, .static Lib.Math.min.name, .initialized "java/lang/Math", .code Lib.Math.min.name Lib.Math.min.code 2 (some .int), .methodLink RJ7 150 arraycopyName, .native arraycopyName, .static arraycopyName, .initialized "java/lang/System"])
def wsX0_extend : List Cond := .code yX0_extend cX0_extend 6 none :: ([.fieldLink RX0 18 "OctagonDesk$Numbers" "limbs" "[J", .constantLong RX0 25 (9223372036854775807), .fieldLink RX0 22 "OctagonDesk$Numbers" "top" "I", .constantLong RX0 39 (1152921504606846975), .fieldLink RX0 15 "OctagonDesk$Numbers" "cells" "I", .methodLink RX0 45 yX0_setInfinite, .instanceMethod yX0_setInfinite, .selects RX0 yX0_setInfinite yX0_setInfinite, .initialized RX0, .code yX0_setInfinite cX0_setInfinite 3 none] ++ wsX00)
def wsX0_growTwofold_r1 : List Cond := [Cond.fieldLink RX0 18 "OctagonDesk$Numbers" "limbs" "[J", Cond.fieldLink RX0 15 "OctagonDesk$Numbers" "cells" "I", Cond.fieldLink RX0 22 "OctagonDesk$Numbers" "top" "I", Cond.methodLink RX0 65 yJ7_copyOf_c38d5, Cond.static yJ7_copyOf_c38d5, Cond.initialized RJ7, Cond.code yJ7_copyOf_c38d5 cJ7_copyOf_c38d5 3 (some (.array .long)), Cond.methodLink RJ7 319 ⟨"[J", "clone", "()Ljava/lang/Object;"⟩, Cond.sameMethod "[J" "java/lang/Object" "clone" "()Ljava/lang/Object;", Cond.native ⟨"java/lang/Object", "clone", "()Ljava/lang/Object;"⟩, Cond.instanceMethod ⟨"java/lang/Object", "clone", "()Ljava/lang/Object;"⟩, Cond.selects "[J" ⟨"[J", "clone", "()Ljava/lang/Object;"⟩ ⟨"java/lang/Object", "clone", "()Ljava/lang/Object;"⟩, Cond.classLink RJ7 320 "[J", Cond.arrayClass .long, Cond.methodLink RJ7 304 Lib.Math.min.name, Cond.static Lib.Math.min.name, Cond.initialized "java/lang/Math", Cond.code Lib.Math.min.name Lib.Math.min.code 2 (some .int), Cond.methodLink RJ7 150 arraycopyName, Cond.native arraycopyName, Cond.static arraycopyName, Cond.initialized "java/lang/System", Cond.methodLink RX0 71 yX0_extend, Cond.instanceMethod yX0_extend]
def wsX0_growTwofold_r2 : List Cond := [Cond.selects RX0 yX0_extend yX0_extend, Cond.initialized RX0, Cond.code yX0_extend cX0_extend 6 none, Cond.constantLong RX0 25 (9223372036854775807), Cond.constantLong RX0 39 (1152921504606846975), Cond.methodLink RX0 45 yX0_setInfinite, Cond.instanceMethod yX0_setInfinite, Cond.selects RX0 yX0_setInfinite yX0_setInfinite, Cond.code yX0_setInfinite cX0_setInfinite 3 none]
def wsX0_growTwofold : List Cond := .code yX0_growTwofold cX0_growTwofold 3 none :: ((wsX0_growTwofold_r1 ++ wsX0_growTwofold_r2) ++ wsX00)
def wsX1_init : List Cond := .code yX1_init cX1_init 1 none :: ([.methodLink RX1 5 objectInit, .instanceMethod objectInit, .code objectInit ⟨#[0xb1]⟩ 1 none, .classLink RX1 11 RX0, .instantiable RX0 4, .initialized RX0, .fieldLink RX1 16 "OctagonDesk$Shape" "numbers" "LOctagonDesk$Numbers;", .fieldLink RX1 20 "OctagonDesk$Shape" "empty" "Z", .methodLink RX1 13 yX0_init, .instanceMethod yX0_init, .code yX0_init cX0_init 2 none, .methodLink RX0 5 objectInit, .fieldLink RX0 11 "OctagonDesk$Numbers" "sum" "I", .fieldLink RX0 15 "OctagonDesk$Numbers" "cells" "I", .arrayClass .long, .fieldLink RX0 18 "OctagonDesk$Numbers" "limbs" "[J", .fieldLink RX0 22 "OctagonDesk$Numbers" "top" "I"] ++ wsX00 ++ wsX10)
def wsX1_cell : List Cond := .code yX1_cell cX1_cell 2 (some .int) :: ([])
def wsX1_release : List Cond := .code yX1_release cX1_release 4 none :: ([.fieldLink RX1 16 "OctagonDesk$Shape" "numbers" "LOctagonDesk$Numbers;", .methodLink RX1 50 yX1_cell, .static yX1_cell, .initialized RX1, .code yX1_cell cX1_cell 2 (some .int), .methodLink RX1 54 yX0_setInfinite, .instanceMethod yX0_setInfinite, .selects RX0 yX0_setInfinite yX0_setInfinite, .initialized RX0, .code yX0_setInfinite cX0_setInfinite 3 none, .fieldLink RX0 22 "OctagonDesk$Numbers" "top" "I", .fieldLink RX0 18 "OctagonDesk$Numbers" "limbs" "[J", .fieldLink RX0 15 "OctagonDesk$Numbers" "cells" "I", .constantLong RX0 25 (9223372036854775807), .methodLink RX1 38 yX0_set, .instanceMethod yX0_set, .selects RX0 yX0_set yX0_set, .code yX0_set cX0_set 7 none, .constantLong RX0 39 (1152921504606846975)] ++ wsX10 ++ wsX00)
def wsX1_allowAll : List Cond := .code yX1_allowAll cX1_allowAll 2 none :: ([.fieldLink RX1 20 "OctagonDesk$Shape" "empty" "Z", .methodLink RX1 24 yX1_release, .instanceMethod yX1_release, .selects RX1 yX1_release yX1_release, .initialized RX1, .code yX1_release cX1_release 4 none, .fieldLink RX1 16 "OctagonDesk$Shape" "numbers" "LOctagonDesk$Numbers;", .methodLink RX1 50 yX1_cell, .static yX1_cell, .code yX1_cell cX1_cell 2 (some .int), .methodLink RX1 54 yX0_setInfinite, .instanceMethod yX0_setInfinite, .selects RX0 yX0_setInfinite yX0_setInfinite, .initialized RX0, .code yX0_setInfinite cX0_setInfinite 3 none, .fieldLink RX0 22 "OctagonDesk$Numbers" "top" "I", .fieldLink RX0 18 "OctagonDesk$Numbers" "limbs" "[J", .fieldLink RX0 15 "OctagonDesk$Numbers" "cells" "I", .constantLong RX0 25 (9223372036854775807), .methodLink RX1 38 yX0_set, .instanceMethod yX0_set, .selects RX0 yX0_set yX0_set, .code yX0_set cX0_set 7 none, .constantLong RX0 39 (1152921504606846975)] ++ wsX10 ++ wsX00)
def wsX1_takeOver : List Cond := .code yX1_takeOver cX1_takeOver 2 none :: ([.fieldLink RX1 16 "OctagonDesk$Shape" "numbers" "LOctagonDesk$Numbers;", .fieldLink RX1 20 "OctagonDesk$Shape" "empty" "Z", .methodLink RX1 27 yX0_takeOver, .instanceMethod yX0_takeOver, .selects RX0 yX0_takeOver yX0_takeOver, .initialized RX0, .code yX0_takeOver cX0_takeOver 2 none, .fieldLink RX0 18 "OctagonDesk$Numbers" "limbs" "[J", .methodLink RX0 33 arraycopyName, .native arraycopyName, .static arraycopyName, .initialized "java/lang/System"] ++ wsX10 ++ wsX00)
def wsX3_negation : List Cond := .code yX3_negation cX3_negation 1 (some .int) :: ([])
def wsX1_oldTerm : List Cond := .code yX1_oldTerm cX1_oldTerm 3 (some .int) :: ([.static yX3_negation, .initialized RX3, .code yX3_negation cX3_negation 1 (some .int)])
def wsX1_moreOf : List Cond := .code yX1_moreOf cX1_moreOf 3 (some .int) :: ([])
def wsX1_tell_r1 : List Cond := [Cond.fieldLink RX1 20 "OctagonDesk$Shape" "empty" "Z", Cond.fieldLink RX1 16 "OctagonDesk$Shape" "numbers" "LOctagonDesk$Numbers;", Cond.methodLink RX1 71 yX1_oldTerm, Cond.static yX1_oldTerm, Cond.initialized RX1, Cond.code yX1_oldTerm cX1_oldTerm 3 (some .int), Cond.static yX3_negation, Cond.initialized RX3, Cond.code yX3_negation cX3_negation 1 (some .int), Cond.methodLink RX1 75 yX1_moreOf, Cond.static yX1_moreOf, Cond.code yX1_moreOf cX1_moreOf 3 (some .int), Cond.methodLink RX1 50 yX1_cell, Cond.static yX1_cell, Cond.code yX1_cell cX1_cell 2 (some .int), Cond.methodLink RX1 78 yX0_putMore, Cond.instanceMethod yX0_putMore, Cond.selects RX0 yX0_putMore yX0_putMore, Cond.initialized RX0, Cond.code yX0_putMore cX0_putMore 9 none, Cond.fieldLink RX0 22 "OctagonDesk$Numbers" "top" "I", Cond.fieldLink RX0 18 "OctagonDesk$Numbers" "limbs" "[J", Cond.constantLong RX0 39 (1152921504606846975), Cond.fieldLink RX0 15 "OctagonDesk$Numbers" "cells" "I"]
def wsX1_tell_r2 : List Cond := [Cond.methodLink RX0 41 yX0_isInfinite, Cond.instanceMethod yX0_isInfinite, Cond.selects RX0 yX0_isInfinite yX0_isInfinite, Cond.code yX0_isInfinite cX0_isInfinite 2 (some .boolean), Cond.constantLong RX0 25 (9223372036854775807), Cond.methodLink RX0 45 yX0_setInfinite, Cond.instanceMethod yX0_setInfinite, Cond.selects RX0 yX0_setInfinite yX0_setInfinite, Cond.code yX0_setInfinite cX0_setInfinite 3 none]
def wsX1_tell : List Cond := .code yX1_tell cX1_tell 10 none :: ((wsX1_tell_r1 ++ wsX1_tell_r2) ++ wsX10 ++ wsX00)
def wsX1_passThrough_r1 : List Cond := [Cond.fieldLink RX1 16 "OctagonDesk$Shape" "numbers" "LOctagonDesk$Numbers;", Cond.fieldLink RX1 20 "OctagonDesk$Shape" "empty" "Z", Cond.methodLink RX1 50 yX1_cell, Cond.static yX1_cell, Cond.initialized RX1, Cond.code yX1_cell cX1_cell 2 (some .int), Cond.static yX3_negation, Cond.initialized RX3, Cond.code yX3_negation cX3_negation 1 (some .int), Cond.methodLink RX1 111 yX0_putSum, Cond.instanceMethod yX0_putSum, Cond.selects RX0 yX0_putSum yX0_putSum, Cond.initialized RX0, Cond.code yX0_putSum cX0_putSum 8 none, Cond.fieldLink RX0 18 "OctagonDesk$Numbers" "limbs" "[J", Cond.fieldLink RX0 22 "OctagonDesk$Numbers" "top" "I", Cond.constantLong RX0 25 (9223372036854775807), Cond.constantLong RX0 39 (1152921504606846975), Cond.fieldLink RX0 15 "OctagonDesk$Numbers" "cells" "I", Cond.methodLink RX1 115 yX0_isNegative, Cond.instanceMethod yX0_isNegative, Cond.selects RX0 yX0_isNegative yX0_isNegative, Cond.code yX0_isNegative cX0_isNegative 2 (some .boolean), Cond.methodLink RX1 104 yX0_isInfinite]
def wsX1_passThrough_r2 : List Cond := [Cond.instanceMethod yX0_isInfinite, Cond.selects RX0 yX0_isInfinite yX0_isInfinite, Cond.code yX0_isInfinite cX0_isInfinite 2 (some .boolean), Cond.methodLink RX1 118 yX0_lower, Cond.instanceMethod yX0_lower, Cond.selects RX0 yX0_lower yX0_lower, Cond.code yX0_lower cX0_lower 4 none, Cond.fieldLink RX0 11 "OctagonDesk$Numbers" "sum" "I", Cond.methodLink RX0 49 yX0_putSum, Cond.methodLink RX0 53 yX0_isLess, Cond.instanceMethod yX0_isLess, Cond.selects RX0 yX0_isLess yX0_isLess, Cond.code yX0_isLess cX0_isLess 9 (some .boolean), Cond.methodLink RX0 57 yX0_put, Cond.instanceMethod yX0_put, Cond.selects RX0 yX0_put yX0_put, Cond.code yX0_put cX0_put 5 none]
def wsX1_passThrough : List Cond := .code yX1_passThrough cX1_passThrough 5 none :: ((wsX1_passThrough_r1 ++ wsX1_passThrough_r2) ++ wsX10 ++ wsX00)
def wsX1_findContradiction : List Cond := .code yX1_findContradiction cX1_findContradiction 2 none :: ([.fieldLink RX1 16 "OctagonDesk$Shape" "numbers" "LOctagonDesk$Numbers;", .fieldLink RX1 20 "OctagonDesk$Shape" "empty" "Z", .static yX3_negation, .initialized RX3, .code yX3_negation cX3_negation 1 (some .int), .methodLink RX1 50 yX1_cell, .static yX1_cell, .initialized RX1, .code yX1_cell cX1_cell 2 (some .int), .methodLink RX1 115 yX0_isNegative, .instanceMethod yX0_isNegative, .selects RX0 yX0_isNegative yX0_isNegative, .initialized RX0, .code yX0_isNegative cX0_isNegative 2 (some .boolean), .fieldLink RX0 18 "OctagonDesk$Numbers" "limbs" "[J", .fieldLink RX0 22 "OctagonDesk$Numbers" "top" "I"] ++ wsX10 ++ wsX00)
def wsX1_combineSingles_r1 : List Cond := [Cond.fieldLink RX1 20 "OctagonDesk$Shape" "empty" "Z", Cond.fieldLink RX1 16 "OctagonDesk$Shape" "numbers" "LOctagonDesk$Numbers;", Cond.methodLink RX1 50 yX1_cell, Cond.static yX1_cell, Cond.initialized RX1, Cond.code yX1_cell cX1_cell 2 (some .int), Cond.methodLink RX1 101 yX0_putHalf, Cond.instanceMethod yX0_putHalf, Cond.selects RX0 yX0_putHalf yX0_putHalf, Cond.initialized RX0, Cond.code yX0_putHalf cX0_putHalf 8 none, Cond.fieldLink RX0 18 "OctagonDesk$Numbers" "limbs" "[J", Cond.fieldLink RX0 22 "OctagonDesk$Numbers" "top" "I", Cond.fieldLink RX0 15 "OctagonDesk$Numbers" "cells" "I", Cond.methodLink RX0 41 yX0_isInfinite, Cond.instanceMethod yX0_isInfinite, Cond.selects RX0 yX0_isInfinite yX0_isInfinite, Cond.code yX0_isInfinite cX0_isInfinite 2 (some .boolean), Cond.constantLong RX0 25 (9223372036854775807), Cond.methodLink RX0 45 yX0_setInfinite, Cond.instanceMethod yX0_setInfinite, Cond.selects RX0 yX0_setInfinite yX0_setInfinite, Cond.code yX0_setInfinite cX0_setInfinite 3 none, Cond.methodLink RX1 104 yX0_isInfinite]
def wsX1_combineSingles_r2 : List Cond := [Cond.methodLink RX1 118 yX0_lower, Cond.instanceMethod yX0_lower, Cond.selects RX0 yX0_lower yX0_lower, Cond.code yX0_lower cX0_lower 4 none, Cond.fieldLink RX0 11 "OctagonDesk$Numbers" "sum" "I", Cond.methodLink RX0 49 yX0_putSum, Cond.instanceMethod yX0_putSum, Cond.selects RX0 yX0_putSum yX0_putSum, Cond.code yX0_putSum cX0_putSum 8 none, Cond.constantLong RX0 39 (1152921504606846975), Cond.methodLink RX0 53 yX0_isLess, Cond.instanceMethod yX0_isLess, Cond.selects RX0 yX0_isLess yX0_isLess, Cond.code yX0_isLess cX0_isLess 9 (some .boolean), Cond.methodLink RX0 57 yX0_put, Cond.instanceMethod yX0_put, Cond.selects RX0 yX0_put yX0_put, Cond.code yX0_put cX0_put 5 none, Cond.methodLink RX1 121 yX1_findContradiction, Cond.instanceMethod yX1_findContradiction, Cond.selects RX1 yX1_findContradiction yX1_findContradiction, Cond.code yX1_findContradiction cX1_findContradiction 2 none, Cond.static yX3_negation, Cond.initialized RX3]
def wsX1_combineSingles_r3 : List Cond := [Cond.code yX3_negation cX3_negation 1 (some .int), Cond.methodLink RX1 115 yX0_isNegative, Cond.instanceMethod yX0_isNegative, Cond.selects RX0 yX0_isNegative yX0_isNegative, Cond.code yX0_isNegative cX0_isNegative 2 (some .boolean)]
def wsX1_combineSingles : List Cond := .code yX1_combineSingles cX1_combineSingles 3 none :: ((wsX1_combineSingles_r1 ++ (wsX1_combineSingles_r2 ++ wsX1_combineSingles_r3)) ++ wsX10 ++ wsX00)
def wsX1_holdToSpare_r1 : List Cond := [Cond.fieldLink RX1 20 "OctagonDesk$Shape" "empty" "Z", Cond.fieldLink RX1 16 "OctagonDesk$Shape" "numbers" "LOctagonDesk$Numbers;", Cond.methodLink RX1 50 yX1_cell, Cond.static yX1_cell, Cond.initialized RX1, Cond.code yX1_cell cX1_cell 2 (some .int), Cond.methodLink RX1 57 yX0_isLess, Cond.instanceMethod yX0_isLess, Cond.selects RX0 yX0_isLess yX0_isLess, Cond.initialized RX0, Cond.code yX0_isLess cX0_isLess 9 (some .boolean), Cond.fieldLink RX0 22 "OctagonDesk$Numbers" "top" "I", Cond.fieldLink RX0 18 "OctagonDesk$Numbers" "limbs" "[J", Cond.fieldLink RX0 15 "OctagonDesk$Numbers" "cells" "I", Cond.methodLink RX1 61 yX0_put, Cond.instanceMethod yX0_put, Cond.selects RX0 yX0_put yX0_put, Cond.code yX0_put cX0_put 5 none, Cond.methodLink RX1 65 yX1_passThrough, Cond.instanceMethod yX1_passThrough, Cond.selects RX1 yX1_passThrough yX1_passThrough, Cond.code yX1_passThrough cX1_passThrough 5 none, Cond.static yX3_negation, Cond.initialized RX3]
def wsX1_holdToSpare_r2 : List Cond := [Cond.code yX3_negation cX3_negation 1 (some .int), Cond.methodLink RX1 111 yX0_putSum, Cond.instanceMethod yX0_putSum, Cond.selects RX0 yX0_putSum yX0_putSum, Cond.code yX0_putSum cX0_putSum 8 none, Cond.constantLong RX0 25 (9223372036854775807), Cond.constantLong RX0 39 (1152921504606846975), Cond.methodLink RX1 115 yX0_isNegative, Cond.instanceMethod yX0_isNegative, Cond.selects RX0 yX0_isNegative yX0_isNegative, Cond.code yX0_isNegative cX0_isNegative 2 (some .boolean), Cond.methodLink RX1 104 yX0_isInfinite, Cond.instanceMethod yX0_isInfinite, Cond.selects RX0 yX0_isInfinite yX0_isInfinite, Cond.code yX0_isInfinite cX0_isInfinite 2 (some .boolean), Cond.methodLink RX1 118 yX0_lower, Cond.instanceMethod yX0_lower, Cond.selects RX0 yX0_lower yX0_lower, Cond.code yX0_lower cX0_lower 4 none, Cond.fieldLink RX0 11 "OctagonDesk$Numbers" "sum" "I", Cond.methodLink RX0 49 yX0_putSum, Cond.methodLink RX0 53 yX0_isLess, Cond.methodLink RX0 57 yX0_put, Cond.methodLink RX1 68 yX1_combineSingles]
def wsX1_holdToSpare_r3 : List Cond := [Cond.instanceMethod yX1_combineSingles, Cond.selects RX1 yX1_combineSingles yX1_combineSingles, Cond.code yX1_combineSingles cX1_combineSingles 3 none, Cond.methodLink RX1 101 yX0_putHalf, Cond.instanceMethod yX0_putHalf, Cond.selects RX0 yX0_putHalf yX0_putHalf, Cond.code yX0_putHalf cX0_putHalf 8 none, Cond.methodLink RX0 41 yX0_isInfinite, Cond.methodLink RX0 45 yX0_setInfinite, Cond.instanceMethod yX0_setInfinite, Cond.selects RX0 yX0_setInfinite yX0_setInfinite, Cond.code yX0_setInfinite cX0_setInfinite 3 none, Cond.methodLink RX1 121 yX1_findContradiction, Cond.instanceMethod yX1_findContradiction, Cond.selects RX1 yX1_findContradiction yX1_findContradiction, Cond.code yX1_findContradiction cX1_findContradiction 2 none]
def wsX1_holdToSpare : List Cond := .code yX1_holdToSpare cX1_holdToSpare 3 none :: ((wsX1_holdToSpare_r1 ++ (wsX1_holdToSpare_r2 ++ wsX1_holdToSpare_r3)) ++ wsX10 ++ wsX00)
def wsX1_scatter_r1 : List Cond := [Cond.fieldLink RX1 16 "OctagonDesk$Shape" "numbers" "LOctagonDesk$Numbers;", Cond.constantLong RX1 86 (2), Cond.constantLong RX1 88 (-2), Cond.methodLink RX1 24 yX1_release, Cond.instanceMethod yX1_release, Cond.selects RX1 yX1_release yX1_release, Cond.initialized RX1, Cond.code yX1_release cX1_release 4 none, Cond.methodLink RX1 50 yX1_cell, Cond.static yX1_cell, Cond.code yX1_cell cX1_cell 2 (some .int), Cond.methodLink RX1 54 yX0_setInfinite, Cond.instanceMethod yX0_setInfinite, Cond.selects RX0 yX0_setInfinite yX0_setInfinite, Cond.initialized RX0, Cond.code yX0_setInfinite cX0_setInfinite 3 none, Cond.fieldLink RX0 22 "OctagonDesk$Numbers" "top" "I", Cond.fieldLink RX0 18 "OctagonDesk$Numbers" "limbs" "[J", Cond.fieldLink RX0 15 "OctagonDesk$Numbers" "cells" "I", Cond.constantLong RX0 25 (9223372036854775807), Cond.methodLink RX1 38 yX0_set, Cond.instanceMethod yX0_set, Cond.selects RX0 yX0_set yX0_set, Cond.code yX0_set cX0_set 7 none]
def wsX1_scatter_r2 : List Cond := [Cond.constantLong RX0 39 (1152921504606846975), Cond.methodLink RX1 68 yX1_combineSingles, Cond.instanceMethod yX1_combineSingles, Cond.selects RX1 yX1_combineSingles yX1_combineSingles, Cond.code yX1_combineSingles cX1_combineSingles 3 none, Cond.fieldLink RX1 20 "OctagonDesk$Shape" "empty" "Z", Cond.methodLink RX1 101 yX0_putHalf, Cond.instanceMethod yX0_putHalf, Cond.selects RX0 yX0_putHalf yX0_putHalf, Cond.code yX0_putHalf cX0_putHalf 8 none, Cond.methodLink RX0 41 yX0_isInfinite, Cond.instanceMethod yX0_isInfinite, Cond.selects RX0 yX0_isInfinite yX0_isInfinite, Cond.code yX0_isInfinite cX0_isInfinite 2 (some .boolean), Cond.methodLink RX0 45 yX0_setInfinite, Cond.methodLink RX1 104 yX0_isInfinite, Cond.methodLink RX1 118 yX0_lower, Cond.instanceMethod yX0_lower, Cond.selects RX0 yX0_lower yX0_lower, Cond.code yX0_lower cX0_lower 4 none, Cond.fieldLink RX0 11 "OctagonDesk$Numbers" "sum" "I", Cond.methodLink RX0 49 yX0_putSum, Cond.instanceMethod yX0_putSum, Cond.selects RX0 yX0_putSum yX0_putSum]
def wsX1_scatter_r3 : List Cond := [Cond.code yX0_putSum cX0_putSum 8 none, Cond.methodLink RX0 53 yX0_isLess, Cond.instanceMethod yX0_isLess, Cond.selects RX0 yX0_isLess yX0_isLess, Cond.code yX0_isLess cX0_isLess 9 (some .boolean), Cond.methodLink RX0 57 yX0_put, Cond.instanceMethod yX0_put, Cond.selects RX0 yX0_put yX0_put, Cond.code yX0_put cX0_put 5 none, Cond.methodLink RX1 121 yX1_findContradiction, Cond.instanceMethod yX1_findContradiction, Cond.selects RX1 yX1_findContradiction yX1_findContradiction, Cond.code yX1_findContradiction cX1_findContradiction 2 none, Cond.static yX3_negation, Cond.initialized RX3, Cond.code yX3_negation cX3_negation 1 (some .int), Cond.methodLink RX1 115 yX0_isNegative, Cond.instanceMethod yX0_isNegative, Cond.selects RX0 yX0_isNegative yX0_isNegative, Cond.code yX0_isNegative cX0_isNegative 2 (some .boolean)]
def wsX1_scatter : List Cond := .code yX1_scatter cX1_scatter 6 none :: ((wsX1_scatter_r1 ++ (wsX1_scatter_r2 ++ wsX1_scatter_r3)) ++ wsX10 ++ wsX00)
def wsX1_makeFrom_r1 : List Cond := [Cond.fieldLink RX1 16 "OctagonDesk$Shape" "numbers" "LOctagonDesk$Numbers;", Cond.methodLink RX1 31 yX1_tell, Cond.instanceMethod yX1_tell, Cond.selects RX1 yX1_tell yX1_tell, Cond.initialized RX1, Cond.code yX1_tell cX1_tell 10 none, Cond.fieldLink RX1 20 "OctagonDesk$Shape" "empty" "Z", Cond.methodLink RX1 71 yX1_oldTerm, Cond.static yX1_oldTerm, Cond.code yX1_oldTerm cX1_oldTerm 3 (some .int), Cond.static yX3_negation, Cond.initialized RX3, Cond.code yX3_negation cX3_negation 1 (some .int), Cond.methodLink RX1 75 yX1_moreOf, Cond.static yX1_moreOf, Cond.code yX1_moreOf cX1_moreOf 3 (some .int), Cond.methodLink RX1 50 yX1_cell, Cond.static yX1_cell, Cond.code yX1_cell cX1_cell 2 (some .int), Cond.methodLink RX1 78 yX0_putMore, Cond.instanceMethod yX0_putMore, Cond.selects RX0 yX0_putMore yX0_putMore, Cond.initialized RX0, Cond.code yX0_putMore cX0_putMore 9 none]
def wsX1_makeFrom_r2 : List Cond := [Cond.fieldLink RX0 22 "OctagonDesk$Numbers" "top" "I", Cond.fieldLink RX0 18 "OctagonDesk$Numbers" "limbs" "[J", Cond.constantLong RX0 39 (1152921504606846975), Cond.fieldLink RX0 15 "OctagonDesk$Numbers" "cells" "I", Cond.methodLink RX0 41 yX0_isInfinite, Cond.instanceMethod yX0_isInfinite, Cond.selects RX0 yX0_isInfinite yX0_isInfinite, Cond.code yX0_isInfinite cX0_isInfinite 2 (some .boolean), Cond.constantLong RX0 25 (9223372036854775807), Cond.methodLink RX0 45 yX0_setInfinite, Cond.instanceMethod yX0_setInfinite, Cond.selects RX0 yX0_setInfinite yX0_setInfinite, Cond.code yX0_setInfinite cX0_setInfinite 3 none, Cond.methodLink RX1 35 yX1_takeOver, Cond.instanceMethod yX1_takeOver, Cond.selects RX1 yX1_takeOver yX1_takeOver, Cond.code yX1_takeOver cX1_takeOver 2 none, Cond.methodLink RX1 27 yX0_takeOver, Cond.instanceMethod yX0_takeOver, Cond.selects RX0 yX0_takeOver yX0_takeOver, Cond.code yX0_takeOver cX0_takeOver 2 none, Cond.methodLink RX0 33 arraycopyName, Cond.native arraycopyName, Cond.static arraycopyName]
def wsX1_makeFrom_r3 : List Cond := [Cond.initialized "java/lang/System", Cond.methodLink RX1 38 yX0_set, Cond.instanceMethod yX0_set, Cond.selects RX0 yX0_set yX0_set, Cond.code yX0_set cX0_set 7 none, Cond.methodLink RX1 42 yX1_holdToSpare, Cond.instanceMethod yX1_holdToSpare, Cond.selects RX1 yX1_holdToSpare yX1_holdToSpare, Cond.code yX1_holdToSpare cX1_holdToSpare 3 none, Cond.methodLink RX1 57 yX0_isLess, Cond.instanceMethod yX0_isLess, Cond.selects RX0 yX0_isLess yX0_isLess, Cond.code yX0_isLess cX0_isLess 9 (some .boolean), Cond.methodLink RX1 61 yX0_put, Cond.instanceMethod yX0_put, Cond.selects RX0 yX0_put yX0_put, Cond.code yX0_put cX0_put 5 none, Cond.methodLink RX1 65 yX1_passThrough, Cond.instanceMethod yX1_passThrough, Cond.selects RX1 yX1_passThrough yX1_passThrough, Cond.code yX1_passThrough cX1_passThrough 5 none, Cond.methodLink RX1 111 yX0_putSum, Cond.instanceMethod yX0_putSum, Cond.selects RX0 yX0_putSum yX0_putSum]
def wsX1_makeFrom_r4 : List Cond := [Cond.code yX0_putSum cX0_putSum 8 none, Cond.methodLink RX1 115 yX0_isNegative, Cond.instanceMethod yX0_isNegative, Cond.selects RX0 yX0_isNegative yX0_isNegative, Cond.code yX0_isNegative cX0_isNegative 2 (some .boolean), Cond.methodLink RX1 104 yX0_isInfinite, Cond.methodLink RX1 118 yX0_lower, Cond.instanceMethod yX0_lower, Cond.selects RX0 yX0_lower yX0_lower, Cond.code yX0_lower cX0_lower 4 none, Cond.fieldLink RX0 11 "OctagonDesk$Numbers" "sum" "I", Cond.methodLink RX0 49 yX0_putSum, Cond.methodLink RX0 53 yX0_isLess, Cond.methodLink RX0 57 yX0_put, Cond.methodLink RX1 68 yX1_combineSingles, Cond.instanceMethod yX1_combineSingles, Cond.selects RX1 yX1_combineSingles yX1_combineSingles, Cond.code yX1_combineSingles cX1_combineSingles 3 none, Cond.methodLink RX1 101 yX0_putHalf, Cond.instanceMethod yX0_putHalf, Cond.selects RX0 yX0_putHalf yX0_putHalf, Cond.code yX0_putHalf cX0_putHalf 8 none, Cond.methodLink RX1 121 yX1_findContradiction, Cond.instanceMethod yX1_findContradiction]
def wsX1_makeFrom_r5 : List Cond := [Cond.selects RX1 yX1_findContradiction yX1_findContradiction, Cond.code yX1_findContradiction cX1_findContradiction 2 none, Cond.methodLink RX1 46 yX1_scatter, Cond.instanceMethod yX1_scatter, Cond.selects RX1 yX1_scatter yX1_scatter, Cond.code yX1_scatter cX1_scatter 6 none, Cond.constantLong RX1 86 (2), Cond.constantLong RX1 88 (-2), Cond.methodLink RX1 24 yX1_release, Cond.instanceMethod yX1_release, Cond.selects RX1 yX1_release yX1_release, Cond.code yX1_release cX1_release 4 none, Cond.methodLink RX1 54 yX0_setInfinite]
def wsX1_makeFrom : List Cond := .code yX1_makeFrom cX1_makeFrom 6 none :: ((wsX1_makeFrom_r1 ++ (wsX1_makeFrom_r2 ++ (wsX1_makeFrom_r3 ++ (wsX1_makeFrom_r4 ++ wsX1_makeFrom_r5)))) ++ wsX10 ++ wsX00)
def wsX1_close_r1 : List Cond := [Cond.fieldLink RX1 20 "OctagonDesk$Shape" "empty" "Z", Cond.fieldLink RX1 16 "OctagonDesk$Shape" "numbers" "LOctagonDesk$Numbers;", Cond.methodLink RX1 50 yX1_cell, Cond.static yX1_cell, Cond.initialized RX1, Cond.code yX1_cell cX1_cell 2 (some .int), Cond.methodLink RX1 104 yX0_isInfinite, Cond.instanceMethod yX0_isInfinite, Cond.selects RX0 yX0_isInfinite yX0_isInfinite, Cond.initialized RX0, Cond.code yX0_isInfinite cX0_isInfinite 2 (some .boolean), Cond.fieldLink RX0 18 "OctagonDesk$Numbers" "limbs" "[J", Cond.fieldLink RX0 22 "OctagonDesk$Numbers" "top" "I", Cond.constantLong RX0 25 (9223372036854775807), Cond.static yX3_negation, Cond.initialized RX3, Cond.code yX3_negation cX3_negation 1 (some .int), Cond.methodLink RX1 118 yX0_lower, Cond.instanceMethod yX0_lower, Cond.selects RX0 yX0_lower yX0_lower, Cond.code yX0_lower cX0_lower 4 none, Cond.fieldLink RX0 11 "OctagonDesk$Numbers" "sum" "I", Cond.methodLink RX0 49 yX0_putSum, Cond.instanceMethod yX0_putSum]
def wsX1_close_r2 : List Cond := [Cond.selects RX0 yX0_putSum yX0_putSum, Cond.code yX0_putSum cX0_putSum 8 none, Cond.constantLong RX0 39 (1152921504606846975), Cond.fieldLink RX0 15 "OctagonDesk$Numbers" "cells" "I", Cond.methodLink RX0 53 yX0_isLess, Cond.instanceMethod yX0_isLess, Cond.selects RX0 yX0_isLess yX0_isLess, Cond.code yX0_isLess cX0_isLess 9 (some .boolean), Cond.methodLink RX0 57 yX0_put, Cond.instanceMethod yX0_put, Cond.selects RX0 yX0_put yX0_put, Cond.code yX0_put cX0_put 5 none, Cond.methodLink RX1 121 yX1_findContradiction, Cond.instanceMethod yX1_findContradiction, Cond.selects RX1 yX1_findContradiction yX1_findContradiction, Cond.code yX1_findContradiction cX1_findContradiction 2 none, Cond.methodLink RX1 115 yX0_isNegative, Cond.instanceMethod yX0_isNegative, Cond.selects RX0 yX0_isNegative yX0_isNegative, Cond.code yX0_isNegative cX0_isNegative 2 (some .boolean), Cond.methodLink RX1 68 yX1_combineSingles, Cond.instanceMethod yX1_combineSingles, Cond.selects RX1 yX1_combineSingles yX1_combineSingles, Cond.code yX1_combineSingles cX1_combineSingles 3 none]
def wsX1_close_r3 : List Cond := [Cond.methodLink RX1 101 yX0_putHalf, Cond.instanceMethod yX0_putHalf, Cond.selects RX0 yX0_putHalf yX0_putHalf, Cond.code yX0_putHalf cX0_putHalf 8 none, Cond.methodLink RX0 41 yX0_isInfinite, Cond.methodLink RX0 45 yX0_setInfinite, Cond.instanceMethod yX0_setInfinite, Cond.selects RX0 yX0_setInfinite yX0_setInfinite, Cond.code yX0_setInfinite cX0_setInfinite 3 none]
def wsX1_close : List Cond := .code yX1_close cX1_close 4 none :: ((wsX1_close_r1 ++ (wsX1_close_r2 ++ wsX1_close_r3)) ++ wsX10 ++ wsX00)
def wsX1_cutTo_r1 : List Cond := [Cond.fieldLink RX1 20 "OctagonDesk$Shape" "empty" "Z", Cond.fieldLink RX1 16 "OctagonDesk$Shape" "numbers" "LOctagonDesk$Numbers;", Cond.methodLink RX1 57 yX0_isLess, Cond.instanceMethod yX0_isLess, Cond.selects RX0 yX0_isLess yX0_isLess, Cond.initialized RX0, Cond.code yX0_isLess cX0_isLess 9 (some .boolean), Cond.fieldLink RX0 22 "OctagonDesk$Numbers" "top" "I", Cond.fieldLink RX0 18 "OctagonDesk$Numbers" "limbs" "[J", Cond.fieldLink RX0 15 "OctagonDesk$Numbers" "cells" "I", Cond.methodLink RX1 61 yX0_put, Cond.instanceMethod yX0_put, Cond.selects RX0 yX0_put yX0_put, Cond.code yX0_put cX0_put 5 none, Cond.methodLink RX1 90 yX1_close, Cond.instanceMethod yX1_close, Cond.selects RX1 yX1_close yX1_close, Cond.initialized RX1, Cond.code yX1_close cX1_close 4 none, Cond.methodLink RX1 50 yX1_cell, Cond.static yX1_cell, Cond.code yX1_cell cX1_cell 2 (some .int), Cond.methodLink RX1 104 yX0_isInfinite, Cond.instanceMethod yX0_isInfinite]
def wsX1_cutTo_r2 : List Cond := [Cond.selects RX0 yX0_isInfinite yX0_isInfinite, Cond.code yX0_isInfinite cX0_isInfinite 2 (some .boolean), Cond.constantLong RX0 25 (9223372036854775807), Cond.static yX3_negation, Cond.initialized RX3, Cond.code yX3_negation cX3_negation 1 (some .int), Cond.methodLink RX1 118 yX0_lower, Cond.instanceMethod yX0_lower, Cond.selects RX0 yX0_lower yX0_lower, Cond.code yX0_lower cX0_lower 4 none, Cond.fieldLink RX0 11 "OctagonDesk$Numbers" "sum" "I", Cond.methodLink RX0 49 yX0_putSum, Cond.instanceMethod yX0_putSum, Cond.selects RX0 yX0_putSum yX0_putSum, Cond.code yX0_putSum cX0_putSum 8 none, Cond.constantLong RX0 39 (1152921504606846975), Cond.methodLink RX0 53 yX0_isLess, Cond.methodLink RX0 57 yX0_put, Cond.methodLink RX1 121 yX1_findContradiction, Cond.instanceMethod yX1_findContradiction, Cond.selects RX1 yX1_findContradiction yX1_findContradiction, Cond.code yX1_findContradiction cX1_findContradiction 2 none, Cond.methodLink RX1 115 yX0_isNegative, Cond.instanceMethod yX0_isNegative]
def wsX1_cutTo_r3 : List Cond := [Cond.selects RX0 yX0_isNegative yX0_isNegative, Cond.code yX0_isNegative cX0_isNegative 2 (some .boolean), Cond.methodLink RX1 68 yX1_combineSingles, Cond.instanceMethod yX1_combineSingles, Cond.selects RX1 yX1_combineSingles yX1_combineSingles, Cond.code yX1_combineSingles cX1_combineSingles 3 none, Cond.methodLink RX1 101 yX0_putHalf, Cond.instanceMethod yX0_putHalf, Cond.selects RX0 yX0_putHalf yX0_putHalf, Cond.code yX0_putHalf cX0_putHalf 8 none, Cond.methodLink RX0 41 yX0_isInfinite, Cond.methodLink RX0 45 yX0_setInfinite, Cond.instanceMethod yX0_setInfinite, Cond.selects RX0 yX0_setInfinite yX0_setInfinite, Cond.code yX0_setInfinite cX0_setInfinite 3 none]
def wsX1_cutTo : List Cond := .code yX1_cutTo cX1_cutTo 3 none :: ((wsX1_cutTo_r1 ++ (wsX1_cutTo_r2 ++ wsX1_cutTo_r3)) ++ wsX10 ++ wsX00)
def wsX1_isSettledByEmptiness : List Cond := .code yX1_isSettledByEmptiness cX1_isSettledByEmptiness 3 (some .boolean) :: ([.fieldLink RX1 20 "OctagonDesk$Shape" "empty" "Z", .methodLink RX1 35 yX1_takeOver, .instanceMethod yX1_takeOver, .selects RX1 yX1_takeOver yX1_takeOver, .initialized RX1, .code yX1_takeOver cX1_takeOver 2 none, .fieldLink RX1 16 "OctagonDesk$Shape" "numbers" "LOctagonDesk$Numbers;", .methodLink RX1 27 yX0_takeOver, .instanceMethod yX0_takeOver, .selects RX0 yX0_takeOver yX0_takeOver, .initialized RX0, .code yX0_takeOver cX0_takeOver 2 none, .fieldLink RX0 18 "OctagonDesk$Numbers" "limbs" "[J", .methodLink RX0 33 arraycopyName, .native arraycopyName, .static arraycopyName, .initialized "java/lang/System"] ++ wsX10 ++ wsX00)
def wsX1_stretchOver_r1 : List Cond := [Cond.fieldLink RX1 16 "OctagonDesk$Shape" "numbers" "LOctagonDesk$Numbers;", Cond.methodLink RX1 93 yX1_isSettledByEmptiness, Cond.instanceMethod yX1_isSettledByEmptiness, Cond.selects RX1 yX1_isSettledByEmptiness yX1_isSettledByEmptiness, Cond.initialized RX1, Cond.code yX1_isSettledByEmptiness cX1_isSettledByEmptiness 3 (some .boolean), Cond.fieldLink RX1 20 "OctagonDesk$Shape" "empty" "Z", Cond.methodLink RX1 35 yX1_takeOver, Cond.instanceMethod yX1_takeOver, Cond.selects RX1 yX1_takeOver yX1_takeOver, Cond.code yX1_takeOver cX1_takeOver 2 none, Cond.methodLink RX1 27 yX0_takeOver, Cond.instanceMethod yX0_takeOver, Cond.selects RX0 yX0_takeOver yX0_takeOver, Cond.initialized RX0, Cond.code yX0_takeOver cX0_takeOver 2 none, Cond.fieldLink RX0 18 "OctagonDesk$Numbers" "limbs" "[J", Cond.methodLink RX0 33 arraycopyName, Cond.native arraycopyName, Cond.static arraycopyName, Cond.initialized "java/lang/System", Cond.methodLink RX1 57 yX0_isLess, Cond.instanceMethod yX0_isLess, Cond.selects RX0 yX0_isLess yX0_isLess]
def wsX1_stretchOver_r2 : List Cond := [Cond.code yX0_isLess cX0_isLess 9 (some .boolean), Cond.fieldLink RX0 22 "OctagonDesk$Numbers" "top" "I", Cond.fieldLink RX0 15 "OctagonDesk$Numbers" "cells" "I", Cond.methodLink RX1 61 yX0_put, Cond.instanceMethod yX0_put, Cond.selects RX0 yX0_put yX0_put, Cond.code yX0_put cX0_put 5 none]
def wsX1_stretchOver : List Cond := .code yX1_stretchOver cX1_stretchOver 3 none :: ((wsX1_stretchOver_r1 ++ wsX1_stretchOver_r2) ++ wsX10 ++ wsX00)
def wsX1_loosenBy_r1 : List Cond := [Cond.fieldLink RX1 16 "OctagonDesk$Shape" "numbers" "LOctagonDesk$Numbers;", Cond.methodLink RX1 93 yX1_isSettledByEmptiness, Cond.instanceMethod yX1_isSettledByEmptiness, Cond.selects RX1 yX1_isSettledByEmptiness yX1_isSettledByEmptiness, Cond.initialized RX1, Cond.code yX1_isSettledByEmptiness cX1_isSettledByEmptiness 3 (some .boolean), Cond.fieldLink RX1 20 "OctagonDesk$Shape" "empty" "Z", Cond.methodLink RX1 35 yX1_takeOver, Cond.instanceMethod yX1_takeOver, Cond.selects RX1 yX1_takeOver yX1_takeOver, Cond.code yX1_takeOver cX1_takeOver 2 none, Cond.methodLink RX1 27 yX0_takeOver, Cond.instanceMethod yX0_takeOver, Cond.selects RX0 yX0_takeOver yX0_takeOver, Cond.initialized RX0, Cond.code yX0_takeOver cX0_takeOver 2 none, Cond.fieldLink RX0 18 "OctagonDesk$Numbers" "limbs" "[J", Cond.methodLink RX0 33 arraycopyName, Cond.native arraycopyName, Cond.static arraycopyName, Cond.initialized "java/lang/System", Cond.methodLink RX1 57 yX0_isLess, Cond.instanceMethod yX0_isLess, Cond.selects RX0 yX0_isLess yX0_isLess]
def wsX1_loosenBy_r2 : List Cond := [Cond.code yX0_isLess cX0_isLess 9 (some .boolean), Cond.fieldLink RX0 22 "OctagonDesk$Numbers" "top" "I", Cond.fieldLink RX0 15 "OctagonDesk$Numbers" "cells" "I", Cond.methodLink RX1 54 yX0_setInfinite, Cond.instanceMethod yX0_setInfinite, Cond.selects RX0 yX0_setInfinite yX0_setInfinite, Cond.code yX0_setInfinite cX0_setInfinite 3 none, Cond.constantLong RX0 25 (9223372036854775807), Cond.methodLink RX1 90 yX1_close, Cond.instanceMethod yX1_close, Cond.selects RX1 yX1_close yX1_close, Cond.code yX1_close cX1_close 4 none, Cond.methodLink RX1 50 yX1_cell, Cond.static yX1_cell, Cond.code yX1_cell cX1_cell 2 (some .int), Cond.methodLink RX1 104 yX0_isInfinite, Cond.instanceMethod yX0_isInfinite, Cond.selects RX0 yX0_isInfinite yX0_isInfinite, Cond.code yX0_isInfinite cX0_isInfinite 2 (some .boolean), Cond.static yX3_negation, Cond.initialized RX3, Cond.code yX3_negation cX3_negation 1 (some .int), Cond.methodLink RX1 118 yX0_lower, Cond.instanceMethod yX0_lower]
def wsX1_loosenBy_r3 : List Cond := [Cond.selects RX0 yX0_lower yX0_lower, Cond.code yX0_lower cX0_lower 4 none, Cond.fieldLink RX0 11 "OctagonDesk$Numbers" "sum" "I", Cond.methodLink RX0 49 yX0_putSum, Cond.instanceMethod yX0_putSum, Cond.selects RX0 yX0_putSum yX0_putSum, Cond.code yX0_putSum cX0_putSum 8 none, Cond.constantLong RX0 39 (1152921504606846975), Cond.methodLink RX0 53 yX0_isLess, Cond.methodLink RX0 57 yX0_put, Cond.instanceMethod yX0_put, Cond.selects RX0 yX0_put yX0_put, Cond.code yX0_put cX0_put 5 none, Cond.methodLink RX1 121 yX1_findContradiction, Cond.instanceMethod yX1_findContradiction, Cond.selects RX1 yX1_findContradiction yX1_findContradiction, Cond.code yX1_findContradiction cX1_findContradiction 2 none, Cond.methodLink RX1 115 yX0_isNegative, Cond.instanceMethod yX0_isNegative, Cond.selects RX0 yX0_isNegative yX0_isNegative, Cond.code yX0_isNegative cX0_isNegative 2 (some .boolean), Cond.methodLink RX1 68 yX1_combineSingles, Cond.instanceMethod yX1_combineSingles, Cond.selects RX1 yX1_combineSingles yX1_combineSingles]
def wsX1_loosenBy_r4 : List Cond := [Cond.code yX1_combineSingles cX1_combineSingles 3 none, Cond.methodLink RX1 101 yX0_putHalf, Cond.instanceMethod yX0_putHalf, Cond.selects RX0 yX0_putHalf yX0_putHalf, Cond.code yX0_putHalf cX0_putHalf 8 none, Cond.methodLink RX0 41 yX0_isInfinite, Cond.methodLink RX0 45 yX0_setInfinite]
def wsX1_loosenBy : List Cond := .code yX1_loosenBy cX1_loosenBy 3 none :: ((wsX1_loosenBy_r1 ++ (wsX1_loosenBy_r2 ++ (wsX1_loosenBy_r3 ++ wsX1_loosenBy_r4))) ++ wsX10 ++ wsX00)
def wsX1_isWithin : List Cond := .code yX1_isWithin cX1_isWithin 3 (some .boolean) :: ([.fieldLink RX1 20 "OctagonDesk$Shape" "empty" "Z", .fieldLink RX1 16 "OctagonDesk$Shape" "numbers" "LOctagonDesk$Numbers;", .methodLink RX1 57 yX0_isLess, .instanceMethod yX0_isLess, .selects RX0 yX0_isLess yX0_isLess, .initialized RX0, .code yX0_isLess cX0_isLess 9 (some .boolean), .fieldLink RX0 22 "OctagonDesk$Numbers" "top" "I", .fieldLink RX0 18 "OctagonDesk$Numbers" "limbs" "[J", .fieldLink RX0 15 "OctagonDesk$Numbers" "cells" "I"] ++ wsX10 ++ wsX00)
def wsX1_mostOf_r1 : List Cond := [Cond.fieldLink RX1 16 "OctagonDesk$Shape" "numbers" "LOctagonDesk$Numbers;", Cond.methodLink RX1 50 yX1_cell, Cond.static yX1_cell, Cond.initialized RX1, Cond.code yX1_cell cX1_cell 2 (some .int), Cond.methodLink RX1 97 yX0_nearestLong, Cond.instanceMethod yX0_nearestLong, Cond.selects RX0 yX0_nearestLong yX0_nearestLong, Cond.initialized RX0, Cond.code yX0_nearestLong cX0_nearestLong 5 (some .long), Cond.fieldLink RX0 18 "OctagonDesk$Numbers" "limbs" "[J", Cond.fieldLink RX0 22 "OctagonDesk$Numbers" "top" "I", Cond.constantLong RX0 25 (9223372036854775807), Cond.fieldLink RX0 15 "OctagonDesk$Numbers" "cells" "I", Cond.constantLong RX0 27 (7), Cond.constantLong RX0 29 (-8), Cond.constantLong RX0 31 (-9223372036854775808), Cond.methodLink RX1 101 yX0_putHalf, Cond.instanceMethod yX0_putHalf, Cond.selects RX0 yX0_putHalf yX0_putHalf, Cond.code yX0_putHalf cX0_putHalf 8 none, Cond.methodLink RX0 41 yX0_isInfinite, Cond.instanceMethod yX0_isInfinite, Cond.selects RX0 yX0_isInfinite yX0_isInfinite]
def wsX1_mostOf_r2 : List Cond := [Cond.code yX0_isInfinite cX0_isInfinite 2 (some .boolean), Cond.methodLink RX0 45 yX0_setInfinite, Cond.instanceMethod yX0_setInfinite, Cond.selects RX0 yX0_setInfinite yX0_setInfinite, Cond.code yX0_setInfinite cX0_setInfinite 3 none]
def wsX1_mostOf : List Cond := .code yX1_mostOf cX1_mostOf 3 (some .long) :: ((wsX1_mostOf_r1 ++ wsX1_mostOf_r2) ++ wsX10 ++ wsX00)
def wsX1_countBounds : List Cond := .code yX1_countBounds cX1_countBounds 4 (some .int) :: ([.fieldLink RX1 16 "OctagonDesk$Shape" "numbers" "LOctagonDesk$Numbers;", .static yX3_negation, .initialized RX3, .code yX3_negation cX3_negation 1 (some .int), .methodLink RX1 50 yX1_cell, .static yX1_cell, .initialized RX1, .code yX1_cell cX1_cell 2 (some .int), .methodLink RX1 104 yX0_isInfinite, .instanceMethod yX0_isInfinite, .selects RX0 yX0_isInfinite yX0_isInfinite, .initialized RX0, .code yX0_isInfinite cX0_isInfinite 2 (some .boolean), .fieldLink RX0 18 "OctagonDesk$Numbers" "limbs" "[J", .fieldLink RX0 22 "OctagonDesk$Numbers" "top" "I", .constantLong RX0 25 (9223372036854775807)] ++ wsX10 ++ wsX00)
def wsX1_settle_r1 : List Cond := [Cond.fieldLink RX1 16 "OctagonDesk$Shape" "numbers" "LOctagonDesk$Numbers;", Cond.methodLink RX1 50 yX1_cell, Cond.static yX1_cell, Cond.initialized RX1, Cond.code yX1_cell cX1_cell 2 (some .int), Cond.methodLink RX1 104 yX0_isInfinite, Cond.instanceMethod yX0_isInfinite, Cond.selects RX0 yX0_isInfinite yX0_isInfinite, Cond.initialized RX0, Cond.code yX0_isInfinite cX0_isInfinite 2 (some .boolean), Cond.fieldLink RX0 18 "OctagonDesk$Numbers" "limbs" "[J", Cond.fieldLink RX0 22 "OctagonDesk$Numbers" "top" "I", Cond.constantLong RX0 25 (9223372036854775807), Cond.methodLink RX1 38 yX0_set, Cond.instanceMethod yX0_set, Cond.selects RX0 yX0_set yX0_set, Cond.code yX0_set cX0_set 7 none, Cond.constantLong RX0 39 (1152921504606846975), Cond.fieldLink RX0 15 "OctagonDesk$Numbers" "cells" "I", Cond.methodLink RX1 42 yX1_holdToSpare, Cond.instanceMethod yX1_holdToSpare, Cond.selects RX1 yX1_holdToSpare yX1_holdToSpare, Cond.code yX1_holdToSpare cX1_holdToSpare 3 none, Cond.fieldLink RX1 20 "OctagonDesk$Shape" "empty" "Z"]
def wsX1_settle_r2 : List Cond := [Cond.methodLink RX1 57 yX0_isLess, Cond.instanceMethod yX0_isLess, Cond.selects RX0 yX0_isLess yX0_isLess, Cond.code yX0_isLess cX0_isLess 9 (some .boolean), Cond.methodLink RX1 61 yX0_put, Cond.instanceMethod yX0_put, Cond.selects RX0 yX0_put yX0_put, Cond.code yX0_put cX0_put 5 none, Cond.methodLink RX1 65 yX1_passThrough, Cond.instanceMethod yX1_passThrough, Cond.selects RX1 yX1_passThrough yX1_passThrough, Cond.code yX1_passThrough cX1_passThrough 5 none, Cond.static yX3_negation, Cond.initialized RX3, Cond.code yX3_negation cX3_negation 1 (some .int), Cond.methodLink RX1 111 yX0_putSum, Cond.instanceMethod yX0_putSum, Cond.selects RX0 yX0_putSum yX0_putSum, Cond.code yX0_putSum cX0_putSum 8 none, Cond.methodLink RX1 115 yX0_isNegative, Cond.instanceMethod yX0_isNegative, Cond.selects RX0 yX0_isNegative yX0_isNegative, Cond.code yX0_isNegative cX0_isNegative 2 (some .boolean), Cond.methodLink RX1 118 yX0_lower]
def wsX1_settle_r3 : List Cond := [Cond.instanceMethod yX0_lower, Cond.selects RX0 yX0_lower yX0_lower, Cond.code yX0_lower cX0_lower 4 none, Cond.fieldLink RX0 11 "OctagonDesk$Numbers" "sum" "I", Cond.methodLink RX0 49 yX0_putSum, Cond.methodLink RX0 53 yX0_isLess, Cond.methodLink RX0 57 yX0_put, Cond.methodLink RX1 68 yX1_combineSingles, Cond.instanceMethod yX1_combineSingles, Cond.selects RX1 yX1_combineSingles yX1_combineSingles, Cond.code yX1_combineSingles cX1_combineSingles 3 none, Cond.methodLink RX1 101 yX0_putHalf, Cond.instanceMethod yX0_putHalf, Cond.selects RX0 yX0_putHalf yX0_putHalf, Cond.code yX0_putHalf cX0_putHalf 8 none, Cond.methodLink RX0 41 yX0_isInfinite, Cond.methodLink RX0 45 yX0_setInfinite, Cond.instanceMethod yX0_setInfinite, Cond.selects RX0 yX0_setInfinite yX0_setInfinite, Cond.code yX0_setInfinite cX0_setInfinite 3 none, Cond.methodLink RX1 121 yX1_findContradiction, Cond.instanceMethod yX1_findContradiction, Cond.selects RX1 yX1_findContradiction yX1_findContradiction, Cond.code yX1_findContradiction cX1_findContradiction 2 none]
def wsX1_settle_r4 : List Cond := [Cond.methodLink RX1 108 yX0_putNegative, Cond.instanceMethod yX0_putNegative, Cond.selects RX0 yX0_putNegative yX0_putNegative, Cond.code yX0_putNegative cX0_putNegative 6 none]
def wsX1_settle : List Cond := .code yX1_settle cX1_settle 4 none :: ((wsX1_settle_r1 ++ (wsX1_settle_r2 ++ (wsX1_settle_r3 ++ wsX1_settle_r4))) ++ wsX10 ++ wsX00)
def wsX1_shiftToLeast_r1 : List Cond := [Cond.fieldLink RX1 16 "OctagonDesk$Shape" "numbers" "LOctagonDesk$Numbers;", Cond.methodLink RX1 50 yX1_cell, Cond.static yX1_cell, Cond.initialized RX1, Cond.code yX1_cell cX1_cell 2 (some .int), Cond.methodLink RX1 104 yX0_isInfinite, Cond.instanceMethod yX0_isInfinite, Cond.selects RX0 yX0_isInfinite yX0_isInfinite, Cond.initialized RX0, Cond.code yX0_isInfinite cX0_isInfinite 2 (some .boolean), Cond.fieldLink RX0 18 "OctagonDesk$Numbers" "limbs" "[J", Cond.fieldLink RX0 22 "OctagonDesk$Numbers" "top" "I", Cond.constantLong RX0 25 (9223372036854775807), Cond.methodLink RX1 101 yX0_putHalf, Cond.instanceMethod yX0_putHalf, Cond.selects RX0 yX0_putHalf yX0_putHalf, Cond.code yX0_putHalf cX0_putHalf 8 none, Cond.fieldLink RX0 15 "OctagonDesk$Numbers" "cells" "I", Cond.methodLink RX0 41 yX0_isInfinite, Cond.methodLink RX0 45 yX0_setInfinite, Cond.instanceMethod yX0_setInfinite, Cond.selects RX0 yX0_setInfinite yX0_setInfinite, Cond.code yX0_setInfinite cX0_setInfinite 3 none, Cond.methodLink RX1 108 yX0_putNegative]
def wsX1_shiftToLeast_r2 : List Cond := [Cond.instanceMethod yX0_putNegative, Cond.selects RX0 yX0_putNegative yX0_putNegative, Cond.code yX0_putNegative cX0_putNegative 6 none, Cond.constantLong RX0 39 (1152921504606846975), Cond.methodLink RX1 111 yX0_putSum, Cond.instanceMethod yX0_putSum, Cond.selects RX0 yX0_putSum yX0_putSum, Cond.code yX0_putSum cX0_putSum 8 none]
def wsX1_shiftToLeast : List Cond := .code yX1_shiftToLeast cX1_shiftToLeast 3 (some .boolean) :: ((wsX1_shiftToLeast_r1 ++ wsX1_shiftToLeast_r2) ++ wsX10 ++ wsX00)
def wsX2_init : List Cond := .code yX2_init cX2_init 1 none :: ([.methodLink RX2 3 objectInit, .instanceMethod objectInit, .code objectInit ⟨#[0xb1]⟩ 1 none])
def wsX2_write : List Cond := .code yX2_write cX2_write 6 none :: ([.fieldLink RX2 9 "OctagonDesk$Step" "from" "I", .fieldLink RX2 15 "OctagonDesk$Step" "to" "I", .fieldLink RX2 18 "OctagonDesk$Step" "kind" "I", .fieldLink RX2 21 "OctagonDesk$Step" "a" "I", .fieldLink RX2 24 "OctagonDesk$Step" "b" "I", .fieldLink RX2 27 "OctagonDesk$Step" "c" "I"] ++ wsX20)
def wsX3_emptyShapes : List Cond := .code yX3_emptyShapes cX3_emptyShapes 3 (some (.array (.object "OctagonDesk$Shape"))) :: ([.classLink RX3 18 RX1, .instantiable RX1 2, .initialized RX1, .methodLink RX3 28 yX1_init, .instanceMethod yX1_init, .code yX1_init cX1_init 1 none, .methodLink RX1 5 objectInit, .instanceMethod objectInit, .code objectInit ⟨#[0xb1]⟩ 1 none, .classLink RX1 11 RX0, .instantiable RX0 4, .initialized RX0, .fieldLink RX1 16 "OctagonDesk$Shape" "numbers" "LOctagonDesk$Numbers;", .fieldLink RX1 20 "OctagonDesk$Shape" "empty" "Z", .methodLink RX1 13 yX0_init, .instanceMethod yX0_init, .code yX0_init cX0_init 2 none, .methodLink RX0 5 objectInit, .fieldLink RX0 11 "OctagonDesk$Numbers" "sum" "I", .fieldLink RX0 15 "OctagonDesk$Numbers" "cells" "I", .arrayClass .long, .fieldLink RX0 18 "OctagonDesk$Numbers" "limbs" "[J", .fieldLink RX0 22 "OctagonDesk$Numbers" "top" "I"] ++ wsX10 ++ wsX00)
def wsX3_init_r1 : List Cond := [Cond.methodLink RX3 1 objectInit, Cond.instanceMethod objectInit, Cond.code objectInit ⟨#[0xb1]⟩ 1 none, Cond.fieldLink RX3 13 "OctagonDesk" "slots" "[LOctagonDesk$Shape;", Cond.fieldLink RX3 22 "OctagonDesk" "left" "[LOctagonDesk$Shape;", Cond.fieldLink RX3 25 "OctagonDesk" "reached" "[LOctagonDesk$Shape;", Cond.classLink RX3 18 RX1, Cond.instantiable RX1 2, Cond.initialized RX1, Cond.fieldLink RX3 29 "OctagonDesk" "made" "LOctagonDesk$Shape;", Cond.arrayClass .long, Cond.fieldLink RX3 33 "OctagonDesk" "offsets" "[J", Cond.fieldLink RX3 37 "OctagonDesk" "stepCount" "I", Cond.classLink RX3 41 RX2, Cond.fieldLink RX3 43 "OctagonDesk" "steps" "[LOctagonDesk$Step;", Cond.instantiable RX2 6, Cond.initialized RX2, Cond.methodLink RX3 9 yX3_emptyShapes, Cond.static yX3_emptyShapes, Cond.initialized RX3, Cond.code yX3_emptyShapes cX3_emptyShapes 3 (some (.array (.object "OctagonDesk$Shape"))), Cond.methodLink RX3 28 yX1_init, Cond.instanceMethod yX1_init, Cond.code yX1_init cX1_init 1 none]
def wsX3_init_r2 : List Cond := [Cond.methodLink RX1 5 objectInit, Cond.classLink RX1 11 RX0, Cond.instantiable RX0 4, Cond.initialized RX0, Cond.fieldLink RX1 16 "OctagonDesk$Shape" "numbers" "LOctagonDesk$Numbers;", Cond.fieldLink RX1 20 "OctagonDesk$Shape" "empty" "Z", Cond.methodLink RX1 13 yX0_init, Cond.instanceMethod yX0_init, Cond.code yX0_init cX0_init 2 none, Cond.methodLink RX0 5 objectInit, Cond.fieldLink RX0 11 "OctagonDesk$Numbers" "sum" "I", Cond.fieldLink RX0 15 "OctagonDesk$Numbers" "cells" "I", Cond.fieldLink RX0 18 "OctagonDesk$Numbers" "limbs" "[J", Cond.fieldLink RX0 22 "OctagonDesk$Numbers" "top" "I", Cond.methodLink RX3 17 yX1_allowAll, Cond.instanceMethod yX1_allowAll, Cond.selects RX1 yX1_allowAll yX1_allowAll, Cond.code yX1_allowAll cX1_allowAll 2 none, Cond.methodLink RX1 24 yX1_release, Cond.instanceMethod yX1_release, Cond.selects RX1 yX1_release yX1_release, Cond.code yX1_release cX1_release 4 none, Cond.methodLink RX1 50 yX1_cell, Cond.static yX1_cell]
def wsX3_init_r3 : List Cond := [Cond.code yX1_cell cX1_cell 2 (some .int), Cond.methodLink RX1 54 yX0_setInfinite, Cond.instanceMethod yX0_setInfinite, Cond.selects RX0 yX0_setInfinite yX0_setInfinite, Cond.code yX0_setInfinite cX0_setInfinite 3 none, Cond.constantLong RX0 25 (9223372036854775807), Cond.methodLink RX1 38 yX0_set, Cond.instanceMethod yX0_set, Cond.selects RX0 yX0_set yX0_set, Cond.code yX0_set cX0_set 7 none, Cond.constantLong RX0 39 (1152921504606846975), Cond.instanceMethod yX2_init, Cond.code yX2_init cX2_init 1 none, Cond.methodLink RX2 3 objectInit]
def wsX3_init : List Cond := .code yX3_init cX3_init 2 none :: ((wsX3_init_r1 ++ (wsX3_init_r2 ++ wsX3_init_r3)) ++ wsX30 ++ wsX10 ++ wsX20 ++ wsX00)
def wsX3_requireSlot : List Cond := .code yX3_requireSlot cX3_requireSlot 1 none :: ([.classLink RX3 126 "java/lang/IllegalArgumentException", .initialized "java/lang/IllegalArgumentException"] ++ (vx_atS RX3 130 "java/lang/IllegalArgumentException" ["java/lang/RuntimeException", "java/lang/Exception"]).filter goodWord)
def wsX3_requireNumber : List Cond := .code yX3_requireNumber cX3_requireNumber 1 none :: ([.classLink RX3 126 "java/lang/IllegalArgumentException", .initialized "java/lang/IllegalArgumentException", .constant RX3 165 (-1000000), .constant RX3 166 (1000000)] ++ (vx_atS RX3 130 "java/lang/IllegalArgumentException" ["java/lang/RuntimeException", "java/lang/Exception"]).filter goodWord)
def wsX3_requireTerm : List Cond := .code yX3_requireTerm cX3_requireTerm 1 none :: ([.classLink RX3 126 "java/lang/IllegalArgumentException", .initialized "java/lang/IllegalArgumentException"] ++ (vx_atS RX3 130 "java/lang/IllegalArgumentException" ["java/lang/RuntimeException", "java/lang/Exception"]).filter goodWord)
def wsX3_requireTerms : List Cond := .code yX3_requireTerms cX3_requireTerms 2 none :: ([.classLink RX3 126 "java/lang/IllegalArgumentException", .initialized "java/lang/IllegalArgumentException", .methodLink RX3 157 yX3_requireTerm, .static yX3_requireTerm, .initialized RX3, .code yX3_requireTerm cX3_requireTerm 1 none, .methodLink RX3 160 yX3_negation, .static yX3_negation, .code yX3_negation cX3_negation 1 (some .int)] ++ (vx_atS RX3 130 "java/lang/IllegalArgumentException" ["java/lang/RuntimeException", "java/lang/Exception"]).filter goodWord)
def wsX3_requireVariable : List Cond := .code yX3_requireVariable cX3_requireVariable 1 none :: ([.classLink RX3 126 "java/lang/IllegalArgumentException", .initialized "java/lang/IllegalArgumentException"] ++ (vx_atS RX3 130 "java/lang/IllegalArgumentException" ["java/lang/RuntimeException", "java/lang/Exception"]).filter goodWord)
def wsX3_requireAction : List Cond := .code yX3_requireAction cX3_requireAction 4 none :: ([.classLink RX3 126 "java/lang/IllegalArgumentException", .initialized "java/lang/IllegalArgumentException", .methodLink RX3 169 yX3_requireNumber, .static yX3_requireNumber, .initialized RX3, .code yX3_requireNumber cX3_requireNumber 1 none, .constant RX3 165 (-1000000), .constant RX3 166 (1000000), .methodLink RX3 90 yX3_requireTerms, .static yX3_requireTerms, .code yX3_requireTerms cX3_requireTerms 2 none, .methodLink RX3 157 yX3_requireTerm, .static yX3_requireTerm, .code yX3_requireTerm cX3_requireTerm 1 none, .methodLink RX3 160 yX3_negation, .static yX3_negation, .code yX3_negation cX3_negation 1 (some .int), .methodLink RX3 84 yX3_requireVariable, .static yX3_requireVariable, .code yX3_requireVariable cX3_requireVariable 1 none] ++ (vx_atS RX3 130 "java/lang/IllegalArgumentException" ["java/lang/RuntimeException", "java/lang/Exception"]).filter goodWord)
def wsX3_growAll_r1 : List Cond := [Cond.fieldLink RX3 178 "OctagonDesk$Shape" "numbers" "LOctagonDesk$Numbers;", Cond.methodLink RX3 191 yX0_growTwofold, Cond.instanceMethod yX0_growTwofold, Cond.selects RX0 yX0_growTwofold yX0_growTwofold, Cond.initialized RX0, Cond.code yX0_growTwofold cX0_growTwofold 3 none, Cond.fieldLink RX0 18 "OctagonDesk$Numbers" "limbs" "[J", Cond.fieldLink RX0 15 "OctagonDesk$Numbers" "cells" "I", Cond.fieldLink RX0 22 "OctagonDesk$Numbers" "top" "I", Cond.methodLink RX0 65 yJ7_copyOf_c38d5, Cond.static yJ7_copyOf_c38d5, Cond.initialized RJ7, Cond.code yJ7_copyOf_c38d5 cJ7_copyOf_c38d5 3 (some (.array .long)), Cond.methodLink RJ7 319 ⟨"[J", "clone", "()Ljava/lang/Object;"⟩, Cond.sameMethod "[J" "java/lang/Object" "clone" "()Ljava/lang/Object;", Cond.native ⟨"java/lang/Object", "clone", "()Ljava/lang/Object;"⟩, Cond.instanceMethod ⟨"java/lang/Object", "clone", "()Ljava/lang/Object;"⟩, Cond.selects "[J" ⟨"[J", "clone", "()Ljava/lang/Object;"⟩ ⟨"java/lang/Object", "clone", "()Ljava/lang/Object;"⟩, Cond.classLink RJ7 320 "[J", Cond.arrayClass .long, Cond.methodLink RJ7 304 Lib.Math.min.name, Cond.static Lib.Math.min.name, Cond.initialized "java/lang/Math", Cond.code Lib.Math.min.name Lib.Math.min.code 2 (some .int)]
def wsX3_growAll_r2 : List Cond := [Cond.methodLink RJ7 150 arraycopyName, Cond.native arraycopyName, Cond.static arraycopyName, Cond.initialized "java/lang/System", Cond.methodLink RX0 71 yX0_extend, Cond.instanceMethod yX0_extend, Cond.selects RX0 yX0_extend yX0_extend, Cond.code yX0_extend cX0_extend 6 none, Cond.constantLong RX0 25 (9223372036854775807), Cond.constantLong RX0 39 (1152921504606846975), Cond.methodLink RX0 45 yX0_setInfinite, Cond.instanceMethod yX0_setInfinite, Cond.selects RX0 yX0_setInfinite yX0_setInfinite, Cond.code yX0_setInfinite cX0_setInfinite 3 none]
def wsX3_growAll : List Cond := .code yX3_growAll cX3_growAll 2 none :: ((wsX3_growAll_r1 ++ wsX3_growAll_r2) ++ wsX10 ++ wsX00)
def wsX3_makeRoom_r1 : List Cond := [Cond.fieldLink RX3 63 "OctagonDesk$Shape" "empty" "Z", Cond.fieldLink RX3 178 "OctagonDesk$Shape" "numbers" "LOctagonDesk$Numbers;", Cond.fieldLink RX3 13 "OctagonDesk" "slots" "[LOctagonDesk$Shape;", Cond.fieldLink RX3 22 "OctagonDesk" "left" "[LOctagonDesk$Shape;", Cond.fieldLink RX3 25 "OctagonDesk" "reached" "[LOctagonDesk$Shape;", Cond.fieldLink RX3 29 "OctagonDesk" "made" "LOctagonDesk$Shape;", Cond.methodLink RX3 182 yX0_isCrowded, Cond.instanceMethod yX0_isCrowded, Cond.selects RX0 yX0_isCrowded yX0_isCrowded, Cond.initialized RX0, Cond.code yX0_isCrowded cX0_isCrowded 4 (some .boolean), Cond.fieldLink RX0 15 "OctagonDesk$Numbers" "cells" "I", Cond.fieldLink RX0 18 "OctagonDesk$Numbers" "limbs" "[J", Cond.fieldLink RX0 22 "OctagonDesk$Numbers" "top" "I", Cond.constantLong RX0 25 (9223372036854775807), Cond.constantLong RX0 61 (18014398509481984), Cond.constantLong RX0 63 (-18014398509481984), Cond.methodLink RX3 187 yX3_growAll, Cond.static yX3_growAll, Cond.initialized RX3, Cond.code yX3_growAll cX3_growAll 2 none, Cond.methodLink RX3 191 yX0_growTwofold, Cond.instanceMethod yX0_growTwofold, Cond.selects RX0 yX0_growTwofold yX0_growTwofold]
def wsX3_makeRoom_r2 : List Cond := [Cond.code yX0_growTwofold cX0_growTwofold 3 none, Cond.methodLink RX0 65 yJ7_copyOf_c38d5, Cond.static yJ7_copyOf_c38d5, Cond.initialized RJ7, Cond.code yJ7_copyOf_c38d5 cJ7_copyOf_c38d5 3 (some (.array .long)), Cond.methodLink RJ7 319 ⟨"[J", "clone", "()Ljava/lang/Object;"⟩, Cond.sameMethod "[J" "java/lang/Object" "clone" "()Ljava/lang/Object;", Cond.native ⟨"java/lang/Object", "clone", "()Ljava/lang/Object;"⟩, Cond.instanceMethod ⟨"java/lang/Object", "clone", "()Ljava/lang/Object;"⟩, Cond.selects "[J" ⟨"[J", "clone", "()Ljava/lang/Object;"⟩ ⟨"java/lang/Object", "clone", "()Ljava/lang/Object;"⟩, Cond.classLink RJ7 320 "[J", Cond.arrayClass .long, Cond.methodLink RJ7 304 Lib.Math.min.name, Cond.static Lib.Math.min.name, Cond.initialized "java/lang/Math", Cond.code Lib.Math.min.name Lib.Math.min.code 2 (some .int), Cond.methodLink RJ7 150 arraycopyName, Cond.native arraycopyName, Cond.static arraycopyName, Cond.initialized "java/lang/System", Cond.methodLink RX0 71 yX0_extend, Cond.instanceMethod yX0_extend, Cond.selects RX0 yX0_extend yX0_extend, Cond.code yX0_extend cX0_extend 6 none]
def wsX3_makeRoom_r3 : List Cond := [Cond.constantLong RX0 39 (1152921504606846975), Cond.methodLink RX0 45 yX0_setInfinite, Cond.instanceMethod yX0_setInfinite, Cond.selects RX0 yX0_setInfinite yX0_setInfinite, Cond.code yX0_setInfinite cX0_setInfinite 3 none]
def wsX3_makeRoom : List Cond := .code yX3_makeRoom cX3_makeRoom 2 none :: ((wsX3_makeRoom_r1 ++ (wsX3_makeRoom_r2 ++ wsX3_makeRoom_r3)) ++ wsX10 ++ wsX30 ++ wsX00)
def wsX3_putMade_r1 : List Cond := [Cond.fieldLink RX3 29 "OctagonDesk" "made" "LOctagonDesk$Shape;", Cond.fieldLink RX3 13 "OctagonDesk" "slots" "[LOctagonDesk$Shape;", Cond.methodLink RX3 112 yX3_makeRoom, Cond.instanceMethod yX3_makeRoom, Cond.selects RX3 yX3_makeRoom yX3_makeRoom, Cond.initialized RX3, Cond.code yX3_makeRoom cX3_makeRoom 2 none, Cond.fieldLink RX3 63 "OctagonDesk$Shape" "empty" "Z", Cond.fieldLink RX3 178 "OctagonDesk$Shape" "numbers" "LOctagonDesk$Numbers;", Cond.fieldLink RX3 22 "OctagonDesk" "left" "[LOctagonDesk$Shape;", Cond.fieldLink RX3 25 "OctagonDesk" "reached" "[LOctagonDesk$Shape;", Cond.methodLink RX3 182 yX0_isCrowded, Cond.instanceMethod yX0_isCrowded, Cond.selects RX0 yX0_isCrowded yX0_isCrowded, Cond.initialized RX0, Cond.code yX0_isCrowded cX0_isCrowded 4 (some .boolean), Cond.fieldLink RX0 15 "OctagonDesk$Numbers" "cells" "I", Cond.fieldLink RX0 18 "OctagonDesk$Numbers" "limbs" "[J", Cond.fieldLink RX0 22 "OctagonDesk$Numbers" "top" "I", Cond.constantLong RX0 25 (9223372036854775807), Cond.constantLong RX0 61 (18014398509481984), Cond.constantLong RX0 63 (-18014398509481984), Cond.methodLink RX3 187 yX3_growAll, Cond.static yX3_growAll]
def wsX3_putMade_r2 : List Cond := [Cond.code yX3_growAll cX3_growAll 2 none, Cond.methodLink RX3 191 yX0_growTwofold, Cond.instanceMethod yX0_growTwofold, Cond.selects RX0 yX0_growTwofold yX0_growTwofold, Cond.code yX0_growTwofold cX0_growTwofold 3 none, Cond.methodLink RX0 65 yJ7_copyOf_c38d5, Cond.static yJ7_copyOf_c38d5, Cond.initialized RJ7, Cond.code yJ7_copyOf_c38d5 cJ7_copyOf_c38d5 3 (some (.array .long)), Cond.methodLink RJ7 319 ⟨"[J", "clone", "()Ljava/lang/Object;"⟩, Cond.sameMethod "[J" "java/lang/Object" "clone" "()Ljava/lang/Object;", Cond.native ⟨"java/lang/Object", "clone", "()Ljava/lang/Object;"⟩, Cond.instanceMethod ⟨"java/lang/Object", "clone", "()Ljava/lang/Object;"⟩, Cond.selects "[J" ⟨"[J", "clone", "()Ljava/lang/Object;"⟩ ⟨"java/lang/Object", "clone", "()Ljava/lang/Object;"⟩, Cond.classLink RJ7 320 "[J", Cond.arrayClass .long, Cond.methodLink RJ7 304 Lib.Math.min.name, Cond.static Lib.Math.min.name, Cond.initialized "java/lang/Math", Cond.code Lib.Math.min.name Lib.Math.min.code 2 (some .int), Cond.methodLink RJ7 150 arraycopyName, Cond.native arraycopyName, Cond.static arraycopyName, Cond.initialized "java/lang/System"]
def wsX3_putMade_r3 : List Cond := [Cond.methodLink RX0 71 yX0_extend, Cond.instanceMethod yX0_extend, Cond.selects RX0 yX0_extend yX0_extend, Cond.code yX0_extend cX0_extend 6 none, Cond.constantLong RX0 39 (1152921504606846975), Cond.methodLink RX0 45 yX0_setInfinite, Cond.instanceMethod yX0_setInfinite, Cond.selects RX0 yX0_setInfinite yX0_setInfinite, Cond.code yX0_setInfinite cX0_setInfinite 3 none, Cond.methodLink RX3 67 yX1_takeOver, Cond.instanceMethod yX1_takeOver, Cond.selects RX1 yX1_takeOver yX1_takeOver, Cond.initialized RX1, Cond.code yX1_takeOver cX1_takeOver 2 none, Cond.fieldLink RX1 16 "OctagonDesk$Shape" "numbers" "LOctagonDesk$Numbers;", Cond.fieldLink RX1 20 "OctagonDesk$Shape" "empty" "Z", Cond.methodLink RX1 27 yX0_takeOver, Cond.instanceMethod yX0_takeOver, Cond.selects RX0 yX0_takeOver yX0_takeOver, Cond.code yX0_takeOver cX0_takeOver 2 none, Cond.methodLink RX0 33 arraycopyName]
def wsX3_putMade : List Cond := .code yX3_putMade cX3_putMade 2 none :: ((wsX3_putMade_r1 ++ (wsX3_putMade_r2 ++ wsX3_putMade_r3)) ++ wsX30 ++ wsX10 ++ wsX00)
def wsX3_act_r1 : List Cond := [Cond.fieldLink RX3 29 "OctagonDesk" "made" "LOctagonDesk$Shape;", Cond.fieldLink RX3 13 "OctagonDesk" "slots" "[LOctagonDesk$Shape;", Cond.fieldLink RX3 63 "OctagonDesk$Shape" "empty" "Z", Cond.methodLink RX3 48 yX3_requireSlot, Cond.static yX3_requireSlot, Cond.initialized RX3, Cond.code yX3_requireSlot cX3_requireSlot 1 none, Cond.classLink RX3 126 "java/lang/IllegalArgumentException", Cond.initialized "java/lang/IllegalArgumentException", Cond.methodLink RX3 52 yX3_requireAction, Cond.static yX3_requireAction, Cond.code yX3_requireAction cX3_requireAction 4 none, Cond.methodLink RX3 169 yX3_requireNumber, Cond.static yX3_requireNumber, Cond.code yX3_requireNumber cX3_requireNumber 1 none, Cond.constant RX3 165 (-1000000), Cond.constant RX3 166 (1000000), Cond.methodLink RX3 90 yX3_requireTerms, Cond.static yX3_requireTerms, Cond.code yX3_requireTerms cX3_requireTerms 2 none, Cond.methodLink RX3 157 yX3_requireTerm, Cond.static yX3_requireTerm, Cond.code yX3_requireTerm cX3_requireTerm 1 none, Cond.methodLink RX3 160 yX3_negation]
def wsX3_act_r2 : List Cond := [Cond.static yX3_negation, Cond.code yX3_negation cX3_negation 1 (some .int), Cond.methodLink RX3 84 yX3_requireVariable, Cond.static yX3_requireVariable, Cond.code yX3_requireVariable cX3_requireVariable 1 none, Cond.methodLink RX3 56 yX1_makeFrom, Cond.instanceMethod yX1_makeFrom, Cond.selects RX1 yX1_makeFrom yX1_makeFrom, Cond.initialized RX1, Cond.code yX1_makeFrom cX1_makeFrom 6 none, Cond.fieldLink RX1 16 "OctagonDesk$Shape" "numbers" "LOctagonDesk$Numbers;", Cond.methodLink RX1 31 yX1_tell, Cond.instanceMethod yX1_tell, Cond.selects RX1 yX1_tell yX1_tell, Cond.code yX1_tell cX1_tell 10 none, Cond.fieldLink RX1 20 "OctagonDesk$Shape" "empty" "Z", Cond.methodLink RX1 71 yX1_oldTerm, Cond.static yX1_oldTerm, Cond.code yX1_oldTerm cX1_oldTerm 3 (some .int), Cond.methodLink RX1 75 yX1_moreOf, Cond.static yX1_moreOf, Cond.code yX1_moreOf cX1_moreOf 3 (some .int), Cond.methodLink RX1 50 yX1_cell, Cond.static yX1_cell]
def wsX3_act_r3 : List Cond := [Cond.code yX1_cell cX1_cell 2 (some .int), Cond.methodLink RX1 78 yX0_putMore, Cond.instanceMethod yX0_putMore, Cond.selects RX0 yX0_putMore yX0_putMore, Cond.initialized RX0, Cond.code yX0_putMore cX0_putMore 9 none, Cond.fieldLink RX0 22 "OctagonDesk$Numbers" "top" "I", Cond.fieldLink RX0 18 "OctagonDesk$Numbers" "limbs" "[J", Cond.constantLong RX0 39 (1152921504606846975), Cond.fieldLink RX0 15 "OctagonDesk$Numbers" "cells" "I", Cond.methodLink RX0 41 yX0_isInfinite, Cond.instanceMethod yX0_isInfinite, Cond.selects RX0 yX0_isInfinite yX0_isInfinite, Cond.code yX0_isInfinite cX0_isInfinite 2 (some .boolean), Cond.constantLong RX0 25 (9223372036854775807), Cond.methodLink RX0 45 yX0_setInfinite, Cond.instanceMethod yX0_setInfinite, Cond.selects RX0 yX0_setInfinite yX0_setInfinite, Cond.code yX0_setInfinite cX0_setInfinite 3 none, Cond.methodLink RX1 35 yX1_takeOver, Cond.instanceMethod yX1_takeOver, Cond.selects RX1 yX1_takeOver yX1_takeOver, Cond.code yX1_takeOver cX1_takeOver 2 none, Cond.methodLink RX1 27 yX0_takeOver]
def wsX3_act_r4 : List Cond := [Cond.instanceMethod yX0_takeOver, Cond.selects RX0 yX0_takeOver yX0_takeOver, Cond.code yX0_takeOver cX0_takeOver 2 none, Cond.methodLink RX0 33 arraycopyName, Cond.native arraycopyName, Cond.static arraycopyName, Cond.initialized "java/lang/System", Cond.methodLink RX1 38 yX0_set, Cond.instanceMethod yX0_set, Cond.selects RX0 yX0_set yX0_set, Cond.code yX0_set cX0_set 7 none, Cond.methodLink RX1 42 yX1_holdToSpare, Cond.instanceMethod yX1_holdToSpare, Cond.selects RX1 yX1_holdToSpare yX1_holdToSpare, Cond.code yX1_holdToSpare cX1_holdToSpare 3 none, Cond.methodLink RX1 57 yX0_isLess, Cond.instanceMethod yX0_isLess, Cond.selects RX0 yX0_isLess yX0_isLess, Cond.code yX0_isLess cX0_isLess 9 (some .boolean), Cond.methodLink RX1 61 yX0_put, Cond.instanceMethod yX0_put, Cond.selects RX0 yX0_put yX0_put, Cond.code yX0_put cX0_put 5 none, Cond.methodLink RX1 65 yX1_passThrough]
def wsX3_act_r5 : List Cond := [Cond.instanceMethod yX1_passThrough, Cond.selects RX1 yX1_passThrough yX1_passThrough, Cond.code yX1_passThrough cX1_passThrough 5 none, Cond.methodLink RX1 111 yX0_putSum, Cond.instanceMethod yX0_putSum, Cond.selects RX0 yX0_putSum yX0_putSum, Cond.code yX0_putSum cX0_putSum 8 none, Cond.methodLink RX1 115 yX0_isNegative, Cond.instanceMethod yX0_isNegative, Cond.selects RX0 yX0_isNegative yX0_isNegative, Cond.code yX0_isNegative cX0_isNegative 2 (some .boolean), Cond.methodLink RX1 104 yX0_isInfinite, Cond.methodLink RX1 118 yX0_lower, Cond.instanceMethod yX0_lower, Cond.selects RX0 yX0_lower yX0_lower, Cond.code yX0_lower cX0_lower 4 none, Cond.fieldLink RX0 11 "OctagonDesk$Numbers" "sum" "I", Cond.methodLink RX0 49 yX0_putSum, Cond.methodLink RX0 53 yX0_isLess, Cond.methodLink RX0 57 yX0_put, Cond.methodLink RX1 68 yX1_combineSingles, Cond.instanceMethod yX1_combineSingles, Cond.selects RX1 yX1_combineSingles yX1_combineSingles, Cond.code yX1_combineSingles cX1_combineSingles 3 none]
def wsX3_act_r6 : List Cond := [Cond.methodLink RX1 101 yX0_putHalf, Cond.instanceMethod yX0_putHalf, Cond.selects RX0 yX0_putHalf yX0_putHalf, Cond.code yX0_putHalf cX0_putHalf 8 none, Cond.methodLink RX1 121 yX1_findContradiction, Cond.instanceMethod yX1_findContradiction, Cond.selects RX1 yX1_findContradiction yX1_findContradiction, Cond.code yX1_findContradiction cX1_findContradiction 2 none, Cond.methodLink RX1 46 yX1_scatter, Cond.instanceMethod yX1_scatter, Cond.selects RX1 yX1_scatter yX1_scatter, Cond.code yX1_scatter cX1_scatter 6 none, Cond.constantLong RX1 86 (2), Cond.constantLong RX1 88 (-2), Cond.methodLink RX1 24 yX1_release, Cond.instanceMethod yX1_release, Cond.selects RX1 yX1_release yX1_release, Cond.code yX1_release cX1_release 4 none, Cond.methodLink RX1 54 yX0_setInfinite, Cond.methodLink RX3 60 yX3_putMade, Cond.instanceMethod yX3_putMade, Cond.selects RX3 yX3_putMade yX3_putMade, Cond.code yX3_putMade cX3_putMade 2 none, Cond.methodLink RX3 112 yX3_makeRoom]
def wsX3_act_r7 : List Cond := [Cond.instanceMethod yX3_makeRoom, Cond.selects RX3 yX3_makeRoom yX3_makeRoom, Cond.code yX3_makeRoom cX3_makeRoom 2 none, Cond.fieldLink RX3 178 "OctagonDesk$Shape" "numbers" "LOctagonDesk$Numbers;", Cond.fieldLink RX3 22 "OctagonDesk" "left" "[LOctagonDesk$Shape;", Cond.fieldLink RX3 25 "OctagonDesk" "reached" "[LOctagonDesk$Shape;", Cond.methodLink RX3 182 yX0_isCrowded, Cond.instanceMethod yX0_isCrowded, Cond.selects RX0 yX0_isCrowded yX0_isCrowded, Cond.code yX0_isCrowded cX0_isCrowded 4 (some .boolean), Cond.constantLong RX0 61 (18014398509481984), Cond.constantLong RX0 63 (-18014398509481984), Cond.methodLink RX3 187 yX3_growAll, Cond.static yX3_growAll, Cond.code yX3_growAll cX3_growAll 2 none, Cond.methodLink RX3 191 yX0_growTwofold, Cond.instanceMethod yX0_growTwofold, Cond.selects RX0 yX0_growTwofold yX0_growTwofold, Cond.code yX0_growTwofold cX0_growTwofold 3 none, Cond.methodLink RX0 65 yJ7_copyOf_c38d5, Cond.static yJ7_copyOf_c38d5, Cond.initialized RJ7, Cond.code yJ7_copyOf_c38d5 cJ7_copyOf_c38d5 3 (some (.array .long)), Cond.methodLink RJ7 319 ⟨"[J", "clone", "()Ljava/lang/Object;"⟩]
def wsX3_act_r8 : List Cond := [Cond.sameMethod "[J" "java/lang/Object" "clone" "()Ljava/lang/Object;", Cond.native ⟨"java/lang/Object", "clone", "()Ljava/lang/Object;"⟩, Cond.instanceMethod ⟨"java/lang/Object", "clone", "()Ljava/lang/Object;"⟩, Cond.selects "[J" ⟨"[J", "clone", "()Ljava/lang/Object;"⟩ ⟨"java/lang/Object", "clone", "()Ljava/lang/Object;"⟩, Cond.classLink RJ7 320 "[J", Cond.arrayClass .long, Cond.methodLink RJ7 304 Lib.Math.min.name, Cond.static Lib.Math.min.name, Cond.initialized "java/lang/Math", Cond.code Lib.Math.min.name Lib.Math.min.code 2 (some .int), Cond.methodLink RJ7 150 arraycopyName, Cond.methodLink RX0 71 yX0_extend, Cond.instanceMethod yX0_extend, Cond.selects RX0 yX0_extend yX0_extend, Cond.code yX0_extend cX0_extend 6 none, Cond.methodLink RX3 67 yX1_takeOver]
def wsX3_act : List Cond := .code yX3_act cX3_act 6 (some .boolean) :: ((wsX3_act_r1 ++ (wsX3_act_r2 ++ (wsX3_act_r3 ++ (wsX3_act_r4 ++ (wsX3_act_r5 ++ (wsX3_act_r6 ++ (wsX3_act_r7 ++ wsX3_act_r8))))))) ++ wsX30 ++ wsX10 ++ wsX00 ++ (vx_atS RX3 130 "java/lang/IllegalArgumentException" ["java/lang/RuntimeException", "java/lang/Exception"]).filter goodWord)
def wsX3_clear_r1 : List Cond := [Cond.fieldLink RX3 13 "OctagonDesk" "slots" "[LOctagonDesk$Shape;", Cond.methodLink RX3 48 yX3_requireSlot, Cond.static yX3_requireSlot, Cond.initialized RX3, Cond.code yX3_requireSlot cX3_requireSlot 1 none, Cond.classLink RX3 126 "java/lang/IllegalArgumentException", Cond.initialized "java/lang/IllegalArgumentException", Cond.methodLink RX3 17 yX1_allowAll, Cond.instanceMethod yX1_allowAll, Cond.selects RX1 yX1_allowAll yX1_allowAll, Cond.initialized RX1, Cond.code yX1_allowAll cX1_allowAll 2 none, Cond.fieldLink RX1 20 "OctagonDesk$Shape" "empty" "Z", Cond.methodLink RX1 24 yX1_release, Cond.instanceMethod yX1_release, Cond.selects RX1 yX1_release yX1_release, Cond.code yX1_release cX1_release 4 none, Cond.fieldLink RX1 16 "OctagonDesk$Shape" "numbers" "LOctagonDesk$Numbers;", Cond.methodLink RX1 50 yX1_cell, Cond.static yX1_cell, Cond.code yX1_cell cX1_cell 2 (some .int), Cond.methodLink RX1 54 yX0_setInfinite, Cond.instanceMethod yX0_setInfinite, Cond.selects RX0 yX0_setInfinite yX0_setInfinite]
def wsX3_clear_r2 : List Cond := [Cond.initialized RX0, Cond.code yX0_setInfinite cX0_setInfinite 3 none, Cond.fieldLink RX0 22 "OctagonDesk$Numbers" "top" "I", Cond.fieldLink RX0 18 "OctagonDesk$Numbers" "limbs" "[J", Cond.fieldLink RX0 15 "OctagonDesk$Numbers" "cells" "I", Cond.constantLong RX0 25 (9223372036854775807), Cond.methodLink RX1 38 yX0_set, Cond.instanceMethod yX0_set, Cond.selects RX0 yX0_set yX0_set, Cond.code yX0_set cX0_set 7 none, Cond.constantLong RX0 39 (1152921504606846975)]
def wsX3_clear : List Cond := .code yX3_clear cX3_clear 2 none :: ((wsX3_clear_r1 ++ wsX3_clear_r2) ++ wsX30 ++ wsX10 ++ wsX00 ++ (vx_atS RX3 130 "java/lang/IllegalArgumentException" ["java/lang/RuntimeException", "java/lang/Exception"]).filter goodWord)
def wsX3_copy : List Cond := .code yX3_copy cX3_copy 3 none :: ([.fieldLink RX3 13 "OctagonDesk" "slots" "[LOctagonDesk$Shape;", .methodLink RX3 48 yX3_requireSlot, .static yX3_requireSlot, .initialized RX3, .code yX3_requireSlot cX3_requireSlot 1 none, .classLink RX3 126 "java/lang/IllegalArgumentException", .initialized "java/lang/IllegalArgumentException", .methodLink RX3 67 yX1_takeOver, .instanceMethod yX1_takeOver, .selects RX1 yX1_takeOver yX1_takeOver, .initialized RX1, .code yX1_takeOver cX1_takeOver 2 none, .fieldLink RX1 16 "OctagonDesk$Shape" "numbers" "LOctagonDesk$Numbers;", .fieldLink RX1 20 "OctagonDesk$Shape" "empty" "Z", .methodLink RX1 27 yX0_takeOver, .instanceMethod yX0_takeOver, .selects RX0 yX0_takeOver yX0_takeOver, .initialized RX0, .code yX0_takeOver cX0_takeOver 2 none, .fieldLink RX0 18 "OctagonDesk$Numbers" "limbs" "[J", .methodLink RX0 33 arraycopyName, .native arraycopyName, .static arraycopyName, .initialized "java/lang/System"] ++ wsX30 ++ wsX10 ++ wsX00 ++ (vx_atS RX3 130 "java/lang/IllegalArgumentException" ["java/lang/RuntimeException", "java/lang/Exception"]).filter goodWord)
def wsX3_requireThreeSlots : List Cond := .code yX3_requireThreeSlots cX3_requireThreeSlots 3 none :: ([.methodLink RX3 48 yX3_requireSlot, .static yX3_requireSlot, .initialized RX3, .code yX3_requireSlot cX3_requireSlot 1 none, .classLink RX3 126 "java/lang/IllegalArgumentException", .initialized "java/lang/IllegalArgumentException"] ++ (vx_atS RX3 130 "java/lang/IllegalArgumentException" ["java/lang/RuntimeException", "java/lang/Exception"]).filter goodWord)
def wsX3_meet_r1 : List Cond := [Cond.fieldLink RX3 29 "OctagonDesk" "made" "LOctagonDesk$Shape;", Cond.fieldLink RX3 13 "OctagonDesk" "slots" "[LOctagonDesk$Shape;", Cond.fieldLink RX3 63 "OctagonDesk$Shape" "empty" "Z", Cond.methodLink RX3 71 yX3_requireThreeSlots, Cond.static yX3_requireThreeSlots, Cond.initialized RX3, Cond.code yX3_requireThreeSlots cX3_requireThreeSlots 3 none, Cond.methodLink RX3 48 yX3_requireSlot, Cond.static yX3_requireSlot, Cond.code yX3_requireSlot cX3_requireSlot 1 none, Cond.classLink RX3 126 "java/lang/IllegalArgumentException", Cond.initialized "java/lang/IllegalArgumentException", Cond.methodLink RX3 67 yX1_takeOver, Cond.instanceMethod yX1_takeOver, Cond.selects RX1 yX1_takeOver yX1_takeOver, Cond.initialized RX1, Cond.code yX1_takeOver cX1_takeOver 2 none, Cond.fieldLink RX1 16 "OctagonDesk$Shape" "numbers" "LOctagonDesk$Numbers;", Cond.fieldLink RX1 20 "OctagonDesk$Shape" "empty" "Z", Cond.methodLink RX1 27 yX0_takeOver, Cond.instanceMethod yX0_takeOver, Cond.selects RX0 yX0_takeOver yX0_takeOver, Cond.initialized RX0, Cond.code yX0_takeOver cX0_takeOver 2 none]
def wsX3_meet_r2 : List Cond := [Cond.fieldLink RX0 18 "OctagonDesk$Numbers" "limbs" "[J", Cond.methodLink RX0 33 arraycopyName, Cond.native arraycopyName, Cond.static arraycopyName, Cond.initialized "java/lang/System", Cond.methodLink RX3 75 yX1_cutTo, Cond.instanceMethod yX1_cutTo, Cond.selects RX1 yX1_cutTo yX1_cutTo, Cond.code yX1_cutTo cX1_cutTo 3 none, Cond.methodLink RX1 57 yX0_isLess, Cond.instanceMethod yX0_isLess, Cond.selects RX0 yX0_isLess yX0_isLess, Cond.code yX0_isLess cX0_isLess 9 (some .boolean), Cond.fieldLink RX0 22 "OctagonDesk$Numbers" "top" "I", Cond.fieldLink RX0 15 "OctagonDesk$Numbers" "cells" "I", Cond.methodLink RX1 61 yX0_put, Cond.instanceMethod yX0_put, Cond.selects RX0 yX0_put yX0_put, Cond.code yX0_put cX0_put 5 none, Cond.methodLink RX1 90 yX1_close, Cond.instanceMethod yX1_close, Cond.selects RX1 yX1_close yX1_close, Cond.code yX1_close cX1_close 4 none, Cond.methodLink RX1 50 yX1_cell]
def wsX3_meet_r3 : List Cond := [Cond.static yX1_cell, Cond.code yX1_cell cX1_cell 2 (some .int), Cond.methodLink RX1 104 yX0_isInfinite, Cond.instanceMethod yX0_isInfinite, Cond.selects RX0 yX0_isInfinite yX0_isInfinite, Cond.code yX0_isInfinite cX0_isInfinite 2 (some .boolean), Cond.constantLong RX0 25 (9223372036854775807), Cond.static yX3_negation, Cond.code yX3_negation cX3_negation 1 (some .int), Cond.methodLink RX1 118 yX0_lower, Cond.instanceMethod yX0_lower, Cond.selects RX0 yX0_lower yX0_lower, Cond.code yX0_lower cX0_lower 4 none, Cond.fieldLink RX0 11 "OctagonDesk$Numbers" "sum" "I", Cond.methodLink RX0 49 yX0_putSum, Cond.instanceMethod yX0_putSum, Cond.selects RX0 yX0_putSum yX0_putSum, Cond.code yX0_putSum cX0_putSum 8 none, Cond.constantLong RX0 39 (1152921504606846975), Cond.methodLink RX0 53 yX0_isLess, Cond.methodLink RX0 57 yX0_put, Cond.methodLink RX1 121 yX1_findContradiction, Cond.instanceMethod yX1_findContradiction, Cond.selects RX1 yX1_findContradiction yX1_findContradiction]
def wsX3_meet_r4 : List Cond := [Cond.code yX1_findContradiction cX1_findContradiction 2 none, Cond.methodLink RX1 115 yX0_isNegative, Cond.instanceMethod yX0_isNegative, Cond.selects RX0 yX0_isNegative yX0_isNegative, Cond.code yX0_isNegative cX0_isNegative 2 (some .boolean), Cond.methodLink RX1 68 yX1_combineSingles, Cond.instanceMethod yX1_combineSingles, Cond.selects RX1 yX1_combineSingles yX1_combineSingles, Cond.code yX1_combineSingles cX1_combineSingles 3 none, Cond.methodLink RX1 101 yX0_putHalf, Cond.instanceMethod yX0_putHalf, Cond.selects RX0 yX0_putHalf yX0_putHalf, Cond.code yX0_putHalf cX0_putHalf 8 none, Cond.methodLink RX0 41 yX0_isInfinite, Cond.methodLink RX0 45 yX0_setInfinite, Cond.instanceMethod yX0_setInfinite, Cond.selects RX0 yX0_setInfinite yX0_setInfinite, Cond.code yX0_setInfinite cX0_setInfinite 3 none, Cond.methodLink RX3 60 yX3_putMade, Cond.instanceMethod yX3_putMade, Cond.selects RX3 yX3_putMade yX3_putMade, Cond.code yX3_putMade cX3_putMade 2 none, Cond.methodLink RX3 112 yX3_makeRoom, Cond.instanceMethod yX3_makeRoom]
def wsX3_meet_r5 : List Cond := [Cond.selects RX3 yX3_makeRoom yX3_makeRoom, Cond.code yX3_makeRoom cX3_makeRoom 2 none, Cond.fieldLink RX3 178 "OctagonDesk$Shape" "numbers" "LOctagonDesk$Numbers;", Cond.fieldLink RX3 22 "OctagonDesk" "left" "[LOctagonDesk$Shape;", Cond.fieldLink RX3 25 "OctagonDesk" "reached" "[LOctagonDesk$Shape;", Cond.methodLink RX3 182 yX0_isCrowded, Cond.instanceMethod yX0_isCrowded, Cond.selects RX0 yX0_isCrowded yX0_isCrowded, Cond.code yX0_isCrowded cX0_isCrowded 4 (some .boolean), Cond.constantLong RX0 61 (18014398509481984), Cond.constantLong RX0 63 (-18014398509481984), Cond.methodLink RX3 187 yX3_growAll, Cond.static yX3_growAll, Cond.code yX3_growAll cX3_growAll 2 none, Cond.methodLink RX3 191 yX0_growTwofold, Cond.instanceMethod yX0_growTwofold, Cond.selects RX0 yX0_growTwofold yX0_growTwofold, Cond.code yX0_growTwofold cX0_growTwofold 3 none, Cond.methodLink RX0 65 yJ7_copyOf_c38d5, Cond.static yJ7_copyOf_c38d5, Cond.initialized RJ7, Cond.code yJ7_copyOf_c38d5 cJ7_copyOf_c38d5 3 (some (.array .long)), Cond.methodLink RJ7 319 ⟨"[J", "clone", "()Ljava/lang/Object;"⟩, Cond.sameMethod "[J" "java/lang/Object" "clone" "()Ljava/lang/Object;"]
def wsX3_meet_r6 : List Cond := [Cond.native ⟨"java/lang/Object", "clone", "()Ljava/lang/Object;"⟩, Cond.instanceMethod ⟨"java/lang/Object", "clone", "()Ljava/lang/Object;"⟩, Cond.selects "[J" ⟨"[J", "clone", "()Ljava/lang/Object;"⟩ ⟨"java/lang/Object", "clone", "()Ljava/lang/Object;"⟩, Cond.classLink RJ7 320 "[J", Cond.arrayClass .long, Cond.methodLink RJ7 304 Lib.Math.min.name, Cond.static Lib.Math.min.name, Cond.initialized "java/lang/Math", Cond.code Lib.Math.min.name Lib.Math.min.code 2 (some .int), Cond.methodLink RJ7 150 arraycopyName, Cond.methodLink RX0 71 yX0_extend, Cond.instanceMethod yX0_extend, Cond.selects RX0 yX0_extend yX0_extend, Cond.code yX0_extend cX0_extend 6 none]
def wsX3_meet : List Cond := .code yX3_meet cX3_meet 4 (some .boolean) :: ((wsX3_meet_r1 ++ (wsX3_meet_r2 ++ (wsX3_meet_r3 ++ (wsX3_meet_r4 ++ (wsX3_meet_r5 ++ wsX3_meet_r6))))) ++ wsX30 ++ wsX10 ++ wsX00 ++ (vx_atS RX3 130 "java/lang/IllegalArgumentException" ["java/lang/RuntimeException", "java/lang/Exception"]).filter goodWord)
def wsX3_join_r1 : List Cond := [Cond.fieldLink RX3 29 "OctagonDesk" "made" "LOctagonDesk$Shape;", Cond.fieldLink RX3 13 "OctagonDesk" "slots" "[LOctagonDesk$Shape;", Cond.methodLink RX3 71 yX3_requireThreeSlots, Cond.static yX3_requireThreeSlots, Cond.initialized RX3, Cond.code yX3_requireThreeSlots cX3_requireThreeSlots 3 none, Cond.methodLink RX3 48 yX3_requireSlot, Cond.static yX3_requireSlot, Cond.code yX3_requireSlot cX3_requireSlot 1 none, Cond.classLink RX3 126 "java/lang/IllegalArgumentException", Cond.initialized "java/lang/IllegalArgumentException", Cond.methodLink RX3 67 yX1_takeOver, Cond.instanceMethod yX1_takeOver, Cond.selects RX1 yX1_takeOver yX1_takeOver, Cond.initialized RX1, Cond.code yX1_takeOver cX1_takeOver 2 none, Cond.fieldLink RX1 16 "OctagonDesk$Shape" "numbers" "LOctagonDesk$Numbers;", Cond.fieldLink RX1 20 "OctagonDesk$Shape" "empty" "Z", Cond.methodLink RX1 27 yX0_takeOver, Cond.instanceMethod yX0_takeOver, Cond.selects RX0 yX0_takeOver yX0_takeOver, Cond.initialized RX0, Cond.code yX0_takeOver cX0_takeOver 2 none, Cond.fieldLink RX0 18 "OctagonDesk$Numbers" "limbs" "[J"]
def wsX3_join_r2 : List Cond := [Cond.methodLink RX0 33 arraycopyName, Cond.native arraycopyName, Cond.static arraycopyName, Cond.initialized "java/lang/System", Cond.methodLink RX3 78 yX1_stretchOver, Cond.instanceMethod yX1_stretchOver, Cond.selects RX1 yX1_stretchOver yX1_stretchOver, Cond.code yX1_stretchOver cX1_stretchOver 3 none, Cond.methodLink RX1 93 yX1_isSettledByEmptiness, Cond.instanceMethod yX1_isSettledByEmptiness, Cond.selects RX1 yX1_isSettledByEmptiness yX1_isSettledByEmptiness, Cond.code yX1_isSettledByEmptiness cX1_isSettledByEmptiness 3 (some .boolean), Cond.methodLink RX1 35 yX1_takeOver, Cond.methodLink RX1 57 yX0_isLess, Cond.instanceMethod yX0_isLess, Cond.selects RX0 yX0_isLess yX0_isLess, Cond.code yX0_isLess cX0_isLess 9 (some .boolean), Cond.fieldLink RX0 22 "OctagonDesk$Numbers" "top" "I", Cond.fieldLink RX0 15 "OctagonDesk$Numbers" "cells" "I", Cond.methodLink RX1 61 yX0_put, Cond.instanceMethod yX0_put, Cond.selects RX0 yX0_put yX0_put, Cond.code yX0_put cX0_put 5 none, Cond.methodLink RX3 60 yX3_putMade]
def wsX3_join_r3 : List Cond := [Cond.instanceMethod yX3_putMade, Cond.selects RX3 yX3_putMade yX3_putMade, Cond.code yX3_putMade cX3_putMade 2 none, Cond.methodLink RX3 112 yX3_makeRoom, Cond.instanceMethod yX3_makeRoom, Cond.selects RX3 yX3_makeRoom yX3_makeRoom, Cond.code yX3_makeRoom cX3_makeRoom 2 none, Cond.fieldLink RX3 63 "OctagonDesk$Shape" "empty" "Z", Cond.fieldLink RX3 178 "OctagonDesk$Shape" "numbers" "LOctagonDesk$Numbers;", Cond.fieldLink RX3 22 "OctagonDesk" "left" "[LOctagonDesk$Shape;", Cond.fieldLink RX3 25 "OctagonDesk" "reached" "[LOctagonDesk$Shape;", Cond.methodLink RX3 182 yX0_isCrowded, Cond.instanceMethod yX0_isCrowded, Cond.selects RX0 yX0_isCrowded yX0_isCrowded, Cond.code yX0_isCrowded cX0_isCrowded 4 (some .boolean), Cond.constantLong RX0 25 (9223372036854775807), Cond.constantLong RX0 61 (18014398509481984), Cond.constantLong RX0 63 (-18014398509481984), Cond.methodLink RX3 187 yX3_growAll, Cond.static yX3_growAll, Cond.code yX3_growAll cX3_growAll 2 none, Cond.methodLink RX3 191 yX0_growTwofold, Cond.instanceMethod yX0_growTwofold, Cond.selects RX0 yX0_growTwofold yX0_growTwofold]
def wsX3_join_r4 : List Cond := [Cond.code yX0_growTwofold cX0_growTwofold 3 none, Cond.methodLink RX0 65 yJ7_copyOf_c38d5, Cond.static yJ7_copyOf_c38d5, Cond.initialized RJ7, Cond.code yJ7_copyOf_c38d5 cJ7_copyOf_c38d5 3 (some (.array .long)), Cond.methodLink RJ7 319 ⟨"[J", "clone", "()Ljava/lang/Object;"⟩, Cond.sameMethod "[J" "java/lang/Object" "clone" "()Ljava/lang/Object;", Cond.native ⟨"java/lang/Object", "clone", "()Ljava/lang/Object;"⟩, Cond.instanceMethod ⟨"java/lang/Object", "clone", "()Ljava/lang/Object;"⟩, Cond.selects "[J" ⟨"[J", "clone", "()Ljava/lang/Object;"⟩ ⟨"java/lang/Object", "clone", "()Ljava/lang/Object;"⟩, Cond.classLink RJ7 320 "[J", Cond.arrayClass .long, Cond.methodLink RJ7 304 Lib.Math.min.name, Cond.static Lib.Math.min.name, Cond.initialized "java/lang/Math", Cond.code Lib.Math.min.name Lib.Math.min.code 2 (some .int), Cond.methodLink RJ7 150 arraycopyName, Cond.methodLink RX0 71 yX0_extend, Cond.instanceMethod yX0_extend, Cond.selects RX0 yX0_extend yX0_extend, Cond.code yX0_extend cX0_extend 6 none, Cond.constantLong RX0 39 (1152921504606846975), Cond.methodLink RX0 45 yX0_setInfinite, Cond.instanceMethod yX0_setInfinite]
def wsX3_join_r5 : List Cond := [Cond.selects RX0 yX0_setInfinite yX0_setInfinite, Cond.code yX0_setInfinite cX0_setInfinite 3 none]
def wsX3_join : List Cond := .code yX3_join cX3_join 4 none :: ((wsX3_join_r1 ++ (wsX3_join_r2 ++ (wsX3_join_r3 ++ (wsX3_join_r4 ++ wsX3_join_r5)))) ++ wsX30 ++ wsX10 ++ wsX00 ++ (vx_atS RX3 130 "java/lang/IllegalArgumentException" ["java/lang/RuntimeException", "java/lang/Exception"]).filter goodWord)
def wsX3_widen_r1 : List Cond := [Cond.fieldLink RX3 29 "OctagonDesk" "made" "LOctagonDesk$Shape;", Cond.fieldLink RX3 13 "OctagonDesk" "slots" "[LOctagonDesk$Shape;", Cond.methodLink RX3 71 yX3_requireThreeSlots, Cond.static yX3_requireThreeSlots, Cond.initialized RX3, Cond.code yX3_requireThreeSlots cX3_requireThreeSlots 3 none, Cond.methodLink RX3 48 yX3_requireSlot, Cond.static yX3_requireSlot, Cond.code yX3_requireSlot cX3_requireSlot 1 none, Cond.classLink RX3 126 "java/lang/IllegalArgumentException", Cond.initialized "java/lang/IllegalArgumentException", Cond.methodLink RX3 67 yX1_takeOver, Cond.instanceMethod yX1_takeOver, Cond.selects RX1 yX1_takeOver yX1_takeOver, Cond.initialized RX1, Cond.code yX1_takeOver cX1_takeOver 2 none, Cond.fieldLink RX1 16 "OctagonDesk$Shape" "numbers" "LOctagonDesk$Numbers;", Cond.fieldLink RX1 20 "OctagonDesk$Shape" "empty" "Z", Cond.methodLink RX1 27 yX0_takeOver, Cond.instanceMethod yX0_takeOver, Cond.selects RX0 yX0_takeOver yX0_takeOver, Cond.initialized RX0, Cond.code yX0_takeOver cX0_takeOver 2 none, Cond.fieldLink RX0 18 "OctagonDesk$Numbers" "limbs" "[J"]
def wsX3_widen_r2 : List Cond := [Cond.methodLink RX0 33 arraycopyName, Cond.native arraycopyName, Cond.static arraycopyName, Cond.initialized "java/lang/System", Cond.methodLink RX3 81 yX1_loosenBy, Cond.instanceMethod yX1_loosenBy, Cond.selects RX1 yX1_loosenBy yX1_loosenBy, Cond.code yX1_loosenBy cX1_loosenBy 3 none, Cond.methodLink RX1 93 yX1_isSettledByEmptiness, Cond.instanceMethod yX1_isSettledByEmptiness, Cond.selects RX1 yX1_isSettledByEmptiness yX1_isSettledByEmptiness, Cond.code yX1_isSettledByEmptiness cX1_isSettledByEmptiness 3 (some .boolean), Cond.methodLink RX1 35 yX1_takeOver, Cond.methodLink RX1 57 yX0_isLess, Cond.instanceMethod yX0_isLess, Cond.selects RX0 yX0_isLess yX0_isLess, Cond.code yX0_isLess cX0_isLess 9 (some .boolean), Cond.fieldLink RX0 22 "OctagonDesk$Numbers" "top" "I", Cond.fieldLink RX0 15 "OctagonDesk$Numbers" "cells" "I", Cond.methodLink RX1 54 yX0_setInfinite, Cond.instanceMethod yX0_setInfinite, Cond.selects RX0 yX0_setInfinite yX0_setInfinite, Cond.code yX0_setInfinite cX0_setInfinite 3 none, Cond.constantLong RX0 25 (9223372036854775807)]
def wsX3_widen_r3 : List Cond := [Cond.methodLink RX1 90 yX1_close, Cond.instanceMethod yX1_close, Cond.selects RX1 yX1_close yX1_close, Cond.code yX1_close cX1_close 4 none, Cond.methodLink RX1 50 yX1_cell, Cond.static yX1_cell, Cond.code yX1_cell cX1_cell 2 (some .int), Cond.methodLink RX1 104 yX0_isInfinite, Cond.instanceMethod yX0_isInfinite, Cond.selects RX0 yX0_isInfinite yX0_isInfinite, Cond.code yX0_isInfinite cX0_isInfinite 2 (some .boolean), Cond.static yX3_negation, Cond.code yX3_negation cX3_negation 1 (some .int), Cond.methodLink RX1 118 yX0_lower, Cond.instanceMethod yX0_lower, Cond.selects RX0 yX0_lower yX0_lower, Cond.code yX0_lower cX0_lower 4 none, Cond.fieldLink RX0 11 "OctagonDesk$Numbers" "sum" "I", Cond.methodLink RX0 49 yX0_putSum, Cond.instanceMethod yX0_putSum, Cond.selects RX0 yX0_putSum yX0_putSum, Cond.code yX0_putSum cX0_putSum 8 none, Cond.constantLong RX0 39 (1152921504606846975), Cond.methodLink RX0 53 yX0_isLess]
def wsX3_widen_r4 : List Cond := [Cond.methodLink RX0 57 yX0_put, Cond.instanceMethod yX0_put, Cond.selects RX0 yX0_put yX0_put, Cond.code yX0_put cX0_put 5 none, Cond.methodLink RX1 121 yX1_findContradiction, Cond.instanceMethod yX1_findContradiction, Cond.selects RX1 yX1_findContradiction yX1_findContradiction, Cond.code yX1_findContradiction cX1_findContradiction 2 none, Cond.methodLink RX1 115 yX0_isNegative, Cond.instanceMethod yX0_isNegative, Cond.selects RX0 yX0_isNegative yX0_isNegative, Cond.code yX0_isNegative cX0_isNegative 2 (some .boolean), Cond.methodLink RX1 68 yX1_combineSingles, Cond.instanceMethod yX1_combineSingles, Cond.selects RX1 yX1_combineSingles yX1_combineSingles, Cond.code yX1_combineSingles cX1_combineSingles 3 none, Cond.methodLink RX1 101 yX0_putHalf, Cond.instanceMethod yX0_putHalf, Cond.selects RX0 yX0_putHalf yX0_putHalf, Cond.code yX0_putHalf cX0_putHalf 8 none, Cond.methodLink RX0 41 yX0_isInfinite, Cond.methodLink RX0 45 yX0_setInfinite, Cond.methodLink RX3 60 yX3_putMade, Cond.instanceMethod yX3_putMade]
def wsX3_widen_r5 : List Cond := [Cond.selects RX3 yX3_putMade yX3_putMade, Cond.code yX3_putMade cX3_putMade 2 none, Cond.methodLink RX3 112 yX3_makeRoom, Cond.instanceMethod yX3_makeRoom, Cond.selects RX3 yX3_makeRoom yX3_makeRoom, Cond.code yX3_makeRoom cX3_makeRoom 2 none, Cond.fieldLink RX3 63 "OctagonDesk$Shape" "empty" "Z", Cond.fieldLink RX3 178 "OctagonDesk$Shape" "numbers" "LOctagonDesk$Numbers;", Cond.fieldLink RX3 22 "OctagonDesk" "left" "[LOctagonDesk$Shape;", Cond.fieldLink RX3 25 "OctagonDesk" "reached" "[LOctagonDesk$Shape;", Cond.methodLink RX3 182 yX0_isCrowded, Cond.instanceMethod yX0_isCrowded, Cond.selects RX0 yX0_isCrowded yX0_isCrowded, Cond.code yX0_isCrowded cX0_isCrowded 4 (some .boolean), Cond.constantLong RX0 61 (18014398509481984), Cond.constantLong RX0 63 (-18014398509481984), Cond.methodLink RX3 187 yX3_growAll, Cond.static yX3_growAll, Cond.code yX3_growAll cX3_growAll 2 none, Cond.methodLink RX3 191 yX0_growTwofold, Cond.instanceMethod yX0_growTwofold, Cond.selects RX0 yX0_growTwofold yX0_growTwofold, Cond.code yX0_growTwofold cX0_growTwofold 3 none, Cond.methodLink RX0 65 yJ7_copyOf_c38d5]
def wsX3_widen_r6 : List Cond := [Cond.static yJ7_copyOf_c38d5, Cond.initialized RJ7, Cond.code yJ7_copyOf_c38d5 cJ7_copyOf_c38d5 3 (some (.array .long)), Cond.methodLink RJ7 319 ⟨"[J", "clone", "()Ljava/lang/Object;"⟩, Cond.sameMethod "[J" "java/lang/Object" "clone" "()Ljava/lang/Object;", Cond.native ⟨"java/lang/Object", "clone", "()Ljava/lang/Object;"⟩, Cond.instanceMethod ⟨"java/lang/Object", "clone", "()Ljava/lang/Object;"⟩, Cond.selects "[J" ⟨"[J", "clone", "()Ljava/lang/Object;"⟩ ⟨"java/lang/Object", "clone", "()Ljava/lang/Object;"⟩, Cond.classLink RJ7 320 "[J", Cond.arrayClass .long, Cond.methodLink RJ7 304 Lib.Math.min.name, Cond.static Lib.Math.min.name, Cond.initialized "java/lang/Math", Cond.code Lib.Math.min.name Lib.Math.min.code 2 (some .int), Cond.methodLink RJ7 150 arraycopyName, Cond.methodLink RX0 71 yX0_extend, Cond.instanceMethod yX0_extend, Cond.selects RX0 yX0_extend yX0_extend, Cond.code yX0_extend cX0_extend 6 none]
def wsX3_widen : List Cond := .code yX3_widen cX3_widen 4 none :: ((wsX3_widen_r1 ++ (wsX3_widen_r2 ++ (wsX3_widen_r3 ++ (wsX3_widen_r4 ++ (wsX3_widen_r5 ++ wsX3_widen_r6))))) ++ wsX30 ++ wsX10 ++ wsX00 ++ (vx_atS RX3 130 "java/lang/IllegalArgumentException" ["java/lang/RuntimeException", "java/lang/Exception"]).filter goodWord)
def wsX3_forget_r1 : List Cond := [Cond.fieldLink RX3 13 "OctagonDesk" "slots" "[LOctagonDesk$Shape;", Cond.methodLink RX3 48 yX3_requireSlot, Cond.static yX3_requireSlot, Cond.initialized RX3, Cond.code yX3_requireSlot cX3_requireSlot 1 none, Cond.classLink RX3 126 "java/lang/IllegalArgumentException", Cond.initialized "java/lang/IllegalArgumentException", Cond.methodLink RX3 84 yX3_requireVariable, Cond.static yX3_requireVariable, Cond.code yX3_requireVariable cX3_requireVariable 1 none, Cond.methodLink RX3 87 yX1_release, Cond.instanceMethod yX1_release, Cond.selects RX1 yX1_release yX1_release, Cond.initialized RX1, Cond.code yX1_release cX1_release 4 none, Cond.fieldLink RX1 16 "OctagonDesk$Shape" "numbers" "LOctagonDesk$Numbers;", Cond.methodLink RX1 50 yX1_cell, Cond.static yX1_cell, Cond.code yX1_cell cX1_cell 2 (some .int), Cond.methodLink RX1 54 yX0_setInfinite, Cond.instanceMethod yX0_setInfinite, Cond.selects RX0 yX0_setInfinite yX0_setInfinite, Cond.initialized RX0, Cond.code yX0_setInfinite cX0_setInfinite 3 none]
def wsX3_forget_r2 : List Cond := [Cond.fieldLink RX0 22 "OctagonDesk$Numbers" "top" "I", Cond.fieldLink RX0 18 "OctagonDesk$Numbers" "limbs" "[J", Cond.fieldLink RX0 15 "OctagonDesk$Numbers" "cells" "I", Cond.constantLong RX0 25 (9223372036854775807), Cond.methodLink RX1 38 yX0_set, Cond.instanceMethod yX0_set, Cond.selects RX0 yX0_set yX0_set, Cond.code yX0_set cX0_set 7 none, Cond.constantLong RX0 39 (1152921504606846975)]
def wsX3_forget : List Cond := .code yX3_forget cX3_forget 3 none :: ((wsX3_forget_r1 ++ wsX3_forget_r2) ++ wsX30 ++ wsX10 ++ wsX00 ++ (vx_atS RX3 130 "java/lang/IllegalArgumentException" ["java/lang/RuntimeException", "java/lang/Exception"]).filter goodWord)
def wsX3_isEmpty : List Cond := .code yX3_isEmpty cX3_isEmpty 2 (some .boolean) :: ([.fieldLink RX3 13 "OctagonDesk" "slots" "[LOctagonDesk$Shape;", .fieldLink RX3 63 "OctagonDesk$Shape" "empty" "Z", .methodLink RX3 48 yX3_requireSlot, .static yX3_requireSlot, .initialized RX3, .code yX3_requireSlot cX3_requireSlot 1 none, .classLink RX3 126 "java/lang/IllegalArgumentException", .initialized "java/lang/IllegalArgumentException"] ++ wsX30 ++ wsX10 ++ (vx_atS RX3 130 "java/lang/IllegalArgumentException" ["java/lang/RuntimeException", "java/lang/Exception"]).filter goodWord)
def wsX3_requirePlace : List Cond := .code yX3_requirePlace cX3_requirePlace 2 none :: ([.classLink RX3 133 "java/lang/IllegalStateException", .initialized "java/lang/IllegalStateException", .fieldLink RX3 13 "OctagonDesk" "slots" "[LOctagonDesk$Shape;", .fieldLink RX3 63 "OctagonDesk$Shape" "empty" "Z"] ++ wsX30 ++ wsX10 ++ (vx_atS RX3 137 "java/lang/IllegalStateException" ["java/lang/RuntimeException", "java/lang/Exception"]).filter goodWord)
def wsX3_most_r1 : List Cond := [Cond.fieldLink RX3 13 "OctagonDesk" "slots" "[LOctagonDesk$Shape;", Cond.methodLink RX3 48 yX3_requireSlot, Cond.static yX3_requireSlot, Cond.initialized RX3, Cond.code yX3_requireSlot cX3_requireSlot 1 none, Cond.classLink RX3 126 "java/lang/IllegalArgumentException", Cond.initialized "java/lang/IllegalArgumentException", Cond.methodLink RX3 90 yX3_requireTerms, Cond.static yX3_requireTerms, Cond.code yX3_requireTerms cX3_requireTerms 2 none, Cond.methodLink RX3 157 yX3_requireTerm, Cond.static yX3_requireTerm, Cond.code yX3_requireTerm cX3_requireTerm 1 none, Cond.methodLink RX3 160 yX3_negation, Cond.static yX3_negation, Cond.code yX3_negation cX3_negation 1 (some .int), Cond.methodLink RX3 94 yX3_requirePlace, Cond.instanceMethod yX3_requirePlace, Cond.selects RX3 yX3_requirePlace yX3_requirePlace, Cond.code yX3_requirePlace cX3_requirePlace 2 none, Cond.classLink RX3 133 "java/lang/IllegalStateException", Cond.initialized "java/lang/IllegalStateException", Cond.fieldLink RX3 63 "OctagonDesk$Shape" "empty" "Z", Cond.methodLink RX3 97 yX1_mostOf]
def wsX3_most_r2 : List Cond := [Cond.instanceMethod yX1_mostOf, Cond.selects RX1 yX1_mostOf yX1_mostOf, Cond.initialized RX1, Cond.code yX1_mostOf cX1_mostOf 3 (some .long), Cond.fieldLink RX1 16 "OctagonDesk$Shape" "numbers" "LOctagonDesk$Numbers;", Cond.methodLink RX1 50 yX1_cell, Cond.static yX1_cell, Cond.code yX1_cell cX1_cell 2 (some .int), Cond.methodLink RX1 97 yX0_nearestLong, Cond.instanceMethod yX0_nearestLong, Cond.selects RX0 yX0_nearestLong yX0_nearestLong, Cond.initialized RX0, Cond.code yX0_nearestLong cX0_nearestLong 5 (some .long), Cond.fieldLink RX0 18 "OctagonDesk$Numbers" "limbs" "[J", Cond.fieldLink RX0 22 "OctagonDesk$Numbers" "top" "I", Cond.constantLong RX0 25 (9223372036854775807), Cond.fieldLink RX0 15 "OctagonDesk$Numbers" "cells" "I", Cond.constantLong RX0 27 (7), Cond.constantLong RX0 29 (-8), Cond.constantLong RX0 31 (-9223372036854775808), Cond.methodLink RX1 101 yX0_putHalf, Cond.instanceMethod yX0_putHalf, Cond.selects RX0 yX0_putHalf yX0_putHalf, Cond.code yX0_putHalf cX0_putHalf 8 none]
def wsX3_most_r3 : List Cond := [Cond.methodLink RX0 41 yX0_isInfinite, Cond.instanceMethod yX0_isInfinite, Cond.selects RX0 yX0_isInfinite yX0_isInfinite, Cond.code yX0_isInfinite cX0_isInfinite 2 (some .boolean), Cond.methodLink RX0 45 yX0_setInfinite, Cond.instanceMethod yX0_setInfinite, Cond.selects RX0 yX0_setInfinite yX0_setInfinite, Cond.code yX0_setInfinite cX0_setInfinite 3 none]
def wsX3_most : List Cond := .code yX3_most cX3_most 4 (some .long) :: ((wsX3_most_r1 ++ (wsX3_most_r2 ++ wsX3_most_r3)) ++ wsX30 ++ wsX10 ++ wsX00 ++ (vx_atS RX3 130 "java/lang/IllegalArgumentException" ["java/lang/RuntimeException", "java/lang/Exception"]).filter goodWord ++ (vx_atS RX3 137 "java/lang/IllegalStateException" ["java/lang/RuntimeException", "java/lang/Exception"]).filter goodWord)
def wsX3_inside : List Cond := .code yX3_inside cX3_inside 3 (some .boolean) :: ([.fieldLink RX3 13 "OctagonDesk" "slots" "[LOctagonDesk$Shape;", .methodLink RX3 48 yX3_requireSlot, .static yX3_requireSlot, .initialized RX3, .code yX3_requireSlot cX3_requireSlot 1 none, .classLink RX3 126 "java/lang/IllegalArgumentException", .initialized "java/lang/IllegalArgumentException", .methodLink RX3 101 yX1_isWithin, .instanceMethod yX1_isWithin, .selects RX1 yX1_isWithin yX1_isWithin, .initialized RX1, .code yX1_isWithin cX1_isWithin 3 (some .boolean), .fieldLink RX1 20 "OctagonDesk$Shape" "empty" "Z", .fieldLink RX1 16 "OctagonDesk$Shape" "numbers" "LOctagonDesk$Numbers;", .methodLink RX1 57 yX0_isLess, .instanceMethod yX0_isLess, .selects RX0 yX0_isLess yX0_isLess, .initialized RX0, .code yX0_isLess cX0_isLess 9 (some .boolean), .fieldLink RX0 22 "OctagonDesk$Numbers" "top" "I", .fieldLink RX0 18 "OctagonDesk$Numbers" "limbs" "[J", .fieldLink RX0 15 "OctagonDesk$Numbers" "cells" "I"] ++ wsX30 ++ wsX10 ++ wsX00 ++ (vx_atS RX3 130 "java/lang/IllegalArgumentException" ["java/lang/RuntimeException", "java/lang/Exception"]).filter goodWord)
def wsX3_bounds_r1 : List Cond := [Cond.fieldLink RX3 13 "OctagonDesk" "slots" "[LOctagonDesk$Shape;", Cond.fieldLink RX3 63 "OctagonDesk$Shape" "empty" "Z", Cond.methodLink RX3 48 yX3_requireSlot, Cond.static yX3_requireSlot, Cond.initialized RX3, Cond.code yX3_requireSlot cX3_requireSlot 1 none, Cond.classLink RX3 126 "java/lang/IllegalArgumentException", Cond.initialized "java/lang/IllegalArgumentException", Cond.methodLink RX3 105 yX1_countBounds, Cond.instanceMethod yX1_countBounds, Cond.selects RX1 yX1_countBounds yX1_countBounds, Cond.initialized RX1, Cond.code yX1_countBounds cX1_countBounds 4 (some .int), Cond.fieldLink RX1 16 "OctagonDesk$Shape" "numbers" "LOctagonDesk$Numbers;", Cond.static yX3_negation, Cond.code yX3_negation cX3_negation 1 (some .int), Cond.methodLink RX1 50 yX1_cell, Cond.static yX1_cell, Cond.code yX1_cell cX1_cell 2 (some .int), Cond.methodLink RX1 104 yX0_isInfinite, Cond.instanceMethod yX0_isInfinite, Cond.selects RX0 yX0_isInfinite yX0_isInfinite, Cond.initialized RX0, Cond.code yX0_isInfinite cX0_isInfinite 2 (some .boolean)]
def wsX3_bounds_r2 : List Cond := [Cond.fieldLink RX0 18 "OctagonDesk$Numbers" "limbs" "[J", Cond.fieldLink RX0 22 "OctagonDesk$Numbers" "top" "I", Cond.constantLong RX0 25 (9223372036854775807)]
def wsX3_bounds : List Cond := .code yX3_bounds cX3_bounds 2 (some .int) :: ((wsX3_bounds_r1 ++ wsX3_bounds_r2) ++ wsX30 ++ wsX10 ++ wsX00 ++ (vx_atS RX3 130 "java/lang/IllegalArgumentException" ["java/lang/RuntimeException", "java/lang/Exception"]).filter goodWord)
def wsX3_first_r1 : List Cond := [Cond.fieldLink RX3 29 "OctagonDesk" "made" "LOctagonDesk$Shape;", Cond.fieldLink RX3 13 "OctagonDesk" "slots" "[LOctagonDesk$Shape;", Cond.methodLink RX3 48 yX3_requireSlot, Cond.static yX3_requireSlot, Cond.initialized RX3, Cond.code yX3_requireSlot cX3_requireSlot 1 none, Cond.classLink RX3 126 "java/lang/IllegalArgumentException", Cond.initialized "java/lang/IllegalArgumentException", Cond.methodLink RX3 84 yX3_requireVariable, Cond.static yX3_requireVariable, Cond.code yX3_requireVariable cX3_requireVariable 1 none, Cond.methodLink RX3 94 yX3_requirePlace, Cond.instanceMethod yX3_requirePlace, Cond.selects RX3 yX3_requirePlace yX3_requirePlace, Cond.code yX3_requirePlace cX3_requirePlace 2 none, Cond.classLink RX3 133 "java/lang/IllegalStateException", Cond.initialized "java/lang/IllegalStateException", Cond.fieldLink RX3 63 "OctagonDesk$Shape" "empty" "Z", Cond.methodLink RX3 67 yX1_takeOver, Cond.instanceMethod yX1_takeOver, Cond.selects RX1 yX1_takeOver yX1_takeOver, Cond.initialized RX1, Cond.code yX1_takeOver cX1_takeOver 2 none, Cond.fieldLink RX1 16 "OctagonDesk$Shape" "numbers" "LOctagonDesk$Numbers;"]
def wsX3_first_r2 : List Cond := [Cond.fieldLink RX1 20 "OctagonDesk$Shape" "empty" "Z", Cond.methodLink RX1 27 yX0_takeOver, Cond.instanceMethod yX0_takeOver, Cond.selects RX0 yX0_takeOver yX0_takeOver, Cond.initialized RX0, Cond.code yX0_takeOver cX0_takeOver 2 none, Cond.fieldLink RX0 18 "OctagonDesk$Numbers" "limbs" "[J", Cond.methodLink RX0 33 arraycopyName, Cond.native arraycopyName, Cond.static arraycopyName, Cond.initialized "java/lang/System", Cond.methodLink RX3 109 yX1_settle, Cond.instanceMethod yX1_settle, Cond.selects RX1 yX1_settle yX1_settle, Cond.code yX1_settle cX1_settle 4 none, Cond.methodLink RX1 50 yX1_cell, Cond.static yX1_cell, Cond.code yX1_cell cX1_cell 2 (some .int), Cond.methodLink RX1 104 yX0_isInfinite, Cond.instanceMethod yX0_isInfinite, Cond.selects RX0 yX0_isInfinite yX0_isInfinite, Cond.code yX0_isInfinite cX0_isInfinite 2 (some .boolean), Cond.fieldLink RX0 22 "OctagonDesk$Numbers" "top" "I", Cond.constantLong RX0 25 (9223372036854775807)]
def wsX3_first_r3 : List Cond := [Cond.methodLink RX1 38 yX0_set, Cond.instanceMethod yX0_set, Cond.selects RX0 yX0_set yX0_set, Cond.code yX0_set cX0_set 7 none, Cond.constantLong RX0 39 (1152921504606846975), Cond.fieldLink RX0 15 "OctagonDesk$Numbers" "cells" "I", Cond.methodLink RX1 42 yX1_holdToSpare, Cond.instanceMethod yX1_holdToSpare, Cond.selects RX1 yX1_holdToSpare yX1_holdToSpare, Cond.code yX1_holdToSpare cX1_holdToSpare 3 none, Cond.methodLink RX1 57 yX0_isLess, Cond.instanceMethod yX0_isLess, Cond.selects RX0 yX0_isLess yX0_isLess, Cond.code yX0_isLess cX0_isLess 9 (some .boolean), Cond.methodLink RX1 61 yX0_put, Cond.instanceMethod yX0_put, Cond.selects RX0 yX0_put yX0_put, Cond.code yX0_put cX0_put 5 none, Cond.methodLink RX1 65 yX1_passThrough, Cond.instanceMethod yX1_passThrough, Cond.selects RX1 yX1_passThrough yX1_passThrough, Cond.code yX1_passThrough cX1_passThrough 5 none, Cond.static yX3_negation, Cond.code yX3_negation cX3_negation 1 (some .int)]
def wsX3_first_r4 : List Cond := [Cond.methodLink RX1 111 yX0_putSum, Cond.instanceMethod yX0_putSum, Cond.selects RX0 yX0_putSum yX0_putSum, Cond.code yX0_putSum cX0_putSum 8 none, Cond.methodLink RX1 115 yX0_isNegative, Cond.instanceMethod yX0_isNegative, Cond.selects RX0 yX0_isNegative yX0_isNegative, Cond.code yX0_isNegative cX0_isNegative 2 (some .boolean), Cond.methodLink RX1 118 yX0_lower, Cond.instanceMethod yX0_lower, Cond.selects RX0 yX0_lower yX0_lower, Cond.code yX0_lower cX0_lower 4 none, Cond.fieldLink RX0 11 "OctagonDesk$Numbers" "sum" "I", Cond.methodLink RX0 49 yX0_putSum, Cond.methodLink RX0 53 yX0_isLess, Cond.methodLink RX0 57 yX0_put, Cond.methodLink RX1 68 yX1_combineSingles, Cond.instanceMethod yX1_combineSingles, Cond.selects RX1 yX1_combineSingles yX1_combineSingles, Cond.code yX1_combineSingles cX1_combineSingles 3 none, Cond.methodLink RX1 101 yX0_putHalf, Cond.instanceMethod yX0_putHalf, Cond.selects RX0 yX0_putHalf yX0_putHalf, Cond.code yX0_putHalf cX0_putHalf 8 none]
def wsX3_first_r5 : List Cond := [Cond.methodLink RX0 41 yX0_isInfinite, Cond.methodLink RX0 45 yX0_setInfinite, Cond.instanceMethod yX0_setInfinite, Cond.selects RX0 yX0_setInfinite yX0_setInfinite, Cond.code yX0_setInfinite cX0_setInfinite 3 none, Cond.methodLink RX1 121 yX1_findContradiction, Cond.instanceMethod yX1_findContradiction, Cond.selects RX1 yX1_findContradiction yX1_findContradiction, Cond.code yX1_findContradiction cX1_findContradiction 2 none, Cond.methodLink RX1 108 yX0_putNegative, Cond.instanceMethod yX0_putNegative, Cond.selects RX0 yX0_putNegative yX0_putNegative, Cond.code yX0_putNegative cX0_putNegative 6 none, Cond.methodLink RX3 112 yX3_makeRoom, Cond.instanceMethod yX3_makeRoom, Cond.selects RX3 yX3_makeRoom yX3_makeRoom, Cond.code yX3_makeRoom cX3_makeRoom 2 none, Cond.fieldLink RX3 178 "OctagonDesk$Shape" "numbers" "LOctagonDesk$Numbers;", Cond.fieldLink RX3 22 "OctagonDesk" "left" "[LOctagonDesk$Shape;", Cond.fieldLink RX3 25 "OctagonDesk" "reached" "[LOctagonDesk$Shape;", Cond.methodLink RX3 182 yX0_isCrowded, Cond.instanceMethod yX0_isCrowded, Cond.selects RX0 yX0_isCrowded yX0_isCrowded, Cond.code yX0_isCrowded cX0_isCrowded 4 (some .boolean)]
def wsX3_first_r6 : List Cond := [Cond.constantLong RX0 61 (18014398509481984), Cond.constantLong RX0 63 (-18014398509481984), Cond.methodLink RX3 187 yX3_growAll, Cond.static yX3_growAll, Cond.code yX3_growAll cX3_growAll 2 none, Cond.methodLink RX3 191 yX0_growTwofold, Cond.instanceMethod yX0_growTwofold, Cond.selects RX0 yX0_growTwofold yX0_growTwofold, Cond.code yX0_growTwofold cX0_growTwofold 3 none, Cond.methodLink RX0 65 yJ7_copyOf_c38d5, Cond.static yJ7_copyOf_c38d5, Cond.initialized RJ7, Cond.code yJ7_copyOf_c38d5 cJ7_copyOf_c38d5 3 (some (.array .long)), Cond.methodLink RJ7 319 ⟨"[J", "clone", "()Ljava/lang/Object;"⟩, Cond.sameMethod "[J" "java/lang/Object" "clone" "()Ljava/lang/Object;", Cond.native ⟨"java/lang/Object", "clone", "()Ljava/lang/Object;"⟩, Cond.instanceMethod ⟨"java/lang/Object", "clone", "()Ljava/lang/Object;"⟩, Cond.selects "[J" ⟨"[J", "clone", "()Ljava/lang/Object;"⟩ ⟨"java/lang/Object", "clone", "()Ljava/lang/Object;"⟩, Cond.classLink RJ7 320 "[J", Cond.arrayClass .long, Cond.methodLink RJ7 304 Lib.Math.min.name, Cond.static Lib.Math.min.name, Cond.initialized "java/lang/Math", Cond.code Lib.Math.min.name Lib.Math.min.code 2 (some .int)]
def wsX3_first_r7 : List Cond := [Cond.methodLink RJ7 150 arraycopyName, Cond.methodLink RX0 71 yX0_extend, Cond.instanceMethod yX0_extend, Cond.selects RX0 yX0_extend yX0_extend, Cond.code yX0_extend cX0_extend 6 none, Cond.methodLink RX3 97 yX1_mostOf, Cond.instanceMethod yX1_mostOf, Cond.selects RX1 yX1_mostOf yX1_mostOf, Cond.code yX1_mostOf cX1_mostOf 3 (some .long), Cond.methodLink RX1 97 yX0_nearestLong, Cond.instanceMethod yX0_nearestLong, Cond.selects RX0 yX0_nearestLong yX0_nearestLong, Cond.code yX0_nearestLong cX0_nearestLong 5 (some .long), Cond.constantLong RX0 27 (7), Cond.constantLong RX0 29 (-8), Cond.constantLong RX0 31 (-9223372036854775808)]
def wsX3_first : List Cond := .code yX3_first cX3_first 4 (some .long) :: ((wsX3_first_r1 ++ (wsX3_first_r2 ++ (wsX3_first_r3 ++ (wsX3_first_r4 ++ (wsX3_first_r5 ++ (wsX3_first_r6 ++ wsX3_first_r7)))))) ++ wsX30 ++ wsX10 ++ wsX00 ++ (vx_atS RX3 130 "java/lang/IllegalArgumentException" ["java/lang/RuntimeException", "java/lang/Exception"]).filter goodWord ++ (vx_atS RX3 137 "java/lang/IllegalStateException" ["java/lang/RuntimeException", "java/lang/Exception"]).filter goodWord)
def wsX3_madeFitsTheBox_r1 : List Cond := [Cond.fieldLink RX3 29 "OctagonDesk" "made" "LOctagonDesk$Shape;", Cond.constantLong RX3 212 (4096), Cond.methodLink RX3 97 yX1_mostOf, Cond.instanceMethod yX1_mostOf, Cond.selects RX1 yX1_mostOf yX1_mostOf, Cond.initialized RX1, Cond.code yX1_mostOf cX1_mostOf 3 (some .long), Cond.fieldLink RX1 16 "OctagonDesk$Shape" "numbers" "LOctagonDesk$Numbers;", Cond.methodLink RX1 50 yX1_cell, Cond.static yX1_cell, Cond.code yX1_cell cX1_cell 2 (some .int), Cond.methodLink RX1 97 yX0_nearestLong, Cond.instanceMethod yX0_nearestLong, Cond.selects RX0 yX0_nearestLong yX0_nearestLong, Cond.initialized RX0, Cond.code yX0_nearestLong cX0_nearestLong 5 (some .long), Cond.fieldLink RX0 18 "OctagonDesk$Numbers" "limbs" "[J", Cond.fieldLink RX0 22 "OctagonDesk$Numbers" "top" "I", Cond.constantLong RX0 25 (9223372036854775807), Cond.fieldLink RX0 15 "OctagonDesk$Numbers" "cells" "I", Cond.constantLong RX0 27 (7), Cond.constantLong RX0 29 (-8), Cond.constantLong RX0 31 (-9223372036854775808), Cond.methodLink RX1 101 yX0_putHalf]
def wsX3_madeFitsTheBox_r2 : List Cond := [Cond.instanceMethod yX0_putHalf, Cond.selects RX0 yX0_putHalf yX0_putHalf, Cond.code yX0_putHalf cX0_putHalf 8 none, Cond.methodLink RX0 41 yX0_isInfinite, Cond.instanceMethod yX0_isInfinite, Cond.selects RX0 yX0_isInfinite yX0_isInfinite, Cond.code yX0_isInfinite cX0_isInfinite 2 (some .boolean), Cond.methodLink RX0 45 yX0_setInfinite, Cond.instanceMethod yX0_setInfinite, Cond.selects RX0 yX0_setInfinite yX0_setInfinite, Cond.code yX0_setInfinite cX0_setInfinite 3 none]
def wsX3_madeFitsTheBox : List Cond := .code yX3_madeFitsTheBox cX3_madeFitsTheBox 6 (some .boolean) :: ((wsX3_madeFitsTheBox_r1 ++ wsX3_madeFitsTheBox_r2) ++ wsX30 ++ wsX10 ++ wsX00)
def wsX3_countFrom_r1 : List Cond := [Cond.fieldLink RX3 29 "OctagonDesk" "made" "LOctagonDesk$Shape;", Cond.fieldLink RX3 33 "OctagonDesk" "offsets" "[J", Cond.methodLink RX3 214 Lib.MathLoose.min_long.x, Cond.static Lib.MathLoose.min_long.x, Cond.initialized "java/lang/Math", Cond.code Lib.MathLoose.min_long.x Lib.MathLoose.min_long.code 4 (some .long), Cond.methodLink RX3 220 Lib.MathLoose.max_long.x, Cond.static Lib.MathLoose.max_long.x, Cond.code Lib.MathLoose.max_long.x Lib.MathLoose.max_long.code 4 (some .long), Cond.methodLink RX3 97 yX1_mostOf, Cond.instanceMethod yX1_mostOf, Cond.selects RX1 yX1_mostOf yX1_mostOf, Cond.initialized RX1, Cond.code yX1_mostOf cX1_mostOf 3 (some .long), Cond.fieldLink RX1 16 "OctagonDesk$Shape" "numbers" "LOctagonDesk$Numbers;", Cond.methodLink RX1 50 yX1_cell, Cond.static yX1_cell, Cond.code yX1_cell cX1_cell 2 (some .int), Cond.methodLink RX1 97 yX0_nearestLong, Cond.instanceMethod yX0_nearestLong, Cond.selects RX0 yX0_nearestLong yX0_nearestLong, Cond.initialized RX0, Cond.code yX0_nearestLong cX0_nearestLong 5 (some .long), Cond.fieldLink RX0 18 "OctagonDesk$Numbers" "limbs" "[J"]
def wsX3_countFrom_r2 : List Cond := [Cond.fieldLink RX0 22 "OctagonDesk$Numbers" "top" "I", Cond.constantLong RX0 25 (9223372036854775807), Cond.fieldLink RX0 15 "OctagonDesk$Numbers" "cells" "I", Cond.constantLong RX0 27 (7), Cond.constantLong RX0 29 (-8), Cond.constantLong RX0 31 (-9223372036854775808), Cond.methodLink RX1 101 yX0_putHalf, Cond.instanceMethod yX0_putHalf, Cond.selects RX0 yX0_putHalf yX0_putHalf, Cond.code yX0_putHalf cX0_putHalf 8 none, Cond.methodLink RX0 41 yX0_isInfinite, Cond.instanceMethod yX0_isInfinite, Cond.selects RX0 yX0_isInfinite yX0_isInfinite, Cond.code yX0_isInfinite cX0_isInfinite 2 (some .boolean), Cond.methodLink RX0 45 yX0_setInfinite, Cond.instanceMethod yX0_setInfinite, Cond.selects RX0 yX0_setInfinite yX0_setInfinite, Cond.code yX0_setInfinite cX0_setInfinite 3 none, Cond.methodLink RX3 122 yX3_countFrom, Cond.instanceMethod yX3_countFrom, Cond.selects RX3 yX3_countFrom yX3_countFrom, Cond.initialized RX3]
def wsX3_countFrom : List Cond := .code yX3_countFrom cX3_countFrom 11 (some .int) :: ((wsX3_countFrom_r1 ++ wsX3_countFrom_r2) ++ wsX30 ++ wsX10 ++ wsX00)
def wsX3_places_r1 : List Cond := [Cond.fieldLink RX3 13 "OctagonDesk" "slots" "[LOctagonDesk$Shape;", Cond.fieldLink RX3 63 "OctagonDesk$Shape" "empty" "Z", Cond.fieldLink RX3 29 "OctagonDesk" "made" "LOctagonDesk$Shape;", Cond.methodLink RX3 48 yX3_requireSlot, Cond.static yX3_requireSlot, Cond.initialized RX3, Cond.code yX3_requireSlot cX3_requireSlot 1 none, Cond.classLink RX3 126 "java/lang/IllegalArgumentException", Cond.initialized "java/lang/IllegalArgumentException", Cond.methodLink RX3 67 yX1_takeOver, Cond.instanceMethod yX1_takeOver, Cond.selects RX1 yX1_takeOver yX1_takeOver, Cond.initialized RX1, Cond.code yX1_takeOver cX1_takeOver 2 none, Cond.fieldLink RX1 16 "OctagonDesk$Shape" "numbers" "LOctagonDesk$Numbers;", Cond.fieldLink RX1 20 "OctagonDesk$Shape" "empty" "Z", Cond.methodLink RX1 27 yX0_takeOver, Cond.instanceMethod yX0_takeOver, Cond.selects RX0 yX0_takeOver yX0_takeOver, Cond.initialized RX0, Cond.code yX0_takeOver cX0_takeOver 2 none, Cond.fieldLink RX0 18 "OctagonDesk$Numbers" "limbs" "[J", Cond.methodLink RX0 33 arraycopyName, Cond.native arraycopyName]
def wsX3_places_r2 : List Cond := [Cond.static arraycopyName, Cond.initialized "java/lang/System", Cond.methodLink RX3 115 yX1_shiftToLeast, Cond.instanceMethod yX1_shiftToLeast, Cond.selects RX1 yX1_shiftToLeast yX1_shiftToLeast, Cond.code yX1_shiftToLeast cX1_shiftToLeast 3 (some .boolean), Cond.methodLink RX1 50 yX1_cell, Cond.static yX1_cell, Cond.code yX1_cell cX1_cell 2 (some .int), Cond.methodLink RX1 104 yX0_isInfinite, Cond.instanceMethod yX0_isInfinite, Cond.selects RX0 yX0_isInfinite yX0_isInfinite, Cond.code yX0_isInfinite cX0_isInfinite 2 (some .boolean), Cond.fieldLink RX0 22 "OctagonDesk$Numbers" "top" "I", Cond.constantLong RX0 25 (9223372036854775807), Cond.methodLink RX1 101 yX0_putHalf, Cond.instanceMethod yX0_putHalf, Cond.selects RX0 yX0_putHalf yX0_putHalf, Cond.code yX0_putHalf cX0_putHalf 8 none, Cond.fieldLink RX0 15 "OctagonDesk$Numbers" "cells" "I", Cond.methodLink RX0 41 yX0_isInfinite, Cond.methodLink RX0 45 yX0_setInfinite, Cond.instanceMethod yX0_setInfinite, Cond.selects RX0 yX0_setInfinite yX0_setInfinite]
def wsX3_places_r3 : List Cond := [Cond.code yX0_setInfinite cX0_setInfinite 3 none, Cond.methodLink RX1 108 yX0_putNegative, Cond.instanceMethod yX0_putNegative, Cond.selects RX0 yX0_putNegative yX0_putNegative, Cond.code yX0_putNegative cX0_putNegative 6 none, Cond.constantLong RX0 39 (1152921504606846975), Cond.methodLink RX1 111 yX0_putSum, Cond.instanceMethod yX0_putSum, Cond.selects RX0 yX0_putSum yX0_putSum, Cond.code yX0_putSum cX0_putSum 8 none, Cond.methodLink RX3 119 yX3_madeFitsTheBox, Cond.instanceMethod yX3_madeFitsTheBox, Cond.selects RX3 yX3_madeFitsTheBox yX3_madeFitsTheBox, Cond.code yX3_madeFitsTheBox cX3_madeFitsTheBox 6 (some .boolean), Cond.constantLong RX3 212 (4096), Cond.methodLink RX3 97 yX1_mostOf, Cond.instanceMethod yX1_mostOf, Cond.selects RX1 yX1_mostOf yX1_mostOf, Cond.code yX1_mostOf cX1_mostOf 3 (some .long), Cond.methodLink RX1 97 yX0_nearestLong, Cond.instanceMethod yX0_nearestLong, Cond.selects RX0 yX0_nearestLong yX0_nearestLong, Cond.code yX0_nearestLong cX0_nearestLong 5 (some .long), Cond.constantLong RX0 27 (7)]
def wsX3_places_r4 : List Cond := [Cond.constantLong RX0 29 (-8), Cond.constantLong RX0 31 (-9223372036854775808), Cond.methodLink RX3 122 yX3_countFrom, Cond.instanceMethod yX3_countFrom, Cond.selects RX3 yX3_countFrom yX3_countFrom, Cond.code yX3_countFrom cX3_countFrom 11 (some .int), Cond.fieldLink RX3 33 "OctagonDesk" "offsets" "[J", Cond.methodLink RX3 214 Lib.MathLoose.min_long.x, Cond.static Lib.MathLoose.min_long.x, Cond.initialized "java/lang/Math", Cond.code Lib.MathLoose.min_long.x Lib.MathLoose.min_long.code 4 (some .long), Cond.methodLink RX3 220 Lib.MathLoose.max_long.x, Cond.static Lib.MathLoose.max_long.x, Cond.code Lib.MathLoose.max_long.x Lib.MathLoose.max_long.code 4 (some .long)]
def wsX3_places : List Cond := .code yX3_places cX3_places 2 (some .int) :: ((wsX3_places_r1 ++ (wsX3_places_r2 ++ (wsX3_places_r3 ++ wsX3_places_r4))) ++ wsX30 ++ wsX10 ++ wsX00 ++ (vx_atS RX3 130 "java/lang/IllegalArgumentException" ["java/lang/RuntimeException", "java/lang/Exception"]).filter goodWord)
def wsX3_step_r1 : List Cond := [Cond.classLink RX3 126 "java/lang/IllegalArgumentException", Cond.initialized "java/lang/IllegalArgumentException", Cond.classLink RX3 133 "java/lang/IllegalStateException", Cond.initialized "java/lang/IllegalStateException", Cond.fieldLink RX3 37 "OctagonDesk" "stepCount" "I", Cond.fieldLink RX3 43 "OctagonDesk" "steps" "[LOctagonDesk$Step;", Cond.methodLink RX3 52 yX3_requireAction, Cond.static yX3_requireAction, Cond.initialized RX3, Cond.code yX3_requireAction cX3_requireAction 4 none, Cond.methodLink RX3 169 yX3_requireNumber, Cond.static yX3_requireNumber, Cond.code yX3_requireNumber cX3_requireNumber 1 none, Cond.constant RX3 165 (-1000000), Cond.constant RX3 166 (1000000), Cond.methodLink RX3 90 yX3_requireTerms, Cond.static yX3_requireTerms, Cond.code yX3_requireTerms cX3_requireTerms 2 none, Cond.methodLink RX3 157 yX3_requireTerm, Cond.static yX3_requireTerm, Cond.code yX3_requireTerm cX3_requireTerm 1 none, Cond.methodLink RX3 160 yX3_negation, Cond.static yX3_negation, Cond.code yX3_negation cX3_negation 1 (some .int)]
def wsX3_step_r2 : List Cond := [Cond.methodLink RX3 84 yX3_requireVariable, Cond.static yX3_requireVariable, Cond.code yX3_requireVariable cX3_requireVariable 1 none, Cond.methodLink RX3 138 yX2_write, Cond.instanceMethod yX2_write, Cond.selects RX2 yX2_write yX2_write, Cond.initialized RX2, Cond.code yX2_write cX2_write 6 none, Cond.fieldLink RX2 9 "OctagonDesk$Step" "from" "I", Cond.fieldLink RX2 15 "OctagonDesk$Step" "to" "I", Cond.fieldLink RX2 18 "OctagonDesk$Step" "kind" "I", Cond.fieldLink RX2 21 "OctagonDesk$Step" "a" "I", Cond.fieldLink RX2 24 "OctagonDesk$Step" "b" "I", Cond.fieldLink RX2 27 "OctagonDesk$Step" "c" "I"]
def wsX3_step : List Cond := .code yX3_step cX3_step 6 (some .int) :: ((wsX3_step_r1 ++ wsX3_step_r2) ++ wsX30 ++ wsX20 ++ (vx_atS RX3 130 "java/lang/IllegalArgumentException" ["java/lang/RuntimeException", "java/lang/Exception"]).filter goodWord ++ (vx_atS RX3 137 "java/lang/IllegalStateException" ["java/lang/RuntimeException", "java/lang/Exception"]).filter goodWord)
def wsX3_erase : List Cond := .code yX3_erase cX3_erase 2 (some .int) :: ([.fieldLink RX3 37 "OctagonDesk" "stepCount" "I"] ++ wsX30)
def wsX3_follow_r1 : List Cond := [Cond.fieldLink RX3 25 "OctagonDesk" "reached" "[LOctagonDesk$Shape;", Cond.fieldLink RX3 194 "OctagonDesk$Step" "to" "I", Cond.fieldLink RX3 29 "OctagonDesk" "made" "LOctagonDesk$Shape;", Cond.fieldLink RX3 197 "OctagonDesk$Step" "from" "I", Cond.fieldLink RX3 200 "OctagonDesk$Step" "kind" "I", Cond.fieldLink RX3 203 "OctagonDesk$Step" "a" "I", Cond.fieldLink RX3 206 "OctagonDesk$Step" "b" "I", Cond.fieldLink RX3 209 "OctagonDesk$Step" "c" "I", Cond.methodLink RX3 56 yX1_makeFrom, Cond.instanceMethod yX1_makeFrom, Cond.selects RX1 yX1_makeFrom yX1_makeFrom, Cond.initialized RX1, Cond.code yX1_makeFrom cX1_makeFrom 6 none, Cond.fieldLink RX1 16 "OctagonDesk$Shape" "numbers" "LOctagonDesk$Numbers;", Cond.methodLink RX1 31 yX1_tell, Cond.instanceMethod yX1_tell, Cond.selects RX1 yX1_tell yX1_tell, Cond.code yX1_tell cX1_tell 10 none, Cond.fieldLink RX1 20 "OctagonDesk$Shape" "empty" "Z", Cond.methodLink RX1 71 yX1_oldTerm, Cond.static yX1_oldTerm, Cond.code yX1_oldTerm cX1_oldTerm 3 (some .int), Cond.static yX3_negation, Cond.initialized RX3]
def wsX3_follow_r2 : List Cond := [Cond.code yX3_negation cX3_negation 1 (some .int), Cond.methodLink RX1 75 yX1_moreOf, Cond.static yX1_moreOf, Cond.code yX1_moreOf cX1_moreOf 3 (some .int), Cond.methodLink RX1 50 yX1_cell, Cond.static yX1_cell, Cond.code yX1_cell cX1_cell 2 (some .int), Cond.methodLink RX1 78 yX0_putMore, Cond.instanceMethod yX0_putMore, Cond.selects RX0 yX0_putMore yX0_putMore, Cond.initialized RX0, Cond.code yX0_putMore cX0_putMore 9 none, Cond.fieldLink RX0 22 "OctagonDesk$Numbers" "top" "I", Cond.fieldLink RX0 18 "OctagonDesk$Numbers" "limbs" "[J", Cond.constantLong RX0 39 (1152921504606846975), Cond.fieldLink RX0 15 "OctagonDesk$Numbers" "cells" "I", Cond.methodLink RX0 41 yX0_isInfinite, Cond.instanceMethod yX0_isInfinite, Cond.selects RX0 yX0_isInfinite yX0_isInfinite, Cond.code yX0_isInfinite cX0_isInfinite 2 (some .boolean), Cond.constantLong RX0 25 (9223372036854775807), Cond.methodLink RX0 45 yX0_setInfinite, Cond.instanceMethod yX0_setInfinite, Cond.selects RX0 yX0_setInfinite yX0_setInfinite]
def wsX3_follow_r3 : List Cond := [Cond.code yX0_setInfinite cX0_setInfinite 3 none, Cond.methodLink RX1 35 yX1_takeOver, Cond.instanceMethod yX1_takeOver, Cond.selects RX1 yX1_takeOver yX1_takeOver, Cond.code yX1_takeOver cX1_takeOver 2 none, Cond.methodLink RX1 27 yX0_takeOver, Cond.instanceMethod yX0_takeOver, Cond.selects RX0 yX0_takeOver yX0_takeOver, Cond.code yX0_takeOver cX0_takeOver 2 none, Cond.methodLink RX0 33 arraycopyName, Cond.native arraycopyName, Cond.static arraycopyName, Cond.initialized "java/lang/System", Cond.methodLink RX1 38 yX0_set, Cond.instanceMethod yX0_set, Cond.selects RX0 yX0_set yX0_set, Cond.code yX0_set cX0_set 7 none, Cond.methodLink RX1 42 yX1_holdToSpare, Cond.instanceMethod yX1_holdToSpare, Cond.selects RX1 yX1_holdToSpare yX1_holdToSpare, Cond.code yX1_holdToSpare cX1_holdToSpare 3 none, Cond.methodLink RX1 57 yX0_isLess, Cond.instanceMethod yX0_isLess, Cond.selects RX0 yX0_isLess yX0_isLess]
def wsX3_follow_r4 : List Cond := [Cond.code yX0_isLess cX0_isLess 9 (some .boolean), Cond.methodLink RX1 61 yX0_put, Cond.instanceMethod yX0_put, Cond.selects RX0 yX0_put yX0_put, Cond.code yX0_put cX0_put 5 none, Cond.methodLink RX1 65 yX1_passThrough, Cond.instanceMethod yX1_passThrough, Cond.selects RX1 yX1_passThrough yX1_passThrough, Cond.code yX1_passThrough cX1_passThrough 5 none, Cond.methodLink RX1 111 yX0_putSum, Cond.instanceMethod yX0_putSum, Cond.selects RX0 yX0_putSum yX0_putSum, Cond.code yX0_putSum cX0_putSum 8 none, Cond.methodLink RX1 115 yX0_isNegative, Cond.instanceMethod yX0_isNegative, Cond.selects RX0 yX0_isNegative yX0_isNegative, Cond.code yX0_isNegative cX0_isNegative 2 (some .boolean), Cond.methodLink RX1 104 yX0_isInfinite, Cond.methodLink RX1 118 yX0_lower, Cond.instanceMethod yX0_lower, Cond.selects RX0 yX0_lower yX0_lower, Cond.code yX0_lower cX0_lower 4 none, Cond.fieldLink RX0 11 "OctagonDesk$Numbers" "sum" "I", Cond.methodLink RX0 49 yX0_putSum]
def wsX3_follow_r5 : List Cond := [Cond.methodLink RX0 53 yX0_isLess, Cond.methodLink RX0 57 yX0_put, Cond.methodLink RX1 68 yX1_combineSingles, Cond.instanceMethod yX1_combineSingles, Cond.selects RX1 yX1_combineSingles yX1_combineSingles, Cond.code yX1_combineSingles cX1_combineSingles 3 none, Cond.methodLink RX1 101 yX0_putHalf, Cond.instanceMethod yX0_putHalf, Cond.selects RX0 yX0_putHalf yX0_putHalf, Cond.code yX0_putHalf cX0_putHalf 8 none, Cond.methodLink RX1 121 yX1_findContradiction, Cond.instanceMethod yX1_findContradiction, Cond.selects RX1 yX1_findContradiction yX1_findContradiction, Cond.code yX1_findContradiction cX1_findContradiction 2 none, Cond.methodLink RX1 46 yX1_scatter, Cond.instanceMethod yX1_scatter, Cond.selects RX1 yX1_scatter yX1_scatter, Cond.code yX1_scatter cX1_scatter 6 none, Cond.constantLong RX1 86 (2), Cond.constantLong RX1 88 (-2), Cond.methodLink RX1 24 yX1_release, Cond.instanceMethod yX1_release, Cond.selects RX1 yX1_release yX1_release, Cond.code yX1_release cX1_release 4 none]
def wsX3_follow_r6 : List Cond := [Cond.methodLink RX1 54 yX0_setInfinite, Cond.methodLink RX3 112 yX3_makeRoom, Cond.instanceMethod yX3_makeRoom, Cond.selects RX3 yX3_makeRoom yX3_makeRoom, Cond.code yX3_makeRoom cX3_makeRoom 2 none, Cond.fieldLink RX3 63 "OctagonDesk$Shape" "empty" "Z", Cond.fieldLink RX3 178 "OctagonDesk$Shape" "numbers" "LOctagonDesk$Numbers;", Cond.fieldLink RX3 13 "OctagonDesk" "slots" "[LOctagonDesk$Shape;", Cond.fieldLink RX3 22 "OctagonDesk" "left" "[LOctagonDesk$Shape;", Cond.methodLink RX3 182 yX0_isCrowded, Cond.instanceMethod yX0_isCrowded, Cond.selects RX0 yX0_isCrowded yX0_isCrowded, Cond.code yX0_isCrowded cX0_isCrowded 4 (some .boolean), Cond.constantLong RX0 61 (18014398509481984), Cond.constantLong RX0 63 (-18014398509481984), Cond.methodLink RX3 187 yX3_growAll, Cond.static yX3_growAll, Cond.code yX3_growAll cX3_growAll 2 none, Cond.methodLink RX3 191 yX0_growTwofold, Cond.instanceMethod yX0_growTwofold, Cond.selects RX0 yX0_growTwofold yX0_growTwofold, Cond.code yX0_growTwofold cX0_growTwofold 3 none, Cond.methodLink RX0 65 yJ7_copyOf_c38d5, Cond.static yJ7_copyOf_c38d5]
def wsX3_follow_r7 : List Cond := [Cond.initialized RJ7, Cond.code yJ7_copyOf_c38d5 cJ7_copyOf_c38d5 3 (some (.array .long)), Cond.methodLink RJ7 319 ⟨"[J", "clone", "()Ljava/lang/Object;"⟩, Cond.sameMethod "[J" "java/lang/Object" "clone" "()Ljava/lang/Object;", Cond.native ⟨"java/lang/Object", "clone", "()Ljava/lang/Object;"⟩, Cond.instanceMethod ⟨"java/lang/Object", "clone", "()Ljava/lang/Object;"⟩, Cond.selects "[J" ⟨"[J", "clone", "()Ljava/lang/Object;"⟩ ⟨"java/lang/Object", "clone", "()Ljava/lang/Object;"⟩, Cond.classLink RJ7 320 "[J", Cond.arrayClass .long, Cond.methodLink RJ7 304 Lib.Math.min.name, Cond.static Lib.Math.min.name, Cond.initialized "java/lang/Math", Cond.code Lib.Math.min.name Lib.Math.min.code 2 (some .int), Cond.methodLink RJ7 150 arraycopyName, Cond.methodLink RX0 71 yX0_extend, Cond.instanceMethod yX0_extend, Cond.selects RX0 yX0_extend yX0_extend, Cond.code yX0_extend cX0_extend 6 none, Cond.methodLink RX3 101 yX1_isWithin, Cond.instanceMethod yX1_isWithin, Cond.selects RX1 yX1_isWithin yX1_isWithin, Cond.code yX1_isWithin cX1_isWithin 3 (some .boolean), Cond.methodLink RX3 81 yX1_loosenBy, Cond.instanceMethod yX1_loosenBy]
def wsX3_follow_r8 : List Cond := [Cond.selects RX1 yX1_loosenBy yX1_loosenBy, Cond.code yX1_loosenBy cX1_loosenBy 3 none, Cond.methodLink RX1 93 yX1_isSettledByEmptiness, Cond.instanceMethod yX1_isSettledByEmptiness, Cond.selects RX1 yX1_isSettledByEmptiness yX1_isSettledByEmptiness, Cond.code yX1_isSettledByEmptiness cX1_isSettledByEmptiness 3 (some .boolean), Cond.methodLink RX1 90 yX1_close, Cond.instanceMethod yX1_close, Cond.selects RX1 yX1_close yX1_close, Cond.code yX1_close cX1_close 4 none, Cond.methodLink RX3 78 yX1_stretchOver, Cond.instanceMethod yX1_stretchOver, Cond.selects RX1 yX1_stretchOver yX1_stretchOver, Cond.code yX1_stretchOver cX1_stretchOver 3 none]
def wsX3_follow : List Cond := .code yX3_follow cX3_follow 4 (some .boolean) :: ((wsX3_follow_r1 ++ (wsX3_follow_r2 ++ (wsX3_follow_r3 ++ (wsX3_follow_r4 ++ (wsX3_follow_r5 ++ (wsX3_follow_r6 ++ (wsX3_follow_r7 ++ wsX3_follow_r8))))))) ++ wsX30 ++ wsX20 ++ wsX10 ++ wsX00)
def wsX3_keepReached : List Cond := .code yX3_keepReached cX3_keepReached 2 none :: ([.fieldLink RX3 22 "OctagonDesk" "left" "[LOctagonDesk$Shape;", .fieldLink RX3 25 "OctagonDesk" "reached" "[LOctagonDesk$Shape;"] ++ wsX30)
def wsX3_run_r1 : List Cond := [Cond.fieldLink RX3 25 "OctagonDesk" "reached" "[LOctagonDesk$Shape;", Cond.fieldLink RX3 63 "OctagonDesk$Shape" "empty" "Z", Cond.fieldLink RX3 13 "OctagonDesk" "slots" "[LOctagonDesk$Shape;", Cond.fieldLink RX3 37 "OctagonDesk" "stepCount" "I", Cond.fieldLink RX3 43 "OctagonDesk" "steps" "[LOctagonDesk$Step;", Cond.methodLink RX3 48 yX3_requireSlot, Cond.static yX3_requireSlot, Cond.initialized RX3, Cond.code yX3_requireSlot cX3_requireSlot 1 none, Cond.classLink RX3 126 "java/lang/IllegalArgumentException", Cond.initialized "java/lang/IllegalArgumentException", Cond.methodLink RX3 67 yX1_takeOver, Cond.instanceMethod yX1_takeOver, Cond.selects RX1 yX1_takeOver yX1_takeOver, Cond.initialized RX1, Cond.code yX1_takeOver cX1_takeOver 2 none, Cond.fieldLink RX1 16 "OctagonDesk$Shape" "numbers" "LOctagonDesk$Numbers;", Cond.fieldLink RX1 20 "OctagonDesk$Shape" "empty" "Z", Cond.methodLink RX1 27 yX0_takeOver, Cond.instanceMethod yX0_takeOver, Cond.selects RX0 yX0_takeOver yX0_takeOver, Cond.initialized RX0, Cond.code yX0_takeOver cX0_takeOver 2 none, Cond.fieldLink RX0 18 "OctagonDesk$Numbers" "limbs" "[J"]
def wsX3_run_r2 : List Cond := [Cond.methodLink RX0 33 arraycopyName, Cond.native arraycopyName, Cond.static arraycopyName, Cond.initialized "java/lang/System", Cond.methodLink RX3 142 yX3_follow, Cond.instanceMethod yX3_follow, Cond.selects RX3 yX3_follow yX3_follow, Cond.code yX3_follow cX3_follow 4 (some .boolean), Cond.fieldLink RX3 194 "OctagonDesk$Step" "to" "I", Cond.fieldLink RX3 29 "OctagonDesk" "made" "LOctagonDesk$Shape;", Cond.fieldLink RX3 197 "OctagonDesk$Step" "from" "I", Cond.fieldLink RX3 200 "OctagonDesk$Step" "kind" "I", Cond.fieldLink RX3 203 "OctagonDesk$Step" "a" "I", Cond.fieldLink RX3 206 "OctagonDesk$Step" "b" "I", Cond.fieldLink RX3 209 "OctagonDesk$Step" "c" "I", Cond.methodLink RX3 56 yX1_makeFrom, Cond.instanceMethod yX1_makeFrom, Cond.selects RX1 yX1_makeFrom yX1_makeFrom, Cond.code yX1_makeFrom cX1_makeFrom 6 none, Cond.methodLink RX1 31 yX1_tell, Cond.instanceMethod yX1_tell, Cond.selects RX1 yX1_tell yX1_tell, Cond.code yX1_tell cX1_tell 10 none, Cond.methodLink RX1 71 yX1_oldTerm]
def wsX3_run_r3 : List Cond := [Cond.static yX1_oldTerm, Cond.code yX1_oldTerm cX1_oldTerm 3 (some .int), Cond.static yX3_negation, Cond.code yX3_negation cX3_negation 1 (some .int), Cond.methodLink RX1 75 yX1_moreOf, Cond.static yX1_moreOf, Cond.code yX1_moreOf cX1_moreOf 3 (some .int), Cond.methodLink RX1 50 yX1_cell, Cond.static yX1_cell, Cond.code yX1_cell cX1_cell 2 (some .int), Cond.methodLink RX1 78 yX0_putMore, Cond.instanceMethod yX0_putMore, Cond.selects RX0 yX0_putMore yX0_putMore, Cond.code yX0_putMore cX0_putMore 9 none, Cond.fieldLink RX0 22 "OctagonDesk$Numbers" "top" "I", Cond.constantLong RX0 39 (1152921504606846975), Cond.fieldLink RX0 15 "OctagonDesk$Numbers" "cells" "I", Cond.methodLink RX0 41 yX0_isInfinite, Cond.instanceMethod yX0_isInfinite, Cond.selects RX0 yX0_isInfinite yX0_isInfinite, Cond.code yX0_isInfinite cX0_isInfinite 2 (some .boolean), Cond.constantLong RX0 25 (9223372036854775807), Cond.methodLink RX0 45 yX0_setInfinite, Cond.instanceMethod yX0_setInfinite]
def wsX3_run_r4 : List Cond := [Cond.selects RX0 yX0_setInfinite yX0_setInfinite, Cond.code yX0_setInfinite cX0_setInfinite 3 none, Cond.methodLink RX1 35 yX1_takeOver, Cond.methodLink RX1 38 yX0_set, Cond.instanceMethod yX0_set, Cond.selects RX0 yX0_set yX0_set, Cond.code yX0_set cX0_set 7 none, Cond.methodLink RX1 42 yX1_holdToSpare, Cond.instanceMethod yX1_holdToSpare, Cond.selects RX1 yX1_holdToSpare yX1_holdToSpare, Cond.code yX1_holdToSpare cX1_holdToSpare 3 none, Cond.methodLink RX1 57 yX0_isLess, Cond.instanceMethod yX0_isLess, Cond.selects RX0 yX0_isLess yX0_isLess, Cond.code yX0_isLess cX0_isLess 9 (some .boolean), Cond.methodLink RX1 61 yX0_put, Cond.instanceMethod yX0_put, Cond.selects RX0 yX0_put yX0_put, Cond.code yX0_put cX0_put 5 none, Cond.methodLink RX1 65 yX1_passThrough, Cond.instanceMethod yX1_passThrough, Cond.selects RX1 yX1_passThrough yX1_passThrough, Cond.code yX1_passThrough cX1_passThrough 5 none, Cond.methodLink RX1 111 yX0_putSum]
def wsX3_run_r5 : List Cond := [Cond.instanceMethod yX0_putSum, Cond.selects RX0 yX0_putSum yX0_putSum, Cond.code yX0_putSum cX0_putSum 8 none, Cond.methodLink RX1 115 yX0_isNegative, Cond.instanceMethod yX0_isNegative, Cond.selects RX0 yX0_isNegative yX0_isNegative, Cond.code yX0_isNegative cX0_isNegative 2 (some .boolean), Cond.methodLink RX1 104 yX0_isInfinite, Cond.methodLink RX1 118 yX0_lower, Cond.instanceMethod yX0_lower, Cond.selects RX0 yX0_lower yX0_lower, Cond.code yX0_lower cX0_lower 4 none, Cond.fieldLink RX0 11 "OctagonDesk$Numbers" "sum" "I", Cond.methodLink RX0 49 yX0_putSum, Cond.methodLink RX0 53 yX0_isLess, Cond.methodLink RX0 57 yX0_put, Cond.methodLink RX1 68 yX1_combineSingles, Cond.instanceMethod yX1_combineSingles, Cond.selects RX1 yX1_combineSingles yX1_combineSingles, Cond.code yX1_combineSingles cX1_combineSingles 3 none, Cond.methodLink RX1 101 yX0_putHalf, Cond.instanceMethod yX0_putHalf, Cond.selects RX0 yX0_putHalf yX0_putHalf, Cond.code yX0_putHalf cX0_putHalf 8 none]
def wsX3_run_r6 : List Cond := [Cond.methodLink RX1 121 yX1_findContradiction, Cond.instanceMethod yX1_findContradiction, Cond.selects RX1 yX1_findContradiction yX1_findContradiction, Cond.code yX1_findContradiction cX1_findContradiction 2 none, Cond.methodLink RX1 46 yX1_scatter, Cond.instanceMethod yX1_scatter, Cond.selects RX1 yX1_scatter yX1_scatter, Cond.code yX1_scatter cX1_scatter 6 none, Cond.constantLong RX1 86 (2), Cond.constantLong RX1 88 (-2), Cond.methodLink RX1 24 yX1_release, Cond.instanceMethod yX1_release, Cond.selects RX1 yX1_release yX1_release, Cond.code yX1_release cX1_release 4 none, Cond.methodLink RX1 54 yX0_setInfinite, Cond.methodLink RX3 112 yX3_makeRoom, Cond.instanceMethod yX3_makeRoom, Cond.selects RX3 yX3_makeRoom yX3_makeRoom, Cond.code yX3_makeRoom cX3_makeRoom 2 none, Cond.fieldLink RX3 178 "OctagonDesk$Shape" "numbers" "LOctagonDesk$Numbers;", Cond.fieldLink RX3 22 "OctagonDesk" "left" "[LOctagonDesk$Shape;", Cond.methodLink RX3 182 yX0_isCrowded, Cond.instanceMethod yX0_isCrowded, Cond.selects RX0 yX0_isCrowded yX0_isCrowded]
def wsX3_run_r7 : List Cond := [Cond.code yX0_isCrowded cX0_isCrowded 4 (some .boolean), Cond.constantLong RX0 61 (18014398509481984), Cond.constantLong RX0 63 (-18014398509481984), Cond.methodLink RX3 187 yX3_growAll, Cond.static yX3_growAll, Cond.code yX3_growAll cX3_growAll 2 none, Cond.methodLink RX3 191 yX0_growTwofold, Cond.instanceMethod yX0_growTwofold, Cond.selects RX0 yX0_growTwofold yX0_growTwofold, Cond.code yX0_growTwofold cX0_growTwofold 3 none, Cond.methodLink RX0 65 yJ7_copyOf_c38d5, Cond.static yJ7_copyOf_c38d5, Cond.initialized RJ7, Cond.code yJ7_copyOf_c38d5 cJ7_copyOf_c38d5 3 (some (.array .long)), Cond.methodLink RJ7 319 ⟨"[J", "clone", "()Ljava/lang/Object;"⟩, Cond.sameMethod "[J" "java/lang/Object" "clone" "()Ljava/lang/Object;", Cond.native ⟨"java/lang/Object", "clone", "()Ljava/lang/Object;"⟩, Cond.instanceMethod ⟨"java/lang/Object", "clone", "()Ljava/lang/Object;"⟩, Cond.selects "[J" ⟨"[J", "clone", "()Ljava/lang/Object;"⟩ ⟨"java/lang/Object", "clone", "()Ljava/lang/Object;"⟩, Cond.classLink RJ7 320 "[J", Cond.arrayClass .long, Cond.methodLink RJ7 304 Lib.Math.min.name, Cond.static Lib.Math.min.name, Cond.initialized "java/lang/Math"]
def wsX3_run_r8 : List Cond := [Cond.code Lib.Math.min.name Lib.Math.min.code 2 (some .int), Cond.methodLink RJ7 150 arraycopyName, Cond.methodLink RX0 71 yX0_extend, Cond.instanceMethod yX0_extend, Cond.selects RX0 yX0_extend yX0_extend, Cond.code yX0_extend cX0_extend 6 none, Cond.methodLink RX3 101 yX1_isWithin, Cond.instanceMethod yX1_isWithin, Cond.selects RX1 yX1_isWithin yX1_isWithin, Cond.code yX1_isWithin cX1_isWithin 3 (some .boolean), Cond.methodLink RX3 81 yX1_loosenBy, Cond.instanceMethod yX1_loosenBy, Cond.selects RX1 yX1_loosenBy yX1_loosenBy, Cond.code yX1_loosenBy cX1_loosenBy 3 none, Cond.methodLink RX1 93 yX1_isSettledByEmptiness, Cond.instanceMethod yX1_isSettledByEmptiness, Cond.selects RX1 yX1_isSettledByEmptiness yX1_isSettledByEmptiness, Cond.code yX1_isSettledByEmptiness cX1_isSettledByEmptiness 3 (some .boolean), Cond.methodLink RX1 90 yX1_close, Cond.instanceMethod yX1_close, Cond.selects RX1 yX1_close yX1_close, Cond.code yX1_close cX1_close 4 none, Cond.methodLink RX3 78 yX1_stretchOver, Cond.instanceMethod yX1_stretchOver]
def wsX3_run_r9 : List Cond := [Cond.selects RX1 yX1_stretchOver yX1_stretchOver, Cond.code yX1_stretchOver cX1_stretchOver 3 none, Cond.methodLink RX3 146 yX3_keepReached, Cond.instanceMethod yX3_keepReached, Cond.selects RX3 yX3_keepReached yX3_keepReached, Cond.code yX3_keepReached cX3_keepReached 2 none]
def wsX3_run : List Cond := .code yX3_run cX3_run 5 (some .int) :: ((wsX3_run_r1 ++ (wsX3_run_r2 ++ (wsX3_run_r3 ++ (wsX3_run_r4 ++ (wsX3_run_r5 ++ (wsX3_run_r6 ++ (wsX3_run_r7 ++ (wsX3_run_r8 ++ wsX3_run_r9)))))))) ++ wsX30 ++ wsX10 ++ wsX00 ++ wsX20 ++ (vx_atS RX3 130 "java/lang/IllegalArgumentException" ["java/lang/RuntimeException", "java/lang/Exception"]).filter goodWord)
def wsX3_take_r1 : List Cond := [Cond.classLink RX3 126 "java/lang/IllegalArgumentException", Cond.initialized "java/lang/IllegalArgumentException", Cond.fieldLink RX3 13 "OctagonDesk" "slots" "[LOctagonDesk$Shape;", Cond.fieldLink RX3 22 "OctagonDesk" "left" "[LOctagonDesk$Shape;", Cond.fieldLink RX3 63 "OctagonDesk$Shape" "empty" "Z", Cond.methodLink RX3 48 yX3_requireSlot, Cond.static yX3_requireSlot, Cond.initialized RX3, Cond.code yX3_requireSlot cX3_requireSlot 1 none, Cond.methodLink RX3 67 yX1_takeOver, Cond.instanceMethod yX1_takeOver, Cond.selects RX1 yX1_takeOver yX1_takeOver, Cond.initialized RX1, Cond.code yX1_takeOver cX1_takeOver 2 none, Cond.fieldLink RX1 16 "OctagonDesk$Shape" "numbers" "LOctagonDesk$Numbers;", Cond.fieldLink RX1 20 "OctagonDesk$Shape" "empty" "Z", Cond.methodLink RX1 27 yX0_takeOver, Cond.instanceMethod yX0_takeOver, Cond.selects RX0 yX0_takeOver yX0_takeOver, Cond.initialized RX0, Cond.code yX0_takeOver cX0_takeOver 2 none, Cond.fieldLink RX0 18 "OctagonDesk$Numbers" "limbs" "[J", Cond.methodLink RX0 33 arraycopyName, Cond.native arraycopyName]
def wsX3_take_r2 : List Cond := [Cond.static arraycopyName, Cond.initialized "java/lang/System"]
def wsX3_take : List Cond := .code yX3_take cX3_take 3 (some .boolean) :: ((wsX3_take_r1 ++ wsX3_take_r2) ++ wsX30 ++ wsX10 ++ wsX00 ++ (vx_atS RX3 130 "java/lang/IllegalArgumentException" ["java/lang/RuntimeException", "java/lang/Exception"]).filter goodWord)
def wsX4_init : List Cond := .code yX4_init cX4_init 2 none :: ([.methodLink RX4 1 objectInit, .instanceMethod objectInit, .code objectInit ⟨#[0xb1]⟩ 1 none, .arrayClass .long, .fieldLink RX4 7 "OctagonDeskModel" "bound" "[J", .arrayClass .boolean, .fieldLink RX4 13 "OctagonDeskModel" "isVoid" "[Z", .arrayClass .int, .fieldLink RX4 17 "OctagonDeskModel" "fromPoint" "[I", .fieldLink RX4 21 "OctagonDeskModel" "toPoint" "[I", .fieldLink RX4 24 "OctagonDeskModel" "kinds" "[I", .fieldLink RX4 27 "OctagonDeskModel" "firsts" "[I", .fieldLink RX4 30 "OctagonDeskModel" "seconds" "[I", .fieldLink RX4 33 "OctagonDeskModel" "thirds" "[I", .fieldLink RX4 36 "OctagonDeskModel" "low" "[J", .fieldLink RX4 39 "OctagonDeskModel" "high" "[J", .fieldLink RX4 42 "OctagonDeskModel" "value" "[J", .constantLong RX4 45 (9223372036854775807)] ++ wsX40)
def wsX4_thrown : List Cond := .code yX4_thrown cX4_thrown 1 (some .int) :: ([.fieldLink RX4 47 "OctagonDeskModel" "fault" "I"] ++ wsX40)
def wsX4_refused : List Cond := .code yX4_refused cX4_refused 2 (some .boolean) :: ([.fieldLink RX4 47 "OctagonDeskModel" "fault" "I"] ++ wsX40)
def wsX4_isIn : List Cond := .code yX4_isIn cX4_isIn 3 (some .boolean) :: ([])
def wsX4_isSlot : List Cond := .code yX4_isSlot cX4_isSlot 1 (some .boolean) :: ([.methodLink RX4 51 yX4_isIn, .static yX4_isIn, .initialized RX4, .code yX4_isIn cX4_isIn 3 (some .boolean)])
def wsX4_isTerm : List Cond := .code yX4_isTerm cX4_isTerm 1 (some .boolean) :: ([.methodLink RX4 51 yX4_isIn, .static yX4_isIn, .initialized RX4, .code yX4_isIn cX4_isIn 3 (some .boolean)])
def wsX4_isNumber : List Cond := .code yX4_isNumber cX4_isNumber 1 (some .boolean) :: ([.constant RX4 55 (-1000000), .constant RX4 56 (1000000), .methodLink RX4 51 yX4_isIn, .static yX4_isIn, .initialized RX4, .code yX4_isIn cX4_isIn 3 (some .boolean)])
def wsX4_minus : List Cond := .code yX4_minus cX4_minus 1 (some .int) :: ([])
def wsX4_sum : List Cond := .code yX4_sum cX4_sum 4 (some .long) :: ([.constantLong RX4 45 (9223372036854775807)])
def wsX4_get : List Cond := .code yX4_get cX4_get 4 (some .long) :: ([.fieldLink RX4 7 "OctagonDeskModel" "bound" "[J"] ++ wsX40)
def wsX4_set : List Cond := .code yX4_set cX4_set 6 none :: ([.fieldLink RX4 7 "OctagonDeskModel" "bound" "[J"] ++ wsX40)
def wsX4_sumOf : List Cond := .code yX4_sumOf cX4_sumOf 6 (some .long) :: ([.methodLink RX4 57 yX4_minus, .static yX4_minus, .initialized RX4, .code yX4_minus cX4_minus 1 (some .int), .methodLink RX4 61 yX4_get, .instanceMethod yX4_get, .selects RX4 yX4_get yX4_get, .code yX4_get cX4_get 4 (some .long), .fieldLink RX4 7 "OctagonDeskModel" "bound" "[J", .methodLink RX4 65 yX4_sum, .static yX4_sum, .code yX4_sum cX4_sum 4 (some .long), .constantLong RX4 45 (9223372036854775807)] ++ wsX40)
def wsX4_lessen : List Cond := .code yX4_lessen cX4_lessen 8 (some .boolean) :: ([.constantLong RX4 45 (9223372036854775807), .fieldLink RX4 13 "OctagonDeskModel" "isVoid" "[Z", .methodLink RX4 57 yX4_minus, .static yX4_minus, .initialized RX4, .code yX4_minus cX4_minus 1 (some .int), .methodLink RX4 61 yX4_get, .instanceMethod yX4_get, .selects RX4 yX4_get yX4_get, .code yX4_get cX4_get 4 (some .long), .fieldLink RX4 7 "OctagonDeskModel" "bound" "[J", .methodLink RX4 69 yX4_set, .instanceMethod yX4_set, .selects RX4 yX4_set yX4_set, .code yX4_set cX4_set 6 none] ++ wsX40)
def wsX4_close_r1 : List Cond := [Cond.fieldLink RX4 13 "OctagonDeskModel" "isVoid" "[Z", Cond.methodLink RX4 61 yX4_get, Cond.instanceMethod yX4_get, Cond.selects RX4 yX4_get yX4_get, Cond.initialized RX4, Cond.code yX4_get cX4_get 4 (some .long), Cond.fieldLink RX4 7 "OctagonDeskModel" "bound" "[J", Cond.methodLink RX4 65 yX4_sum, Cond.static yX4_sum, Cond.code yX4_sum cX4_sum 4 (some .long), Cond.constantLong RX4 45 (9223372036854775807), Cond.methodLink RX4 73 yX4_lessen, Cond.instanceMethod yX4_lessen, Cond.selects RX4 yX4_lessen yX4_lessen, Cond.code yX4_lessen cX4_lessen 8 (some .boolean), Cond.methodLink RX4 57 yX4_minus, Cond.static yX4_minus, Cond.code yX4_minus cX4_minus 1 (some .int), Cond.methodLink RX4 69 yX4_set, Cond.instanceMethod yX4_set, Cond.selects RX4 yX4_set yX4_set, Cond.code yX4_set cX4_set 6 none, Cond.methodLink RX4 77 yX4_sumOf, Cond.instanceMethod yX4_sumOf]
def wsX4_close_r2 : List Cond := [Cond.selects RX4 yX4_sumOf yX4_sumOf, Cond.code yX4_sumOf cX4_sumOf 6 (some .long)]
def wsX4_close : List Cond := .code yX4_close cX4_close 8 none :: ((wsX4_close_r1 ++ wsX4_close_r2) ++ wsX40)
def wsX4_load : List Cond := .code yX4_load cX4_load 4 none :: ([.fieldLink RX4 7 "OctagonDeskModel" "bound" "[J", .fieldLink RX4 13 "OctagonDeskModel" "isVoid" "[Z"] ++ wsX40)
def wsX4_all : List Cond := .code yX4_all cX4_all 3 none :: ([.fieldLink RX4 7 "OctagonDeskModel" "bound" "[J", .constantLong RX4 45 (9223372036854775807), .fieldLink RX4 13 "OctagonDeskModel" "isVoid" "[Z"] ++ wsX40)
def wsX4_drop : List Cond := .code yX4_drop cX4_drop 4 none :: ([.constantLong RX4 45 (9223372036854775807), .methodLink RX4 69 yX4_set, .instanceMethod yX4_set, .selects RX4 yX4_set yX4_set, .initialized RX4, .code yX4_set cX4_set 6 none, .fieldLink RX4 7 "OctagonDeskModel" "bound" "[J"] ++ wsX40)
def wsX4_isAction : List Cond := .code yX4_isAction cX4_isAction 4 (some .boolean) :: ([.methodLink RX4 80 yX4_isNumber, .static yX4_isNumber, .initialized RX4, .code yX4_isNumber cX4_isNumber 1 (some .boolean), .constant RX4 55 (-1000000), .constant RX4 56 (1000000), .methodLink RX4 51 yX4_isIn, .static yX4_isIn, .code yX4_isIn cX4_isIn 3 (some .boolean), .methodLink RX4 84 yX4_isTerm, .static yX4_isTerm, .code yX4_isTerm cX4_isTerm 1 (some .boolean), .methodLink RX4 57 yX4_minus, .static yX4_minus, .code yX4_minus cX4_minus 1 (some .int)])
def wsX4_shift : List Cond := .code yX4_shift cX4_shift 10 none :: ([.methodLink RX4 87 yX4_load, .instanceMethod yX4_load, .selects RX4 yX4_load yX4_load, .initialized RX4, .code yX4_load cX4_load 4 none, .fieldLink RX4 7 "OctagonDeskModel" "bound" "[J", .fieldLink RX4 13 "OctagonDeskModel" "isVoid" "[Z", .methodLink RX4 61 yX4_get, .instanceMethod yX4_get, .selects RX4 yX4_get yX4_get, .code yX4_get cX4_get 4 (some .long), .methodLink RX4 65 yX4_sum, .static yX4_sum, .code yX4_sum cX4_sum 4 (some .long), .constantLong RX4 45 (9223372036854775807), .methodLink RX4 69 yX4_set, .instanceMethod yX4_set, .selects RX4 yX4_set yX4_set, .code yX4_set cX4_set 6 none, .methodLink RX4 57 yX4_minus, .static yX4_minus, .code yX4_minus cX4_minus 1 (some .int)] ++ wsX40)
def wsX4_make_r1 : List Cond := [Cond.fieldLink RX4 13 "OctagonDeskModel" "isVoid" "[Z", Cond.methodLink RX4 61 yX4_get, Cond.instanceMethod yX4_get, Cond.selects RX4 yX4_get yX4_get, Cond.initialized RX4, Cond.code yX4_get cX4_get 4 (some .long), Cond.fieldLink RX4 7 "OctagonDeskModel" "bound" "[J", Cond.methodLink RX4 69 yX4_set, Cond.instanceMethod yX4_set, Cond.selects RX4 yX4_set yX4_set, Cond.code yX4_set cX4_set 6 none, Cond.methodLink RX4 91 yX4_shift, Cond.instanceMethod yX4_shift, Cond.selects RX4 yX4_shift yX4_shift, Cond.code yX4_shift cX4_shift 10 none, Cond.methodLink RX4 87 yX4_load, Cond.instanceMethod yX4_load, Cond.selects RX4 yX4_load yX4_load, Cond.code yX4_load cX4_load 4 none, Cond.methodLink RX4 65 yX4_sum, Cond.static yX4_sum, Cond.code yX4_sum cX4_sum 4 (some .long), Cond.constantLong RX4 45 (9223372036854775807), Cond.methodLink RX4 57 yX4_minus]
def wsX4_make_r2 : List Cond := [Cond.static yX4_minus, Cond.code yX4_minus cX4_minus 1 (some .int), Cond.methodLink RX4 94 yX4_drop, Cond.instanceMethod yX4_drop, Cond.selects RX4 yX4_drop yX4_drop, Cond.code yX4_drop cX4_drop 4 none, Cond.methodLink RX4 97 yX4_close, Cond.instanceMethod yX4_close, Cond.selects RX4 yX4_close yX4_close, Cond.code yX4_close cX4_close 8 none, Cond.methodLink RX4 73 yX4_lessen, Cond.instanceMethod yX4_lessen, Cond.selects RX4 yX4_lessen yX4_lessen, Cond.code yX4_lessen cX4_lessen 8 (some .boolean), Cond.methodLink RX4 77 yX4_sumOf, Cond.instanceMethod yX4_sumOf, Cond.selects RX4 yX4_sumOf yX4_sumOf, Cond.code yX4_sumOf cX4_sumOf 6 (some .long)]
def wsX4_make : List Cond := .code yX4_make cX4_make 6 none :: ((wsX4_make_r1 ++ wsX4_make_r2) ++ wsX40)
def wsX4_act_r1 : List Cond := [Cond.fieldLink RX4 13 "OctagonDeskModel" "isVoid" "[Z", Cond.methodLink RX4 101 yX4_isSlot, Cond.static yX4_isSlot, Cond.initialized RX4, Cond.code yX4_isSlot cX4_isSlot 1 (some .boolean), Cond.methodLink RX4 51 yX4_isIn, Cond.static yX4_isIn, Cond.code yX4_isIn cX4_isIn 3 (some .boolean), Cond.methodLink RX4 104 yX4_isAction, Cond.static yX4_isAction, Cond.code yX4_isAction cX4_isAction 4 (some .boolean), Cond.methodLink RX4 80 yX4_isNumber, Cond.static yX4_isNumber, Cond.code yX4_isNumber cX4_isNumber 1 (some .boolean), Cond.constant RX4 55 (-1000000), Cond.constant RX4 56 (1000000), Cond.methodLink RX4 84 yX4_isTerm, Cond.static yX4_isTerm, Cond.code yX4_isTerm cX4_isTerm 1 (some .boolean), Cond.methodLink RX4 57 yX4_minus, Cond.static yX4_minus, Cond.code yX4_minus cX4_minus 1 (some .int), Cond.methodLink RX4 108 yX4_refused, Cond.instanceMethod yX4_refused]
def wsX4_act_r2 : List Cond := [Cond.selects RX4 yX4_refused yX4_refused, Cond.code yX4_refused cX4_refused 2 (some .boolean), Cond.fieldLink RX4 47 "OctagonDeskModel" "fault" "I", Cond.methodLink RX4 111 yX4_make, Cond.instanceMethod yX4_make, Cond.selects RX4 yX4_make yX4_make, Cond.code yX4_make cX4_make 6 none, Cond.methodLink RX4 61 yX4_get, Cond.instanceMethod yX4_get, Cond.selects RX4 yX4_get yX4_get, Cond.code yX4_get cX4_get 4 (some .long), Cond.fieldLink RX4 7 "OctagonDeskModel" "bound" "[J", Cond.methodLink RX4 69 yX4_set, Cond.instanceMethod yX4_set, Cond.selects RX4 yX4_set yX4_set, Cond.code yX4_set cX4_set 6 none, Cond.methodLink RX4 91 yX4_shift, Cond.instanceMethod yX4_shift, Cond.selects RX4 yX4_shift yX4_shift, Cond.code yX4_shift cX4_shift 10 none, Cond.methodLink RX4 87 yX4_load, Cond.instanceMethod yX4_load, Cond.selects RX4 yX4_load yX4_load, Cond.code yX4_load cX4_load 4 none]
def wsX4_act_r3 : List Cond := [Cond.methodLink RX4 65 yX4_sum, Cond.static yX4_sum, Cond.code yX4_sum cX4_sum 4 (some .long), Cond.constantLong RX4 45 (9223372036854775807), Cond.methodLink RX4 94 yX4_drop, Cond.instanceMethod yX4_drop, Cond.selects RX4 yX4_drop yX4_drop, Cond.code yX4_drop cX4_drop 4 none, Cond.methodLink RX4 97 yX4_close, Cond.instanceMethod yX4_close, Cond.selects RX4 yX4_close yX4_close, Cond.code yX4_close cX4_close 8 none, Cond.methodLink RX4 73 yX4_lessen, Cond.instanceMethod yX4_lessen, Cond.selects RX4 yX4_lessen yX4_lessen, Cond.code yX4_lessen cX4_lessen 8 (some .boolean), Cond.methodLink RX4 77 yX4_sumOf, Cond.instanceMethod yX4_sumOf, Cond.selects RX4 yX4_sumOf yX4_sumOf, Cond.code yX4_sumOf cX4_sumOf 6 (some .long)]
def wsX4_act : List Cond := .code yX4_act cX4_act 6 (some .boolean) :: ((wsX4_act_r1 ++ (wsX4_act_r2 ++ wsX4_act_r3)) ++ wsX40)
def wsX4_clear : List Cond := .code yX4_clear cX4_clear 2 none :: ([.methodLink RX4 101 yX4_isSlot, .static yX4_isSlot, .initialized RX4, .code yX4_isSlot cX4_isSlot 1 (some .boolean), .methodLink RX4 51 yX4_isIn, .static yX4_isIn, .code yX4_isIn cX4_isIn 3 (some .boolean), .methodLink RX4 108 yX4_refused, .instanceMethod yX4_refused, .selects RX4 yX4_refused yX4_refused, .code yX4_refused cX4_refused 2 (some .boolean), .fieldLink RX4 47 "OctagonDeskModel" "fault" "I", .methodLink RX4 115 yX4_all, .instanceMethod yX4_all, .selects RX4 yX4_all yX4_all, .code yX4_all cX4_all 3 none, .fieldLink RX4 7 "OctagonDeskModel" "bound" "[J", .constantLong RX4 45 (9223372036854775807), .fieldLink RX4 13 "OctagonDeskModel" "isVoid" "[Z"] ++ wsX40)
def wsX4_copy : List Cond := .code yX4_copy cX4_copy 3 none :: ([.methodLink RX4 101 yX4_isSlot, .static yX4_isSlot, .initialized RX4, .code yX4_isSlot cX4_isSlot 1 (some .boolean), .methodLink RX4 51 yX4_isIn, .static yX4_isIn, .code yX4_isIn cX4_isIn 3 (some .boolean), .methodLink RX4 108 yX4_refused, .instanceMethod yX4_refused, .selects RX4 yX4_refused yX4_refused, .code yX4_refused cX4_refused 2 (some .boolean), .fieldLink RX4 47 "OctagonDeskModel" "fault" "I", .methodLink RX4 87 yX4_load, .instanceMethod yX4_load, .selects RX4 yX4_load yX4_load, .code yX4_load cX4_load 4 none, .fieldLink RX4 7 "OctagonDeskModel" "bound" "[J", .fieldLink RX4 13 "OctagonDeskModel" "isVoid" "[Z"] ++ wsX40)
def wsX4_areSlots : List Cond := .code yX4_areSlots cX4_areSlots 3 (some .boolean) :: ([.methodLink RX4 101 yX4_isSlot, .static yX4_isSlot, .initialized RX4, .code yX4_isSlot cX4_isSlot 1 (some .boolean), .methodLink RX4 51 yX4_isIn, .static yX4_isIn, .code yX4_isIn cX4_isIn 3 (some .boolean)])
def wsX4_meet_r1 : List Cond := [Cond.fieldLink RX4 7 "OctagonDeskModel" "bound" "[J", Cond.fieldLink RX4 13 "OctagonDeskModel" "isVoid" "[Z", Cond.methodLink RX4 118 yX4_areSlots, Cond.static yX4_areSlots, Cond.initialized RX4, Cond.code yX4_areSlots cX4_areSlots 3 (some .boolean), Cond.methodLink RX4 101 yX4_isSlot, Cond.static yX4_isSlot, Cond.code yX4_isSlot cX4_isSlot 1 (some .boolean), Cond.methodLink RX4 51 yX4_isIn, Cond.static yX4_isIn, Cond.code yX4_isIn cX4_isIn 3 (some .boolean), Cond.methodLink RX4 108 yX4_refused, Cond.instanceMethod yX4_refused, Cond.selects RX4 yX4_refused yX4_refused, Cond.code yX4_refused cX4_refused 2 (some .boolean), Cond.fieldLink RX4 47 "OctagonDeskModel" "fault" "I", Cond.methodLink RX4 87 yX4_load, Cond.instanceMethod yX4_load, Cond.selects RX4 yX4_load yX4_load, Cond.code yX4_load cX4_load 4 none, Cond.methodLink RX4 97 yX4_close, Cond.instanceMethod yX4_close, Cond.selects RX4 yX4_close yX4_close]
def wsX4_meet_r2 : List Cond := [Cond.code yX4_close cX4_close 8 none, Cond.methodLink RX4 61 yX4_get, Cond.instanceMethod yX4_get, Cond.selects RX4 yX4_get yX4_get, Cond.code yX4_get cX4_get 4 (some .long), Cond.methodLink RX4 65 yX4_sum, Cond.static yX4_sum, Cond.code yX4_sum cX4_sum 4 (some .long), Cond.constantLong RX4 45 (9223372036854775807), Cond.methodLink RX4 73 yX4_lessen, Cond.instanceMethod yX4_lessen, Cond.selects RX4 yX4_lessen yX4_lessen, Cond.code yX4_lessen cX4_lessen 8 (some .boolean), Cond.methodLink RX4 57 yX4_minus, Cond.static yX4_minus, Cond.code yX4_minus cX4_minus 1 (some .int), Cond.methodLink RX4 69 yX4_set, Cond.instanceMethod yX4_set, Cond.selects RX4 yX4_set yX4_set, Cond.code yX4_set cX4_set 6 none, Cond.methodLink RX4 77 yX4_sumOf, Cond.instanceMethod yX4_sumOf, Cond.selects RX4 yX4_sumOf yX4_sumOf, Cond.code yX4_sumOf cX4_sumOf 6 (some .long)]
def wsX4_meet : List Cond := .code yX4_meet cX4_meet 7 (some .boolean) :: ((wsX4_meet_r1 ++ wsX4_meet_r2) ++ wsX40)
def wsX4_joined : List Cond := .code yX4_joined cX4_joined 6 none :: ([.fieldLink RX4 13 "OctagonDeskModel" "isVoid" "[Z", .fieldLink RX4 7 "OctagonDeskModel" "bound" "[J", .methodLink RX4 87 yX4_load, .instanceMethod yX4_load, .selects RX4 yX4_load yX4_load, .initialized RX4, .code yX4_load cX4_load 4 none] ++ wsX40)
def wsX4_join_r1 : List Cond := [Cond.methodLink RX4 118 yX4_areSlots, Cond.static yX4_areSlots, Cond.initialized RX4, Cond.code yX4_areSlots cX4_areSlots 3 (some .boolean), Cond.methodLink RX4 101 yX4_isSlot, Cond.static yX4_isSlot, Cond.code yX4_isSlot cX4_isSlot 1 (some .boolean), Cond.methodLink RX4 51 yX4_isIn, Cond.static yX4_isIn, Cond.code yX4_isIn cX4_isIn 3 (some .boolean), Cond.methodLink RX4 108 yX4_refused, Cond.instanceMethod yX4_refused, Cond.selects RX4 yX4_refused yX4_refused, Cond.code yX4_refused cX4_refused 2 (some .boolean), Cond.fieldLink RX4 47 "OctagonDeskModel" "fault" "I", Cond.methodLink RX4 121 yX4_joined, Cond.instanceMethod yX4_joined, Cond.selects RX4 yX4_joined yX4_joined, Cond.code yX4_joined cX4_joined 6 none, Cond.fieldLink RX4 13 "OctagonDeskModel" "isVoid" "[Z", Cond.fieldLink RX4 7 "OctagonDeskModel" "bound" "[J", Cond.methodLink RX4 87 yX4_load, Cond.instanceMethod yX4_load, Cond.selects RX4 yX4_load yX4_load]
def wsX4_join_r2 : List Cond := [Cond.code yX4_load cX4_load 4 none]
def wsX4_join : List Cond := .code yX4_join cX4_join 4 none :: ((wsX4_join_r1 ++ wsX4_join_r2) ++ wsX40)
def wsX4_widened_r1 : List Cond := [Cond.fieldLink RX4 13 "OctagonDeskModel" "isVoid" "[Z", Cond.fieldLink RX4 7 "OctagonDeskModel" "bound" "[J", Cond.constantLong RX4 45 (9223372036854775807), Cond.methodLink RX4 87 yX4_load, Cond.instanceMethod yX4_load, Cond.selects RX4 yX4_load yX4_load, Cond.initialized RX4, Cond.code yX4_load cX4_load 4 none, Cond.methodLink RX4 97 yX4_close, Cond.instanceMethod yX4_close, Cond.selects RX4 yX4_close yX4_close, Cond.code yX4_close cX4_close 8 none, Cond.methodLink RX4 61 yX4_get, Cond.instanceMethod yX4_get, Cond.selects RX4 yX4_get yX4_get, Cond.code yX4_get cX4_get 4 (some .long), Cond.methodLink RX4 65 yX4_sum, Cond.static yX4_sum, Cond.code yX4_sum cX4_sum 4 (some .long), Cond.methodLink RX4 73 yX4_lessen, Cond.instanceMethod yX4_lessen, Cond.selects RX4 yX4_lessen yX4_lessen, Cond.code yX4_lessen cX4_lessen 8 (some .boolean), Cond.methodLink RX4 57 yX4_minus]
def wsX4_widened_r2 : List Cond := [Cond.static yX4_minus, Cond.code yX4_minus cX4_minus 1 (some .int), Cond.methodLink RX4 69 yX4_set, Cond.instanceMethod yX4_set, Cond.selects RX4 yX4_set yX4_set, Cond.code yX4_set cX4_set 6 none, Cond.methodLink RX4 77 yX4_sumOf, Cond.instanceMethod yX4_sumOf, Cond.selects RX4 yX4_sumOf yX4_sumOf, Cond.code yX4_sumOf cX4_sumOf 6 (some .long)]
def wsX4_widened : List Cond := .code yX4_widened cX4_widened 5 none :: ((wsX4_widened_r1 ++ wsX4_widened_r2) ++ wsX40)
def wsX4_widen_r1 : List Cond := [Cond.methodLink RX4 118 yX4_areSlots, Cond.static yX4_areSlots, Cond.initialized RX4, Cond.code yX4_areSlots cX4_areSlots 3 (some .boolean), Cond.methodLink RX4 101 yX4_isSlot, Cond.static yX4_isSlot, Cond.code yX4_isSlot cX4_isSlot 1 (some .boolean), Cond.methodLink RX4 51 yX4_isIn, Cond.static yX4_isIn, Cond.code yX4_isIn cX4_isIn 3 (some .boolean), Cond.methodLink RX4 108 yX4_refused, Cond.instanceMethod yX4_refused, Cond.selects RX4 yX4_refused yX4_refused, Cond.code yX4_refused cX4_refused 2 (some .boolean), Cond.fieldLink RX4 47 "OctagonDeskModel" "fault" "I", Cond.methodLink RX4 124 yX4_widened, Cond.instanceMethod yX4_widened, Cond.selects RX4 yX4_widened yX4_widened, Cond.code yX4_widened cX4_widened 5 none, Cond.fieldLink RX4 13 "OctagonDeskModel" "isVoid" "[Z", Cond.fieldLink RX4 7 "OctagonDeskModel" "bound" "[J", Cond.constantLong RX4 45 (9223372036854775807), Cond.methodLink RX4 87 yX4_load, Cond.instanceMethod yX4_load]
def wsX4_widen_r2 : List Cond := [Cond.selects RX4 yX4_load yX4_load, Cond.code yX4_load cX4_load 4 none, Cond.methodLink RX4 97 yX4_close, Cond.instanceMethod yX4_close, Cond.selects RX4 yX4_close yX4_close, Cond.code yX4_close cX4_close 8 none, Cond.methodLink RX4 61 yX4_get, Cond.instanceMethod yX4_get, Cond.selects RX4 yX4_get yX4_get, Cond.code yX4_get cX4_get 4 (some .long), Cond.methodLink RX4 65 yX4_sum, Cond.static yX4_sum, Cond.code yX4_sum cX4_sum 4 (some .long), Cond.methodLink RX4 73 yX4_lessen, Cond.instanceMethod yX4_lessen, Cond.selects RX4 yX4_lessen yX4_lessen, Cond.code yX4_lessen cX4_lessen 8 (some .boolean), Cond.methodLink RX4 57 yX4_minus, Cond.static yX4_minus, Cond.code yX4_minus cX4_minus 1 (some .int), Cond.methodLink RX4 69 yX4_set, Cond.instanceMethod yX4_set, Cond.selects RX4 yX4_set yX4_set, Cond.code yX4_set cX4_set 6 none]
def wsX4_widen_r3 : List Cond := [Cond.methodLink RX4 77 yX4_sumOf, Cond.instanceMethod yX4_sumOf, Cond.selects RX4 yX4_sumOf yX4_sumOf, Cond.code yX4_sumOf cX4_sumOf 6 (some .long)]
def wsX4_widen : List Cond := .code yX4_widen cX4_widen 4 none :: ((wsX4_widen_r1 ++ (wsX4_widen_r2 ++ wsX4_widen_r3)) ++ wsX40)
def wsX4_forget : List Cond := .code yX4_forget cX4_forget 3 none :: ([.methodLink RX4 101 yX4_isSlot, .static yX4_isSlot, .initialized RX4, .code yX4_isSlot cX4_isSlot 1 (some .boolean), .methodLink RX4 51 yX4_isIn, .static yX4_isIn, .code yX4_isIn cX4_isIn 3 (some .boolean), .methodLink RX4 108 yX4_refused, .instanceMethod yX4_refused, .selects RX4 yX4_refused yX4_refused, .code yX4_refused cX4_refused 2 (some .boolean), .fieldLink RX4 47 "OctagonDeskModel" "fault" "I", .methodLink RX4 94 yX4_drop, .instanceMethod yX4_drop, .selects RX4 yX4_drop yX4_drop, .code yX4_drop cX4_drop 4 none, .constantLong RX4 45 (9223372036854775807), .methodLink RX4 69 yX4_set, .instanceMethod yX4_set, .selects RX4 yX4_set yX4_set, .code yX4_set cX4_set 6 none, .fieldLink RX4 7 "OctagonDeskModel" "bound" "[J"] ++ wsX40)
def wsX4_isEmpty : List Cond := .code yX4_isEmpty cX4_isEmpty 2 (some .boolean) :: ([.fieldLink RX4 13 "OctagonDeskModel" "isVoid" "[Z", .methodLink RX4 101 yX4_isSlot, .static yX4_isSlot, .initialized RX4, .code yX4_isSlot cX4_isSlot 1 (some .boolean), .methodLink RX4 51 yX4_isIn, .static yX4_isIn, .code yX4_isIn cX4_isIn 3 (some .boolean), .methodLink RX4 108 yX4_refused, .instanceMethod yX4_refused, .selects RX4 yX4_refused yX4_refused, .code yX4_refused cX4_refused 2 (some .boolean), .fieldLink RX4 47 "OctagonDeskModel" "fault" "I"] ++ wsX40)
def wsX4_most : List Cond := .code yX4_most cX4_most 5 (some .long) :: ([.fieldLink RX4 13 "OctagonDeskModel" "isVoid" "[Z", .methodLink RX4 101 yX4_isSlot, .static yX4_isSlot, .initialized RX4, .code yX4_isSlot cX4_isSlot 1 (some .boolean), .methodLink RX4 51 yX4_isIn, .static yX4_isIn, .code yX4_isIn cX4_isIn 3 (some .boolean), .methodLink RX4 84 yX4_isTerm, .static yX4_isTerm, .code yX4_isTerm cX4_isTerm 1 (some .boolean), .methodLink RX4 57 yX4_minus, .static yX4_minus, .code yX4_minus cX4_minus 1 (some .int), .methodLink RX4 108 yX4_refused, .instanceMethod yX4_refused, .selects RX4 yX4_refused yX4_refused, .code yX4_refused cX4_refused 2 (some .boolean), .fieldLink RX4 47 "OctagonDeskModel" "fault" "I", .methodLink RX4 61 yX4_get, .instanceMethod yX4_get, .selects RX4 yX4_get yX4_get, .code yX4_get cX4_get 4 (some .long), .fieldLink RX4 7 "OctagonDeskModel" "bound" "[J"] ++ wsX40)
def wsX4_isWithin : List Cond := .code yX4_isWithin cX4_isWithin 5 (some .boolean) :: ([.fieldLink RX4 13 "OctagonDeskModel" "isVoid" "[Z", .fieldLink RX4 7 "OctagonDeskModel" "bound" "[J"] ++ wsX40)
def wsX4_inside : List Cond := .code yX4_inside cX4_inside 3 (some .boolean) :: ([.methodLink RX4 101 yX4_isSlot, .static yX4_isSlot, .initialized RX4, .code yX4_isSlot cX4_isSlot 1 (some .boolean), .methodLink RX4 51 yX4_isIn, .static yX4_isIn, .code yX4_isIn cX4_isIn 3 (some .boolean), .methodLink RX4 108 yX4_refused, .instanceMethod yX4_refused, .selects RX4 yX4_refused yX4_refused, .code yX4_refused cX4_refused 2 (some .boolean), .fieldLink RX4 47 "OctagonDeskModel" "fault" "I", .methodLink RX4 127 yX4_isWithin, .instanceMethod yX4_isWithin, .selects RX4 yX4_isWithin yX4_isWithin, .code yX4_isWithin cX4_isWithin 5 (some .boolean), .fieldLink RX4 13 "OctagonDeskModel" "isVoid" "[Z", .fieldLink RX4 7 "OctagonDeskModel" "bound" "[J"] ++ wsX40)
def wsX4_bounds : List Cond := .code yX4_bounds cX4_bounds 5 (some .int) :: ([.fieldLink RX4 13 "OctagonDeskModel" "isVoid" "[Z", .constantLong RX4 45 (9223372036854775807), .methodLink RX4 101 yX4_isSlot, .static yX4_isSlot, .initialized RX4, .code yX4_isSlot cX4_isSlot 1 (some .boolean), .methodLink RX4 51 yX4_isIn, .static yX4_isIn, .code yX4_isIn cX4_isIn 3 (some .boolean), .methodLink RX4 108 yX4_refused, .instanceMethod yX4_refused, .selects RX4 yX4_refused yX4_refused, .code yX4_refused cX4_refused 2 (some .boolean), .fieldLink RX4 47 "OctagonDeskModel" "fault" "I", .methodLink RX4 57 yX4_minus, .static yX4_minus, .code yX4_minus cX4_minus 1 (some .int), .methodLink RX4 61 yX4_get, .instanceMethod yX4_get, .selects RX4 yX4_get yX4_get, .code yX4_get cX4_get 4 (some .long), .fieldLink RX4 7 "OctagonDeskModel" "bound" "[J"] ++ wsX40)
def wsX4_first_r1 : List Cond := [Cond.fieldLink RX4 13 "OctagonDeskModel" "isVoid" "[Z", Cond.constantLong RX4 45 (9223372036854775807), Cond.methodLink RX4 101 yX4_isSlot, Cond.static yX4_isSlot, Cond.initialized RX4, Cond.code yX4_isSlot cX4_isSlot 1 (some .boolean), Cond.methodLink RX4 51 yX4_isIn, Cond.static yX4_isIn, Cond.code yX4_isIn cX4_isIn 3 (some .boolean), Cond.methodLink RX4 108 yX4_refused, Cond.instanceMethod yX4_refused, Cond.selects RX4 yX4_refused yX4_refused, Cond.code yX4_refused cX4_refused 2 (some .boolean), Cond.fieldLink RX4 47 "OctagonDeskModel" "fault" "I", Cond.methodLink RX4 87 yX4_load, Cond.instanceMethod yX4_load, Cond.selects RX4 yX4_load yX4_load, Cond.code yX4_load cX4_load 4 none, Cond.fieldLink RX4 7 "OctagonDeskModel" "bound" "[J", Cond.methodLink RX4 61 yX4_get, Cond.instanceMethod yX4_get, Cond.selects RX4 yX4_get yX4_get, Cond.code yX4_get cX4_get 4 (some .long), Cond.methodLink RX4 69 yX4_set]
def wsX4_first_r2 : List Cond := [Cond.instanceMethod yX4_set, Cond.selects RX4 yX4_set yX4_set, Cond.code yX4_set cX4_set 6 none, Cond.methodLink RX4 97 yX4_close, Cond.instanceMethod yX4_close, Cond.selects RX4 yX4_close yX4_close, Cond.code yX4_close cX4_close 8 none, Cond.methodLink RX4 65 yX4_sum, Cond.static yX4_sum, Cond.code yX4_sum cX4_sum 4 (some .long), Cond.methodLink RX4 73 yX4_lessen, Cond.instanceMethod yX4_lessen, Cond.selects RX4 yX4_lessen yX4_lessen, Cond.code yX4_lessen cX4_lessen 8 (some .boolean), Cond.methodLink RX4 57 yX4_minus, Cond.static yX4_minus, Cond.code yX4_minus cX4_minus 1 (some .int), Cond.methodLink RX4 77 yX4_sumOf, Cond.instanceMethod yX4_sumOf, Cond.selects RX4 yX4_sumOf yX4_sumOf, Cond.code yX4_sumOf cX4_sumOf 6 (some .long)]
def wsX4_first : List Cond := .code yX4_first cX4_first 10 (some .long) :: ((wsX4_first_r1 ++ wsX4_first_r2) ++ wsX40)
def wsX4_holds : List Cond := .code yX4_holds cX4_holds 9 (some .boolean) :: ([.fieldLink RX4 42 "OctagonDeskModel" "value" "[J", .methodLink RX4 57 yX4_minus, .static yX4_minus, .initialized RX4, .code yX4_minus cX4_minus 1 (some .int), .methodLink RX4 61 yX4_get, .instanceMethod yX4_get, .selects RX4 yX4_get yX4_get, .code yX4_get cX4_get 4 (some .long), .fieldLink RX4 7 "OctagonDeskModel" "bound" "[J"] ++ wsX40)
def wsX4_places_r1 : List Cond := [Cond.fieldLink RX4 13 "OctagonDeskModel" "isVoid" "[Z", Cond.constantLong RX4 45 (9223372036854775807), Cond.constantLong RX4 131 (4096), Cond.fieldLink RX4 36 "OctagonDeskModel" "low" "[J", Cond.fieldLink RX4 39 "OctagonDeskModel" "high" "[J", Cond.fieldLink RX4 42 "OctagonDeskModel" "value" "[J", Cond.methodLink RX4 101 yX4_isSlot, Cond.static yX4_isSlot, Cond.initialized RX4, Cond.code yX4_isSlot cX4_isSlot 1 (some .boolean), Cond.methodLink RX4 51 yX4_isIn, Cond.static yX4_isIn, Cond.code yX4_isIn cX4_isIn 3 (some .boolean), Cond.methodLink RX4 108 yX4_refused, Cond.instanceMethod yX4_refused, Cond.selects RX4 yX4_refused yX4_refused, Cond.code yX4_refused cX4_refused 2 (some .boolean), Cond.fieldLink RX4 47 "OctagonDeskModel" "fault" "I", Cond.methodLink RX4 61 yX4_get, Cond.instanceMethod yX4_get, Cond.selects RX4 yX4_get yX4_get, Cond.code yX4_get cX4_get 4 (some .long), Cond.fieldLink RX4 7 "OctagonDeskModel" "bound" "[J", Cond.methodLink RX4 133 yX4_holds]
def wsX4_places_r2 : List Cond := [Cond.instanceMethod yX4_holds, Cond.selects RX4 yX4_holds yX4_holds, Cond.code yX4_holds cX4_holds 9 (some .boolean), Cond.methodLink RX4 57 yX4_minus, Cond.static yX4_minus, Cond.code yX4_minus cX4_minus 1 (some .int)]
def wsX4_places : List Cond := .code yX4_places cX4_places 9 (some .int) :: ((wsX4_places_r1 ++ wsX4_places_r2) ++ wsX40)
def wsX4_step_r1 : List Cond := [Cond.fieldLink RX4 136 "OctagonDeskModel" "steps" "I", Cond.fieldLink RX4 17 "OctagonDeskModel" "fromPoint" "[I", Cond.fieldLink RX4 21 "OctagonDeskModel" "toPoint" "[I", Cond.fieldLink RX4 24 "OctagonDeskModel" "kinds" "[I", Cond.fieldLink RX4 27 "OctagonDeskModel" "firsts" "[I", Cond.fieldLink RX4 30 "OctagonDeskModel" "seconds" "[I", Cond.fieldLink RX4 33 "OctagonDeskModel" "thirds" "[I", Cond.methodLink RX4 51 yX4_isIn, Cond.static yX4_isIn, Cond.initialized RX4, Cond.code yX4_isIn cX4_isIn 3 (some .boolean), Cond.methodLink RX4 104 yX4_isAction, Cond.static yX4_isAction, Cond.code yX4_isAction cX4_isAction 4 (some .boolean), Cond.methodLink RX4 80 yX4_isNumber, Cond.static yX4_isNumber, Cond.code yX4_isNumber cX4_isNumber 1 (some .boolean), Cond.constant RX4 55 (-1000000), Cond.constant RX4 56 (1000000), Cond.methodLink RX4 84 yX4_isTerm, Cond.static yX4_isTerm, Cond.code yX4_isTerm cX4_isTerm 1 (some .boolean), Cond.methodLink RX4 57 yX4_minus, Cond.static yX4_minus]
def wsX4_step_r2 : List Cond := [Cond.code yX4_minus cX4_minus 1 (some .int), Cond.methodLink RX4 108 yX4_refused, Cond.instanceMethod yX4_refused, Cond.selects RX4 yX4_refused yX4_refused, Cond.code yX4_refused cX4_refused 2 (some .boolean), Cond.fieldLink RX4 47 "OctagonDeskModel" "fault" "I"]
def wsX4_step : List Cond := .code yX4_step cX4_step 6 (some .int) :: ((wsX4_step_r1 ++ wsX4_step_r2) ++ wsX40)
def wsX4_erase : List Cond := .code yX4_erase cX4_erase 2 (some .int) :: ([.fieldLink RX4 47 "OctagonDeskModel" "fault" "I", .fieldLink RX4 136 "OctagonDeskModel" "steps" "I"] ++ wsX40)
def wsX4_go_r1 : List Cond := [Cond.fieldLink RX4 21 "OctagonDeskModel" "toPoint" "[I", Cond.fieldLink RX4 17 "OctagonDeskModel" "fromPoint" "[I", Cond.fieldLink RX4 24 "OctagonDeskModel" "kinds" "[I", Cond.fieldLink RX4 27 "OctagonDeskModel" "firsts" "[I", Cond.fieldLink RX4 30 "OctagonDeskModel" "seconds" "[I", Cond.fieldLink RX4 33 "OctagonDeskModel" "thirds" "[I", Cond.methodLink RX4 87 yX4_load, Cond.instanceMethod yX4_load, Cond.selects RX4 yX4_load yX4_load, Cond.initialized RX4, Cond.code yX4_load cX4_load 4 none, Cond.fieldLink RX4 7 "OctagonDeskModel" "bound" "[J", Cond.fieldLink RX4 13 "OctagonDeskModel" "isVoid" "[Z", Cond.methodLink RX4 111 yX4_make, Cond.instanceMethod yX4_make, Cond.selects RX4 yX4_make yX4_make, Cond.code yX4_make cX4_make 6 none, Cond.methodLink RX4 61 yX4_get, Cond.instanceMethod yX4_get, Cond.selects RX4 yX4_get yX4_get, Cond.code yX4_get cX4_get 4 (some .long), Cond.methodLink RX4 69 yX4_set, Cond.instanceMethod yX4_set, Cond.selects RX4 yX4_set yX4_set]
def wsX4_go_r2 : List Cond := [Cond.code yX4_set cX4_set 6 none, Cond.methodLink RX4 91 yX4_shift, Cond.instanceMethod yX4_shift, Cond.selects RX4 yX4_shift yX4_shift, Cond.code yX4_shift cX4_shift 10 none, Cond.methodLink RX4 65 yX4_sum, Cond.static yX4_sum, Cond.code yX4_sum cX4_sum 4 (some .long), Cond.constantLong RX4 45 (9223372036854775807), Cond.methodLink RX4 57 yX4_minus, Cond.static yX4_minus, Cond.code yX4_minus cX4_minus 1 (some .int), Cond.methodLink RX4 94 yX4_drop, Cond.instanceMethod yX4_drop, Cond.selects RX4 yX4_drop yX4_drop, Cond.code yX4_drop cX4_drop 4 none, Cond.methodLink RX4 97 yX4_close, Cond.instanceMethod yX4_close, Cond.selects RX4 yX4_close yX4_close, Cond.code yX4_close cX4_close 8 none, Cond.methodLink RX4 73 yX4_lessen, Cond.instanceMethod yX4_lessen, Cond.selects RX4 yX4_lessen yX4_lessen, Cond.code yX4_lessen cX4_lessen 8 (some .boolean)]
def wsX4_go_r3 : List Cond := [Cond.methodLink RX4 77 yX4_sumOf, Cond.instanceMethod yX4_sumOf, Cond.selects RX4 yX4_sumOf yX4_sumOf, Cond.code yX4_sumOf cX4_sumOf 6 (some .long), Cond.methodLink RX4 127 yX4_isWithin, Cond.instanceMethod yX4_isWithin, Cond.selects RX4 yX4_isWithin yX4_isWithin, Cond.code yX4_isWithin cX4_isWithin 5 (some .boolean), Cond.methodLink RX4 121 yX4_joined, Cond.instanceMethod yX4_joined, Cond.selects RX4 yX4_joined yX4_joined, Cond.code yX4_joined cX4_joined 6 none, Cond.methodLink RX4 124 yX4_widened, Cond.instanceMethod yX4_widened, Cond.selects RX4 yX4_widened yX4_widened, Cond.code yX4_widened cX4_widened 5 none]
def wsX4_go : List Cond := .code yX4_go cX4_go 4 (some .boolean) :: ((wsX4_go_r1 ++ (wsX4_go_r2 ++ wsX4_go_r3)) ++ wsX40)
def wsX4_run_r1 : List Cond := [Cond.fieldLink RX4 13 "OctagonDeskModel" "isVoid" "[Z", Cond.fieldLink RX4 136 "OctagonDeskModel" "steps" "I", Cond.methodLink RX4 101 yX4_isSlot, Cond.static yX4_isSlot, Cond.initialized RX4, Cond.code yX4_isSlot cX4_isSlot 1 (some .boolean), Cond.methodLink RX4 51 yX4_isIn, Cond.static yX4_isIn, Cond.code yX4_isIn cX4_isIn 3 (some .boolean), Cond.methodLink RX4 108 yX4_refused, Cond.instanceMethod yX4_refused, Cond.selects RX4 yX4_refused yX4_refused, Cond.code yX4_refused cX4_refused 2 (some .boolean), Cond.fieldLink RX4 47 "OctagonDeskModel" "fault" "I", Cond.methodLink RX4 115 yX4_all, Cond.instanceMethod yX4_all, Cond.selects RX4 yX4_all yX4_all, Cond.code yX4_all cX4_all 3 none, Cond.fieldLink RX4 7 "OctagonDeskModel" "bound" "[J", Cond.constantLong RX4 45 (9223372036854775807), Cond.methodLink RX4 87 yX4_load, Cond.instanceMethod yX4_load, Cond.selects RX4 yX4_load yX4_load, Cond.code yX4_load cX4_load 4 none]
def wsX4_run_r2 : List Cond := [Cond.methodLink RX4 139 yX4_go, Cond.instanceMethod yX4_go, Cond.selects RX4 yX4_go yX4_go, Cond.code yX4_go cX4_go 4 (some .boolean), Cond.fieldLink RX4 21 "OctagonDeskModel" "toPoint" "[I", Cond.fieldLink RX4 17 "OctagonDeskModel" "fromPoint" "[I", Cond.fieldLink RX4 24 "OctagonDeskModel" "kinds" "[I", Cond.fieldLink RX4 27 "OctagonDeskModel" "firsts" "[I", Cond.fieldLink RX4 30 "OctagonDeskModel" "seconds" "[I", Cond.fieldLink RX4 33 "OctagonDeskModel" "thirds" "[I", Cond.methodLink RX4 111 yX4_make, Cond.instanceMethod yX4_make, Cond.selects RX4 yX4_make yX4_make, Cond.code yX4_make cX4_make 6 none, Cond.methodLink RX4 61 yX4_get, Cond.instanceMethod yX4_get, Cond.selects RX4 yX4_get yX4_get, Cond.code yX4_get cX4_get 4 (some .long), Cond.methodLink RX4 69 yX4_set, Cond.instanceMethod yX4_set, Cond.selects RX4 yX4_set yX4_set, Cond.code yX4_set cX4_set 6 none, Cond.methodLink RX4 91 yX4_shift, Cond.instanceMethod yX4_shift]
def wsX4_run_r3 : List Cond := [Cond.selects RX4 yX4_shift yX4_shift, Cond.code yX4_shift cX4_shift 10 none, Cond.methodLink RX4 65 yX4_sum, Cond.static yX4_sum, Cond.code yX4_sum cX4_sum 4 (some .long), Cond.methodLink RX4 57 yX4_minus, Cond.static yX4_minus, Cond.code yX4_minus cX4_minus 1 (some .int), Cond.methodLink RX4 94 yX4_drop, Cond.instanceMethod yX4_drop, Cond.selects RX4 yX4_drop yX4_drop, Cond.code yX4_drop cX4_drop 4 none, Cond.methodLink RX4 97 yX4_close, Cond.instanceMethod yX4_close, Cond.selects RX4 yX4_close yX4_close, Cond.code yX4_close cX4_close 8 none, Cond.methodLink RX4 73 yX4_lessen, Cond.instanceMethod yX4_lessen, Cond.selects RX4 yX4_lessen yX4_lessen, Cond.code yX4_lessen cX4_lessen 8 (some .boolean), Cond.methodLink RX4 77 yX4_sumOf, Cond.instanceMethod yX4_sumOf, Cond.selects RX4 yX4_sumOf yX4_sumOf, Cond.code yX4_sumOf cX4_sumOf 6 (some .long)]
def wsX4_run_r4 : List Cond := [Cond.methodLink RX4 127 yX4_isWithin, Cond.instanceMethod yX4_isWithin, Cond.selects RX4 yX4_isWithin yX4_isWithin, Cond.code yX4_isWithin cX4_isWithin 5 (some .boolean), Cond.methodLink RX4 121 yX4_joined, Cond.instanceMethod yX4_joined, Cond.selects RX4 yX4_joined yX4_joined, Cond.code yX4_joined cX4_joined 6 none, Cond.methodLink RX4 124 yX4_widened, Cond.instanceMethod yX4_widened, Cond.selects RX4 yX4_widened yX4_widened, Cond.code yX4_widened cX4_widened 5 none]
def wsX4_run : List Cond := .code yX4_run cX4_run 6 (some .int) :: ((wsX4_run_r1 ++ (wsX4_run_r2 ++ (wsX4_run_r3 ++ wsX4_run_r4))) ++ wsX40)
def wsX4_take : List Cond := .code yX4_take cX4_take 3 (some .boolean) :: ([.fieldLink RX4 13 "OctagonDeskModel" "isVoid" "[Z", .methodLink RX4 101 yX4_isSlot, .static yX4_isSlot, .initialized RX4, .code yX4_isSlot cX4_isSlot 1 (some .boolean), .methodLink RX4 51 yX4_isIn, .static yX4_isIn, .code yX4_isIn cX4_isIn 3 (some .boolean), .methodLink RX4 108 yX4_refused, .instanceMethod yX4_refused, .selects RX4 yX4_refused yX4_refused, .code yX4_refused cX4_refused 2 (some .boolean), .fieldLink RX4 47 "OctagonDeskModel" "fault" "I", .methodLink RX4 87 yX4_load, .instanceMethod yX4_load, .selects RX4 yX4_load yX4_load, .code yX4_load cX4_load 4 none, .fieldLink RX4 7 "OctagonDeskModel" "bound" "[J"] ++ wsX40)
def wsJ9_max_f86c9 : List Cond := .code yJ9_max_f86c9 cJ9_max_f86c9 4 (some .long) :: ([])
def wsJ9_min_7cf53 : List Cond := .code yJ9_min_7cf53 cJ9_min_7cf53 2 (some .int) :: ([])
def wsJ9_min_f86c9 : List Cond := .code yJ9_min_f86c9 cJ9_min_f86c9 4 (some .long) :: ([])
def wsL_act_r1 : List Cond := [Cond.classLink RL 13 "java/lang/IllegalArgumentException", Cond.methodLink RL 7 yX3_act, Cond.instanceMethod yX3_act, Cond.selects RX3 yX3_act yX3_act, Cond.initialized RX3, Cond.code yX3_act cX3_act 6 (some .boolean), Cond.fieldLink RX3 29 "OctagonDesk" "made" "LOctagonDesk$Shape;", Cond.fieldLink RX3 13 "OctagonDesk" "slots" "[LOctagonDesk$Shape;", Cond.fieldLink RX3 63 "OctagonDesk$Shape" "empty" "Z", Cond.methodLink RX3 48 yX3_requireSlot, Cond.static yX3_requireSlot, Cond.code yX3_requireSlot cX3_requireSlot 1 none, Cond.classLink RX3 126 "java/lang/IllegalArgumentException", Cond.initialized "java/lang/IllegalArgumentException", Cond.methodLink RX3 52 yX3_requireAction, Cond.static yX3_requireAction, Cond.code yX3_requireAction cX3_requireAction 4 none, Cond.methodLink RX3 169 yX3_requireNumber, Cond.static yX3_requireNumber, Cond.code yX3_requireNumber cX3_requireNumber 1 none, Cond.constant RX3 165 (-1000000), Cond.constant RX3 166 (1000000), Cond.methodLink RX3 90 yX3_requireTerms, Cond.static yX3_requireTerms]
def wsL_act_r2 : List Cond := [Cond.code yX3_requireTerms cX3_requireTerms 2 none, Cond.methodLink RX3 157 yX3_requireTerm, Cond.static yX3_requireTerm, Cond.code yX3_requireTerm cX3_requireTerm 1 none, Cond.methodLink RX3 160 yX3_negation, Cond.static yX3_negation, Cond.code yX3_negation cX3_negation 1 (some .int), Cond.methodLink RX3 84 yX3_requireVariable, Cond.static yX3_requireVariable, Cond.code yX3_requireVariable cX3_requireVariable 1 none, Cond.methodLink RX3 56 yX1_makeFrom, Cond.instanceMethod yX1_makeFrom, Cond.selects RX1 yX1_makeFrom yX1_makeFrom, Cond.initialized RX1, Cond.code yX1_makeFrom cX1_makeFrom 6 none, Cond.fieldLink RX1 16 "OctagonDesk$Shape" "numbers" "LOctagonDesk$Numbers;", Cond.methodLink RX1 31 yX1_tell, Cond.instanceMethod yX1_tell, Cond.selects RX1 yX1_tell yX1_tell, Cond.code yX1_tell cX1_tell 10 none, Cond.fieldLink RX1 20 "OctagonDesk$Shape" "empty" "Z", Cond.methodLink RX1 71 yX1_oldTerm, Cond.static yX1_oldTerm, Cond.code yX1_oldTerm cX1_oldTerm 3 (some .int)]
def wsL_act_r3 : List Cond := [Cond.methodLink RX1 75 yX1_moreOf, Cond.static yX1_moreOf, Cond.code yX1_moreOf cX1_moreOf 3 (some .int), Cond.methodLink RX1 50 yX1_cell, Cond.static yX1_cell, Cond.code yX1_cell cX1_cell 2 (some .int), Cond.methodLink RX1 78 yX0_putMore, Cond.instanceMethod yX0_putMore, Cond.selects RX0 yX0_putMore yX0_putMore, Cond.initialized RX0, Cond.code yX0_putMore cX0_putMore 9 none, Cond.fieldLink RX0 22 "OctagonDesk$Numbers" "top" "I", Cond.fieldLink RX0 18 "OctagonDesk$Numbers" "limbs" "[J", Cond.constantLong RX0 39 (1152921504606846975), Cond.fieldLink RX0 15 "OctagonDesk$Numbers" "cells" "I", Cond.methodLink RX0 41 yX0_isInfinite, Cond.instanceMethod yX0_isInfinite, Cond.selects RX0 yX0_isInfinite yX0_isInfinite, Cond.code yX0_isInfinite cX0_isInfinite 2 (some .boolean), Cond.constantLong RX0 25 (9223372036854775807), Cond.methodLink RX0 45 yX0_setInfinite, Cond.instanceMethod yX0_setInfinite, Cond.selects RX0 yX0_setInfinite yX0_setInfinite, Cond.code yX0_setInfinite cX0_setInfinite 3 none]
def wsL_act_r4 : List Cond := [Cond.methodLink RX1 35 yX1_takeOver, Cond.instanceMethod yX1_takeOver, Cond.selects RX1 yX1_takeOver yX1_takeOver, Cond.code yX1_takeOver cX1_takeOver 2 none, Cond.methodLink RX1 27 yX0_takeOver, Cond.instanceMethod yX0_takeOver, Cond.selects RX0 yX0_takeOver yX0_takeOver, Cond.code yX0_takeOver cX0_takeOver 2 none, Cond.methodLink RX0 33 arraycopyName, Cond.native arraycopyName, Cond.static arraycopyName, Cond.initialized "java/lang/System", Cond.methodLink RX1 38 yX0_set, Cond.instanceMethod yX0_set, Cond.selects RX0 yX0_set yX0_set, Cond.code yX0_set cX0_set 7 none, Cond.methodLink RX1 42 yX1_holdToSpare, Cond.instanceMethod yX1_holdToSpare, Cond.selects RX1 yX1_holdToSpare yX1_holdToSpare, Cond.code yX1_holdToSpare cX1_holdToSpare 3 none, Cond.methodLink RX1 57 yX0_isLess, Cond.instanceMethod yX0_isLess, Cond.selects RX0 yX0_isLess yX0_isLess, Cond.code yX0_isLess cX0_isLess 9 (some .boolean)]
def wsL_act_r5 : List Cond := [Cond.methodLink RX1 61 yX0_put, Cond.instanceMethod yX0_put, Cond.selects RX0 yX0_put yX0_put, Cond.code yX0_put cX0_put 5 none, Cond.methodLink RX1 65 yX1_passThrough, Cond.instanceMethod yX1_passThrough, Cond.selects RX1 yX1_passThrough yX1_passThrough, Cond.code yX1_passThrough cX1_passThrough 5 none, Cond.methodLink RX1 111 yX0_putSum, Cond.instanceMethod yX0_putSum, Cond.selects RX0 yX0_putSum yX0_putSum, Cond.code yX0_putSum cX0_putSum 8 none, Cond.methodLink RX1 115 yX0_isNegative, Cond.instanceMethod yX0_isNegative, Cond.selects RX0 yX0_isNegative yX0_isNegative, Cond.code yX0_isNegative cX0_isNegative 2 (some .boolean), Cond.methodLink RX1 104 yX0_isInfinite, Cond.methodLink RX1 118 yX0_lower, Cond.instanceMethod yX0_lower, Cond.selects RX0 yX0_lower yX0_lower, Cond.code yX0_lower cX0_lower 4 none, Cond.fieldLink RX0 11 "OctagonDesk$Numbers" "sum" "I", Cond.methodLink RX0 49 yX0_putSum, Cond.methodLink RX0 53 yX0_isLess]
def wsL_act_r6 : List Cond := [Cond.methodLink RX0 57 yX0_put, Cond.methodLink RX1 68 yX1_combineSingles, Cond.instanceMethod yX1_combineSingles, Cond.selects RX1 yX1_combineSingles yX1_combineSingles, Cond.code yX1_combineSingles cX1_combineSingles 3 none, Cond.methodLink RX1 101 yX0_putHalf, Cond.instanceMethod yX0_putHalf, Cond.selects RX0 yX0_putHalf yX0_putHalf, Cond.code yX0_putHalf cX0_putHalf 8 none, Cond.methodLink RX1 121 yX1_findContradiction, Cond.instanceMethod yX1_findContradiction, Cond.selects RX1 yX1_findContradiction yX1_findContradiction, Cond.code yX1_findContradiction cX1_findContradiction 2 none, Cond.methodLink RX1 46 yX1_scatter, Cond.instanceMethod yX1_scatter, Cond.selects RX1 yX1_scatter yX1_scatter, Cond.code yX1_scatter cX1_scatter 6 none, Cond.constantLong RX1 86 (2), Cond.constantLong RX1 88 (-2), Cond.methodLink RX1 24 yX1_release, Cond.instanceMethod yX1_release, Cond.selects RX1 yX1_release yX1_release, Cond.code yX1_release cX1_release 4 none, Cond.methodLink RX1 54 yX0_setInfinite]
def wsL_act_r7 : List Cond := [Cond.methodLink RX3 60 yX3_putMade, Cond.instanceMethod yX3_putMade, Cond.selects RX3 yX3_putMade yX3_putMade, Cond.code yX3_putMade cX3_putMade 2 none, Cond.methodLink RX3 112 yX3_makeRoom, Cond.instanceMethod yX3_makeRoom, Cond.selects RX3 yX3_makeRoom yX3_makeRoom, Cond.code yX3_makeRoom cX3_makeRoom 2 none, Cond.fieldLink RX3 178 "OctagonDesk$Shape" "numbers" "LOctagonDesk$Numbers;", Cond.fieldLink RX3 22 "OctagonDesk" "left" "[LOctagonDesk$Shape;", Cond.fieldLink RX3 25 "OctagonDesk" "reached" "[LOctagonDesk$Shape;", Cond.methodLink RX3 182 yX0_isCrowded, Cond.instanceMethod yX0_isCrowded, Cond.selects RX0 yX0_isCrowded yX0_isCrowded, Cond.code yX0_isCrowded cX0_isCrowded 4 (some .boolean), Cond.constantLong RX0 61 (18014398509481984), Cond.constantLong RX0 63 (-18014398509481984), Cond.methodLink RX3 187 yX3_growAll, Cond.static yX3_growAll, Cond.code yX3_growAll cX3_growAll 2 none, Cond.methodLink RX3 191 yX0_growTwofold, Cond.instanceMethod yX0_growTwofold, Cond.selects RX0 yX0_growTwofold yX0_growTwofold, Cond.code yX0_growTwofold cX0_growTwofold 3 none]
def wsL_act_r8 : List Cond := [Cond.methodLink RX0 65 yJ7_copyOf_c38d5, Cond.static yJ7_copyOf_c38d5, Cond.initialized RJ7, Cond.code yJ7_copyOf_c38d5 cJ7_copyOf_c38d5 3 (some (.array .long)), Cond.methodLink RJ7 319 ⟨"[J", "clone", "()Ljava/lang/Object;"⟩, Cond.sameMethod "[J" "java/lang/Object" "clone" "()Ljava/lang/Object;", Cond.native ⟨"java/lang/Object", "clone", "()Ljava/lang/Object;"⟩, Cond.instanceMethod ⟨"java/lang/Object", "clone", "()Ljava/lang/Object;"⟩, Cond.selects "[J" ⟨"[J", "clone", "()Ljava/lang/Object;"⟩ ⟨"java/lang/Object", "clone", "()Ljava/lang/Object;"⟩, Cond.classLink RJ7 320 "[J", Cond.arrayClass .long, Cond.methodLink RJ7 304 Lib.Math.min.name, Cond.static Lib.Math.min.name, Cond.initialized "java/lang/Math", Cond.code Lib.Math.min.name Lib.Math.min.code 2 (some .int), Cond.methodLink RJ7 150 arraycopyName, Cond.methodLink RX0 71 yX0_extend, Cond.instanceMethod yX0_extend, Cond.selects RX0 yX0_extend yX0_extend, Cond.code yX0_extend cX0_extend 6 none, Cond.methodLink RX3 67 yX1_takeOver]
def wsL_act : List Cond := .codeWith yL_act cL_act 8 (some .int) [(0, 23, 26, 13)] :: ((wsL_act_r1 ++ (wsL_act_r2 ++ (wsL_act_r3 ++ (wsL_act_r4 ++ (wsL_act_r5 ++ (wsL_act_r6 ++ (wsL_act_r7 ++ wsL_act_r8))))))) ++ wsX30 ++ wsX10 ++ wsX00 ++ (vx_atS RX3 130 "java/lang/IllegalArgumentException" ["java/lang/RuntimeException", "java/lang/Exception"]).filter goodWord)
def wsL_clear_r1 : List Cond := [Cond.classLink RL 13 "java/lang/IllegalArgumentException", Cond.methodLink RL 15 yX3_clear, Cond.instanceMethod yX3_clear, Cond.selects RX3 yX3_clear yX3_clear, Cond.initialized RX3, Cond.code yX3_clear cX3_clear 2 none, Cond.fieldLink RX3 13 "OctagonDesk" "slots" "[LOctagonDesk$Shape;", Cond.methodLink RX3 48 yX3_requireSlot, Cond.static yX3_requireSlot, Cond.code yX3_requireSlot cX3_requireSlot 1 none, Cond.classLink RX3 126 "java/lang/IllegalArgumentException", Cond.initialized "java/lang/IllegalArgumentException", Cond.methodLink RX3 17 yX1_allowAll, Cond.instanceMethod yX1_allowAll, Cond.selects RX1 yX1_allowAll yX1_allowAll, Cond.initialized RX1, Cond.code yX1_allowAll cX1_allowAll 2 none, Cond.fieldLink RX1 20 "OctagonDesk$Shape" "empty" "Z", Cond.methodLink RX1 24 yX1_release, Cond.instanceMethod yX1_release, Cond.selects RX1 yX1_release yX1_release, Cond.code yX1_release cX1_release 4 none, Cond.fieldLink RX1 16 "OctagonDesk$Shape" "numbers" "LOctagonDesk$Numbers;", Cond.methodLink RX1 50 yX1_cell]
def wsL_clear_r2 : List Cond := [Cond.static yX1_cell, Cond.code yX1_cell cX1_cell 2 (some .int), Cond.methodLink RX1 54 yX0_setInfinite, Cond.instanceMethod yX0_setInfinite, Cond.selects RX0 yX0_setInfinite yX0_setInfinite, Cond.initialized RX0, Cond.code yX0_setInfinite cX0_setInfinite 3 none, Cond.fieldLink RX0 22 "OctagonDesk$Numbers" "top" "I", Cond.fieldLink RX0 18 "OctagonDesk$Numbers" "limbs" "[J", Cond.fieldLink RX0 15 "OctagonDesk$Numbers" "cells" "I", Cond.constantLong RX0 25 (9223372036854775807), Cond.methodLink RX1 38 yX0_set, Cond.instanceMethod yX0_set, Cond.selects RX0 yX0_set yX0_set, Cond.code yX0_set cX0_set 7 none, Cond.constantLong RX0 39 (1152921504606846975)]
def wsL_clear : List Cond := .codeWith yL_clear cL_clear 3 (some .int) [(0, 5, 8, 13)] :: ((wsL_clear_r1 ++ wsL_clear_r2) ++ wsX30 ++ wsX10 ++ wsX00 ++ (vx_atS RX3 130 "java/lang/IllegalArgumentException" ["java/lang/RuntimeException", "java/lang/Exception"]).filter goodWord)
def wsL_copy_r1 : List Cond := [Cond.classLink RL 13 "java/lang/IllegalArgumentException", Cond.methodLink RL 19 yX3_copy, Cond.instanceMethod yX3_copy, Cond.selects RX3 yX3_copy yX3_copy, Cond.initialized RX3, Cond.code yX3_copy cX3_copy 3 none, Cond.fieldLink RX3 13 "OctagonDesk" "slots" "[LOctagonDesk$Shape;", Cond.methodLink RX3 48 yX3_requireSlot, Cond.static yX3_requireSlot, Cond.code yX3_requireSlot cX3_requireSlot 1 none, Cond.classLink RX3 126 "java/lang/IllegalArgumentException", Cond.initialized "java/lang/IllegalArgumentException", Cond.methodLink RX3 67 yX1_takeOver, Cond.instanceMethod yX1_takeOver, Cond.selects RX1 yX1_takeOver yX1_takeOver, Cond.initialized RX1, Cond.code yX1_takeOver cX1_takeOver 2 none, Cond.fieldLink RX1 16 "OctagonDesk$Shape" "numbers" "LOctagonDesk$Numbers;", Cond.fieldLink RX1 20 "OctagonDesk$Shape" "empty" "Z", Cond.methodLink RX1 27 yX0_takeOver, Cond.instanceMethod yX0_takeOver, Cond.selects RX0 yX0_takeOver yX0_takeOver, Cond.initialized RX0, Cond.code yX0_takeOver cX0_takeOver 2 none]
def wsL_copy_r2 : List Cond := [Cond.fieldLink RX0 18 "OctagonDesk$Numbers" "limbs" "[J", Cond.methodLink RX0 33 arraycopyName, Cond.native arraycopyName, Cond.static arraycopyName, Cond.initialized "java/lang/System"]
def wsL_copy : List Cond := .codeWith yL_copy cL_copy 4 (some .int) [(0, 6, 9, 13)] :: ((wsL_copy_r1 ++ wsL_copy_r2) ++ wsX30 ++ wsX10 ++ wsX00 ++ (vx_atS RX3 130 "java/lang/IllegalArgumentException" ["java/lang/RuntimeException", "java/lang/Exception"]).filter goodWord)
def wsL_meet_r1 : List Cond := [Cond.classLink RL 13 "java/lang/IllegalArgumentException", Cond.methodLink RL 23 yX3_meet, Cond.instanceMethod yX3_meet, Cond.selects RX3 yX3_meet yX3_meet, Cond.initialized RX3, Cond.code yX3_meet cX3_meet 4 (some .boolean), Cond.fieldLink RX3 29 "OctagonDesk" "made" "LOctagonDesk$Shape;", Cond.fieldLink RX3 13 "OctagonDesk" "slots" "[LOctagonDesk$Shape;", Cond.fieldLink RX3 63 "OctagonDesk$Shape" "empty" "Z", Cond.methodLink RX3 71 yX3_requireThreeSlots, Cond.static yX3_requireThreeSlots, Cond.code yX3_requireThreeSlots cX3_requireThreeSlots 3 none, Cond.methodLink RX3 48 yX3_requireSlot, Cond.static yX3_requireSlot, Cond.code yX3_requireSlot cX3_requireSlot 1 none, Cond.classLink RX3 126 "java/lang/IllegalArgumentException", Cond.initialized "java/lang/IllegalArgumentException", Cond.methodLink RX3 67 yX1_takeOver, Cond.instanceMethod yX1_takeOver, Cond.selects RX1 yX1_takeOver yX1_takeOver, Cond.initialized RX1, Cond.code yX1_takeOver cX1_takeOver 2 none, Cond.fieldLink RX1 16 "OctagonDesk$Shape" "numbers" "LOctagonDesk$Numbers;", Cond.fieldLink RX1 20 "OctagonDesk$Shape" "empty" "Z"]
def wsL_meet_r2 : List Cond := [Cond.methodLink RX1 27 yX0_takeOver, Cond.instanceMethod yX0_takeOver, Cond.selects RX0 yX0_takeOver yX0_takeOver, Cond.initialized RX0, Cond.code yX0_takeOver cX0_takeOver 2 none, Cond.fieldLink RX0 18 "OctagonDesk$Numbers" "limbs" "[J", Cond.methodLink RX0 33 arraycopyName, Cond.native arraycopyName, Cond.static arraycopyName, Cond.initialized "java/lang/System", Cond.methodLink RX3 75 yX1_cutTo, Cond.instanceMethod yX1_cutTo, Cond.selects RX1 yX1_cutTo yX1_cutTo, Cond.code yX1_cutTo cX1_cutTo 3 none, Cond.methodLink RX1 57 yX0_isLess, Cond.instanceMethod yX0_isLess, Cond.selects RX0 yX0_isLess yX0_isLess, Cond.code yX0_isLess cX0_isLess 9 (some .boolean), Cond.fieldLink RX0 22 "OctagonDesk$Numbers" "top" "I", Cond.fieldLink RX0 15 "OctagonDesk$Numbers" "cells" "I", Cond.methodLink RX1 61 yX0_put, Cond.instanceMethod yX0_put, Cond.selects RX0 yX0_put yX0_put, Cond.code yX0_put cX0_put 5 none]
def wsL_meet_r3 : List Cond := [Cond.methodLink RX1 90 yX1_close, Cond.instanceMethod yX1_close, Cond.selects RX1 yX1_close yX1_close, Cond.code yX1_close cX1_close 4 none, Cond.methodLink RX1 50 yX1_cell, Cond.static yX1_cell, Cond.code yX1_cell cX1_cell 2 (some .int), Cond.methodLink RX1 104 yX0_isInfinite, Cond.instanceMethod yX0_isInfinite, Cond.selects RX0 yX0_isInfinite yX0_isInfinite, Cond.code yX0_isInfinite cX0_isInfinite 2 (some .boolean), Cond.constantLong RX0 25 (9223372036854775807), Cond.static yX3_negation, Cond.code yX3_negation cX3_negation 1 (some .int), Cond.methodLink RX1 118 yX0_lower, Cond.instanceMethod yX0_lower, Cond.selects RX0 yX0_lower yX0_lower, Cond.code yX0_lower cX0_lower 4 none, Cond.fieldLink RX0 11 "OctagonDesk$Numbers" "sum" "I", Cond.methodLink RX0 49 yX0_putSum, Cond.instanceMethod yX0_putSum, Cond.selects RX0 yX0_putSum yX0_putSum, Cond.code yX0_putSum cX0_putSum 8 none, Cond.constantLong RX0 39 (1152921504606846975)]
def wsL_meet_r4 : List Cond := [Cond.methodLink RX0 53 yX0_isLess, Cond.methodLink RX0 57 yX0_put, Cond.methodLink RX1 121 yX1_findContradiction, Cond.instanceMethod yX1_findContradiction, Cond.selects RX1 yX1_findContradiction yX1_findContradiction, Cond.code yX1_findContradiction cX1_findContradiction 2 none, Cond.methodLink RX1 115 yX0_isNegative, Cond.instanceMethod yX0_isNegative, Cond.selects RX0 yX0_isNegative yX0_isNegative, Cond.code yX0_isNegative cX0_isNegative 2 (some .boolean), Cond.methodLink RX1 68 yX1_combineSingles, Cond.instanceMethod yX1_combineSingles, Cond.selects RX1 yX1_combineSingles yX1_combineSingles, Cond.code yX1_combineSingles cX1_combineSingles 3 none, Cond.methodLink RX1 101 yX0_putHalf, Cond.instanceMethod yX0_putHalf, Cond.selects RX0 yX0_putHalf yX0_putHalf, Cond.code yX0_putHalf cX0_putHalf 8 none, Cond.methodLink RX0 41 yX0_isInfinite, Cond.methodLink RX0 45 yX0_setInfinite, Cond.instanceMethod yX0_setInfinite, Cond.selects RX0 yX0_setInfinite yX0_setInfinite, Cond.code yX0_setInfinite cX0_setInfinite 3 none, Cond.methodLink RX3 60 yX3_putMade]
def wsL_meet_r5 : List Cond := [Cond.instanceMethod yX3_putMade, Cond.selects RX3 yX3_putMade yX3_putMade, Cond.code yX3_putMade cX3_putMade 2 none, Cond.methodLink RX3 112 yX3_makeRoom, Cond.instanceMethod yX3_makeRoom, Cond.selects RX3 yX3_makeRoom yX3_makeRoom, Cond.code yX3_makeRoom cX3_makeRoom 2 none, Cond.fieldLink RX3 178 "OctagonDesk$Shape" "numbers" "LOctagonDesk$Numbers;", Cond.fieldLink RX3 22 "OctagonDesk" "left" "[LOctagonDesk$Shape;", Cond.fieldLink RX3 25 "OctagonDesk" "reached" "[LOctagonDesk$Shape;", Cond.methodLink RX3 182 yX0_isCrowded, Cond.instanceMethod yX0_isCrowded, Cond.selects RX0 yX0_isCrowded yX0_isCrowded, Cond.code yX0_isCrowded cX0_isCrowded 4 (some .boolean), Cond.constantLong RX0 61 (18014398509481984), Cond.constantLong RX0 63 (-18014398509481984), Cond.methodLink RX3 187 yX3_growAll, Cond.static yX3_growAll, Cond.code yX3_growAll cX3_growAll 2 none, Cond.methodLink RX3 191 yX0_growTwofold, Cond.instanceMethod yX0_growTwofold, Cond.selects RX0 yX0_growTwofold yX0_growTwofold, Cond.code yX0_growTwofold cX0_growTwofold 3 none, Cond.methodLink RX0 65 yJ7_copyOf_c38d5]
def wsL_meet_r6 : List Cond := [Cond.static yJ7_copyOf_c38d5, Cond.initialized RJ7, Cond.code yJ7_copyOf_c38d5 cJ7_copyOf_c38d5 3 (some (.array .long)), Cond.methodLink RJ7 319 ⟨"[J", "clone", "()Ljava/lang/Object;"⟩, Cond.sameMethod "[J" "java/lang/Object" "clone" "()Ljava/lang/Object;", Cond.native ⟨"java/lang/Object", "clone", "()Ljava/lang/Object;"⟩, Cond.instanceMethod ⟨"java/lang/Object", "clone", "()Ljava/lang/Object;"⟩, Cond.selects "[J" ⟨"[J", "clone", "()Ljava/lang/Object;"⟩ ⟨"java/lang/Object", "clone", "()Ljava/lang/Object;"⟩, Cond.classLink RJ7 320 "[J", Cond.arrayClass .long, Cond.methodLink RJ7 304 Lib.Math.min.name, Cond.static Lib.Math.min.name, Cond.initialized "java/lang/Math", Cond.code Lib.Math.min.name Lib.Math.min.code 2 (some .int), Cond.methodLink RJ7 150 arraycopyName, Cond.methodLink RX0 71 yX0_extend, Cond.instanceMethod yX0_extend, Cond.selects RX0 yX0_extend yX0_extend, Cond.code yX0_extend cX0_extend 6 none]
def wsL_meet : List Cond := .codeWith yL_meet cL_meet 6 (some .int) [(0, 19, 22, 13)] :: ((wsL_meet_r1 ++ (wsL_meet_r2 ++ (wsL_meet_r3 ++ (wsL_meet_r4 ++ (wsL_meet_r5 ++ wsL_meet_r6))))) ++ wsX30 ++ wsX10 ++ wsX00 ++ (vx_atS RX3 130 "java/lang/IllegalArgumentException" ["java/lang/RuntimeException", "java/lang/Exception"]).filter goodWord)
def wsL_join_r1 : List Cond := [Cond.classLink RL 13 "java/lang/IllegalArgumentException", Cond.methodLink RL 27 yX3_join, Cond.instanceMethod yX3_join, Cond.selects RX3 yX3_join yX3_join, Cond.initialized RX3, Cond.code yX3_join cX3_join 4 none, Cond.fieldLink RX3 29 "OctagonDesk" "made" "LOctagonDesk$Shape;", Cond.fieldLink RX3 13 "OctagonDesk" "slots" "[LOctagonDesk$Shape;", Cond.methodLink RX3 71 yX3_requireThreeSlots, Cond.static yX3_requireThreeSlots, Cond.code yX3_requireThreeSlots cX3_requireThreeSlots 3 none, Cond.methodLink RX3 48 yX3_requireSlot, Cond.static yX3_requireSlot, Cond.code yX3_requireSlot cX3_requireSlot 1 none, Cond.classLink RX3 126 "java/lang/IllegalArgumentException", Cond.initialized "java/lang/IllegalArgumentException", Cond.methodLink RX3 67 yX1_takeOver, Cond.instanceMethod yX1_takeOver, Cond.selects RX1 yX1_takeOver yX1_takeOver, Cond.initialized RX1, Cond.code yX1_takeOver cX1_takeOver 2 none, Cond.fieldLink RX1 16 "OctagonDesk$Shape" "numbers" "LOctagonDesk$Numbers;", Cond.fieldLink RX1 20 "OctagonDesk$Shape" "empty" "Z", Cond.methodLink RX1 27 yX0_takeOver]
def wsL_join_r2 : List Cond := [Cond.instanceMethod yX0_takeOver, Cond.selects RX0 yX0_takeOver yX0_takeOver, Cond.initialized RX0, Cond.code yX0_takeOver cX0_takeOver 2 none, Cond.fieldLink RX0 18 "OctagonDesk$Numbers" "limbs" "[J", Cond.methodLink RX0 33 arraycopyName, Cond.native arraycopyName, Cond.static arraycopyName, Cond.initialized "java/lang/System", Cond.methodLink RX3 78 yX1_stretchOver, Cond.instanceMethod yX1_stretchOver, Cond.selects RX1 yX1_stretchOver yX1_stretchOver, Cond.code yX1_stretchOver cX1_stretchOver 3 none, Cond.methodLink RX1 93 yX1_isSettledByEmptiness, Cond.instanceMethod yX1_isSettledByEmptiness, Cond.selects RX1 yX1_isSettledByEmptiness yX1_isSettledByEmptiness, Cond.code yX1_isSettledByEmptiness cX1_isSettledByEmptiness 3 (some .boolean), Cond.methodLink RX1 35 yX1_takeOver, Cond.methodLink RX1 57 yX0_isLess, Cond.instanceMethod yX0_isLess, Cond.selects RX0 yX0_isLess yX0_isLess, Cond.code yX0_isLess cX0_isLess 9 (some .boolean), Cond.fieldLink RX0 22 "OctagonDesk$Numbers" "top" "I", Cond.fieldLink RX0 15 "OctagonDesk$Numbers" "cells" "I"]
def wsL_join_r3 : List Cond := [Cond.methodLink RX1 61 yX0_put, Cond.instanceMethod yX0_put, Cond.selects RX0 yX0_put yX0_put, Cond.code yX0_put cX0_put 5 none, Cond.methodLink RX3 60 yX3_putMade, Cond.instanceMethod yX3_putMade, Cond.selects RX3 yX3_putMade yX3_putMade, Cond.code yX3_putMade cX3_putMade 2 none, Cond.methodLink RX3 112 yX3_makeRoom, Cond.instanceMethod yX3_makeRoom, Cond.selects RX3 yX3_makeRoom yX3_makeRoom, Cond.code yX3_makeRoom cX3_makeRoom 2 none, Cond.fieldLink RX3 63 "OctagonDesk$Shape" "empty" "Z", Cond.fieldLink RX3 178 "OctagonDesk$Shape" "numbers" "LOctagonDesk$Numbers;", Cond.fieldLink RX3 22 "OctagonDesk" "left" "[LOctagonDesk$Shape;", Cond.fieldLink RX3 25 "OctagonDesk" "reached" "[LOctagonDesk$Shape;", Cond.methodLink RX3 182 yX0_isCrowded, Cond.instanceMethod yX0_isCrowded, Cond.selects RX0 yX0_isCrowded yX0_isCrowded, Cond.code yX0_isCrowded cX0_isCrowded 4 (some .boolean), Cond.constantLong RX0 25 (9223372036854775807), Cond.constantLong RX0 61 (18014398509481984), Cond.constantLong RX0 63 (-18014398509481984), Cond.methodLink RX3 187 yX3_growAll]
def wsL_join_r4 : List Cond := [Cond.static yX3_growAll, Cond.code yX3_growAll cX3_growAll 2 none, Cond.methodLink RX3 191 yX0_growTwofold, Cond.instanceMethod yX0_growTwofold, Cond.selects RX0 yX0_growTwofold yX0_growTwofold, Cond.code yX0_growTwofold cX0_growTwofold 3 none, Cond.methodLink RX0 65 yJ7_copyOf_c38d5, Cond.static yJ7_copyOf_c38d5, Cond.initialized RJ7, Cond.code yJ7_copyOf_c38d5 cJ7_copyOf_c38d5 3 (some (.array .long)), Cond.methodLink RJ7 319 ⟨"[J", "clone", "()Ljava/lang/Object;"⟩, Cond.sameMethod "[J" "java/lang/Object" "clone" "()Ljava/lang/Object;", Cond.native ⟨"java/lang/Object", "clone", "()Ljava/lang/Object;"⟩, Cond.instanceMethod ⟨"java/lang/Object", "clone", "()Ljava/lang/Object;"⟩, Cond.selects "[J" ⟨"[J", "clone", "()Ljava/lang/Object;"⟩ ⟨"java/lang/Object", "clone", "()Ljava/lang/Object;"⟩, Cond.classLink RJ7 320 "[J", Cond.arrayClass .long, Cond.methodLink RJ7 304 Lib.Math.min.name, Cond.static Lib.Math.min.name, Cond.initialized "java/lang/Math", Cond.code Lib.Math.min.name Lib.Math.min.code 2 (some .int), Cond.methodLink RJ7 150 arraycopyName, Cond.methodLink RX0 71 yX0_extend, Cond.instanceMethod yX0_extend]
def wsL_join_r5 : List Cond := [Cond.selects RX0 yX0_extend yX0_extend, Cond.code yX0_extend cX0_extend 6 none, Cond.constantLong RX0 39 (1152921504606846975), Cond.methodLink RX0 45 yX0_setInfinite, Cond.instanceMethod yX0_setInfinite, Cond.selects RX0 yX0_setInfinite yX0_setInfinite, Cond.code yX0_setInfinite cX0_setInfinite 3 none]
def wsL_join : List Cond := .codeWith yL_join cL_join 5 (some .int) [(0, 7, 10, 13)] :: ((wsL_join_r1 ++ (wsL_join_r2 ++ (wsL_join_r3 ++ (wsL_join_r4 ++ wsL_join_r5)))) ++ wsX30 ++ wsX10 ++ wsX00 ++ (vx_atS RX3 130 "java/lang/IllegalArgumentException" ["java/lang/RuntimeException", "java/lang/Exception"]).filter goodWord)
def wsL_widen_r1 : List Cond := [Cond.classLink RL 13 "java/lang/IllegalArgumentException", Cond.methodLink RL 31 yX3_widen, Cond.instanceMethod yX3_widen, Cond.selects RX3 yX3_widen yX3_widen, Cond.initialized RX3, Cond.code yX3_widen cX3_widen 4 none, Cond.fieldLink RX3 29 "OctagonDesk" "made" "LOctagonDesk$Shape;", Cond.fieldLink RX3 13 "OctagonDesk" "slots" "[LOctagonDesk$Shape;", Cond.methodLink RX3 71 yX3_requireThreeSlots, Cond.static yX3_requireThreeSlots, Cond.code yX3_requireThreeSlots cX3_requireThreeSlots 3 none, Cond.methodLink RX3 48 yX3_requireSlot, Cond.static yX3_requireSlot, Cond.code yX3_requireSlot cX3_requireSlot 1 none, Cond.classLink RX3 126 "java/lang/IllegalArgumentException", Cond.initialized "java/lang/IllegalArgumentException", Cond.methodLink RX3 67 yX1_takeOver, Cond.instanceMethod yX1_takeOver, Cond.selects RX1 yX1_takeOver yX1_takeOver, Cond.initialized RX1, Cond.code yX1_takeOver cX1_takeOver 2 none, Cond.fieldLink RX1 16 "OctagonDesk$Shape" "numbers" "LOctagonDesk$Numbers;", Cond.fieldLink RX1 20 "OctagonDesk$Shape" "empty" "Z", Cond.methodLink RX1 27 yX0_takeOver]
def wsL_widen_r2 : List Cond := [Cond.instanceMethod yX0_takeOver, Cond.selects RX0 yX0_takeOver yX0_takeOver, Cond.initialized RX0, Cond.code yX0_takeOver cX0_takeOver 2 none, Cond.fieldLink RX0 18 "OctagonDesk$Numbers" "limbs" "[J", Cond.methodLink RX0 33 arraycopyName, Cond.native arraycopyName, Cond.static arraycopyName, Cond.initialized "java/lang/System", Cond.methodLink RX3 81 yX1_loosenBy, Cond.instanceMethod yX1_loosenBy, Cond.selects RX1 yX1_loosenBy yX1_loosenBy, Cond.code yX1_loosenBy cX1_loosenBy 3 none, Cond.methodLink RX1 93 yX1_isSettledByEmptiness, Cond.instanceMethod yX1_isSettledByEmptiness, Cond.selects RX1 yX1_isSettledByEmptiness yX1_isSettledByEmptiness, Cond.code yX1_isSettledByEmptiness cX1_isSettledByEmptiness 3 (some .boolean), Cond.methodLink RX1 35 yX1_takeOver, Cond.methodLink RX1 57 yX0_isLess, Cond.instanceMethod yX0_isLess, Cond.selects RX0 yX0_isLess yX0_isLess, Cond.code yX0_isLess cX0_isLess 9 (some .boolean), Cond.fieldLink RX0 22 "OctagonDesk$Numbers" "top" "I", Cond.fieldLink RX0 15 "OctagonDesk$Numbers" "cells" "I"]
def wsL_widen_r3 : List Cond := [Cond.methodLink RX1 54 yX0_setInfinite, Cond.instanceMethod yX0_setInfinite, Cond.selects RX0 yX0_setInfinite yX0_setInfinite, Cond.code yX0_setInfinite cX0_setInfinite 3 none, Cond.constantLong RX0 25 (9223372036854775807), Cond.methodLink RX1 90 yX1_close, Cond.instanceMethod yX1_close, Cond.selects RX1 yX1_close yX1_close, Cond.code yX1_close cX1_close 4 none, Cond.methodLink RX1 50 yX1_cell, Cond.static yX1_cell, Cond.code yX1_cell cX1_cell 2 (some .int), Cond.methodLink RX1 104 yX0_isInfinite, Cond.instanceMethod yX0_isInfinite, Cond.selects RX0 yX0_isInfinite yX0_isInfinite, Cond.code yX0_isInfinite cX0_isInfinite 2 (some .boolean), Cond.static yX3_negation, Cond.code yX3_negation cX3_negation 1 (some .int), Cond.methodLink RX1 118 yX0_lower, Cond.instanceMethod yX0_lower, Cond.selects RX0 yX0_lower yX0_lower, Cond.code yX0_lower cX0_lower 4 none, Cond.fieldLink RX0 11 "OctagonDesk$Numbers" "sum" "I", Cond.methodLink RX0 49 yX0_putSum]
def wsL_widen_r4 : List Cond := [Cond.instanceMethod yX0_putSum, Cond.selects RX0 yX0_putSum yX0_putSum, Cond.code yX0_putSum cX0_putSum 8 none, Cond.constantLong RX0 39 (1152921504606846975), Cond.methodLink RX0 53 yX0_isLess, Cond.methodLink RX0 57 yX0_put, Cond.instanceMethod yX0_put, Cond.selects RX0 yX0_put yX0_put, Cond.code yX0_put cX0_put 5 none, Cond.methodLink RX1 121 yX1_findContradiction, Cond.instanceMethod yX1_findContradiction, Cond.selects RX1 yX1_findContradiction yX1_findContradiction, Cond.code yX1_findContradiction cX1_findContradiction 2 none, Cond.methodLink RX1 115 yX0_isNegative, Cond.instanceMethod yX0_isNegative, Cond.selects RX0 yX0_isNegative yX0_isNegative, Cond.code yX0_isNegative cX0_isNegative 2 (some .boolean), Cond.methodLink RX1 68 yX1_combineSingles, Cond.instanceMethod yX1_combineSingles, Cond.selects RX1 yX1_combineSingles yX1_combineSingles, Cond.code yX1_combineSingles cX1_combineSingles 3 none, Cond.methodLink RX1 101 yX0_putHalf, Cond.instanceMethod yX0_putHalf, Cond.selects RX0 yX0_putHalf yX0_putHalf]
def wsL_widen_r5 : List Cond := [Cond.code yX0_putHalf cX0_putHalf 8 none, Cond.methodLink RX0 41 yX0_isInfinite, Cond.methodLink RX0 45 yX0_setInfinite, Cond.methodLink RX3 60 yX3_putMade, Cond.instanceMethod yX3_putMade, Cond.selects RX3 yX3_putMade yX3_putMade, Cond.code yX3_putMade cX3_putMade 2 none, Cond.methodLink RX3 112 yX3_makeRoom, Cond.instanceMethod yX3_makeRoom, Cond.selects RX3 yX3_makeRoom yX3_makeRoom, Cond.code yX3_makeRoom cX3_makeRoom 2 none, Cond.fieldLink RX3 63 "OctagonDesk$Shape" "empty" "Z", Cond.fieldLink RX3 178 "OctagonDesk$Shape" "numbers" "LOctagonDesk$Numbers;", Cond.fieldLink RX3 22 "OctagonDesk" "left" "[LOctagonDesk$Shape;", Cond.fieldLink RX3 25 "OctagonDesk" "reached" "[LOctagonDesk$Shape;", Cond.methodLink RX3 182 yX0_isCrowded, Cond.instanceMethod yX0_isCrowded, Cond.selects RX0 yX0_isCrowded yX0_isCrowded, Cond.code yX0_isCrowded cX0_isCrowded 4 (some .boolean), Cond.constantLong RX0 61 (18014398509481984), Cond.constantLong RX0 63 (-18014398509481984), Cond.methodLink RX3 187 yX3_growAll, Cond.static yX3_growAll, Cond.code yX3_growAll cX3_growAll 2 none]
def wsL_widen_r6 : List Cond := [Cond.methodLink RX3 191 yX0_growTwofold, Cond.instanceMethod yX0_growTwofold, Cond.selects RX0 yX0_growTwofold yX0_growTwofold, Cond.code yX0_growTwofold cX0_growTwofold 3 none, Cond.methodLink RX0 65 yJ7_copyOf_c38d5, Cond.static yJ7_copyOf_c38d5, Cond.initialized RJ7, Cond.code yJ7_copyOf_c38d5 cJ7_copyOf_c38d5 3 (some (.array .long)), Cond.methodLink RJ7 319 ⟨"[J", "clone", "()Ljava/lang/Object;"⟩, Cond.sameMethod "[J" "java/lang/Object" "clone" "()Ljava/lang/Object;", Cond.native ⟨"java/lang/Object", "clone", "()Ljava/lang/Object;"⟩, Cond.instanceMethod ⟨"java/lang/Object", "clone", "()Ljava/lang/Object;"⟩, Cond.selects "[J" ⟨"[J", "clone", "()Ljava/lang/Object;"⟩ ⟨"java/lang/Object", "clone", "()Ljava/lang/Object;"⟩, Cond.classLink RJ7 320 "[J", Cond.arrayClass .long, Cond.methodLink RJ7 304 Lib.Math.min.name, Cond.static Lib.Math.min.name, Cond.initialized "java/lang/Math", Cond.code Lib.Math.min.name Lib.Math.min.code 2 (some .int), Cond.methodLink RJ7 150 arraycopyName, Cond.methodLink RX0 71 yX0_extend, Cond.instanceMethod yX0_extend, Cond.selects RX0 yX0_extend yX0_extend, Cond.code yX0_extend cX0_extend 6 none]
def wsL_widen : List Cond := .codeWith yL_widen cL_widen 5 (some .int) [(0, 7, 10, 13)] :: ((wsL_widen_r1 ++ (wsL_widen_r2 ++ (wsL_widen_r3 ++ (wsL_widen_r4 ++ (wsL_widen_r5 ++ wsL_widen_r6))))) ++ wsX30 ++ wsX10 ++ wsX00 ++ (vx_atS RX3 130 "java/lang/IllegalArgumentException" ["java/lang/RuntimeException", "java/lang/Exception"]).filter goodWord)
def wsL_forget_r1 : List Cond := [Cond.classLink RL 13 "java/lang/IllegalArgumentException", Cond.methodLink RL 34 yX3_forget, Cond.instanceMethod yX3_forget, Cond.selects RX3 yX3_forget yX3_forget, Cond.initialized RX3, Cond.code yX3_forget cX3_forget 3 none, Cond.fieldLink RX3 13 "OctagonDesk" "slots" "[LOctagonDesk$Shape;", Cond.methodLink RX3 48 yX3_requireSlot, Cond.static yX3_requireSlot, Cond.code yX3_requireSlot cX3_requireSlot 1 none, Cond.classLink RX3 126 "java/lang/IllegalArgumentException", Cond.initialized "java/lang/IllegalArgumentException", Cond.methodLink RX3 84 yX3_requireVariable, Cond.static yX3_requireVariable, Cond.code yX3_requireVariable cX3_requireVariable 1 none, Cond.methodLink RX3 87 yX1_release, Cond.instanceMethod yX1_release, Cond.selects RX1 yX1_release yX1_release, Cond.initialized RX1, Cond.code yX1_release cX1_release 4 none, Cond.fieldLink RX1 16 "OctagonDesk$Shape" "numbers" "LOctagonDesk$Numbers;", Cond.methodLink RX1 50 yX1_cell, Cond.static yX1_cell, Cond.code yX1_cell cX1_cell 2 (some .int)]
def wsL_forget_r2 : List Cond := [Cond.methodLink RX1 54 yX0_setInfinite, Cond.instanceMethod yX0_setInfinite, Cond.selects RX0 yX0_setInfinite yX0_setInfinite, Cond.initialized RX0, Cond.code yX0_setInfinite cX0_setInfinite 3 none, Cond.fieldLink RX0 22 "OctagonDesk$Numbers" "top" "I", Cond.fieldLink RX0 18 "OctagonDesk$Numbers" "limbs" "[J", Cond.fieldLink RX0 15 "OctagonDesk$Numbers" "cells" "I", Cond.constantLong RX0 25 (9223372036854775807), Cond.methodLink RX1 38 yX0_set, Cond.instanceMethod yX0_set, Cond.selects RX0 yX0_set yX0_set, Cond.code yX0_set cX0_set 7 none, Cond.constantLong RX0 39 (1152921504606846975)]
def wsL_forget : List Cond := .codeWith yL_forget cL_forget 4 (some .int) [(0, 6, 9, 13)] :: ((wsL_forget_r1 ++ wsL_forget_r2) ++ wsX30 ++ wsX10 ++ wsX00 ++ (vx_atS RX3 130 "java/lang/IllegalArgumentException" ["java/lang/RuntimeException", "java/lang/Exception"]).filter goodWord)
def wsL_isEmpty : List Cond := .codeWith yL_isEmpty cL_isEmpty 4 (some .int) [(0, 16, 19, 13)] :: ([.classLink RL 13 "java/lang/IllegalArgumentException", .methodLink RL 37 yX3_isEmpty, .instanceMethod yX3_isEmpty, .selects RX3 yX3_isEmpty yX3_isEmpty, .initialized RX3, .code yX3_isEmpty cX3_isEmpty 2 (some .boolean), .fieldLink RX3 13 "OctagonDesk" "slots" "[LOctagonDesk$Shape;", .fieldLink RX3 63 "OctagonDesk$Shape" "empty" "Z", .methodLink RX3 48 yX3_requireSlot, .static yX3_requireSlot, .code yX3_requireSlot cX3_requireSlot 1 none, .classLink RX3 126 "java/lang/IllegalArgumentException", .initialized "java/lang/IllegalArgumentException"] ++ wsX30 ++ wsX10 ++ (vx_atS RX3 130 "java/lang/IllegalArgumentException" ["java/lang/RuntimeException", "java/lang/Exception"]).filter goodWord)
def wsL_most_r1 : List Cond := [Cond.classLink RL 13 "java/lang/IllegalArgumentException", Cond.classLink RL 45 "java/lang/IllegalStateException", Cond.methodLink RL 41 yX3_most, Cond.instanceMethod yX3_most, Cond.selects RX3 yX3_most yX3_most, Cond.initialized RX3, Cond.code yX3_most cX3_most 4 (some .long), Cond.fieldLink RX3 13 "OctagonDesk" "slots" "[LOctagonDesk$Shape;", Cond.methodLink RX3 48 yX3_requireSlot, Cond.static yX3_requireSlot, Cond.code yX3_requireSlot cX3_requireSlot 1 none, Cond.classLink RX3 126 "java/lang/IllegalArgumentException", Cond.initialized "java/lang/IllegalArgumentException", Cond.methodLink RX3 90 yX3_requireTerms, Cond.static yX3_requireTerms, Cond.code yX3_requireTerms cX3_requireTerms 2 none, Cond.methodLink RX3 157 yX3_requireTerm, Cond.static yX3_requireTerm, Cond.code yX3_requireTerm cX3_requireTerm 1 none, Cond.methodLink RX3 160 yX3_negation, Cond.static yX3_negation, Cond.code yX3_negation cX3_negation 1 (some .int), Cond.methodLink RX3 94 yX3_requirePlace, Cond.instanceMethod yX3_requirePlace]
def wsL_most_r2 : List Cond := [Cond.selects RX3 yX3_requirePlace yX3_requirePlace, Cond.code yX3_requirePlace cX3_requirePlace 2 none, Cond.classLink RX3 133 "java/lang/IllegalStateException", Cond.initialized "java/lang/IllegalStateException", Cond.fieldLink RX3 63 "OctagonDesk$Shape" "empty" "Z", Cond.methodLink RX3 97 yX1_mostOf, Cond.instanceMethod yX1_mostOf, Cond.selects RX1 yX1_mostOf yX1_mostOf, Cond.initialized RX1, Cond.code yX1_mostOf cX1_mostOf 3 (some .long), Cond.fieldLink RX1 16 "OctagonDesk$Shape" "numbers" "LOctagonDesk$Numbers;", Cond.methodLink RX1 50 yX1_cell, Cond.static yX1_cell, Cond.code yX1_cell cX1_cell 2 (some .int), Cond.methodLink RX1 97 yX0_nearestLong, Cond.instanceMethod yX0_nearestLong, Cond.selects RX0 yX0_nearestLong yX0_nearestLong, Cond.initialized RX0, Cond.code yX0_nearestLong cX0_nearestLong 5 (some .long), Cond.fieldLink RX0 18 "OctagonDesk$Numbers" "limbs" "[J", Cond.fieldLink RX0 22 "OctagonDesk$Numbers" "top" "I", Cond.constantLong RX0 25 (9223372036854775807), Cond.fieldLink RX0 15 "OctagonDesk$Numbers" "cells" "I", Cond.constantLong RX0 27 (7)]
def wsL_most_r3 : List Cond := [Cond.constantLong RX0 29 (-8), Cond.constantLong RX0 31 (-9223372036854775808), Cond.methodLink RX1 101 yX0_putHalf, Cond.instanceMethod yX0_putHalf, Cond.selects RX0 yX0_putHalf yX0_putHalf, Cond.code yX0_putHalf cX0_putHalf 8 none, Cond.methodLink RX0 41 yX0_isInfinite, Cond.instanceMethod yX0_isInfinite, Cond.selects RX0 yX0_isInfinite yX0_isInfinite, Cond.code yX0_isInfinite cX0_isInfinite 2 (some .boolean), Cond.methodLink RX0 45 yX0_setInfinite, Cond.instanceMethod yX0_setInfinite, Cond.selects RX0 yX0_setInfinite yX0_setInfinite, Cond.code yX0_setInfinite cX0_setInfinite 3 none]
def wsL_most : List Cond := .codeWith yL_most cL_most 6 (some .int) [(0, 11, 14, 13), (0, 11, 18, 45)] :: ((wsL_most_r1 ++ (wsL_most_r2 ++ wsL_most_r3)) ++ wsX30 ++ wsX10 ++ wsX00 ++ (vx_atS RX3 130 "java/lang/IllegalArgumentException" ["java/lang/RuntimeException", "java/lang/Exception"]).filter goodWord ++ (vx_atS RX3 137 "java/lang/IllegalStateException" ["java/lang/RuntimeException", "java/lang/Exception"]).filter goodWord)
def wsL_inside_r1 : List Cond := [Cond.classLink RL 13 "java/lang/IllegalArgumentException", Cond.methodLink RL 47 yX3_inside, Cond.instanceMethod yX3_inside, Cond.selects RX3 yX3_inside yX3_inside, Cond.initialized RX3, Cond.code yX3_inside cX3_inside 3 (some .boolean), Cond.fieldLink RX3 13 "OctagonDesk" "slots" "[LOctagonDesk$Shape;", Cond.methodLink RX3 48 yX3_requireSlot, Cond.static yX3_requireSlot, Cond.code yX3_requireSlot cX3_requireSlot 1 none, Cond.classLink RX3 126 "java/lang/IllegalArgumentException", Cond.initialized "java/lang/IllegalArgumentException", Cond.methodLink RX3 101 yX1_isWithin, Cond.instanceMethod yX1_isWithin, Cond.selects RX1 yX1_isWithin yX1_isWithin, Cond.initialized RX1, Cond.code yX1_isWithin cX1_isWithin 3 (some .boolean), Cond.fieldLink RX1 20 "OctagonDesk$Shape" "empty" "Z", Cond.fieldLink RX1 16 "OctagonDesk$Shape" "numbers" "LOctagonDesk$Numbers;", Cond.methodLink RX1 57 yX0_isLess, Cond.instanceMethod yX0_isLess, Cond.selects RX0 yX0_isLess yX0_isLess, Cond.initialized RX0, Cond.code yX0_isLess cX0_isLess 9 (some .boolean)]
def wsL_inside_r2 : List Cond := [Cond.fieldLink RX0 22 "OctagonDesk$Numbers" "top" "I", Cond.fieldLink RX0 18 "OctagonDesk$Numbers" "limbs" "[J", Cond.fieldLink RX0 15 "OctagonDesk$Numbers" "cells" "I"]
def wsL_inside : List Cond := .codeWith yL_inside cL_inside 5 (some .int) [(0, 17, 20, 13)] :: ((wsL_inside_r1 ++ wsL_inside_r2) ++ wsX30 ++ wsX10 ++ wsX00 ++ (vx_atS RX3 130 "java/lang/IllegalArgumentException" ["java/lang/RuntimeException", "java/lang/Exception"]).filter goodWord)
def wsL_bounds_r1 : List Cond := [Cond.classLink RL 13 "java/lang/IllegalArgumentException", Cond.methodLink RL 51 yX3_bounds, Cond.instanceMethod yX3_bounds, Cond.selects RX3 yX3_bounds yX3_bounds, Cond.initialized RX3, Cond.code yX3_bounds cX3_bounds 2 (some .int), Cond.fieldLink RX3 13 "OctagonDesk" "slots" "[LOctagonDesk$Shape;", Cond.fieldLink RX3 63 "OctagonDesk$Shape" "empty" "Z", Cond.methodLink RX3 48 yX3_requireSlot, Cond.static yX3_requireSlot, Cond.code yX3_requireSlot cX3_requireSlot 1 none, Cond.classLink RX3 126 "java/lang/IllegalArgumentException", Cond.initialized "java/lang/IllegalArgumentException", Cond.methodLink RX3 105 yX1_countBounds, Cond.instanceMethod yX1_countBounds, Cond.selects RX1 yX1_countBounds yX1_countBounds, Cond.initialized RX1, Cond.code yX1_countBounds cX1_countBounds 4 (some .int), Cond.fieldLink RX1 16 "OctagonDesk$Shape" "numbers" "LOctagonDesk$Numbers;", Cond.static yX3_negation, Cond.code yX3_negation cX3_negation 1 (some .int), Cond.methodLink RX1 50 yX1_cell, Cond.static yX1_cell, Cond.code yX1_cell cX1_cell 2 (some .int)]
def wsL_bounds_r2 : List Cond := [Cond.methodLink RX1 104 yX0_isInfinite, Cond.instanceMethod yX0_isInfinite, Cond.selects RX0 yX0_isInfinite yX0_isInfinite, Cond.initialized RX0, Cond.code yX0_isInfinite cX0_isInfinite 2 (some .boolean), Cond.fieldLink RX0 18 "OctagonDesk$Numbers" "limbs" "[J", Cond.fieldLink RX0 22 "OctagonDesk$Numbers" "top" "I", Cond.constantLong RX0 25 (9223372036854775807)]
def wsL_bounds : List Cond := .codeWith yL_bounds cL_bounds 4 (some .int) [(0, 9, 12, 13)] :: ((wsL_bounds_r1 ++ wsL_bounds_r2) ++ wsX30 ++ wsX10 ++ wsX00 ++ (vx_atS RX3 130 "java/lang/IllegalArgumentException" ["java/lang/RuntimeException", "java/lang/Exception"]).filter goodWord)
def wsL_first_r1 : List Cond := [Cond.classLink RL 13 "java/lang/IllegalArgumentException", Cond.classLink RL 45 "java/lang/IllegalStateException", Cond.methodLink RL 55 yX3_first, Cond.instanceMethod yX3_first, Cond.selects RX3 yX3_first yX3_first, Cond.initialized RX3, Cond.code yX3_first cX3_first 4 (some .long), Cond.fieldLink RX3 29 "OctagonDesk" "made" "LOctagonDesk$Shape;", Cond.fieldLink RX3 13 "OctagonDesk" "slots" "[LOctagonDesk$Shape;", Cond.methodLink RX3 48 yX3_requireSlot, Cond.static yX3_requireSlot, Cond.code yX3_requireSlot cX3_requireSlot 1 none, Cond.classLink RX3 126 "java/lang/IllegalArgumentException", Cond.initialized "java/lang/IllegalArgumentException", Cond.methodLink RX3 84 yX3_requireVariable, Cond.static yX3_requireVariable, Cond.code yX3_requireVariable cX3_requireVariable 1 none, Cond.methodLink RX3 94 yX3_requirePlace, Cond.instanceMethod yX3_requirePlace, Cond.selects RX3 yX3_requirePlace yX3_requirePlace, Cond.code yX3_requirePlace cX3_requirePlace 2 none, Cond.classLink RX3 133 "java/lang/IllegalStateException", Cond.initialized "java/lang/IllegalStateException", Cond.fieldLink RX3 63 "OctagonDesk$Shape" "empty" "Z"]
def wsL_first_r2 : List Cond := [Cond.methodLink RX3 67 yX1_takeOver, Cond.instanceMethod yX1_takeOver, Cond.selects RX1 yX1_takeOver yX1_takeOver, Cond.initialized RX1, Cond.code yX1_takeOver cX1_takeOver 2 none, Cond.fieldLink RX1 16 "OctagonDesk$Shape" "numbers" "LOctagonDesk$Numbers;", Cond.fieldLink RX1 20 "OctagonDesk$Shape" "empty" "Z", Cond.methodLink RX1 27 yX0_takeOver, Cond.instanceMethod yX0_takeOver, Cond.selects RX0 yX0_takeOver yX0_takeOver, Cond.initialized RX0, Cond.code yX0_takeOver cX0_takeOver 2 none, Cond.fieldLink RX0 18 "OctagonDesk$Numbers" "limbs" "[J", Cond.methodLink RX0 33 arraycopyName, Cond.native arraycopyName, Cond.static arraycopyName, Cond.initialized "java/lang/System", Cond.methodLink RX3 109 yX1_settle, Cond.instanceMethod yX1_settle, Cond.selects RX1 yX1_settle yX1_settle, Cond.code yX1_settle cX1_settle 4 none, Cond.methodLink RX1 50 yX1_cell, Cond.static yX1_cell, Cond.code yX1_cell cX1_cell 2 (some .int)]
def wsL_first_r3 : List Cond := [Cond.methodLink RX1 104 yX0_isInfinite, Cond.instanceMethod yX0_isInfinite, Cond.selects RX0 yX0_isInfinite yX0_isInfinite, Cond.code yX0_isInfinite cX0_isInfinite 2 (some .boolean), Cond.fieldLink RX0 22 "OctagonDesk$Numbers" "top" "I", Cond.constantLong RX0 25 (9223372036854775807), Cond.methodLink RX1 38 yX0_set, Cond.instanceMethod yX0_set, Cond.selects RX0 yX0_set yX0_set, Cond.code yX0_set cX0_set 7 none, Cond.constantLong RX0 39 (1152921504606846975), Cond.fieldLink RX0 15 "OctagonDesk$Numbers" "cells" "I", Cond.methodLink RX1 42 yX1_holdToSpare, Cond.instanceMethod yX1_holdToSpare, Cond.selects RX1 yX1_holdToSpare yX1_holdToSpare, Cond.code yX1_holdToSpare cX1_holdToSpare 3 none, Cond.methodLink RX1 57 yX0_isLess, Cond.instanceMethod yX0_isLess, Cond.selects RX0 yX0_isLess yX0_isLess, Cond.code yX0_isLess cX0_isLess 9 (some .boolean), Cond.methodLink RX1 61 yX0_put, Cond.instanceMethod yX0_put, Cond.selects RX0 yX0_put yX0_put, Cond.code yX0_put cX0_put 5 none]
def wsL_first_r4 : List Cond := [Cond.methodLink RX1 65 yX1_passThrough, Cond.instanceMethod yX1_passThrough, Cond.selects RX1 yX1_passThrough yX1_passThrough, Cond.code yX1_passThrough cX1_passThrough 5 none, Cond.static yX3_negation, Cond.code yX3_negation cX3_negation 1 (some .int), Cond.methodLink RX1 111 yX0_putSum, Cond.instanceMethod yX0_putSum, Cond.selects RX0 yX0_putSum yX0_putSum, Cond.code yX0_putSum cX0_putSum 8 none, Cond.methodLink RX1 115 yX0_isNegative, Cond.instanceMethod yX0_isNegative, Cond.selects RX0 yX0_isNegative yX0_isNegative, Cond.code yX0_isNegative cX0_isNegative 2 (some .boolean), Cond.methodLink RX1 118 yX0_lower, Cond.instanceMethod yX0_lower, Cond.selects RX0 yX0_lower yX0_lower, Cond.code yX0_lower cX0_lower 4 none, Cond.fieldLink RX0 11 "OctagonDesk$Numbers" "sum" "I", Cond.methodLink RX0 49 yX0_putSum, Cond.methodLink RX0 53 yX0_isLess, Cond.methodLink RX0 57 yX0_put, Cond.methodLink RX1 68 yX1_combineSingles, Cond.instanceMethod yX1_combineSingles]
def wsL_first_r5 : List Cond := [Cond.selects RX1 yX1_combineSingles yX1_combineSingles, Cond.code yX1_combineSingles cX1_combineSingles 3 none, Cond.methodLink RX1 101 yX0_putHalf, Cond.instanceMethod yX0_putHalf, Cond.selects RX0 yX0_putHalf yX0_putHalf, Cond.code yX0_putHalf cX0_putHalf 8 none, Cond.methodLink RX0 41 yX0_isInfinite, Cond.methodLink RX0 45 yX0_setInfinite, Cond.instanceMethod yX0_setInfinite, Cond.selects RX0 yX0_setInfinite yX0_setInfinite, Cond.code yX0_setInfinite cX0_setInfinite 3 none, Cond.methodLink RX1 121 yX1_findContradiction, Cond.instanceMethod yX1_findContradiction, Cond.selects RX1 yX1_findContradiction yX1_findContradiction, Cond.code yX1_findContradiction cX1_findContradiction 2 none, Cond.methodLink RX1 108 yX0_putNegative, Cond.instanceMethod yX0_putNegative, Cond.selects RX0 yX0_putNegative yX0_putNegative, Cond.code yX0_putNegative cX0_putNegative 6 none, Cond.methodLink RX3 112 yX3_makeRoom, Cond.instanceMethod yX3_makeRoom, Cond.selects RX3 yX3_makeRoom yX3_makeRoom, Cond.code yX3_makeRoom cX3_makeRoom 2 none, Cond.fieldLink RX3 178 "OctagonDesk$Shape" "numbers" "LOctagonDesk$Numbers;"]
def wsL_first_r6 : List Cond := [Cond.fieldLink RX3 22 "OctagonDesk" "left" "[LOctagonDesk$Shape;", Cond.fieldLink RX3 25 "OctagonDesk" "reached" "[LOctagonDesk$Shape;", Cond.methodLink RX3 182 yX0_isCrowded, Cond.instanceMethod yX0_isCrowded, Cond.selects RX0 yX0_isCrowded yX0_isCrowded, Cond.code yX0_isCrowded cX0_isCrowded 4 (some .boolean), Cond.constantLong RX0 61 (18014398509481984), Cond.constantLong RX0 63 (-18014398509481984), Cond.methodLink RX3 187 yX3_growAll, Cond.static yX3_growAll, Cond.code yX3_growAll cX3_growAll 2 none, Cond.methodLink RX3 191 yX0_growTwofold, Cond.instanceMethod yX0_growTwofold, Cond.selects RX0 yX0_growTwofold yX0_growTwofold, Cond.code yX0_growTwofold cX0_growTwofold 3 none, Cond.methodLink RX0 65 yJ7_copyOf_c38d5, Cond.static yJ7_copyOf_c38d5, Cond.initialized RJ7, Cond.code yJ7_copyOf_c38d5 cJ7_copyOf_c38d5 3 (some (.array .long)), Cond.methodLink RJ7 319 ⟨"[J", "clone", "()Ljava/lang/Object;"⟩, Cond.sameMethod "[J" "java/lang/Object" "clone" "()Ljava/lang/Object;", Cond.native ⟨"java/lang/Object", "clone", "()Ljava/lang/Object;"⟩, Cond.instanceMethod ⟨"java/lang/Object", "clone", "()Ljava/lang/Object;"⟩, Cond.selects "[J" ⟨"[J", "clone", "()Ljava/lang/Object;"⟩ ⟨"java/lang/Object", "clone", "()Ljava/lang/Object;"⟩]
def wsL_first_r7 : List Cond := [Cond.classLink RJ7 320 "[J", Cond.arrayClass .long, Cond.methodLink RJ7 304 Lib.Math.min.name, Cond.static Lib.Math.min.name, Cond.initialized "java/lang/Math", Cond.code Lib.Math.min.name Lib.Math.min.code 2 (some .int), Cond.methodLink RJ7 150 arraycopyName, Cond.methodLink RX0 71 yX0_extend, Cond.instanceMethod yX0_extend, Cond.selects RX0 yX0_extend yX0_extend, Cond.code yX0_extend cX0_extend 6 none, Cond.methodLink RX3 97 yX1_mostOf, Cond.instanceMethod yX1_mostOf, Cond.selects RX1 yX1_mostOf yX1_mostOf, Cond.code yX1_mostOf cX1_mostOf 3 (some .long), Cond.methodLink RX1 97 yX0_nearestLong, Cond.instanceMethod yX0_nearestLong, Cond.selects RX0 yX0_nearestLong yX0_nearestLong, Cond.code yX0_nearestLong cX0_nearestLong 5 (some .long), Cond.constantLong RX0 27 (7), Cond.constantLong RX0 29 (-8), Cond.constantLong RX0 31 (-9223372036854775808)]
def wsL_first : List Cond := .codeWith yL_first cL_first 5 (some .int) [(0, 9, 12, 13), (0, 9, 16, 45)] :: ((wsL_first_r1 ++ (wsL_first_r2 ++ (wsL_first_r3 ++ (wsL_first_r4 ++ (wsL_first_r5 ++ (wsL_first_r6 ++ wsL_first_r7)))))) ++ wsX30 ++ wsX10 ++ wsX00 ++ (vx_atS RX3 130 "java/lang/IllegalArgumentException" ["java/lang/RuntimeException", "java/lang/Exception"]).filter goodWord ++ (vx_atS RX3 137 "java/lang/IllegalStateException" ["java/lang/RuntimeException", "java/lang/Exception"]).filter goodWord)
def wsL_places_r1 : List Cond := [Cond.classLink RL 13 "java/lang/IllegalArgumentException", Cond.methodLink RL 59 yX3_places, Cond.instanceMethod yX3_places, Cond.selects RX3 yX3_places yX3_places, Cond.initialized RX3, Cond.code yX3_places cX3_places 2 (some .int), Cond.fieldLink RX3 13 "OctagonDesk" "slots" "[LOctagonDesk$Shape;", Cond.fieldLink RX3 63 "OctagonDesk$Shape" "empty" "Z", Cond.fieldLink RX3 29 "OctagonDesk" "made" "LOctagonDesk$Shape;", Cond.methodLink RX3 48 yX3_requireSlot, Cond.static yX3_requireSlot, Cond.code yX3_requireSlot cX3_requireSlot 1 none, Cond.classLink RX3 126 "java/lang/IllegalArgumentException", Cond.initialized "java/lang/IllegalArgumentException", Cond.methodLink RX3 67 yX1_takeOver, Cond.instanceMethod yX1_takeOver, Cond.selects RX1 yX1_takeOver yX1_takeOver, Cond.initialized RX1, Cond.code yX1_takeOver cX1_takeOver 2 none, Cond.fieldLink RX1 16 "OctagonDesk$Shape" "numbers" "LOctagonDesk$Numbers;", Cond.fieldLink RX1 20 "OctagonDesk$Shape" "empty" "Z", Cond.methodLink RX1 27 yX0_takeOver, Cond.instanceMethod yX0_takeOver, Cond.selects RX0 yX0_takeOver yX0_takeOver]
def wsL_places_r2 : List Cond := [Cond.initialized RX0, Cond.code yX0_takeOver cX0_takeOver 2 none, Cond.fieldLink RX0 18 "OctagonDesk$Numbers" "limbs" "[J", Cond.methodLink RX0 33 arraycopyName, Cond.native arraycopyName, Cond.static arraycopyName, Cond.initialized "java/lang/System", Cond.methodLink RX3 115 yX1_shiftToLeast, Cond.instanceMethod yX1_shiftToLeast, Cond.selects RX1 yX1_shiftToLeast yX1_shiftToLeast, Cond.code yX1_shiftToLeast cX1_shiftToLeast 3 (some .boolean), Cond.methodLink RX1 50 yX1_cell, Cond.static yX1_cell, Cond.code yX1_cell cX1_cell 2 (some .int), Cond.methodLink RX1 104 yX0_isInfinite, Cond.instanceMethod yX0_isInfinite, Cond.selects RX0 yX0_isInfinite yX0_isInfinite, Cond.code yX0_isInfinite cX0_isInfinite 2 (some .boolean), Cond.fieldLink RX0 22 "OctagonDesk$Numbers" "top" "I", Cond.constantLong RX0 25 (9223372036854775807), Cond.methodLink RX1 101 yX0_putHalf, Cond.instanceMethod yX0_putHalf, Cond.selects RX0 yX0_putHalf yX0_putHalf, Cond.code yX0_putHalf cX0_putHalf 8 none]
def wsL_places_r3 : List Cond := [Cond.fieldLink RX0 15 "OctagonDesk$Numbers" "cells" "I", Cond.methodLink RX0 41 yX0_isInfinite, Cond.methodLink RX0 45 yX0_setInfinite, Cond.instanceMethod yX0_setInfinite, Cond.selects RX0 yX0_setInfinite yX0_setInfinite, Cond.code yX0_setInfinite cX0_setInfinite 3 none, Cond.methodLink RX1 108 yX0_putNegative, Cond.instanceMethod yX0_putNegative, Cond.selects RX0 yX0_putNegative yX0_putNegative, Cond.code yX0_putNegative cX0_putNegative 6 none, Cond.constantLong RX0 39 (1152921504606846975), Cond.methodLink RX1 111 yX0_putSum, Cond.instanceMethod yX0_putSum, Cond.selects RX0 yX0_putSum yX0_putSum, Cond.code yX0_putSum cX0_putSum 8 none, Cond.methodLink RX3 119 yX3_madeFitsTheBox, Cond.instanceMethod yX3_madeFitsTheBox, Cond.selects RX3 yX3_madeFitsTheBox yX3_madeFitsTheBox, Cond.code yX3_madeFitsTheBox cX3_madeFitsTheBox 6 (some .boolean), Cond.constantLong RX3 212 (4096), Cond.methodLink RX3 97 yX1_mostOf, Cond.instanceMethod yX1_mostOf, Cond.selects RX1 yX1_mostOf yX1_mostOf, Cond.code yX1_mostOf cX1_mostOf 3 (some .long)]
def wsL_places_r4 : List Cond := [Cond.methodLink RX1 97 yX0_nearestLong, Cond.instanceMethod yX0_nearestLong, Cond.selects RX0 yX0_nearestLong yX0_nearestLong, Cond.code yX0_nearestLong cX0_nearestLong 5 (some .long), Cond.constantLong RX0 27 (7), Cond.constantLong RX0 29 (-8), Cond.constantLong RX0 31 (-9223372036854775808), Cond.methodLink RX3 122 yX3_countFrom, Cond.instanceMethod yX3_countFrom, Cond.selects RX3 yX3_countFrom yX3_countFrom, Cond.code yX3_countFrom cX3_countFrom 11 (some .int), Cond.fieldLink RX3 33 "OctagonDesk" "offsets" "[J", Cond.methodLink RX3 214 Lib.MathLoose.min_long.x, Cond.static Lib.MathLoose.min_long.x, Cond.initialized "java/lang/Math", Cond.code Lib.MathLoose.min_long.x Lib.MathLoose.min_long.code 4 (some .long), Cond.methodLink RX3 220 Lib.MathLoose.max_long.x, Cond.static Lib.MathLoose.max_long.x, Cond.code Lib.MathLoose.max_long.x Lib.MathLoose.max_long.code 4 (some .long)]
def wsL_places : List Cond := .codeWith yL_places cL_places 4 (some .int) [(0, 9, 12, 13)] :: ((wsL_places_r1 ++ (wsL_places_r2 ++ (wsL_places_r3 ++ wsL_places_r4))) ++ wsX30 ++ wsX10 ++ wsX00 ++ (vx_atS RX3 130 "java/lang/IllegalArgumentException" ["java/lang/RuntimeException", "java/lang/Exception"]).filter goodWord)
def wsL_step_r1 : List Cond := [Cond.classLink RL 13 "java/lang/IllegalArgumentException", Cond.classLink RL 45 "java/lang/IllegalStateException", Cond.methodLink RL 62 yX3_step, Cond.instanceMethod yX3_step, Cond.selects RX3 yX3_step yX3_step, Cond.initialized RX3, Cond.code yX3_step cX3_step 6 (some .int), Cond.classLink RX3 126 "java/lang/IllegalArgumentException", Cond.initialized "java/lang/IllegalArgumentException", Cond.classLink RX3 133 "java/lang/IllegalStateException", Cond.initialized "java/lang/IllegalStateException", Cond.fieldLink RX3 37 "OctagonDesk" "stepCount" "I", Cond.fieldLink RX3 43 "OctagonDesk" "steps" "[LOctagonDesk$Step;", Cond.methodLink RX3 52 yX3_requireAction, Cond.static yX3_requireAction, Cond.code yX3_requireAction cX3_requireAction 4 none, Cond.methodLink RX3 169 yX3_requireNumber, Cond.static yX3_requireNumber, Cond.code yX3_requireNumber cX3_requireNumber 1 none, Cond.constant RX3 165 (-1000000), Cond.constant RX3 166 (1000000), Cond.methodLink RX3 90 yX3_requireTerms, Cond.static yX3_requireTerms, Cond.code yX3_requireTerms cX3_requireTerms 2 none]
def wsL_step_r2 : List Cond := [Cond.methodLink RX3 157 yX3_requireTerm, Cond.static yX3_requireTerm, Cond.code yX3_requireTerm cX3_requireTerm 1 none, Cond.methodLink RX3 160 yX3_negation, Cond.static yX3_negation, Cond.code yX3_negation cX3_negation 1 (some .int), Cond.methodLink RX3 84 yX3_requireVariable, Cond.static yX3_requireVariable, Cond.code yX3_requireVariable cX3_requireVariable 1 none, Cond.methodLink RX3 138 yX2_write, Cond.instanceMethod yX2_write, Cond.selects RX2 yX2_write yX2_write, Cond.initialized RX2, Cond.code yX2_write cX2_write 6 none, Cond.fieldLink RX2 9 "OctagonDesk$Step" "from" "I", Cond.fieldLink RX2 15 "OctagonDesk$Step" "to" "I", Cond.fieldLink RX2 18 "OctagonDesk$Step" "kind" "I", Cond.fieldLink RX2 21 "OctagonDesk$Step" "a" "I", Cond.fieldLink RX2 24 "OctagonDesk$Step" "b" "I", Cond.fieldLink RX2 27 "OctagonDesk$Step" "c" "I"]
def wsL_step : List Cond := .codeWith yL_step cL_step 8 (some .int) [(0, 16, 19, 13), (0, 16, 23, 45)] :: ((wsL_step_r1 ++ wsL_step_r2) ++ wsX30 ++ wsX20 ++ (vx_atS RX3 130 "java/lang/IllegalArgumentException" ["java/lang/RuntimeException", "java/lang/Exception"]).filter goodWord ++ (vx_atS RX3 137 "java/lang/IllegalStateException" ["java/lang/RuntimeException", "java/lang/Exception"]).filter goodWord)
def wsL_run_r1 : List Cond := [Cond.classLink RL 13 "java/lang/IllegalArgumentException", Cond.methodLink RL 66 yX3_run, Cond.instanceMethod yX3_run, Cond.selects RX3 yX3_run yX3_run, Cond.initialized RX3, Cond.code yX3_run cX3_run 5 (some .int), Cond.fieldLink RX3 25 "OctagonDesk" "reached" "[LOctagonDesk$Shape;", Cond.fieldLink RX3 63 "OctagonDesk$Shape" "empty" "Z", Cond.fieldLink RX3 13 "OctagonDesk" "slots" "[LOctagonDesk$Shape;", Cond.fieldLink RX3 37 "OctagonDesk" "stepCount" "I", Cond.fieldLink RX3 43 "OctagonDesk" "steps" "[LOctagonDesk$Step;", Cond.methodLink RX3 48 yX3_requireSlot, Cond.static yX3_requireSlot, Cond.code yX3_requireSlot cX3_requireSlot 1 none, Cond.classLink RX3 126 "java/lang/IllegalArgumentException", Cond.initialized "java/lang/IllegalArgumentException", Cond.methodLink RX3 67 yX1_takeOver, Cond.instanceMethod yX1_takeOver, Cond.selects RX1 yX1_takeOver yX1_takeOver, Cond.initialized RX1, Cond.code yX1_takeOver cX1_takeOver 2 none, Cond.fieldLink RX1 16 "OctagonDesk$Shape" "numbers" "LOctagonDesk$Numbers;", Cond.fieldLink RX1 20 "OctagonDesk$Shape" "empty" "Z", Cond.methodLink RX1 27 yX0_takeOver]
def wsL_run_r2 : List Cond := [Cond.instanceMethod yX0_takeOver, Cond.selects RX0 yX0_takeOver yX0_takeOver, Cond.initialized RX0, Cond.code yX0_takeOver cX0_takeOver 2 none, Cond.fieldLink RX0 18 "OctagonDesk$Numbers" "limbs" "[J", Cond.methodLink RX0 33 arraycopyName, Cond.native arraycopyName, Cond.static arraycopyName, Cond.initialized "java/lang/System", Cond.methodLink RX3 142 yX3_follow, Cond.instanceMethod yX3_follow, Cond.selects RX3 yX3_follow yX3_follow, Cond.code yX3_follow cX3_follow 4 (some .boolean), Cond.fieldLink RX3 194 "OctagonDesk$Step" "to" "I", Cond.fieldLink RX3 29 "OctagonDesk" "made" "LOctagonDesk$Shape;", Cond.fieldLink RX3 197 "OctagonDesk$Step" "from" "I", Cond.fieldLink RX3 200 "OctagonDesk$Step" "kind" "I", Cond.fieldLink RX3 203 "OctagonDesk$Step" "a" "I", Cond.fieldLink RX3 206 "OctagonDesk$Step" "b" "I", Cond.fieldLink RX3 209 "OctagonDesk$Step" "c" "I", Cond.methodLink RX3 56 yX1_makeFrom, Cond.instanceMethod yX1_makeFrom, Cond.selects RX1 yX1_makeFrom yX1_makeFrom, Cond.code yX1_makeFrom cX1_makeFrom 6 none]
def wsL_run_r3 : List Cond := [Cond.methodLink RX1 31 yX1_tell, Cond.instanceMethod yX1_tell, Cond.selects RX1 yX1_tell yX1_tell, Cond.code yX1_tell cX1_tell 10 none, Cond.methodLink RX1 71 yX1_oldTerm, Cond.static yX1_oldTerm, Cond.code yX1_oldTerm cX1_oldTerm 3 (some .int), Cond.static yX3_negation, Cond.code yX3_negation cX3_negation 1 (some .int), Cond.methodLink RX1 75 yX1_moreOf, Cond.static yX1_moreOf, Cond.code yX1_moreOf cX1_moreOf 3 (some .int), Cond.methodLink RX1 50 yX1_cell, Cond.static yX1_cell, Cond.code yX1_cell cX1_cell 2 (some .int), Cond.methodLink RX1 78 yX0_putMore, Cond.instanceMethod yX0_putMore, Cond.selects RX0 yX0_putMore yX0_putMore, Cond.code yX0_putMore cX0_putMore 9 none, Cond.fieldLink RX0 22 "OctagonDesk$Numbers" "top" "I", Cond.constantLong RX0 39 (1152921504606846975), Cond.fieldLink RX0 15 "OctagonDesk$Numbers" "cells" "I", Cond.methodLink RX0 41 yX0_isInfinite, Cond.instanceMethod yX0_isInfinite]
def wsL_run_r4 : List Cond := [Cond.selects RX0 yX0_isInfinite yX0_isInfinite, Cond.code yX0_isInfinite cX0_isInfinite 2 (some .boolean), Cond.constantLong RX0 25 (9223372036854775807), Cond.methodLink RX0 45 yX0_setInfinite, Cond.instanceMethod yX0_setInfinite, Cond.selects RX0 yX0_setInfinite yX0_setInfinite, Cond.code yX0_setInfinite cX0_setInfinite 3 none, Cond.methodLink RX1 35 yX1_takeOver, Cond.methodLink RX1 38 yX0_set, Cond.instanceMethod yX0_set, Cond.selects RX0 yX0_set yX0_set, Cond.code yX0_set cX0_set 7 none, Cond.methodLink RX1 42 yX1_holdToSpare, Cond.instanceMethod yX1_holdToSpare, Cond.selects RX1 yX1_holdToSpare yX1_holdToSpare, Cond.code yX1_holdToSpare cX1_holdToSpare 3 none, Cond.methodLink RX1 57 yX0_isLess, Cond.instanceMethod yX0_isLess, Cond.selects RX0 yX0_isLess yX0_isLess, Cond.code yX0_isLess cX0_isLess 9 (some .boolean), Cond.methodLink RX1 61 yX0_put, Cond.instanceMethod yX0_put, Cond.selects RX0 yX0_put yX0_put, Cond.code yX0_put cX0_put 5 none]
def wsL_run_r5 : List Cond := [Cond.methodLink RX1 65 yX1_passThrough, Cond.instanceMethod yX1_passThrough, Cond.selects RX1 yX1_passThrough yX1_passThrough, Cond.code yX1_passThrough cX1_passThrough 5 none, Cond.methodLink RX1 111 yX0_putSum, Cond.instanceMethod yX0_putSum, Cond.selects RX0 yX0_putSum yX0_putSum, Cond.code yX0_putSum cX0_putSum 8 none, Cond.methodLink RX1 115 yX0_isNegative, Cond.instanceMethod yX0_isNegative, Cond.selects RX0 yX0_isNegative yX0_isNegative, Cond.code yX0_isNegative cX0_isNegative 2 (some .boolean), Cond.methodLink RX1 104 yX0_isInfinite, Cond.methodLink RX1 118 yX0_lower, Cond.instanceMethod yX0_lower, Cond.selects RX0 yX0_lower yX0_lower, Cond.code yX0_lower cX0_lower 4 none, Cond.fieldLink RX0 11 "OctagonDesk$Numbers" "sum" "I", Cond.methodLink RX0 49 yX0_putSum, Cond.methodLink RX0 53 yX0_isLess, Cond.methodLink RX0 57 yX0_put, Cond.methodLink RX1 68 yX1_combineSingles, Cond.instanceMethod yX1_combineSingles, Cond.selects RX1 yX1_combineSingles yX1_combineSingles]
def wsL_run_r6 : List Cond := [Cond.code yX1_combineSingles cX1_combineSingles 3 none, Cond.methodLink RX1 101 yX0_putHalf, Cond.instanceMethod yX0_putHalf, Cond.selects RX0 yX0_putHalf yX0_putHalf, Cond.code yX0_putHalf cX0_putHalf 8 none, Cond.methodLink RX1 121 yX1_findContradiction, Cond.instanceMethod yX1_findContradiction, Cond.selects RX1 yX1_findContradiction yX1_findContradiction, Cond.code yX1_findContradiction cX1_findContradiction 2 none, Cond.methodLink RX1 46 yX1_scatter, Cond.instanceMethod yX1_scatter, Cond.selects RX1 yX1_scatter yX1_scatter, Cond.code yX1_scatter cX1_scatter 6 none, Cond.constantLong RX1 86 (2), Cond.constantLong RX1 88 (-2), Cond.methodLink RX1 24 yX1_release, Cond.instanceMethod yX1_release, Cond.selects RX1 yX1_release yX1_release, Cond.code yX1_release cX1_release 4 none, Cond.methodLink RX1 54 yX0_setInfinite, Cond.methodLink RX3 112 yX3_makeRoom, Cond.instanceMethod yX3_makeRoom, Cond.selects RX3 yX3_makeRoom yX3_makeRoom, Cond.code yX3_makeRoom cX3_makeRoom 2 none]
def wsL_run_r7 : List Cond := [Cond.fieldLink RX3 178 "OctagonDesk$Shape" "numbers" "LOctagonDesk$Numbers;", Cond.fieldLink RX3 22 "OctagonDesk" "left" "[LOctagonDesk$Shape;", Cond.methodLink RX3 182 yX0_isCrowded, Cond.instanceMethod yX0_isCrowded, Cond.selects RX0 yX0_isCrowded yX0_isCrowded, Cond.code yX0_isCrowded cX0_isCrowded 4 (some .boolean), Cond.constantLong RX0 61 (18014398509481984), Cond.constantLong RX0 63 (-18014398509481984), Cond.methodLink RX3 187 yX3_growAll, Cond.static yX3_growAll, Cond.code yX3_growAll cX3_growAll 2 none, Cond.methodLink RX3 191 yX0_growTwofold, Cond.instanceMethod yX0_growTwofold, Cond.selects RX0 yX0_growTwofold yX0_growTwofold, Cond.code yX0_growTwofold cX0_growTwofold 3 none, Cond.methodLink RX0 65 yJ7_copyOf_c38d5, Cond.static yJ7_copyOf_c38d5, Cond.initialized RJ7, Cond.code yJ7_copyOf_c38d5 cJ7_copyOf_c38d5 3 (some (.array .long)), Cond.methodLink RJ7 319 ⟨"[J", "clone", "()Ljava/lang/Object;"⟩, Cond.sameMethod "[J" "java/lang/Object" "clone" "()Ljava/lang/Object;", Cond.native ⟨"java/lang/Object", "clone", "()Ljava/lang/Object;"⟩, Cond.instanceMethod ⟨"java/lang/Object", "clone", "()Ljava/lang/Object;"⟩, Cond.selects "[J" ⟨"[J", "clone", "()Ljava/lang/Object;"⟩ ⟨"java/lang/Object", "clone", "()Ljava/lang/Object;"⟩]
def wsL_run_r8 : List Cond := [Cond.classLink RJ7 320 "[J", Cond.arrayClass .long, Cond.methodLink RJ7 304 Lib.Math.min.name, Cond.static Lib.Math.min.name, Cond.initialized "java/lang/Math", Cond.code Lib.Math.min.name Lib.Math.min.code 2 (some .int), Cond.methodLink RJ7 150 arraycopyName, Cond.methodLink RX0 71 yX0_extend, Cond.instanceMethod yX0_extend, Cond.selects RX0 yX0_extend yX0_extend, Cond.code yX0_extend cX0_extend 6 none, Cond.methodLink RX3 101 yX1_isWithin, Cond.instanceMethod yX1_isWithin, Cond.selects RX1 yX1_isWithin yX1_isWithin, Cond.code yX1_isWithin cX1_isWithin 3 (some .boolean), Cond.methodLink RX3 81 yX1_loosenBy, Cond.instanceMethod yX1_loosenBy, Cond.selects RX1 yX1_loosenBy yX1_loosenBy, Cond.code yX1_loosenBy cX1_loosenBy 3 none, Cond.methodLink RX1 93 yX1_isSettledByEmptiness, Cond.instanceMethod yX1_isSettledByEmptiness, Cond.selects RX1 yX1_isSettledByEmptiness yX1_isSettledByEmptiness, Cond.code yX1_isSettledByEmptiness cX1_isSettledByEmptiness 3 (some .boolean), Cond.methodLink RX1 90 yX1_close]
def wsL_run_r9 : List Cond := [Cond.instanceMethod yX1_close, Cond.selects RX1 yX1_close yX1_close, Cond.code yX1_close cX1_close 4 none, Cond.methodLink RX3 78 yX1_stretchOver, Cond.instanceMethod yX1_stretchOver, Cond.selects RX1 yX1_stretchOver yX1_stretchOver, Cond.code yX1_stretchOver cX1_stretchOver 3 none, Cond.methodLink RX3 146 yX3_keepReached, Cond.instanceMethod yX3_keepReached, Cond.selects RX3 yX3_keepReached yX3_keepReached, Cond.code yX3_keepReached cX3_keepReached 2 none]
def wsL_run : List Cond := .codeWith yL_run cL_run 4 (some .int) [(0, 9, 12, 13)] :: ((wsL_run_r1 ++ (wsL_run_r2 ++ (wsL_run_r3 ++ (wsL_run_r4 ++ (wsL_run_r5 ++ (wsL_run_r6 ++ (wsL_run_r7 ++ (wsL_run_r8 ++ wsL_run_r9)))))))) ++ wsX30 ++ wsX10 ++ wsX00 ++ wsX20 ++ (vx_atS RX3 130 "java/lang/IllegalArgumentException" ["java/lang/RuntimeException", "java/lang/Exception"]).filter goodWord)
def wsL_take_r1 : List Cond := [Cond.classLink RL 13 "java/lang/IllegalArgumentException", Cond.methodLink RL 69 yX3_take, Cond.instanceMethod yX3_take, Cond.selects RX3 yX3_take yX3_take, Cond.initialized RX3, Cond.code yX3_take cX3_take 3 (some .boolean), Cond.classLink RX3 126 "java/lang/IllegalArgumentException", Cond.initialized "java/lang/IllegalArgumentException", Cond.fieldLink RX3 13 "OctagonDesk" "slots" "[LOctagonDesk$Shape;", Cond.fieldLink RX3 22 "OctagonDesk" "left" "[LOctagonDesk$Shape;", Cond.fieldLink RX3 63 "OctagonDesk$Shape" "empty" "Z", Cond.methodLink RX3 48 yX3_requireSlot, Cond.static yX3_requireSlot, Cond.code yX3_requireSlot cX3_requireSlot 1 none, Cond.methodLink RX3 67 yX1_takeOver, Cond.instanceMethod yX1_takeOver, Cond.selects RX1 yX1_takeOver yX1_takeOver, Cond.initialized RX1, Cond.code yX1_takeOver cX1_takeOver 2 none, Cond.fieldLink RX1 16 "OctagonDesk$Shape" "numbers" "LOctagonDesk$Numbers;", Cond.fieldLink RX1 20 "OctagonDesk$Shape" "empty" "Z", Cond.methodLink RX1 27 yX0_takeOver, Cond.instanceMethod yX0_takeOver, Cond.selects RX0 yX0_takeOver yX0_takeOver]
def wsL_take_r2 : List Cond := [Cond.initialized RX0, Cond.code yX0_takeOver cX0_takeOver 2 none, Cond.fieldLink RX0 18 "OctagonDesk$Numbers" "limbs" "[J", Cond.methodLink RX0 33 arraycopyName, Cond.native arraycopyName, Cond.static arraycopyName, Cond.initialized "java/lang/System"]
def wsL_take : List Cond := .codeWith yL_take cL_take 5 (some .int) [(0, 17, 20, 13)] :: ((wsL_take_r1 ++ wsL_take_r2) ++ wsX30 ++ wsX10 ++ wsX00 ++ (vx_atS RX3 130 "java/lang/IllegalArgumentException" ["java/lang/RuntimeException", "java/lang/Exception"]).filter goodWord)
def wsL_law0_r1 : List Cond := [Cond.classLink RL 8 RX3, Cond.instantiable RX3 7, Cond.initialized RX3, Cond.classLink RL 73 RX4, Cond.instantiable RX4 13, Cond.initialized RX4, Cond.arrayClass .long, Cond.methodLink RL 72 yX3_init, Cond.instanceMethod yX3_init, Cond.code yX3_init cX3_init 2 none, Cond.methodLink RX3 1 objectInit, Cond.instanceMethod objectInit, Cond.code objectInit ⟨#[0xb1]⟩ 1 none, Cond.fieldLink RX3 13 "OctagonDesk" "slots" "[LOctagonDesk$Shape;", Cond.fieldLink RX3 22 "OctagonDesk" "left" "[LOctagonDesk$Shape;", Cond.fieldLink RX3 25 "OctagonDesk" "reached" "[LOctagonDesk$Shape;", Cond.classLink RX3 18 RX1, Cond.instantiable RX1 2, Cond.initialized RX1, Cond.fieldLink RX3 29 "OctagonDesk" "made" "LOctagonDesk$Shape;", Cond.fieldLink RX3 33 "OctagonDesk" "offsets" "[J", Cond.fieldLink RX3 37 "OctagonDesk" "stepCount" "I", Cond.classLink RX3 41 RX2, Cond.fieldLink RX3 43 "OctagonDesk" "steps" "[LOctagonDesk$Step;"]
def wsL_law0_r2 : List Cond := [Cond.instantiable RX2 6, Cond.initialized RX2, Cond.methodLink RX3 9 yX3_emptyShapes, Cond.static yX3_emptyShapes, Cond.code yX3_emptyShapes cX3_emptyShapes 3 (some (.array (.object "OctagonDesk$Shape"))), Cond.methodLink RX3 28 yX1_init, Cond.instanceMethod yX1_init, Cond.code yX1_init cX1_init 1 none, Cond.methodLink RX1 5 objectInit, Cond.classLink RX1 11 RX0, Cond.instantiable RX0 4, Cond.initialized RX0, Cond.fieldLink RX1 16 "OctagonDesk$Shape" "numbers" "LOctagonDesk$Numbers;", Cond.fieldLink RX1 20 "OctagonDesk$Shape" "empty" "Z", Cond.methodLink RX1 13 yX0_init, Cond.instanceMethod yX0_init, Cond.code yX0_init cX0_init 2 none, Cond.methodLink RX0 5 objectInit, Cond.fieldLink RX0 11 "OctagonDesk$Numbers" "sum" "I", Cond.fieldLink RX0 15 "OctagonDesk$Numbers" "cells" "I", Cond.fieldLink RX0 18 "OctagonDesk$Numbers" "limbs" "[J", Cond.fieldLink RX0 22 "OctagonDesk$Numbers" "top" "I", Cond.methodLink RX3 17 yX1_allowAll, Cond.instanceMethod yX1_allowAll]
def wsL_law0_r3 : List Cond := [Cond.selects RX1 yX1_allowAll yX1_allowAll, Cond.code yX1_allowAll cX1_allowAll 2 none, Cond.methodLink RX1 24 yX1_release, Cond.instanceMethod yX1_release, Cond.selects RX1 yX1_release yX1_release, Cond.code yX1_release cX1_release 4 none, Cond.methodLink RX1 50 yX1_cell, Cond.static yX1_cell, Cond.code yX1_cell cX1_cell 2 (some .int), Cond.methodLink RX1 54 yX0_setInfinite, Cond.instanceMethod yX0_setInfinite, Cond.selects RX0 yX0_setInfinite yX0_setInfinite, Cond.code yX0_setInfinite cX0_setInfinite 3 none, Cond.constantLong RX0 25 (9223372036854775807), Cond.methodLink RX1 38 yX0_set, Cond.instanceMethod yX0_set, Cond.selects RX0 yX0_set yX0_set, Cond.code yX0_set cX0_set 7 none, Cond.constantLong RX0 39 (1152921504606846975), Cond.instanceMethod yX2_init, Cond.code yX2_init cX2_init 1 none, Cond.methodLink RX2 3 objectInit, Cond.methodLink RL 75 yX4_init, Cond.instanceMethod yX4_init]
def wsL_law0_r4 : List Cond := [Cond.code yX4_init cX4_init 2 none, Cond.methodLink RX4 1 objectInit, Cond.fieldLink RX4 7 "OctagonDeskModel" "bound" "[J", Cond.arrayClass .boolean, Cond.fieldLink RX4 13 "OctagonDeskModel" "isVoid" "[Z", Cond.arrayClass .int, Cond.fieldLink RX4 17 "OctagonDeskModel" "fromPoint" "[I", Cond.fieldLink RX4 21 "OctagonDeskModel" "toPoint" "[I", Cond.fieldLink RX4 24 "OctagonDeskModel" "kinds" "[I", Cond.fieldLink RX4 27 "OctagonDeskModel" "firsts" "[I", Cond.fieldLink RX4 30 "OctagonDeskModel" "seconds" "[I", Cond.fieldLink RX4 33 "OctagonDeskModel" "thirds" "[I", Cond.fieldLink RX4 36 "OctagonDeskModel" "low" "[J", Cond.fieldLink RX4 39 "OctagonDeskModel" "high" "[J", Cond.fieldLink RX4 42 "OctagonDeskModel" "value" "[J", Cond.constantLong RX4 45 (9223372036854775807), Cond.methodLink RL 76 yL_act, Cond.static yL_act, Cond.initialized RL, Cond.codeWith yL_act cL_act 8 (some .int) [(0, 23, 26, 13)], Cond.classLink RL 13 "java/lang/IllegalArgumentException", Cond.methodLink RL 7 yX3_act, Cond.instanceMethod yX3_act, Cond.selects RX3 yX3_act yX3_act]
def wsL_law0_r5 : List Cond := [Cond.code yX3_act cX3_act 6 (some .boolean), Cond.fieldLink RX3 63 "OctagonDesk$Shape" "empty" "Z", Cond.methodLink RX3 48 yX3_requireSlot, Cond.static yX3_requireSlot, Cond.code yX3_requireSlot cX3_requireSlot 1 none, Cond.classLink RX3 126 "java/lang/IllegalArgumentException", Cond.initialized "java/lang/IllegalArgumentException", Cond.methodLink RX3 52 yX3_requireAction, Cond.static yX3_requireAction, Cond.code yX3_requireAction cX3_requireAction 4 none, Cond.methodLink RX3 169 yX3_requireNumber, Cond.static yX3_requireNumber, Cond.code yX3_requireNumber cX3_requireNumber 1 none, Cond.constant RX3 165 (-1000000), Cond.constant RX3 166 (1000000), Cond.methodLink RX3 90 yX3_requireTerms, Cond.static yX3_requireTerms, Cond.code yX3_requireTerms cX3_requireTerms 2 none, Cond.methodLink RX3 157 yX3_requireTerm, Cond.static yX3_requireTerm, Cond.code yX3_requireTerm cX3_requireTerm 1 none, Cond.methodLink RX3 160 yX3_negation, Cond.static yX3_negation, Cond.code yX3_negation cX3_negation 1 (some .int)]
def wsL_law0_r6 : List Cond := [Cond.methodLink RX3 84 yX3_requireVariable, Cond.static yX3_requireVariable, Cond.code yX3_requireVariable cX3_requireVariable 1 none, Cond.methodLink RX3 56 yX1_makeFrom, Cond.instanceMethod yX1_makeFrom, Cond.selects RX1 yX1_makeFrom yX1_makeFrom, Cond.code yX1_makeFrom cX1_makeFrom 6 none, Cond.methodLink RX1 31 yX1_tell, Cond.instanceMethod yX1_tell, Cond.selects RX1 yX1_tell yX1_tell, Cond.code yX1_tell cX1_tell 10 none, Cond.methodLink RX1 71 yX1_oldTerm, Cond.static yX1_oldTerm, Cond.code yX1_oldTerm cX1_oldTerm 3 (some .int), Cond.methodLink RX1 75 yX1_moreOf, Cond.static yX1_moreOf, Cond.code yX1_moreOf cX1_moreOf 3 (some .int), Cond.methodLink RX1 78 yX0_putMore, Cond.instanceMethod yX0_putMore, Cond.selects RX0 yX0_putMore yX0_putMore, Cond.code yX0_putMore cX0_putMore 9 none, Cond.methodLink RX0 41 yX0_isInfinite, Cond.instanceMethod yX0_isInfinite, Cond.selects RX0 yX0_isInfinite yX0_isInfinite]
def wsL_law0_r7 : List Cond := [Cond.code yX0_isInfinite cX0_isInfinite 2 (some .boolean), Cond.methodLink RX0 45 yX0_setInfinite, Cond.methodLink RX1 35 yX1_takeOver, Cond.instanceMethod yX1_takeOver, Cond.selects RX1 yX1_takeOver yX1_takeOver, Cond.code yX1_takeOver cX1_takeOver 2 none, Cond.methodLink RX1 27 yX0_takeOver, Cond.instanceMethod yX0_takeOver, Cond.selects RX0 yX0_takeOver yX0_takeOver, Cond.code yX0_takeOver cX0_takeOver 2 none, Cond.methodLink RX0 33 arraycopyName, Cond.native arraycopyName, Cond.static arraycopyName, Cond.initialized "java/lang/System", Cond.methodLink RX1 42 yX1_holdToSpare, Cond.instanceMethod yX1_holdToSpare, Cond.selects RX1 yX1_holdToSpare yX1_holdToSpare, Cond.code yX1_holdToSpare cX1_holdToSpare 3 none, Cond.methodLink RX1 57 yX0_isLess, Cond.instanceMethod yX0_isLess, Cond.selects RX0 yX0_isLess yX0_isLess, Cond.code yX0_isLess cX0_isLess 9 (some .boolean), Cond.methodLink RX1 61 yX0_put, Cond.instanceMethod yX0_put]
def wsL_law0_r8 : List Cond := [Cond.selects RX0 yX0_put yX0_put, Cond.code yX0_put cX0_put 5 none, Cond.methodLink RX1 65 yX1_passThrough, Cond.instanceMethod yX1_passThrough, Cond.selects RX1 yX1_passThrough yX1_passThrough, Cond.code yX1_passThrough cX1_passThrough 5 none, Cond.methodLink RX1 111 yX0_putSum, Cond.instanceMethod yX0_putSum, Cond.selects RX0 yX0_putSum yX0_putSum, Cond.code yX0_putSum cX0_putSum 8 none, Cond.methodLink RX1 115 yX0_isNegative, Cond.instanceMethod yX0_isNegative, Cond.selects RX0 yX0_isNegative yX0_isNegative, Cond.code yX0_isNegative cX0_isNegative 2 (some .boolean), Cond.methodLink RX1 104 yX0_isInfinite, Cond.methodLink RX1 118 yX0_lower, Cond.instanceMethod yX0_lower, Cond.selects RX0 yX0_lower yX0_lower, Cond.code yX0_lower cX0_lower 4 none, Cond.methodLink RX0 49 yX0_putSum, Cond.methodLink RX0 53 yX0_isLess, Cond.methodLink RX0 57 yX0_put, Cond.methodLink RX1 68 yX1_combineSingles, Cond.instanceMethod yX1_combineSingles]
def wsL_law0_r9 : List Cond := [Cond.selects RX1 yX1_combineSingles yX1_combineSingles, Cond.code yX1_combineSingles cX1_combineSingles 3 none, Cond.methodLink RX1 101 yX0_putHalf, Cond.instanceMethod yX0_putHalf, Cond.selects RX0 yX0_putHalf yX0_putHalf, Cond.code yX0_putHalf cX0_putHalf 8 none, Cond.methodLink RX1 121 yX1_findContradiction, Cond.instanceMethod yX1_findContradiction, Cond.selects RX1 yX1_findContradiction yX1_findContradiction, Cond.code yX1_findContradiction cX1_findContradiction 2 none, Cond.methodLink RX1 46 yX1_scatter, Cond.instanceMethod yX1_scatter, Cond.selects RX1 yX1_scatter yX1_scatter, Cond.code yX1_scatter cX1_scatter 6 none, Cond.constantLong RX1 86 (2), Cond.constantLong RX1 88 (-2), Cond.methodLink RX3 60 yX3_putMade, Cond.instanceMethod yX3_putMade, Cond.selects RX3 yX3_putMade yX3_putMade, Cond.code yX3_putMade cX3_putMade 2 none, Cond.methodLink RX3 112 yX3_makeRoom, Cond.instanceMethod yX3_makeRoom, Cond.selects RX3 yX3_makeRoom yX3_makeRoom, Cond.code yX3_makeRoom cX3_makeRoom 2 none]
def wsL_law0_r10 : List Cond := [Cond.fieldLink RX3 178 "OctagonDesk$Shape" "numbers" "LOctagonDesk$Numbers;", Cond.methodLink RX3 182 yX0_isCrowded, Cond.instanceMethod yX0_isCrowded, Cond.selects RX0 yX0_isCrowded yX0_isCrowded, Cond.code yX0_isCrowded cX0_isCrowded 4 (some .boolean), Cond.constantLong RX0 61 (18014398509481984), Cond.constantLong RX0 63 (-18014398509481984), Cond.methodLink RX3 187 yX3_growAll, Cond.static yX3_growAll, Cond.code yX3_growAll cX3_growAll 2 none, Cond.methodLink RX3 191 yX0_growTwofold, Cond.instanceMethod yX0_growTwofold, Cond.selects RX0 yX0_growTwofold yX0_growTwofold, Cond.code yX0_growTwofold cX0_growTwofold 3 none, Cond.methodLink RX0 65 yJ7_copyOf_c38d5, Cond.static yJ7_copyOf_c38d5, Cond.initialized RJ7, Cond.code yJ7_copyOf_c38d5 cJ7_copyOf_c38d5 3 (some (.array .long)), Cond.methodLink RJ7 319 ⟨"[J", "clone", "()Ljava/lang/Object;"⟩, Cond.sameMethod "[J" "java/lang/Object" "clone" "()Ljava/lang/Object;", Cond.native ⟨"java/lang/Object", "clone", "()Ljava/lang/Object;"⟩, Cond.instanceMethod ⟨"java/lang/Object", "clone", "()Ljava/lang/Object;"⟩, Cond.selects "[J" ⟨"[J", "clone", "()Ljava/lang/Object;"⟩ ⟨"java/lang/Object", "clone", "()Ljava/lang/Object;"⟩, Cond.classLink RJ7 320 "[J"]
def wsL_law0_r11 : List Cond := [Cond.methodLink RJ7 304 Lib.Math.min.name, Cond.static Lib.Math.min.name, Cond.initialized "java/lang/Math", Cond.code Lib.Math.min.name Lib.Math.min.code 2 (some .int), Cond.methodLink RJ7 150 arraycopyName, Cond.methodLink RX0 71 yX0_extend, Cond.instanceMethod yX0_extend, Cond.selects RX0 yX0_extend yX0_extend, Cond.code yX0_extend cX0_extend 6 none, Cond.methodLink RX3 67 yX1_takeOver, Cond.methodLink RL 81 yX4_act, Cond.instanceMethod yX4_act, Cond.selects RX4 yX4_act yX4_act, Cond.code yX4_act cX4_act 6 (some .boolean), Cond.methodLink RX4 101 yX4_isSlot, Cond.static yX4_isSlot, Cond.code yX4_isSlot cX4_isSlot 1 (some .boolean), Cond.methodLink RX4 51 yX4_isIn, Cond.static yX4_isIn, Cond.code yX4_isIn cX4_isIn 3 (some .boolean), Cond.methodLink RX4 104 yX4_isAction, Cond.static yX4_isAction, Cond.code yX4_isAction cX4_isAction 4 (some .boolean), Cond.methodLink RX4 80 yX4_isNumber]
def wsL_law0_r12 : List Cond := [Cond.static yX4_isNumber, Cond.code yX4_isNumber cX4_isNumber 1 (some .boolean), Cond.constant RX4 55 (-1000000), Cond.constant RX4 56 (1000000), Cond.methodLink RX4 84 yX4_isTerm, Cond.static yX4_isTerm, Cond.code yX4_isTerm cX4_isTerm 1 (some .boolean), Cond.methodLink RX4 57 yX4_minus, Cond.static yX4_minus, Cond.code yX4_minus cX4_minus 1 (some .int), Cond.methodLink RX4 108 yX4_refused, Cond.instanceMethod yX4_refused, Cond.selects RX4 yX4_refused yX4_refused, Cond.code yX4_refused cX4_refused 2 (some .boolean), Cond.fieldLink RX4 47 "OctagonDeskModel" "fault" "I", Cond.methodLink RX4 111 yX4_make, Cond.instanceMethod yX4_make, Cond.selects RX4 yX4_make yX4_make, Cond.code yX4_make cX4_make 6 none, Cond.methodLink RX4 61 yX4_get, Cond.instanceMethod yX4_get, Cond.selects RX4 yX4_get yX4_get, Cond.code yX4_get cX4_get 4 (some .long), Cond.methodLink RX4 69 yX4_set]
def wsL_law0_r13 : List Cond := [Cond.instanceMethod yX4_set, Cond.selects RX4 yX4_set yX4_set, Cond.code yX4_set cX4_set 6 none, Cond.methodLink RX4 91 yX4_shift, Cond.instanceMethod yX4_shift, Cond.selects RX4 yX4_shift yX4_shift, Cond.code yX4_shift cX4_shift 10 none, Cond.methodLink RX4 87 yX4_load, Cond.instanceMethod yX4_load, Cond.selects RX4 yX4_load yX4_load, Cond.code yX4_load cX4_load 4 none, Cond.methodLink RX4 65 yX4_sum, Cond.static yX4_sum, Cond.code yX4_sum cX4_sum 4 (some .long), Cond.methodLink RX4 94 yX4_drop, Cond.instanceMethod yX4_drop, Cond.selects RX4 yX4_drop yX4_drop, Cond.code yX4_drop cX4_drop 4 none, Cond.methodLink RX4 97 yX4_close, Cond.instanceMethod yX4_close, Cond.selects RX4 yX4_close yX4_close, Cond.code yX4_close cX4_close 8 none, Cond.methodLink RX4 73 yX4_lessen, Cond.instanceMethod yX4_lessen]
def wsL_law0_r14 : List Cond := [Cond.selects RX4 yX4_lessen yX4_lessen, Cond.code yX4_lessen cX4_lessen 8 (some .boolean), Cond.methodLink RX4 77 yX4_sumOf, Cond.instanceMethod yX4_sumOf, Cond.selects RX4 yX4_sumOf yX4_sumOf, Cond.code yX4_sumOf cX4_sumOf 6 (some .long), Cond.methodLink RL 82 yX4_thrown, Cond.instanceMethod yX4_thrown, Cond.selects RX4 yX4_thrown yX4_thrown, Cond.code yX4_thrown cX4_thrown 1 (some .int), Cond.methodLink RL 86 yL_clear, Cond.static yL_clear, Cond.codeWith yL_clear cL_clear 3 (some .int) [(0, 5, 8, 13)], Cond.methodLink RL 15 yX3_clear, Cond.instanceMethod yX3_clear, Cond.selects RX3 yX3_clear yX3_clear, Cond.code yX3_clear cX3_clear 2 none, Cond.methodLink RL 89 yX4_clear, Cond.instanceMethod yX4_clear, Cond.selects RX4 yX4_clear yX4_clear, Cond.code yX4_clear cX4_clear 2 none, Cond.methodLink RX4 115 yX4_all, Cond.instanceMethod yX4_all, Cond.selects RX4 yX4_all yX4_all]
def wsL_law0_r15 : List Cond := [Cond.code yX4_all cX4_all 3 none, Cond.methodLink RL 90 yL_copy, Cond.static yL_copy, Cond.codeWith yL_copy cL_copy 4 (some .int) [(0, 6, 9, 13)], Cond.methodLink RL 19 yX3_copy, Cond.instanceMethod yX3_copy, Cond.selects RX3 yX3_copy yX3_copy, Cond.code yX3_copy cX3_copy 3 none, Cond.methodLink RL 93 yX4_copy, Cond.instanceMethod yX4_copy, Cond.selects RX4 yX4_copy yX4_copy, Cond.code yX4_copy cX4_copy 3 none, Cond.methodLink RL 94 yL_meet, Cond.static yL_meet, Cond.codeWith yL_meet cL_meet 6 (some .int) [(0, 19, 22, 13)], Cond.methodLink RL 23 yX3_meet, Cond.instanceMethod yX3_meet, Cond.selects RX3 yX3_meet yX3_meet, Cond.code yX3_meet cX3_meet 4 (some .boolean), Cond.methodLink RX3 71 yX3_requireThreeSlots, Cond.static yX3_requireThreeSlots, Cond.code yX3_requireThreeSlots cX3_requireThreeSlots 3 none, Cond.methodLink RX3 75 yX1_cutTo, Cond.instanceMethod yX1_cutTo]
def wsL_law0_r16 : List Cond := [Cond.selects RX1 yX1_cutTo yX1_cutTo, Cond.code yX1_cutTo cX1_cutTo 3 none, Cond.methodLink RX1 90 yX1_close, Cond.instanceMethod yX1_close, Cond.selects RX1 yX1_close yX1_close, Cond.code yX1_close cX1_close 4 none, Cond.methodLink RL 97 yX4_meet, Cond.instanceMethod yX4_meet, Cond.selects RX4 yX4_meet yX4_meet, Cond.code yX4_meet cX4_meet 7 (some .boolean), Cond.methodLink RX4 118 yX4_areSlots, Cond.static yX4_areSlots, Cond.code yX4_areSlots cX4_areSlots 3 (some .boolean), Cond.methodLink RL 98 yL_join, Cond.static yL_join, Cond.codeWith yL_join cL_join 5 (some .int) [(0, 7, 10, 13)], Cond.methodLink RL 27 yX3_join, Cond.instanceMethod yX3_join, Cond.selects RX3 yX3_join yX3_join, Cond.code yX3_join cX3_join 4 none, Cond.methodLink RX3 78 yX1_stretchOver, Cond.instanceMethod yX1_stretchOver, Cond.selects RX1 yX1_stretchOver yX1_stretchOver, Cond.code yX1_stretchOver cX1_stretchOver 3 none]
def wsL_law0_r17 : List Cond := [Cond.methodLink RX1 93 yX1_isSettledByEmptiness, Cond.instanceMethod yX1_isSettledByEmptiness, Cond.selects RX1 yX1_isSettledByEmptiness yX1_isSettledByEmptiness, Cond.code yX1_isSettledByEmptiness cX1_isSettledByEmptiness 3 (some .boolean), Cond.methodLink RL 101 yX4_join, Cond.instanceMethod yX4_join, Cond.selects RX4 yX4_join yX4_join, Cond.code yX4_join cX4_join 4 none, Cond.methodLink RX4 121 yX4_joined, Cond.instanceMethod yX4_joined, Cond.selects RX4 yX4_joined yX4_joined, Cond.code yX4_joined cX4_joined 6 none, Cond.methodLink RL 102 yL_widen, Cond.static yL_widen, Cond.codeWith yL_widen cL_widen 5 (some .int) [(0, 7, 10, 13)], Cond.methodLink RL 31 yX3_widen, Cond.instanceMethod yX3_widen, Cond.selects RX3 yX3_widen yX3_widen, Cond.code yX3_widen cX3_widen 4 none, Cond.methodLink RX3 81 yX1_loosenBy, Cond.instanceMethod yX1_loosenBy, Cond.selects RX1 yX1_loosenBy yX1_loosenBy, Cond.code yX1_loosenBy cX1_loosenBy 3 none, Cond.methodLink RL 104 yX4_widen]
def wsL_law0_r18 : List Cond := [Cond.instanceMethod yX4_widen, Cond.selects RX4 yX4_widen yX4_widen, Cond.code yX4_widen cX4_widen 4 none, Cond.methodLink RX4 124 yX4_widened, Cond.instanceMethod yX4_widened, Cond.selects RX4 yX4_widened yX4_widened, Cond.code yX4_widened cX4_widened 5 none, Cond.methodLink RL 105 yL_forget, Cond.static yL_forget, Cond.codeWith yL_forget cL_forget 4 (some .int) [(0, 6, 9, 13)], Cond.methodLink RL 34 yX3_forget, Cond.instanceMethod yX3_forget, Cond.selects RX3 yX3_forget yX3_forget, Cond.code yX3_forget cX3_forget 3 none, Cond.methodLink RX3 87 yX1_release, Cond.methodLink RL 107 yX4_forget, Cond.instanceMethod yX4_forget, Cond.selects RX4 yX4_forget yX4_forget, Cond.code yX4_forget cX4_forget 3 none, Cond.methodLink RL 108 yL_isEmpty, Cond.static yL_isEmpty, Cond.codeWith yL_isEmpty cL_isEmpty 4 (some .int) [(0, 16, 19, 13)], Cond.methodLink RL 37 yX3_isEmpty, Cond.instanceMethod yX3_isEmpty]
def wsL_law0_r19 : List Cond := [Cond.selects RX3 yX3_isEmpty yX3_isEmpty, Cond.code yX3_isEmpty cX3_isEmpty 2 (some .boolean), Cond.methodLink RL 111 yX4_isEmpty, Cond.instanceMethod yX4_isEmpty, Cond.selects RX4 yX4_isEmpty yX4_isEmpty, Cond.code yX4_isEmpty cX4_isEmpty 2 (some .boolean), Cond.methodLink RL 112 yL_most, Cond.static yL_most, Cond.codeWith yL_most cL_most 6 (some .int) [(0, 11, 14, 13), (0, 11, 18, 45)], Cond.classLink RL 45 "java/lang/IllegalStateException", Cond.methodLink RL 41 yX3_most, Cond.instanceMethod yX3_most, Cond.selects RX3 yX3_most yX3_most, Cond.code yX3_most cX3_most 4 (some .long), Cond.methodLink RX3 94 yX3_requirePlace, Cond.instanceMethod yX3_requirePlace, Cond.selects RX3 yX3_requirePlace yX3_requirePlace, Cond.code yX3_requirePlace cX3_requirePlace 2 none, Cond.classLink RX3 133 "java/lang/IllegalStateException", Cond.initialized "java/lang/IllegalStateException", Cond.methodLink RX3 97 yX1_mostOf, Cond.instanceMethod yX1_mostOf, Cond.selects RX1 yX1_mostOf yX1_mostOf, Cond.code yX1_mostOf cX1_mostOf 3 (some .long)]
def wsL_law0_r20 : List Cond := [Cond.methodLink RX1 97 yX0_nearestLong, Cond.instanceMethod yX0_nearestLong, Cond.selects RX0 yX0_nearestLong yX0_nearestLong, Cond.code yX0_nearestLong cX0_nearestLong 5 (some .long), Cond.constantLong RX0 27 (7), Cond.constantLong RX0 29 (-8), Cond.constantLong RX0 31 (-9223372036854775808), Cond.methodLink RL 114 yX4_most, Cond.instanceMethod yX4_most, Cond.selects RX4 yX4_most yX4_most, Cond.code yX4_most cX4_most 5 (some .long), Cond.methodLink RL 115 yL_inside, Cond.static yL_inside, Cond.codeWith yL_inside cL_inside 5 (some .int) [(0, 17, 20, 13)], Cond.methodLink RL 47 yX3_inside, Cond.instanceMethod yX3_inside, Cond.selects RX3 yX3_inside yX3_inside, Cond.code yX3_inside cX3_inside 3 (some .boolean), Cond.methodLink RX3 101 yX1_isWithin, Cond.instanceMethod yX1_isWithin, Cond.selects RX1 yX1_isWithin yX1_isWithin, Cond.code yX1_isWithin cX1_isWithin 3 (some .boolean), Cond.methodLink RL 118 yX4_inside, Cond.instanceMethod yX4_inside]
def wsL_law0_r21 : List Cond := [Cond.selects RX4 yX4_inside yX4_inside, Cond.code yX4_inside cX4_inside 3 (some .boolean), Cond.methodLink RX4 127 yX4_isWithin, Cond.instanceMethod yX4_isWithin, Cond.selects RX4 yX4_isWithin yX4_isWithin, Cond.code yX4_isWithin cX4_isWithin 5 (some .boolean), Cond.methodLink RL 119 yL_bounds, Cond.static yL_bounds, Cond.codeWith yL_bounds cL_bounds 4 (some .int) [(0, 9, 12, 13)], Cond.methodLink RL 51 yX3_bounds, Cond.instanceMethod yX3_bounds, Cond.selects RX3 yX3_bounds yX3_bounds, Cond.code yX3_bounds cX3_bounds 2 (some .int), Cond.methodLink RX3 105 yX1_countBounds, Cond.instanceMethod yX1_countBounds, Cond.selects RX1 yX1_countBounds yX1_countBounds, Cond.code yX1_countBounds cX1_countBounds 4 (some .int), Cond.methodLink RL 121 yX4_bounds, Cond.instanceMethod yX4_bounds, Cond.selects RX4 yX4_bounds yX4_bounds, Cond.code yX4_bounds cX4_bounds 5 (some .int), Cond.methodLink RL 122 yL_first, Cond.static yL_first, Cond.codeWith yL_first cL_first 5 (some .int) [(0, 9, 12, 13), (0, 9, 16, 45)]]
def wsL_law0_r22 : List Cond := [Cond.methodLink RL 55 yX3_first, Cond.instanceMethod yX3_first, Cond.selects RX3 yX3_first yX3_first, Cond.code yX3_first cX3_first 4 (some .long), Cond.methodLink RX3 109 yX1_settle, Cond.instanceMethod yX1_settle, Cond.selects RX1 yX1_settle yX1_settle, Cond.code yX1_settle cX1_settle 4 none, Cond.methodLink RX1 108 yX0_putNegative, Cond.instanceMethod yX0_putNegative, Cond.selects RX0 yX0_putNegative yX0_putNegative, Cond.code yX0_putNegative cX0_putNegative 6 none, Cond.methodLink RL 124 yX4_first, Cond.instanceMethod yX4_first, Cond.selects RX4 yX4_first yX4_first, Cond.code yX4_first cX4_first 10 (some .long), Cond.methodLink RL 125 yL_places, Cond.static yL_places, Cond.codeWith yL_places cL_places 4 (some .int) [(0, 9, 12, 13)], Cond.methodLink RL 59 yX3_places, Cond.instanceMethod yX3_places, Cond.selects RX3 yX3_places yX3_places, Cond.code yX3_places cX3_places 2 (some .int), Cond.methodLink RX3 115 yX1_shiftToLeast]
def wsL_law0_r23 : List Cond := [Cond.instanceMethod yX1_shiftToLeast, Cond.selects RX1 yX1_shiftToLeast yX1_shiftToLeast, Cond.code yX1_shiftToLeast cX1_shiftToLeast 3 (some .boolean), Cond.methodLink RX3 119 yX3_madeFitsTheBox, Cond.instanceMethod yX3_madeFitsTheBox, Cond.selects RX3 yX3_madeFitsTheBox yX3_madeFitsTheBox, Cond.code yX3_madeFitsTheBox cX3_madeFitsTheBox 6 (some .boolean), Cond.constantLong RX3 212 (4096), Cond.methodLink RX3 122 yX3_countFrom, Cond.instanceMethod yX3_countFrom, Cond.selects RX3 yX3_countFrom yX3_countFrom, Cond.code yX3_countFrom cX3_countFrom 11 (some .int), Cond.methodLink RX3 214 Lib.MathLoose.min_long.x, Cond.static Lib.MathLoose.min_long.x, Cond.code Lib.MathLoose.min_long.x Lib.MathLoose.min_long.code 4 (some .long), Cond.methodLink RX3 220 Lib.MathLoose.max_long.x, Cond.static Lib.MathLoose.max_long.x, Cond.code Lib.MathLoose.max_long.x Lib.MathLoose.max_long.code 4 (some .long), Cond.methodLink RL 127 yX4_places, Cond.instanceMethod yX4_places, Cond.selects RX4 yX4_places yX4_places, Cond.code yX4_places cX4_places 9 (some .int), Cond.constantLong RX4 131 (4096), Cond.methodLink RX4 133 yX4_holds]
def wsL_law0_r24 : List Cond := [Cond.instanceMethod yX4_holds, Cond.selects RX4 yX4_holds yX4_holds, Cond.code yX4_holds cX4_holds 9 (some .boolean), Cond.methodLink RL 128 yL_step, Cond.static yL_step, Cond.codeWith yL_step cL_step 8 (some .int) [(0, 16, 19, 13), (0, 16, 23, 45)], Cond.methodLink RL 62 yX3_step, Cond.instanceMethod yX3_step, Cond.selects RX3 yX3_step yX3_step, Cond.code yX3_step cX3_step 6 (some .int), Cond.methodLink RX3 138 yX2_write, Cond.instanceMethod yX2_write, Cond.selects RX2 yX2_write yX2_write, Cond.code yX2_write cX2_write 6 none, Cond.fieldLink RX2 9 "OctagonDesk$Step" "from" "I", Cond.fieldLink RX2 15 "OctagonDesk$Step" "to" "I", Cond.fieldLink RX2 18 "OctagonDesk$Step" "kind" "I", Cond.fieldLink RX2 21 "OctagonDesk$Step" "a" "I", Cond.fieldLink RX2 24 "OctagonDesk$Step" "b" "I", Cond.fieldLink RX2 27 "OctagonDesk$Step" "c" "I", Cond.methodLink RL 130 yX4_step, Cond.instanceMethod yX4_step, Cond.selects RX4 yX4_step yX4_step, Cond.code yX4_step cX4_step 6 (some .int)]
def wsL_law0_r25 : List Cond := [Cond.fieldLink RX4 136 "OctagonDeskModel" "steps" "I", Cond.methodLink RL 131 yX3_erase, Cond.instanceMethod yX3_erase, Cond.selects RX3 yX3_erase yX3_erase, Cond.code yX3_erase cX3_erase 2 (some .int), Cond.methodLink RL 134 yX4_erase, Cond.instanceMethod yX4_erase, Cond.selects RX4 yX4_erase yX4_erase, Cond.code yX4_erase cX4_erase 2 (some .int), Cond.methodLink RL 135 yL_run, Cond.static yL_run, Cond.codeWith yL_run cL_run 4 (some .int) [(0, 9, 12, 13)], Cond.methodLink RL 66 yX3_run, Cond.instanceMethod yX3_run, Cond.selects RX3 yX3_run yX3_run, Cond.code yX3_run cX3_run 5 (some .int), Cond.methodLink RX3 142 yX3_follow, Cond.instanceMethod yX3_follow, Cond.selects RX3 yX3_follow yX3_follow, Cond.code yX3_follow cX3_follow 4 (some .boolean), Cond.fieldLink RX3 194 "OctagonDesk$Step" "to" "I", Cond.fieldLink RX3 197 "OctagonDesk$Step" "from" "I", Cond.fieldLink RX3 200 "OctagonDesk$Step" "kind" "I", Cond.fieldLink RX3 203 "OctagonDesk$Step" "a" "I"]
def wsL_law0_r26 : List Cond := [Cond.fieldLink RX3 206 "OctagonDesk$Step" "b" "I", Cond.fieldLink RX3 209 "OctagonDesk$Step" "c" "I", Cond.methodLink RX3 146 yX3_keepReached, Cond.instanceMethod yX3_keepReached, Cond.selects RX3 yX3_keepReached yX3_keepReached, Cond.code yX3_keepReached cX3_keepReached 2 none, Cond.methodLink RL 137 yX4_run, Cond.instanceMethod yX4_run, Cond.selects RX4 yX4_run yX4_run, Cond.code yX4_run cX4_run 6 (some .int), Cond.methodLink RX4 139 yX4_go, Cond.instanceMethod yX4_go, Cond.selects RX4 yX4_go yX4_go, Cond.code yX4_go cX4_go 4 (some .boolean), Cond.methodLink RL 138 yL_take, Cond.static yL_take, Cond.codeWith yL_take cL_take 5 (some .int) [(0, 17, 20, 13)], Cond.methodLink RL 69 yX3_take, Cond.instanceMethod yX3_take, Cond.selects RX3 yX3_take yX3_take, Cond.code yX3_take cX3_take 3 (some .boolean), Cond.methodLink RL 140 yX4_take, Cond.instanceMethod yX4_take, Cond.selects RX4 yX4_take yX4_take]
def wsL_law0_r27 : List Cond := [Cond.code yX4_take cX4_take 3 (some .boolean)]
def wsL_law0 : List Cond := (wsL_law0_r1 ++ (wsL_law0_r2 ++ (wsL_law0_r3 ++ (wsL_law0_r4 ++ (wsL_law0_r5 ++ (wsL_law0_r6 ++ (wsL_law0_r7 ++ (wsL_law0_r8 ++ (wsL_law0_r9 ++ (wsL_law0_r10 ++ (wsL_law0_r11 ++ (wsL_law0_r12 ++ (wsL_law0_r13 ++ (wsL_law0_r14 ++ (wsL_law0_r15 ++ (wsL_law0_r16 ++ (wsL_law0_r17 ++ (wsL_law0_r18 ++ (wsL_law0_r19 ++ (wsL_law0_r20 ++ (wsL_law0_r21 ++ (wsL_law0_r22 ++ (wsL_law0_r23 ++ (wsL_law0_r24 ++ (wsL_law0_r25 ++ (wsL_law0_r26 ++ wsL_law0_r27)))))))))))))))))))))))))) ++ wsX30 ++ wsX40 ++ wsX10 ++ wsX20 ++ wsX00 ++ ([] : List Cond)
def wsL_law : List Cond := wsL_law0 ++ (vx_atS RX3 130 "java/lang/IllegalArgumentException" ["java/lang/RuntimeException", "java/lang/Exception"]).filter goodWord ++ (vx_atS RX3 137 "java/lang/IllegalStateException" ["java/lang/RuntimeException", "java/lang/Exception"]).filter goodWord
abbrev vwCl : List vw_C := [(RX0, TX0, 4), (RX1, TX1, 2), (RX2, TX2, 6), (RX3, TX3, 7), (RX4, TX4, 13)]
end
section
theorem dX0_init_0 : decode cX0_init 0 = .ok (.aload_n 0, 1) := by decide +kernel
theorem dX0_init_1 : decode cX0_init 1 = .ok (.invokespecial 5, 3) := by decide +kernel
theorem dX0_init_4 : decode cX0_init 4 = .ok (.aload_n 0, 1) := by decide +kernel
theorem dX0_init_5 : decode cX0_init 5 = .ok (.iload_n 1, 1) := by decide +kernel
theorem dX0_init_6 : decode cX0_init 6 = .ok (.putfield 11, 3) := by decide +kernel
theorem dX0_init_9 : decode cX0_init 9 = .ok (.aload_n 0, 1) := by decide +kernel
theorem dX0_init_10 : decode cX0_init 10 = .ok (.iload_n 1, 1) := by decide +kernel
theorem dX0_init_11 : decode cX0_init 11 = .ok (.iconst 1, 1) := by decide +kernel
theorem dX0_init_12 : decode cX0_init 12 = .ok (.iadd, 1) := by decide +kernel
theorem dX0_init_13 : decode cX0_init 13 = .ok (.putfield 15, 3) := by decide +kernel
theorem dX0_init_16 : decode cX0_init 16 = .ok (.aload_n 0, 1) := by decide +kernel
theorem dX0_init_17 : decode cX0_init 17 = .ok (.aload_n 0, 1) := by decide +kernel
theorem dX0_init_18 : decode cX0_init 18 = .ok (.getfield 15, 3) := by decide +kernel
theorem dX0_init_21 : decode cX0_init 21 = .ok (.newarray .long, 2) := by decide +kernel
theorem dX0_init_23 : decode cX0_init 23 = .ok (.putfield 18, 3) := by decide +kernel
theorem dX0_init_26 : decode cX0_init 26 = .ok (.aload_n 0, 1) := by decide +kernel
theorem dX0_init_27 : decode cX0_init 27 = .ok (.iconst 0, 1) := by decide +kernel
theorem dX0_init_28 : decode cX0_init 28 = .ok (.putfield 22, 3) := by decide +kernel
theorem dX0_init_31 : decode cX0_init 31 = .ok (.return_, 1) := by decide +kernel
theorem dX0_isInfinite_0 : decode cX0_isInfinite 0 = .ok (.aload_n 0, 1) := by decide +kernel
theorem dX0_isInfinite_1 : decode cX0_isInfinite 1 = .ok (.getfield 18, 3) := by decide +kernel
theorem dX0_isInfinite_4 : decode cX0_isInfinite 4 = .ok (.aload_n 0, 1) := by decide +kernel
theorem dX0_isInfinite_5 : decode cX0_isInfinite 5 = .ok (.getfield 22, 3) := by decide +kernel
theorem dX0_isInfinite_8 : decode cX0_isInfinite 8 = .ok (.iload_n 1, 1) := by decide +kernel
theorem dX0_isInfinite_9 : decode cX0_isInfinite 9 = .ok (.iadd, 1) := by decide +kernel
theorem dX0_isInfinite_10 : decode cX0_isInfinite 10 = .ok (.laload, 1) := by decide +kernel
theorem dX0_isInfinite_11 : decode cX0_isInfinite 11 = .ok (.ldc2_w 25, 3) := by decide +kernel
theorem dX0_isInfinite_14 : decode cX0_isInfinite 14 = .ok (.lcmp, 1) := by decide +kernel
theorem dX0_isInfinite_15 : decode cX0_isInfinite 15 = .ok (.ifCond .ne 7, 3) := by decide +kernel
theorem dX0_isInfinite_18 : decode cX0_isInfinite 18 = .ok (.iconst 1, 1) := by decide +kernel
theorem dX0_isInfinite_19 : decode cX0_isInfinite 19 = .ok (.goto 4, 3) := by decide +kernel
theorem dX0_isInfinite_22 : decode cX0_isInfinite 22 = .ok (.iconst 0, 1) := by decide +kernel
theorem dX0_isInfinite_23 : decode cX0_isInfinite 23 = .ok (.ireturn, 1) := by decide +kernel
theorem dX0_isNegative_0 : decode cX0_isNegative 0 = .ok (.aload_n 0, 1) := by decide +kernel
theorem dX0_isNegative_1 : decode cX0_isNegative 1 = .ok (.getfield 18, 3) := by decide +kernel
theorem dX0_isNegative_4 : decode cX0_isNegative 4 = .ok (.aload_n 0, 1) := by decide +kernel
theorem dX0_isNegative_5 : decode cX0_isNegative 5 = .ok (.getfield 22, 3) := by decide +kernel
theorem dX0_isNegative_8 : decode cX0_isNegative 8 = .ok (.iload_n 1, 1) := by decide +kernel
theorem dX0_isNegative_9 : decode cX0_isNegative 9 = .ok (.iadd, 1) := by decide +kernel
theorem dX0_isNegative_10 : decode cX0_isNegative 10 = .ok (.laload, 1) := by decide +kernel
theorem dX0_isNegative_11 : decode cX0_isNegative 11 = .ok (.lconst 0, 1) := by decide +kernel
theorem dX0_isNegative_12 : decode cX0_isNegative 12 = .ok (.lcmp, 1) := by decide +kernel
theorem dX0_isNegative_13 : decode cX0_isNegative 13 = .ok (.ifCond .ge 7, 3) := by decide +kernel
theorem dX0_isNegative_16 : decode cX0_isNegative 16 = .ok (.iconst 1, 1) := by decide +kernel
theorem dX0_isNegative_17 : decode cX0_isNegative 17 = .ok (.goto 4, 3) := by decide +kernel
theorem dX0_isNegative_20 : decode cX0_isNegative 20 = .ok (.iconst 0, 1) := by decide +kernel
theorem dX0_isNegative_21 : decode cX0_isNegative 21 = .ok (.ireturn, 1) := by decide +kernel
theorem dX0_isLess_0 : decode cX0_isLess 0 = .ok (.aload_n 0, 1) := by decide +kernel
theorem dX0_isLess_1 : decode cX0_isLess 1 = .ok (.getfield 22, 3) := by decide +kernel
theorem dX0_isLess_4 : decode cX0_isLess 4 = .ok (.istore 4, 2) := by decide +kernel
theorem dX0_isLess_6 : decode cX0_isLess 6 = .ok (.iload 4, 2) := by decide +kernel
theorem dX0_isLess_8 : decode cX0_isLess 8 = .ok (.ifCond .lt 59, 3) := by decide +kernel
theorem dX0_isLess_11 : decode cX0_isLess 11 = .ok (.aload_n 0, 1) := by decide +kernel
theorem dX0_isLess_12 : decode cX0_isLess 12 = .ok (.getfield 18, 3) := by decide +kernel
theorem dX0_isLess_15 : decode cX0_isLess 15 = .ok (.iload 4, 2) := by decide +kernel
theorem dX0_isLess_17 : decode cX0_isLess 17 = .ok (.iload_n 1, 1) := by decide +kernel
theorem dX0_isLess_18 : decode cX0_isLess 18 = .ok (.iadd, 1) := by decide +kernel
theorem dX0_isLess_19 : decode cX0_isLess 19 = .ok (.laload, 1) := by decide +kernel
theorem dX0_isLess_20 : decode cX0_isLess 20 = .ok (.lstore 5, 2) := by decide +kernel
theorem dX0_isLess_22 : decode cX0_isLess 22 = .ok (.aload_n 2, 1) := by decide +kernel
theorem dX0_isLess_23 : decode cX0_isLess 23 = .ok (.getfield 18, 3) := by decide +kernel
theorem dX0_isLess_26 : decode cX0_isLess 26 = .ok (.iload 4, 2) := by decide +kernel
theorem dX0_isLess_28 : decode cX0_isLess 28 = .ok (.iload_n 3, 1) := by decide +kernel
theorem dX0_isLess_29 : decode cX0_isLess 29 = .ok (.iadd, 1) := by decide +kernel
theorem dX0_isLess_30 : decode cX0_isLess 30 = .ok (.laload, 1) := by decide +kernel
theorem dX0_isLess_31 : decode cX0_isLess 31 = .ok (.lstore 7, 2) := by decide +kernel
theorem dX0_isLess_33 : decode cX0_isLess 33 = .ok (.lload 5, 2) := by decide +kernel
theorem dX0_isLess_35 : decode cX0_isLess 35 = .ok (.lload 7, 2) := by decide +kernel
theorem dX0_isLess_37 : decode cX0_isLess 37 = .ok (.lcmp, 1) := by decide +kernel
theorem dX0_isLess_38 : decode cX0_isLess 38 = .ok (.ifCond .eq 17, 3) := by decide +kernel
theorem dX0_isLess_41 : decode cX0_isLess 41 = .ok (.lload 5, 2) := by decide +kernel
theorem dX0_isLess_43 : decode cX0_isLess 43 = .ok (.lload 7, 2) := by decide +kernel
theorem dX0_isLess_45 : decode cX0_isLess 45 = .ok (.lcmp, 1) := by decide +kernel
theorem dX0_isLess_46 : decode cX0_isLess 46 = .ok (.ifCond .ge 7, 3) := by decide +kernel
theorem dX0_isLess_49 : decode cX0_isLess 49 = .ok (.iconst 1, 1) := by decide +kernel
theorem dX0_isLess_50 : decode cX0_isLess 50 = .ok (.goto 4, 3) := by decide +kernel
theorem dX0_isLess_53 : decode cX0_isLess 53 = .ok (.iconst 0, 1) := by decide +kernel
theorem dX0_isLess_54 : decode cX0_isLess 54 = .ok (.ireturn, 1) := by decide +kernel
theorem dX0_isLess_55 : decode cX0_isLess 55 = .ok (.iload 4, 2) := by decide +kernel
theorem dX0_isLess_57 : decode cX0_isLess 57 = .ok (.aload_n 0, 1) := by decide +kernel
theorem dX0_isLess_58 : decode cX0_isLess 58 = .ok (.getfield 15, 3) := by decide +kernel
theorem dX0_isLess_61 : decode cX0_isLess 61 = .ok (.isub, 1) := by decide +kernel
theorem dX0_isLess_62 : decode cX0_isLess 62 = .ok (.istore 4, 2) := by decide +kernel
theorem dX0_isLess_64 : decode cX0_isLess 64 = .ok (.goto (-58), 3) := by decide +kernel
theorem dX0_isLess_67 : decode cX0_isLess 67 = .ok (.iconst 0, 1) := by decide +kernel
theorem dX0_isLess_68 : decode cX0_isLess 68 = .ok (.ireturn, 1) := by decide +kernel
theorem dX0_nearestLong_0 : decode cX0_nearestLong 0 = .ok (.aload_n 0, 1) := by decide +kernel
theorem dX0_nearestLong_1 : decode cX0_nearestLong 1 = .ok (.getfield 18, 3) := by decide +kernel
theorem dX0_nearestLong_4 : decode cX0_nearestLong 4 = .ok (.aload_n 0, 1) := by decide +kernel
theorem dX0_nearestLong_5 : decode cX0_nearestLong 5 = .ok (.getfield 22, 3) := by decide +kernel
theorem dX0_nearestLong_8 : decode cX0_nearestLong 8 = .ok (.iload_n 1, 1) := by decide +kernel
theorem dX0_nearestLong_9 : decode cX0_nearestLong 9 = .ok (.iadd, 1) := by decide +kernel
theorem dX0_nearestLong_10 : decode cX0_nearestLong 10 = .ok (.laload, 1) := by decide +kernel
theorem dX0_nearestLong_11 : decode cX0_nearestLong 11 = .ok (.lstore_n 2, 1) := by decide +kernel
theorem dX0_nearestLong_12 : decode cX0_nearestLong 12 = .ok (.lload_n 2, 1) := by decide +kernel
theorem dX0_nearestLong_13 : decode cX0_nearestLong 13 = .ok (.ldc2_w 25, 3) := by decide +kernel
theorem dX0_nearestLong_16 : decode cX0_nearestLong 16 = .ok (.lcmp, 1) := by decide +kernel
theorem dX0_nearestLong_17 : decode cX0_nearestLong 17 = .ok (.ifCond .ne 7, 3) := by decide +kernel
theorem dX0_nearestLong_20 : decode cX0_nearestLong 20 = .ok (.ldc2_w 25, 3) := by decide +kernel
theorem dX0_nearestLong_23 : decode cX0_nearestLong 23 = .ok (.lreturn, 1) := by decide +kernel
theorem dX0_nearestLong_24 : decode cX0_nearestLong 24 = .ok (.aload_n 0, 1) := by decide +kernel
theorem dX0_nearestLong_25 : decode cX0_nearestLong 25 = .ok (.getfield 22, 3) := by decide +kernel
theorem dX0_nearestLong_28 : decode cX0_nearestLong 28 = .ok (.aload_n 0, 1) := by decide +kernel
theorem dX0_nearestLong_29 : decode cX0_nearestLong 29 = .ok (.getfield 15, 3) := by decide +kernel
theorem dX0_nearestLong_32 : decode cX0_nearestLong 32 = .ok (.isub, 1) := by decide +kernel
theorem dX0_nearestLong_33 : decode cX0_nearestLong 33 = .ok (.istore 4, 2) := by decide +kernel
theorem dX0_nearestLong_35 : decode cX0_nearestLong 35 = .ok (.iload 4, 2) := by decide +kernel
theorem dX0_nearestLong_37 : decode cX0_nearestLong 37 = .ok (.ifCond .lt 54, 3) := by decide +kernel
theorem dX0_nearestLong_40 : decode cX0_nearestLong 40 = .ok (.lload_n 2, 1) := by decide +kernel
theorem dX0_nearestLong_41 : decode cX0_nearestLong 41 = .ok (.ldc2_w 27, 3) := by decide +kernel
theorem dX0_nearestLong_44 : decode cX0_nearestLong 44 = .ok (.lcmp, 1) := by decide +kernel
theorem dX0_nearestLong_45 : decode cX0_nearestLong 45 = .ok (.ifCond .le 7, 3) := by decide +kernel
theorem dX0_nearestLong_48 : decode cX0_nearestLong 48 = .ok (.ldc2_w 25, 3) := by decide +kernel
theorem dX0_nearestLong_51 : decode cX0_nearestLong 51 = .ok (.lreturn, 1) := by decide +kernel
theorem dX0_nearestLong_52 : decode cX0_nearestLong 52 = .ok (.lload_n 2, 1) := by decide +kernel
theorem dX0_nearestLong_53 : decode cX0_nearestLong 53 = .ok (.ldc2_w 29, 3) := by decide +kernel
theorem dX0_nearestLong_56 : decode cX0_nearestLong 56 = .ok (.lcmp, 1) := by decide +kernel
theorem dX0_nearestLong_57 : decode cX0_nearestLong 57 = .ok (.ifCond .ge 7, 3) := by decide +kernel
theorem dX0_nearestLong_60 : decode cX0_nearestLong 60 = .ok (.ldc2_w 31, 3) := by decide +kernel
theorem dX0_nearestLong_63 : decode cX0_nearestLong 63 = .ok (.lreturn, 1) := by decide +kernel
theorem dX0_nearestLong_64 : decode cX0_nearestLong 64 = .ok (.lload_n 2, 1) := by decide +kernel
theorem dX0_nearestLong_65 : decode cX0_nearestLong 65 = .ok (.bipush 60, 2) := by decide +kernel
theorem dX0_nearestLong_67 : decode cX0_nearestLong 67 = .ok (.lshl, 1) := by decide +kernel
theorem dX0_nearestLong_68 : decode cX0_nearestLong 68 = .ok (.aload_n 0, 1) := by decide +kernel
theorem dX0_nearestLong_69 : decode cX0_nearestLong 69 = .ok (.getfield 18, 3) := by decide +kernel
theorem dX0_nearestLong_72 : decode cX0_nearestLong 72 = .ok (.iload 4, 2) := by decide +kernel
theorem dX0_nearestLong_74 : decode cX0_nearestLong 74 = .ok (.iload_n 1, 1) := by decide +kernel
theorem dX0_nearestLong_75 : decode cX0_nearestLong 75 = .ok (.iadd, 1) := by decide +kernel
theorem dX0_nearestLong_76 : decode cX0_nearestLong 76 = .ok (.laload, 1) := by decide +kernel
theorem dX0_nearestLong_77 : decode cX0_nearestLong 77 = .ok (.ladd, 1) := by decide +kernel
theorem dX0_nearestLong_78 : decode cX0_nearestLong 78 = .ok (.lstore_n 2, 1) := by decide +kernel
theorem dX0_nearestLong_79 : decode cX0_nearestLong 79 = .ok (.iload 4, 2) := by decide +kernel
theorem dX0_nearestLong_81 : decode cX0_nearestLong 81 = .ok (.aload_n 0, 1) := by decide +kernel
theorem dX0_nearestLong_82 : decode cX0_nearestLong 82 = .ok (.getfield 15, 3) := by decide +kernel
theorem dX0_nearestLong_85 : decode cX0_nearestLong 85 = .ok (.isub, 1) := by decide +kernel
theorem dX0_nearestLong_86 : decode cX0_nearestLong 86 = .ok (.istore 4, 2) := by decide +kernel
theorem dX0_nearestLong_88 : decode cX0_nearestLong 88 = .ok (.goto (-53), 3) := by decide +kernel
theorem dX0_nearestLong_91 : decode cX0_nearestLong 91 = .ok (.lload_n 2, 1) := by decide +kernel
theorem dX0_nearestLong_92 : decode cX0_nearestLong 92 = .ok (.lreturn, 1) := by decide +kernel
theorem dX0_takeOver_0 : decode cX0_takeOver 0 = .ok (.aload_n 1, 1) := by decide +kernel
theorem dX0_takeOver_1 : decode cX0_takeOver 1 = .ok (.getfield 18, 3) := by decide +kernel
theorem dX0_takeOver_4 : decode cX0_takeOver 4 = .ok (.iconst 0, 1) := by decide +kernel
theorem dX0_takeOver_5 : decode cX0_takeOver 5 = .ok (.aload_n 0, 1) := by decide +kernel
theorem dX0_takeOver_6 : decode cX0_takeOver 6 = .ok (.getfield 18, 3) := by decide +kernel
theorem dX0_takeOver_9 : decode cX0_takeOver 9 = .ok (.iconst 0, 1) := by decide +kernel
theorem dX0_takeOver_10 : decode cX0_takeOver 10 = .ok (.aload_n 0, 1) := by decide +kernel
theorem dX0_takeOver_11 : decode cX0_takeOver 11 = .ok (.getfield 18, 3) := by decide +kernel
theorem dX0_takeOver_14 : decode cX0_takeOver 14 = .ok (.arraylength, 1) := by decide +kernel
theorem dX0_takeOver_15 : decode cX0_takeOver 15 = .ok (.invokestatic 33, 3) := by decide +kernel
theorem dX0_takeOver_18 : decode cX0_takeOver 18 = .ok (.return_, 1) := by decide +kernel
theorem dX0_set_0 : decode cX0_set 0 = .ok (.lload_n 2, 1) := by decide +kernel
theorem dX0_set_1 : decode cX0_set 1 = .ok (.lstore 4, 2) := by decide +kernel
theorem dX0_set_3 : decode cX0_set 3 = .ok (.iconst 0, 1) := by decide +kernel
theorem dX0_set_4 : decode cX0_set 4 = .ok (.istore 6, 2) := by decide +kernel
theorem dX0_set_6 : decode cX0_set 6 = .ok (.iload 6, 2) := by decide +kernel
theorem dX0_set_8 : decode cX0_set 8 = .ok (.aload_n 0, 1) := by decide +kernel
theorem dX0_set_9 : decode cX0_set 9 = .ok (.getfield 22, 3) := by decide +kernel
theorem dX0_set_12 : decode cX0_set 12 = .ok (.if_icmp .ge 37, 3) := by decide +kernel
theorem dX0_set_15 : decode cX0_set 15 = .ok (.aload_n 0, 1) := by decide +kernel
theorem dX0_set_16 : decode cX0_set 16 = .ok (.getfield 18, 3) := by decide +kernel
theorem dX0_set_19 : decode cX0_set 19 = .ok (.iload 6, 2) := by decide +kernel
theorem dX0_set_21 : decode cX0_set 21 = .ok (.iload_n 1, 1) := by decide +kernel
theorem dX0_set_22 : decode cX0_set 22 = .ok (.iadd, 1) := by decide +kernel
theorem dX0_set_23 : decode cX0_set 23 = .ok (.lload 4, 2) := by decide +kernel
theorem dX0_set_25 : decode cX0_set 25 = .ok (.ldc2_w 39, 3) := by decide +kernel
theorem dX0_set_28 : decode cX0_set 28 = .ok (.land, 1) := by decide +kernel
theorem dX0_set_29 : decode cX0_set 29 = .ok (.lastore, 1) := by decide +kernel
theorem dX0_set_30 : decode cX0_set 30 = .ok (.lload 4, 2) := by decide +kernel
theorem dX0_set_32 : decode cX0_set 32 = .ok (.bipush 60, 2) := by decide +kernel
theorem dX0_set_34 : decode cX0_set 34 = .ok (.lshr, 1) := by decide +kernel
theorem dX0_set_35 : decode cX0_set 35 = .ok (.lstore 4, 2) := by decide +kernel
theorem dX0_set_37 : decode cX0_set 37 = .ok (.iload 6, 2) := by decide +kernel
theorem dX0_set_39 : decode cX0_set 39 = .ok (.aload_n 0, 1) := by decide +kernel
theorem dX0_set_40 : decode cX0_set 40 = .ok (.getfield 15, 3) := by decide +kernel
theorem dX0_set_43 : decode cX0_set 43 = .ok (.iadd, 1) := by decide +kernel
theorem dX0_set_44 : decode cX0_set 44 = .ok (.istore 6, 2) := by decide +kernel
theorem dX0_set_46 : decode cX0_set 46 = .ok (.goto (-40), 3) := by decide +kernel
theorem dX0_set_49 : decode cX0_set 49 = .ok (.aload_n 0, 1) := by decide +kernel
theorem dX0_set_50 : decode cX0_set 50 = .ok (.getfield 18, 3) := by decide +kernel
theorem dX0_set_53 : decode cX0_set 53 = .ok (.aload_n 0, 1) := by decide +kernel
theorem dX0_set_54 : decode cX0_set 54 = .ok (.getfield 22, 3) := by decide +kernel
theorem dX0_set_57 : decode cX0_set 57 = .ok (.iload_n 1, 1) := by decide +kernel
theorem dX0_set_58 : decode cX0_set 58 = .ok (.iadd, 1) := by decide +kernel
theorem dX0_set_59 : decode cX0_set 59 = .ok (.lload 4, 2) := by decide +kernel
theorem dX0_set_61 : decode cX0_set 61 = .ok (.lastore, 1) := by decide +kernel
theorem dX0_set_62 : decode cX0_set 62 = .ok (.return_, 1) := by decide +kernel
theorem dX0_setInfinite_0 : decode cX0_setInfinite 0 = .ok (.iconst 0, 1) := by decide +kernel
theorem dX0_setInfinite_1 : decode cX0_setInfinite 1 = .ok (.istore_n 2, 1) := by decide +kernel
theorem dX0_setInfinite_2 : decode cX0_setInfinite 2 = .ok (.iload_n 2, 1) := by decide +kernel
theorem dX0_setInfinite_3 : decode cX0_setInfinite 3 = .ok (.aload_n 0, 1) := by decide +kernel
theorem dX0_setInfinite_4 : decode cX0_setInfinite 4 = .ok (.getfield 22, 3) := by decide +kernel
theorem dX0_setInfinite_7 : decode cX0_setInfinite 7 = .ok (.if_icmp .ge 22, 3) := by decide +kernel
theorem dX0_setInfinite_10 : decode cX0_setInfinite 10 = .ok (.aload_n 0, 1) := by decide +kernel
theorem dX0_setInfinite_11 : decode cX0_setInfinite 11 = .ok (.getfield 18, 3) := by decide +kernel
theorem dX0_setInfinite_14 : decode cX0_setInfinite 14 = .ok (.iload_n 2, 1) := by decide +kernel
theorem dX0_setInfinite_15 : decode cX0_setInfinite 15 = .ok (.iload_n 1, 1) := by decide +kernel
theorem dX0_setInfinite_16 : decode cX0_setInfinite 16 = .ok (.iadd, 1) := by decide +kernel
theorem dX0_setInfinite_17 : decode cX0_setInfinite 17 = .ok (.lconst 0, 1) := by decide +kernel
theorem dX0_setInfinite_18 : decode cX0_setInfinite 18 = .ok (.lastore, 1) := by decide +kernel
theorem dX0_setInfinite_19 : decode cX0_setInfinite 19 = .ok (.iload_n 2, 1) := by decide +kernel
theorem dX0_setInfinite_20 : decode cX0_setInfinite 20 = .ok (.aload_n 0, 1) := by decide +kernel
theorem dX0_setInfinite_21 : decode cX0_setInfinite 21 = .ok (.getfield 15, 3) := by decide +kernel
theorem dX0_setInfinite_24 : decode cX0_setInfinite 24 = .ok (.iadd, 1) := by decide +kernel
theorem dX0_setInfinite_25 : decode cX0_setInfinite 25 = .ok (.istore_n 2, 1) := by decide +kernel
theorem dX0_setInfinite_26 : decode cX0_setInfinite 26 = .ok (.goto (-24), 3) := by decide +kernel
theorem dX0_setInfinite_29 : decode cX0_setInfinite 29 = .ok (.aload_n 0, 1) := by decide +kernel
theorem dX0_setInfinite_30 : decode cX0_setInfinite 30 = .ok (.getfield 18, 3) := by decide +kernel
theorem dX0_setInfinite_33 : decode cX0_setInfinite 33 = .ok (.aload_n 0, 1) := by decide +kernel
theorem dX0_setInfinite_34 : decode cX0_setInfinite 34 = .ok (.getfield 22, 3) := by decide +kernel
theorem dX0_setInfinite_37 : decode cX0_setInfinite 37 = .ok (.iload_n 1, 1) := by decide +kernel
theorem dX0_setInfinite_38 : decode cX0_setInfinite 38 = .ok (.iadd, 1) := by decide +kernel
theorem dX0_setInfinite_39 : decode cX0_setInfinite 39 = .ok (.ldc2_w 25, 3) := by decide +kernel
theorem dX0_setInfinite_42 : decode cX0_setInfinite 42 = .ok (.lastore, 1) := by decide +kernel
theorem dX0_setInfinite_43 : decode cX0_setInfinite 43 = .ok (.return_, 1) := by decide +kernel
theorem dX0_put_0 : decode cX0_put 0 = .ok (.iconst 0, 1) := by decide +kernel
theorem dX0_put_1 : decode cX0_put 1 = .ok (.istore 4, 2) := by decide +kernel
theorem dX0_put_3 : decode cX0_put 3 = .ok (.iload 4, 2) := by decide +kernel
theorem dX0_put_5 : decode cX0_put 5 = .ok (.aload_n 0, 1) := by decide +kernel
theorem dX0_put_6 : decode cX0_put 6 = .ok (.getfield 22, 3) := by decide +kernel
theorem dX0_put_9 : decode cX0_put 9 = .ok (.if_icmp .gt 33, 3) := by decide +kernel
theorem dX0_put_12 : decode cX0_put 12 = .ok (.aload_n 0, 1) := by decide +kernel
theorem dX0_put_13 : decode cX0_put 13 = .ok (.getfield 18, 3) := by decide +kernel
theorem dX0_put_16 : decode cX0_put 16 = .ok (.iload 4, 2) := by decide +kernel
theorem dX0_put_18 : decode cX0_put 18 = .ok (.iload_n 1, 1) := by decide +kernel
theorem dX0_put_19 : decode cX0_put 19 = .ok (.iadd, 1) := by decide +kernel
theorem dX0_put_20 : decode cX0_put 20 = .ok (.aload_n 2, 1) := by decide +kernel
theorem dX0_put_21 : decode cX0_put 21 = .ok (.getfield 18, 3) := by decide +kernel
theorem dX0_put_24 : decode cX0_put 24 = .ok (.iload 4, 2) := by decide +kernel
theorem dX0_put_26 : decode cX0_put 26 = .ok (.iload_n 3, 1) := by decide +kernel
theorem dX0_put_27 : decode cX0_put 27 = .ok (.iadd, 1) := by decide +kernel
theorem dX0_put_28 : decode cX0_put 28 = .ok (.laload, 1) := by decide +kernel
theorem dX0_put_29 : decode cX0_put 29 = .ok (.lastore, 1) := by decide +kernel
theorem dX0_put_30 : decode cX0_put 30 = .ok (.iload 4, 2) := by decide +kernel
theorem dX0_put_32 : decode cX0_put 32 = .ok (.aload_n 0, 1) := by decide +kernel
theorem dX0_put_33 : decode cX0_put 33 = .ok (.getfield 15, 3) := by decide +kernel
theorem dX0_put_36 : decode cX0_put 36 = .ok (.iadd, 1) := by decide +kernel
theorem dX0_put_37 : decode cX0_put 37 = .ok (.istore 4, 2) := by decide +kernel
theorem dX0_put_39 : decode cX0_put 39 = .ok (.goto (-36), 3) := by decide +kernel
theorem dX0_put_42 : decode cX0_put 42 = .ok (.return_, 1) := by decide +kernel
set_option maxRecDepth 20000 in
theorem ggX0_putMore_X0_isInfinite : GoodIn wsX0_putMore wsX0_isInfinite := goodIn_r _ [9, 2, 1, 10, 15, 16, 17, 18] (by decide +kernel) (by decide +kernel)
set_option maxRecDepth 20000 in
theorem gX0_putMore_X0_isInfinite : GoodIn wsX0_putMore (wsV RX0 41 RX0 yX0_isInfinite wsX0_isInfinite) := goodIn_app (goodIn_of _ (by decide +kernel)) ggX0_putMore_X0_isInfinite
set_option maxRecDepth 20000 in
theorem ggX0_putMore_X0_setInfinite : GoodIn wsX0_putMore wsX0_setInfinite := goodIn_r _ [14, 1, 2, 4, 10, 15, 16, 17, 18] (by decide +kernel) (by decide +kernel)
set_option maxRecDepth 20000 in
theorem gX0_putMore_X0_setInfinite : GoodIn wsX0_putMore (wsV RX0 45 RX0 yX0_setInfinite wsX0_setInfinite) := goodIn_app (goodIn_of _ (by decide +kernel)) ggX0_putMore_X0_setInfinite
theorem dX0_putMore_0 : decode cX0_putMore 0 = .ok (.aload_n 2, 1) := by decide +kernel
theorem dX0_putMore_1 : decode cX0_putMore 1 = .ok (.iload_n 3, 1) := by decide +kernel
theorem dX0_putMore_2 : decode cX0_putMore 2 = .ok (.invokevirtual 41, 3) := by decide +kernel
theorem dX0_putMore_5 : decode cX0_putMore 5 = .ok (.ifCond .eq 9, 3) := by decide +kernel
theorem dX0_putMore_8 : decode cX0_putMore 8 = .ok (.aload_n 0, 1) := by decide +kernel
theorem dX0_putMore_9 : decode cX0_putMore 9 = .ok (.iload_n 1, 1) := by decide +kernel
theorem dX0_putMore_10 : decode cX0_putMore 10 = .ok (.invokevirtual 45, 3) := by decide +kernel
theorem dX0_putMore_13 : decode cX0_putMore 13 = .ok (.return_, 1) := by decide +kernel
theorem dX0_putMore_14 : decode cX0_putMore 14 = .ok (.lload 4, 2) := by decide +kernel
theorem dX0_putMore_16 : decode cX0_putMore 16 = .ok (.lstore 6, 2) := by decide +kernel
theorem dX0_putMore_18 : decode cX0_putMore 18 = .ok (.iconst 0, 1) := by decide +kernel
theorem dX0_putMore_19 : decode cX0_putMore 19 = .ok (.istore 8, 2) := by decide +kernel
theorem dX0_putMore_21 : decode cX0_putMore 21 = .ok (.iload 8, 2) := by decide +kernel
theorem dX0_putMore_23 : decode cX0_putMore 23 = .ok (.aload_n 0, 1) := by decide +kernel
theorem dX0_putMore_24 : decode cX0_putMore 24 = .ok (.getfield 22, 3) := by decide +kernel
theorem dX0_putMore_27 : decode cX0_putMore 27 = .ok (.if_icmp .ge 51, 3) := by decide +kernel
theorem dX0_putMore_30 : decode cX0_putMore 30 = .ok (.lload 6, 2) := by decide +kernel
theorem dX0_putMore_32 : decode cX0_putMore 32 = .ok (.aload_n 2, 1) := by decide +kernel
theorem dX0_putMore_33 : decode cX0_putMore 33 = .ok (.getfield 18, 3) := by decide +kernel
theorem dX0_putMore_36 : decode cX0_putMore 36 = .ok (.iload 8, 2) := by decide +kernel
theorem dX0_putMore_38 : decode cX0_putMore 38 = .ok (.iload_n 3, 1) := by decide +kernel
theorem dX0_putMore_39 : decode cX0_putMore 39 = .ok (.iadd, 1) := by decide +kernel
theorem dX0_putMore_40 : decode cX0_putMore 40 = .ok (.laload, 1) := by decide +kernel
theorem dX0_putMore_41 : decode cX0_putMore 41 = .ok (.ladd, 1) := by decide +kernel
theorem dX0_putMore_42 : decode cX0_putMore 42 = .ok (.lstore 6, 2) := by decide +kernel
theorem dX0_putMore_44 : decode cX0_putMore 44 = .ok (.aload_n 0, 1) := by decide +kernel
theorem dX0_putMore_45 : decode cX0_putMore 45 = .ok (.getfield 18, 3) := by decide +kernel
theorem dX0_putMore_48 : decode cX0_putMore 48 = .ok (.iload 8, 2) := by decide +kernel
theorem dX0_putMore_50 : decode cX0_putMore 50 = .ok (.iload_n 1, 1) := by decide +kernel
theorem dX0_putMore_51 : decode cX0_putMore 51 = .ok (.iadd, 1) := by decide +kernel
theorem dX0_putMore_52 : decode cX0_putMore 52 = .ok (.lload 6, 2) := by decide +kernel
theorem dX0_putMore_54 : decode cX0_putMore 54 = .ok (.ldc2_w 39, 3) := by decide +kernel
theorem dX0_putMore_57 : decode cX0_putMore 57 = .ok (.land, 1) := by decide +kernel
theorem dX0_putMore_58 : decode cX0_putMore 58 = .ok (.lastore, 1) := by decide +kernel
theorem dX0_putMore_59 : decode cX0_putMore 59 = .ok (.lload 6, 2) := by decide +kernel
theorem dX0_putMore_61 : decode cX0_putMore 61 = .ok (.bipush 60, 2) := by decide +kernel
theorem dX0_putMore_63 : decode cX0_putMore 63 = .ok (.lshr, 1) := by decide +kernel
theorem dX0_putMore_64 : decode cX0_putMore 64 = .ok (.lstore 6, 2) := by decide +kernel
theorem dX0_putMore_66 : decode cX0_putMore 66 = .ok (.iload 8, 2) := by decide +kernel
theorem dX0_putMore_68 : decode cX0_putMore 68 = .ok (.aload_n 0, 1) := by decide +kernel
theorem dX0_putMore_69 : decode cX0_putMore 69 = .ok (.getfield 15, 3) := by decide +kernel
theorem dX0_putMore_72 : decode cX0_putMore 72 = .ok (.iadd, 1) := by decide +kernel
theorem dX0_putMore_73 : decode cX0_putMore 73 = .ok (.istore 8, 2) := by decide +kernel
theorem dX0_putMore_75 : decode cX0_putMore 75 = .ok (.goto (-54), 3) := by decide +kernel
theorem dX0_putMore_78 : decode cX0_putMore 78 = .ok (.aload_n 0, 1) := by decide +kernel
theorem dX0_putMore_79 : decode cX0_putMore 79 = .ok (.getfield 18, 3) := by decide +kernel
theorem dX0_putMore_82 : decode cX0_putMore 82 = .ok (.aload_n 0, 1) := by decide +kernel
theorem dX0_putMore_83 : decode cX0_putMore 83 = .ok (.getfield 22, 3) := by decide +kernel
theorem dX0_putMore_86 : decode cX0_putMore 86 = .ok (.iload_n 1, 1) := by decide +kernel
theorem dX0_putMore_87 : decode cX0_putMore 87 = .ok (.iadd, 1) := by decide +kernel
theorem dX0_putMore_88 : decode cX0_putMore 88 = .ok (.aload_n 2, 1) := by decide +kernel
theorem dX0_putMore_89 : decode cX0_putMore 89 = .ok (.getfield 18, 3) := by decide +kernel
theorem dX0_putMore_92 : decode cX0_putMore 92 = .ok (.aload_n 0, 1) := by decide +kernel
theorem dX0_putMore_93 : decode cX0_putMore 93 = .ok (.getfield 22, 3) := by decide +kernel
theorem dX0_putMore_96 : decode cX0_putMore 96 = .ok (.iload_n 3, 1) := by decide +kernel
theorem dX0_putMore_97 : decode cX0_putMore 97 = .ok (.iadd, 1) := by decide +kernel
theorem dX0_putMore_98 : decode cX0_putMore 98 = .ok (.laload, 1) := by decide +kernel
theorem dX0_putMore_99 : decode cX0_putMore 99 = .ok (.lload 6, 2) := by decide +kernel
theorem dX0_putMore_101 : decode cX0_putMore 101 = .ok (.ladd, 1) := by decide +kernel
theorem dX0_putMore_102 : decode cX0_putMore 102 = .ok (.lastore, 1) := by decide +kernel
theorem dX0_putMore_103 : decode cX0_putMore 103 = .ok (.return_, 1) := by decide +kernel
theorem dX0_putSum_0 : decode cX0_putSum 0 = .ok (.aload_n 0, 1) := by decide +kernel
theorem dX0_putSum_1 : decode cX0_putSum 1 = .ok (.getfield 18, 3) := by decide +kernel
theorem dX0_putSum_4 : decode cX0_putSum 4 = .ok (.aload_n 0, 1) := by decide +kernel
theorem dX0_putSum_5 : decode cX0_putSum 5 = .ok (.getfield 22, 3) := by decide +kernel
theorem dX0_putSum_8 : decode cX0_putSum 8 = .ok (.iload_n 2, 1) := by decide +kernel
theorem dX0_putSum_9 : decode cX0_putSum 9 = .ok (.iadd, 1) := by decide +kernel
theorem dX0_putSum_10 : decode cX0_putSum 10 = .ok (.laload, 1) := by decide +kernel
theorem dX0_putSum_11 : decode cX0_putSum 11 = .ok (.ldc2_w 25, 3) := by decide +kernel
theorem dX0_putSum_14 : decode cX0_putSum 14 = .ok (.lcmp, 1) := by decide +kernel
theorem dX0_putSum_15 : decode cX0_putSum 15 = .ok (.ifCond .eq 21, 3) := by decide +kernel
theorem dX0_putSum_18 : decode cX0_putSum 18 = .ok (.aload_n 0, 1) := by decide +kernel
theorem dX0_putSum_19 : decode cX0_putSum 19 = .ok (.getfield 18, 3) := by decide +kernel
theorem dX0_putSum_22 : decode cX0_putSum 22 = .ok (.aload_n 0, 1) := by decide +kernel
theorem dX0_putSum_23 : decode cX0_putSum 23 = .ok (.getfield 22, 3) := by decide +kernel
theorem dX0_putSum_26 : decode cX0_putSum 26 = .ok (.iload_n 3, 1) := by decide +kernel
theorem dX0_putSum_27 : decode cX0_putSum 27 = .ok (.iadd, 1) := by decide +kernel
theorem dX0_putSum_28 : decode cX0_putSum 28 = .ok (.laload, 1) := by decide +kernel
theorem dX0_putSum_29 : decode cX0_putSum 29 = .ok (.ldc2_w 25, 3) := by decide +kernel
theorem dX0_putSum_32 : decode cX0_putSum 32 = .ok (.lcmp, 1) := by decide +kernel
theorem dX0_putSum_33 : decode cX0_putSum 33 = .ok (.ifCond .ne 7, 3) := by decide +kernel
theorem dX0_putSum_36 : decode cX0_putSum 36 = .ok (.iconst 1, 1) := by decide +kernel
theorem dX0_putSum_37 : decode cX0_putSum 37 = .ok (.goto 4, 3) := by decide +kernel
theorem dX0_putSum_40 : decode cX0_putSum 40 = .ok (.iconst 0, 1) := by decide +kernel
theorem dX0_putSum_41 : decode cX0_putSum 41 = .ok (.istore 4, 2) := by decide +kernel
theorem dX0_putSum_43 : decode cX0_putSum 43 = .ok (.lconst 0, 1) := by decide +kernel
theorem dX0_putSum_44 : decode cX0_putSum 44 = .ok (.lstore 5, 2) := by decide +kernel
theorem dX0_putSum_46 : decode cX0_putSum 46 = .ok (.iconst 0, 1) := by decide +kernel
theorem dX0_putSum_47 : decode cX0_putSum 47 = .ok (.istore 7, 2) := by decide +kernel
theorem dX0_putSum_49 : decode cX0_putSum 49 = .ok (.iload 7, 2) := by decide +kernel
theorem dX0_putSum_51 : decode cX0_putSum 51 = .ok (.aload_n 0, 1) := by decide +kernel
theorem dX0_putSum_52 : decode cX0_putSum 52 = .ok (.getfield 22, 3) := by decide +kernel
theorem dX0_putSum_55 : decode cX0_putSum 55 = .ok (.if_icmp .ge 70, 3) := by decide +kernel
theorem dX0_putSum_58 : decode cX0_putSum 58 = .ok (.lload 5, 2) := by decide +kernel
theorem dX0_putSum_60 : decode cX0_putSum 60 = .ok (.aload_n 0, 1) := by decide +kernel
theorem dX0_putSum_61 : decode cX0_putSum 61 = .ok (.getfield 18, 3) := by decide +kernel
theorem dX0_putSum_64 : decode cX0_putSum 64 = .ok (.iload 7, 2) := by decide +kernel
theorem dX0_putSum_66 : decode cX0_putSum 66 = .ok (.iload_n 2, 1) := by decide +kernel
theorem dX0_putSum_67 : decode cX0_putSum 67 = .ok (.iadd, 1) := by decide +kernel
theorem dX0_putSum_68 : decode cX0_putSum 68 = .ok (.laload, 1) := by decide +kernel
theorem dX0_putSum_69 : decode cX0_putSum 69 = .ok (.aload_n 0, 1) := by decide +kernel
theorem dX0_putSum_70 : decode cX0_putSum 70 = .ok (.getfield 18, 3) := by decide +kernel
theorem dX0_putSum_73 : decode cX0_putSum 73 = .ok (.iload 7, 2) := by decide +kernel
theorem dX0_putSum_75 : decode cX0_putSum 75 = .ok (.iload_n 3, 1) := by decide +kernel
theorem dX0_putSum_76 : decode cX0_putSum 76 = .ok (.iadd, 1) := by decide +kernel
theorem dX0_putSum_77 : decode cX0_putSum 77 = .ok (.laload, 1) := by decide +kernel
theorem dX0_putSum_78 : decode cX0_putSum 78 = .ok (.ladd, 1) := by decide +kernel
theorem dX0_putSum_79 : decode cX0_putSum 79 = .ok (.ladd, 1) := by decide +kernel
theorem dX0_putSum_80 : decode cX0_putSum 80 = .ok (.lstore 5, 2) := by decide +kernel
theorem dX0_putSum_82 : decode cX0_putSum 82 = .ok (.aload_n 0, 1) := by decide +kernel
theorem dX0_putSum_83 : decode cX0_putSum 83 = .ok (.getfield 18, 3) := by decide +kernel
theorem dX0_putSum_86 : decode cX0_putSum 86 = .ok (.iload 7, 2) := by decide +kernel
theorem dX0_putSum_88 : decode cX0_putSum 88 = .ok (.iload_n 1, 1) := by decide +kernel
theorem dX0_putSum_89 : decode cX0_putSum 89 = .ok (.iadd, 1) := by decide +kernel
theorem dX0_putSum_90 : decode cX0_putSum 90 = .ok (.iload 4, 2) := by decide +kernel
theorem dX0_putSum_92 : decode cX0_putSum 92 = .ok (.ifCond .eq 7, 3) := by decide +kernel
theorem dX0_putSum_95 : decode cX0_putSum 95 = .ok (.lconst 0, 1) := by decide +kernel
theorem dX0_putSum_96 : decode cX0_putSum 96 = .ok (.goto 9, 3) := by decide +kernel
theorem dX0_putSum_99 : decode cX0_putSum 99 = .ok (.lload 5, 2) := by decide +kernel
theorem dX0_putSum_101 : decode cX0_putSum 101 = .ok (.ldc2_w 39, 3) := by decide +kernel
theorem dX0_putSum_104 : decode cX0_putSum 104 = .ok (.land, 1) := by decide +kernel
theorem dX0_putSum_105 : decode cX0_putSum 105 = .ok (.lastore, 1) := by decide +kernel
theorem dX0_putSum_106 : decode cX0_putSum 106 = .ok (.lload 5, 2) := by decide +kernel
theorem dX0_putSum_108 : decode cX0_putSum 108 = .ok (.bipush 60, 2) := by decide +kernel
theorem dX0_putSum_110 : decode cX0_putSum 110 = .ok (.lshr, 1) := by decide +kernel
theorem dX0_putSum_111 : decode cX0_putSum 111 = .ok (.lstore 5, 2) := by decide +kernel
theorem dX0_putSum_113 : decode cX0_putSum 113 = .ok (.iload 7, 2) := by decide +kernel
theorem dX0_putSum_115 : decode cX0_putSum 115 = .ok (.aload_n 0, 1) := by decide +kernel
theorem dX0_putSum_116 : decode cX0_putSum 116 = .ok (.getfield 15, 3) := by decide +kernel
theorem dX0_putSum_119 : decode cX0_putSum 119 = .ok (.iadd, 1) := by decide +kernel
theorem dX0_putSum_120 : decode cX0_putSum 120 = .ok (.istore 7, 2) := by decide +kernel
theorem dX0_putSum_122 : decode cX0_putSum 122 = .ok (.goto (-73), 3) := by decide +kernel
theorem dX0_putSum_125 : decode cX0_putSum 125 = .ok (.aload_n 0, 1) := by decide +kernel
theorem dX0_putSum_126 : decode cX0_putSum 126 = .ok (.getfield 18, 3) := by decide +kernel
theorem dX0_putSum_129 : decode cX0_putSum 129 = .ok (.aload_n 0, 1) := by decide +kernel
theorem dX0_putSum_130 : decode cX0_putSum 130 = .ok (.getfield 22, 3) := by decide +kernel
theorem dX0_putSum_133 : decode cX0_putSum 133 = .ok (.iload_n 1, 1) := by decide +kernel
theorem dX0_putSum_134 : decode cX0_putSum 134 = .ok (.iadd, 1) := by decide +kernel
theorem dX0_putSum_135 : decode cX0_putSum 135 = .ok (.iload 4, 2) := by decide +kernel
theorem dX0_putSum_137 : decode cX0_putSum 137 = .ok (.ifCond .eq 9, 3) := by decide +kernel
theorem dX0_putSum_140 : decode cX0_putSum 140 = .ok (.ldc2_w 25, 3) := by decide +kernel
theorem dX0_putSum_143 : decode cX0_putSum 143 = .ok (.goto 29, 3) := by decide +kernel
theorem dX0_putSum_146 : decode cX0_putSum 146 = .ok (.aload_n 0, 1) := by decide +kernel
theorem dX0_putSum_147 : decode cX0_putSum 147 = .ok (.getfield 18, 3) := by decide +kernel
theorem dX0_putSum_150 : decode cX0_putSum 150 = .ok (.aload_n 0, 1) := by decide +kernel
theorem dX0_putSum_151 : decode cX0_putSum 151 = .ok (.getfield 22, 3) := by decide +kernel
theorem dX0_putSum_154 : decode cX0_putSum 154 = .ok (.iload_n 2, 1) := by decide +kernel
theorem dX0_putSum_155 : decode cX0_putSum 155 = .ok (.iadd, 1) := by decide +kernel
theorem dX0_putSum_156 : decode cX0_putSum 156 = .ok (.laload, 1) := by decide +kernel
theorem dX0_putSum_157 : decode cX0_putSum 157 = .ok (.aload_n 0, 1) := by decide +kernel
theorem dX0_putSum_158 : decode cX0_putSum 158 = .ok (.getfield 18, 3) := by decide +kernel
theorem dX0_putSum_161 : decode cX0_putSum 161 = .ok (.aload_n 0, 1) := by decide +kernel
theorem dX0_putSum_162 : decode cX0_putSum 162 = .ok (.getfield 22, 3) := by decide +kernel
theorem dX0_putSum_165 : decode cX0_putSum 165 = .ok (.iload_n 3, 1) := by decide +kernel
theorem dX0_putSum_166 : decode cX0_putSum 166 = .ok (.iadd, 1) := by decide +kernel
theorem dX0_putSum_167 : decode cX0_putSum 167 = .ok (.laload, 1) := by decide +kernel
theorem dX0_putSum_168 : decode cX0_putSum 168 = .ok (.ladd, 1) := by decide +kernel
theorem dX0_putSum_169 : decode cX0_putSum 169 = .ok (.lload 5, 2) := by decide +kernel
theorem dX0_putSum_171 : decode cX0_putSum 171 = .ok (.ladd, 1) := by decide +kernel
theorem dX0_putSum_172 : decode cX0_putSum 172 = .ok (.lastore, 1) := by decide +kernel
theorem dX0_putSum_173 : decode cX0_putSum 173 = .ok (.return_, 1) := by decide +kernel
set_option maxRecDepth 20000 in
theorem ggX0_lower_X0_putSum : GoodIn wsX0_lower wsX0_putSum := goodIn_r _ [6, 7, 8, 9, 10, 11, 20, 21, 22, 23] (by decide +kernel) (by decide +kernel)
set_option maxRecDepth 20000 in
theorem gX0_lower_X0_putSum : GoodIn wsX0_lower (wsV RX0 49 RX0 yX0_putSum wsX0_putSum) := goodIn_app (goodIn_of _ (by decide +kernel)) ggX0_lower_X0_putSum
set_option maxRecDepth 20000 in
theorem ggX0_lower_X0_isLess : GoodIn wsX0_lower wsX0_isLess := goodIn_r _ [15, 8, 7, 11, 20, 21, 22, 23] (by decide +kernel) (by decide +kernel)
set_option maxRecDepth 20000 in
theorem gX0_lower_X0_isLess : GoodIn wsX0_lower (wsV RX0 53 RX0 yX0_isLess wsX0_isLess) := goodIn_app (goodIn_of _ (by decide +kernel)) ggX0_lower_X0_isLess
set_option maxRecDepth 20000 in
theorem ggX0_lower_X0_put : GoodIn wsX0_lower wsX0_put := goodIn_r _ [19, 8, 7, 11, 20, 21, 22, 23] (by decide +kernel) (by decide +kernel)
set_option maxRecDepth 20000 in
theorem gX0_lower_X0_put : GoodIn wsX0_lower (wsV RX0 57 RX0 yX0_put wsX0_put) := goodIn_app (goodIn_of _ (by decide +kernel)) ggX0_lower_X0_put
theorem dX0_lower_0 : decode cX0_lower 0 = .ok (.aload_n 0, 1) := by decide +kernel
theorem dX0_lower_1 : decode cX0_lower 1 = .ok (.aload_n 0, 1) := by decide +kernel
theorem dX0_lower_2 : decode cX0_lower 2 = .ok (.getfield 11, 3) := by decide +kernel
theorem dX0_lower_5 : decode cX0_lower 5 = .ok (.iload_n 2, 1) := by decide +kernel
theorem dX0_lower_6 : decode cX0_lower 6 = .ok (.iload_n 3, 1) := by decide +kernel
theorem dX0_lower_7 : decode cX0_lower 7 = .ok (.invokevirtual 49, 3) := by decide +kernel
theorem dX0_lower_10 : decode cX0_lower 10 = .ok (.aload_n 0, 1) := by decide +kernel
theorem dX0_lower_11 : decode cX0_lower 11 = .ok (.aload_n 0, 1) := by decide +kernel
theorem dX0_lower_12 : decode cX0_lower 12 = .ok (.getfield 11, 3) := by decide +kernel
theorem dX0_lower_15 : decode cX0_lower 15 = .ok (.aload_n 0, 1) := by decide +kernel
theorem dX0_lower_16 : decode cX0_lower 16 = .ok (.iload_n 1, 1) := by decide +kernel
theorem dX0_lower_17 : decode cX0_lower 17 = .ok (.invokevirtual 53, 3) := by decide +kernel
theorem dX0_lower_20 : decode cX0_lower 20 = .ok (.ifCond .eq 13, 3) := by decide +kernel
theorem dX0_lower_23 : decode cX0_lower 23 = .ok (.aload_n 0, 1) := by decide +kernel
theorem dX0_lower_24 : decode cX0_lower 24 = .ok (.iload_n 1, 1) := by decide +kernel
theorem dX0_lower_25 : decode cX0_lower 25 = .ok (.aload_n 0, 1) := by decide +kernel
theorem dX0_lower_26 : decode cX0_lower 26 = .ok (.aload_n 0, 1) := by decide +kernel
theorem dX0_lower_27 : decode cX0_lower 27 = .ok (.getfield 11, 3) := by decide +kernel
theorem dX0_lower_30 : decode cX0_lower 30 = .ok (.invokevirtual 57, 3) := by decide +kernel
theorem dX0_lower_33 : decode cX0_lower 33 = .ok (.return_, 1) := by decide +kernel
set_option maxRecDepth 20000 in
theorem ggX0_putNegative_X0_isInfinite : GoodIn wsX0_putNegative wsX0_isInfinite := goodIn_r _ [9, 2, 1, 10, 15, 16, 17, 18] (by decide +kernel) (by decide +kernel)
set_option maxRecDepth 20000 in
theorem gX0_putNegative_X0_isInfinite : GoodIn wsX0_putNegative (wsV RX0 41 RX0 yX0_isInfinite wsX0_isInfinite) := goodIn_app (goodIn_of _ (by decide +kernel)) ggX0_putNegative_X0_isInfinite
set_option maxRecDepth 20000 in
theorem ggX0_putNegative_X0_setInfinite : GoodIn wsX0_putNegative wsX0_setInfinite := goodIn_r _ [14, 1, 2, 4, 10, 15, 16, 17, 18] (by decide +kernel) (by decide +kernel)
set_option maxRecDepth 20000 in
theorem gX0_putNegative_X0_setInfinite : GoodIn wsX0_putNegative (wsV RX0 45 RX0 yX0_setInfinite wsX0_setInfinite) := goodIn_app (goodIn_of _ (by decide +kernel)) ggX0_putNegative_X0_setInfinite
theorem dX0_putNegative_0 : decode cX0_putNegative 0 = .ok (.aload_n 0, 1) := by decide +kernel
theorem dX0_putNegative_1 : decode cX0_putNegative 1 = .ok (.iload_n 2, 1) := by decide +kernel
theorem dX0_putNegative_2 : decode cX0_putNegative 2 = .ok (.invokevirtual 41, 3) := by decide +kernel
theorem dX0_putNegative_5 : decode cX0_putNegative 5 = .ok (.ifCond .eq 9, 3) := by decide +kernel
theorem dX0_putNegative_8 : decode cX0_putNegative 8 = .ok (.aload_n 0, 1) := by decide +kernel
theorem dX0_putNegative_9 : decode cX0_putNegative 9 = .ok (.iload_n 1, 1) := by decide +kernel
theorem dX0_putNegative_10 : decode cX0_putNegative 10 = .ok (.invokevirtual 45, 3) := by decide +kernel
theorem dX0_putNegative_13 : decode cX0_putNegative 13 = .ok (.return_, 1) := by decide +kernel
theorem dX0_putNegative_14 : decode cX0_putNegative 14 = .ok (.lconst 0, 1) := by decide +kernel
theorem dX0_putNegative_15 : decode cX0_putNegative 15 = .ok (.lstore_n 3, 1) := by decide +kernel
theorem dX0_putNegative_16 : decode cX0_putNegative 16 = .ok (.iconst 0, 1) := by decide +kernel
theorem dX0_putNegative_17 : decode cX0_putNegative 17 = .ok (.istore 5, 2) := by decide +kernel
theorem dX0_putNegative_19 : decode cX0_putNegative 19 = .ok (.iload 5, 2) := by decide +kernel
theorem dX0_putNegative_21 : decode cX0_putNegative 21 = .ok (.aload_n 0, 1) := by decide +kernel
theorem dX0_putNegative_22 : decode cX0_putNegative 22 = .ok (.getfield 22, 3) := by decide +kernel
theorem dX0_putNegative_25 : decode cX0_putNegative 25 = .ok (.if_icmp .ge 46, 3) := by decide +kernel
theorem dX0_putNegative_28 : decode cX0_putNegative 28 = .ok (.lload_n 3, 1) := by decide +kernel
theorem dX0_putNegative_29 : decode cX0_putNegative 29 = .ok (.aload_n 0, 1) := by decide +kernel
theorem dX0_putNegative_30 : decode cX0_putNegative 30 = .ok (.getfield 18, 3) := by decide +kernel
theorem dX0_putNegative_33 : decode cX0_putNegative 33 = .ok (.iload 5, 2) := by decide +kernel
theorem dX0_putNegative_35 : decode cX0_putNegative 35 = .ok (.iload_n 2, 1) := by decide +kernel
theorem dX0_putNegative_36 : decode cX0_putNegative 36 = .ok (.iadd, 1) := by decide +kernel
theorem dX0_putNegative_37 : decode cX0_putNegative 37 = .ok (.laload, 1) := by decide +kernel
theorem dX0_putNegative_38 : decode cX0_putNegative 38 = .ok (.lsub, 1) := by decide +kernel
theorem dX0_putNegative_39 : decode cX0_putNegative 39 = .ok (.lstore_n 3, 1) := by decide +kernel
theorem dX0_putNegative_40 : decode cX0_putNegative 40 = .ok (.aload_n 0, 1) := by decide +kernel
theorem dX0_putNegative_41 : decode cX0_putNegative 41 = .ok (.getfield 18, 3) := by decide +kernel
theorem dX0_putNegative_44 : decode cX0_putNegative 44 = .ok (.iload 5, 2) := by decide +kernel
theorem dX0_putNegative_46 : decode cX0_putNegative 46 = .ok (.iload_n 1, 1) := by decide +kernel
theorem dX0_putNegative_47 : decode cX0_putNegative 47 = .ok (.iadd, 1) := by decide +kernel
theorem dX0_putNegative_48 : decode cX0_putNegative 48 = .ok (.lload_n 3, 1) := by decide +kernel
theorem dX0_putNegative_49 : decode cX0_putNegative 49 = .ok (.ldc2_w 39, 3) := by decide +kernel
theorem dX0_putNegative_52 : decode cX0_putNegative 52 = .ok (.land, 1) := by decide +kernel
theorem dX0_putNegative_53 : decode cX0_putNegative 53 = .ok (.lastore, 1) := by decide +kernel
theorem dX0_putNegative_54 : decode cX0_putNegative 54 = .ok (.lload_n 3, 1) := by decide +kernel
theorem dX0_putNegative_55 : decode cX0_putNegative 55 = .ok (.bipush 60, 2) := by decide +kernel
theorem dX0_putNegative_57 : decode cX0_putNegative 57 = .ok (.lshr, 1) := by decide +kernel
theorem dX0_putNegative_58 : decode cX0_putNegative 58 = .ok (.lstore_n 3, 1) := by decide +kernel
theorem dX0_putNegative_59 : decode cX0_putNegative 59 = .ok (.iload 5, 2) := by decide +kernel
theorem dX0_putNegative_61 : decode cX0_putNegative 61 = .ok (.aload_n 0, 1) := by decide +kernel
theorem dX0_putNegative_62 : decode cX0_putNegative 62 = .ok (.getfield 15, 3) := by decide +kernel
theorem dX0_putNegative_65 : decode cX0_putNegative 65 = .ok (.iadd, 1) := by decide +kernel
theorem dX0_putNegative_66 : decode cX0_putNegative 66 = .ok (.istore 5, 2) := by decide +kernel
theorem dX0_putNegative_68 : decode cX0_putNegative 68 = .ok (.goto (-49), 3) := by decide +kernel
theorem dX0_putNegative_71 : decode cX0_putNegative 71 = .ok (.aload_n 0, 1) := by decide +kernel
theorem dX0_putNegative_72 : decode cX0_putNegative 72 = .ok (.getfield 18, 3) := by decide +kernel
theorem dX0_putNegative_75 : decode cX0_putNegative 75 = .ok (.aload_n 0, 1) := by decide +kernel
theorem dX0_putNegative_76 : decode cX0_putNegative 76 = .ok (.getfield 22, 3) := by decide +kernel
theorem dX0_putNegative_79 : decode cX0_putNegative 79 = .ok (.iload_n 1, 1) := by decide +kernel
theorem dX0_putNegative_80 : decode cX0_putNegative 80 = .ok (.iadd, 1) := by decide +kernel
theorem dX0_putNegative_81 : decode cX0_putNegative 81 = .ok (.lload_n 3, 1) := by decide +kernel
theorem dX0_putNegative_82 : decode cX0_putNegative 82 = .ok (.aload_n 0, 1) := by decide +kernel
theorem dX0_putNegative_83 : decode cX0_putNegative 83 = .ok (.getfield 18, 3) := by decide +kernel
theorem dX0_putNegative_86 : decode cX0_putNegative 86 = .ok (.aload_n 0, 1) := by decide +kernel
theorem dX0_putNegative_87 : decode cX0_putNegative 87 = .ok (.getfield 22, 3) := by decide +kernel
theorem dX0_putNegative_90 : decode cX0_putNegative 90 = .ok (.iload_n 2, 1) := by decide +kernel
theorem dX0_putNegative_91 : decode cX0_putNegative 91 = .ok (.iadd, 1) := by decide +kernel
theorem dX0_putNegative_92 : decode cX0_putNegative 92 = .ok (.laload, 1) := by decide +kernel
theorem dX0_putNegative_93 : decode cX0_putNegative 93 = .ok (.lsub, 1) := by decide +kernel
theorem dX0_putNegative_94 : decode cX0_putNegative 94 = .ok (.lastore, 1) := by decide +kernel
theorem dX0_putNegative_95 : decode cX0_putNegative 95 = .ok (.return_, 1) := by decide +kernel
set_option maxRecDepth 20000 in
theorem ggX0_putHalf_X0_isInfinite : GoodIn wsX0_putHalf wsX0_isInfinite := goodIn_r _ [8, 1, 2, 9, 14, 15, 16, 17] (by decide +kernel) (by decide +kernel)
set_option maxRecDepth 20000 in
theorem gX0_putHalf_X0_isInfinite : GoodIn wsX0_putHalf (wsV RX0 41 RX0 yX0_isInfinite wsX0_isInfinite) := goodIn_app (goodIn_of _ (by decide +kernel)) ggX0_putHalf_X0_isInfinite
set_option maxRecDepth 20000 in
theorem ggX0_putHalf_X0_setInfinite : GoodIn wsX0_putHalf wsX0_setInfinite := goodIn_r _ [13, 2, 1, 3, 9, 14, 15, 16, 17] (by decide +kernel) (by decide +kernel)
set_option maxRecDepth 20000 in
theorem gX0_putHalf_X0_setInfinite : GoodIn wsX0_putHalf (wsV RX0 45 RX0 yX0_setInfinite wsX0_setInfinite) := goodIn_app (goodIn_of _ (by decide +kernel)) ggX0_putHalf_X0_setInfinite
theorem dX0_putHalf_0 : decode cX0_putHalf 0 = .ok (.aload_n 0, 1) := by decide +kernel
theorem dX0_putHalf_1 : decode cX0_putHalf 1 = .ok (.iload_n 2, 1) := by decide +kernel
theorem dX0_putHalf_2 : decode cX0_putHalf 2 = .ok (.invokevirtual 41, 3) := by decide +kernel
theorem dX0_putHalf_5 : decode cX0_putHalf 5 = .ok (.ifCond .eq 9, 3) := by decide +kernel
theorem dX0_putHalf_8 : decode cX0_putHalf 8 = .ok (.aload_n 0, 1) := by decide +kernel
theorem dX0_putHalf_9 : decode cX0_putHalf 9 = .ok (.iload_n 1, 1) := by decide +kernel
theorem dX0_putHalf_10 : decode cX0_putHalf 10 = .ok (.invokevirtual 45, 3) := by decide +kernel
theorem dX0_putHalf_13 : decode cX0_putHalf 13 = .ok (.return_, 1) := by decide +kernel
theorem dX0_putHalf_14 : decode cX0_putHalf 14 = .ok (.aload_n 0, 1) := by decide +kernel
theorem dX0_putHalf_15 : decode cX0_putHalf 15 = .ok (.getfield 18, 3) := by decide +kernel
theorem dX0_putHalf_18 : decode cX0_putHalf 18 = .ok (.aload_n 0, 1) := by decide +kernel
theorem dX0_putHalf_19 : decode cX0_putHalf 19 = .ok (.getfield 22, 3) := by decide +kernel
theorem dX0_putHalf_22 : decode cX0_putHalf 22 = .ok (.iload_n 2, 1) := by decide +kernel
theorem dX0_putHalf_23 : decode cX0_putHalf 23 = .ok (.iadd, 1) := by decide +kernel
theorem dX0_putHalf_24 : decode cX0_putHalf 24 = .ok (.laload, 1) := by decide +kernel
theorem dX0_putHalf_25 : decode cX0_putHalf 25 = .ok (.lconst 1, 1) := by decide +kernel
theorem dX0_putHalf_26 : decode cX0_putHalf 26 = .ok (.land, 1) := by decide +kernel
theorem dX0_putHalf_27 : decode cX0_putHalf 27 = .ok (.lstore_n 3, 1) := by decide +kernel
theorem dX0_putHalf_28 : decode cX0_putHalf 28 = .ok (.aload_n 0, 1) := by decide +kernel
theorem dX0_putHalf_29 : decode cX0_putHalf 29 = .ok (.getfield 18, 3) := by decide +kernel
theorem dX0_putHalf_32 : decode cX0_putHalf 32 = .ok (.aload_n 0, 1) := by decide +kernel
theorem dX0_putHalf_33 : decode cX0_putHalf 33 = .ok (.getfield 22, 3) := by decide +kernel
theorem dX0_putHalf_36 : decode cX0_putHalf 36 = .ok (.iload_n 1, 1) := by decide +kernel
theorem dX0_putHalf_37 : decode cX0_putHalf 37 = .ok (.iadd, 1) := by decide +kernel
theorem dX0_putHalf_38 : decode cX0_putHalf 38 = .ok (.aload_n 0, 1) := by decide +kernel
theorem dX0_putHalf_39 : decode cX0_putHalf 39 = .ok (.getfield 18, 3) := by decide +kernel
theorem dX0_putHalf_42 : decode cX0_putHalf 42 = .ok (.aload_n 0, 1) := by decide +kernel
theorem dX0_putHalf_43 : decode cX0_putHalf 43 = .ok (.getfield 22, 3) := by decide +kernel
theorem dX0_putHalf_46 : decode cX0_putHalf 46 = .ok (.iload_n 2, 1) := by decide +kernel
theorem dX0_putHalf_47 : decode cX0_putHalf 47 = .ok (.iadd, 1) := by decide +kernel
theorem dX0_putHalf_48 : decode cX0_putHalf 48 = .ok (.laload, 1) := by decide +kernel
theorem dX0_putHalf_49 : decode cX0_putHalf 49 = .ok (.iconst 1, 1) := by decide +kernel
theorem dX0_putHalf_50 : decode cX0_putHalf 50 = .ok (.lshr, 1) := by decide +kernel
theorem dX0_putHalf_51 : decode cX0_putHalf 51 = .ok (.lastore, 1) := by decide +kernel
theorem dX0_putHalf_52 : decode cX0_putHalf 52 = .ok (.aload_n 0, 1) := by decide +kernel
theorem dX0_putHalf_53 : decode cX0_putHalf 53 = .ok (.getfield 22, 3) := by decide +kernel
theorem dX0_putHalf_56 : decode cX0_putHalf 56 = .ok (.aload_n 0, 1) := by decide +kernel
theorem dX0_putHalf_57 : decode cX0_putHalf 57 = .ok (.getfield 15, 3) := by decide +kernel
theorem dX0_putHalf_60 : decode cX0_putHalf 60 = .ok (.isub, 1) := by decide +kernel
theorem dX0_putHalf_61 : decode cX0_putHalf 61 = .ok (.istore 5, 2) := by decide +kernel
theorem dX0_putHalf_63 : decode cX0_putHalf 63 = .ok (.iload 5, 2) := by decide +kernel
theorem dX0_putHalf_65 : decode cX0_putHalf 65 = .ok (.ifCond .lt 49, 3) := by decide +kernel
theorem dX0_putHalf_68 : decode cX0_putHalf 68 = .ok (.aload_n 0, 1) := by decide +kernel
theorem dX0_putHalf_69 : decode cX0_putHalf 69 = .ok (.getfield 18, 3) := by decide +kernel
theorem dX0_putHalf_72 : decode cX0_putHalf 72 = .ok (.iload 5, 2) := by decide +kernel
theorem dX0_putHalf_74 : decode cX0_putHalf 74 = .ok (.iload_n 2, 1) := by decide +kernel
theorem dX0_putHalf_75 : decode cX0_putHalf 75 = .ok (.iadd, 1) := by decide +kernel
theorem dX0_putHalf_76 : decode cX0_putHalf 76 = .ok (.laload, 1) := by decide +kernel
theorem dX0_putHalf_77 : decode cX0_putHalf 77 = .ok (.lload_n 3, 1) := by decide +kernel
theorem dX0_putHalf_78 : decode cX0_putHalf 78 = .ok (.bipush 60, 2) := by decide +kernel
theorem dX0_putHalf_80 : decode cX0_putHalf 80 = .ok (.lshl, 1) := by decide +kernel
theorem dX0_putHalf_81 : decode cX0_putHalf 81 = .ok (.ladd, 1) := by decide +kernel
theorem dX0_putHalf_82 : decode cX0_putHalf 82 = .ok (.lstore 6, 2) := by decide +kernel
theorem dX0_putHalf_84 : decode cX0_putHalf 84 = .ok (.lload 6, 2) := by decide +kernel
theorem dX0_putHalf_86 : decode cX0_putHalf 86 = .ok (.lconst 1, 1) := by decide +kernel
theorem dX0_putHalf_87 : decode cX0_putHalf 87 = .ok (.land, 1) := by decide +kernel
theorem dX0_putHalf_88 : decode cX0_putHalf 88 = .ok (.lstore_n 3, 1) := by decide +kernel
theorem dX0_putHalf_89 : decode cX0_putHalf 89 = .ok (.aload_n 0, 1) := by decide +kernel
theorem dX0_putHalf_90 : decode cX0_putHalf 90 = .ok (.getfield 18, 3) := by decide +kernel
theorem dX0_putHalf_93 : decode cX0_putHalf 93 = .ok (.iload 5, 2) := by decide +kernel
theorem dX0_putHalf_95 : decode cX0_putHalf 95 = .ok (.iload_n 1, 1) := by decide +kernel
theorem dX0_putHalf_96 : decode cX0_putHalf 96 = .ok (.iadd, 1) := by decide +kernel
theorem dX0_putHalf_97 : decode cX0_putHalf 97 = .ok (.lload 6, 2) := by decide +kernel
theorem dX0_putHalf_99 : decode cX0_putHalf 99 = .ok (.iconst 1, 1) := by decide +kernel
theorem dX0_putHalf_100 : decode cX0_putHalf 100 = .ok (.lshr, 1) := by decide +kernel
theorem dX0_putHalf_101 : decode cX0_putHalf 101 = .ok (.lastore, 1) := by decide +kernel
theorem dX0_putHalf_102 : decode cX0_putHalf 102 = .ok (.iload 5, 2) := by decide +kernel
theorem dX0_putHalf_104 : decode cX0_putHalf 104 = .ok (.aload_n 0, 1) := by decide +kernel
theorem dX0_putHalf_105 : decode cX0_putHalf 105 = .ok (.getfield 15, 3) := by decide +kernel
theorem dX0_putHalf_108 : decode cX0_putHalf 108 = .ok (.isub, 1) := by decide +kernel
theorem dX0_putHalf_109 : decode cX0_putHalf 109 = .ok (.istore 5, 2) := by decide +kernel
theorem dX0_putHalf_111 : decode cX0_putHalf 111 = .ok (.goto (-48), 3) := by decide +kernel
theorem dX0_putHalf_114 : decode cX0_putHalf 114 = .ok (.return_, 1) := by decide +kernel
theorem dX0_isCrowded_0 : decode cX0_isCrowded 0 = .ok (.iconst 0, 1) := by decide +kernel
theorem dX0_isCrowded_1 : decode cX0_isCrowded 1 = .ok (.istore_n 1, 1) := by decide +kernel
theorem dX0_isCrowded_2 : decode cX0_isCrowded 2 = .ok (.iload_n 1, 1) := by decide +kernel
theorem dX0_isCrowded_3 : decode cX0_isCrowded 3 = .ok (.aload_n 0, 1) := by decide +kernel
theorem dX0_isCrowded_4 : decode cX0_isCrowded 4 = .ok (.getfield 15, 3) := by decide +kernel
theorem dX0_isCrowded_7 : decode cX0_isCrowded 7 = .ok (.if_icmp .ge 47, 3) := by decide +kernel
theorem dX0_isCrowded_10 : decode cX0_isCrowded 10 = .ok (.aload_n 0, 1) := by decide +kernel
theorem dX0_isCrowded_11 : decode cX0_isCrowded 11 = .ok (.getfield 18, 3) := by decide +kernel
theorem dX0_isCrowded_14 : decode cX0_isCrowded 14 = .ok (.aload_n 0, 1) := by decide +kernel
theorem dX0_isCrowded_15 : decode cX0_isCrowded 15 = .ok (.getfield 22, 3) := by decide +kernel
theorem dX0_isCrowded_18 : decode cX0_isCrowded 18 = .ok (.iload_n 1, 1) := by decide +kernel
theorem dX0_isCrowded_19 : decode cX0_isCrowded 19 = .ok (.iadd, 1) := by decide +kernel
theorem dX0_isCrowded_20 : decode cX0_isCrowded 20 = .ok (.laload, 1) := by decide +kernel
theorem dX0_isCrowded_21 : decode cX0_isCrowded 21 = .ok (.lstore_n 2, 1) := by decide +kernel
theorem dX0_isCrowded_22 : decode cX0_isCrowded 22 = .ok (.lload_n 2, 1) := by decide +kernel
theorem dX0_isCrowded_23 : decode cX0_isCrowded 23 = .ok (.ldc2_w 25, 3) := by decide +kernel
theorem dX0_isCrowded_26 : decode cX0_isCrowded 26 = .ok (.lcmp, 1) := by decide +kernel
theorem dX0_isCrowded_27 : decode cX0_isCrowded 27 = .ok (.ifCond .eq 21, 3) := by decide +kernel
theorem dX0_isCrowded_30 : decode cX0_isCrowded 30 = .ok (.lload_n 2, 1) := by decide +kernel
theorem dX0_isCrowded_31 : decode cX0_isCrowded 31 = .ok (.ldc2_w 61, 3) := by decide +kernel
theorem dX0_isCrowded_34 : decode cX0_isCrowded 34 = .ok (.lcmp, 1) := by decide +kernel
theorem dX0_isCrowded_35 : decode cX0_isCrowded 35 = .ok (.ifCond .ge 11, 3) := by decide +kernel
theorem dX0_isCrowded_38 : decode cX0_isCrowded 38 = .ok (.lload_n 2, 1) := by decide +kernel
theorem dX0_isCrowded_39 : decode cX0_isCrowded 39 = .ok (.ldc2_w 63, 3) := by decide +kernel
theorem dX0_isCrowded_42 : decode cX0_isCrowded 42 = .ok (.lcmp, 1) := by decide +kernel
theorem dX0_isCrowded_43 : decode cX0_isCrowded 43 = .ok (.ifCond .ge 5, 3) := by decide +kernel
theorem dX0_isCrowded_46 : decode cX0_isCrowded 46 = .ok (.iconst 1, 1) := by decide +kernel
theorem dX0_isCrowded_47 : decode cX0_isCrowded 47 = .ok (.ireturn, 1) := by decide +kernel
theorem dX0_isCrowded_48 : decode cX0_isCrowded 48 = .ok (.iinc 1 1, 3) := by decide +kernel
theorem dX0_isCrowded_51 : decode cX0_isCrowded 51 = .ok (.goto (-49), 3) := by decide +kernel
theorem dX0_isCrowded_54 : decode cX0_isCrowded 54 = .ok (.iconst 0, 1) := by decide +kernel
theorem dX0_isCrowded_55 : decode cX0_isCrowded 55 = .ok (.ireturn, 1) := by decide +kernel
set_option maxRecDepth 20000 in
theorem ggX0_growTwofold_J7_copyOf_c38d5 : GoodIn wsX0_growTwofold wsJ7_copyOf_c38d5 := goodIn_r _ [7, 8, 9, 10, 11, 12, 13, 14, 15, 16, 17, 18, 19, 20, 21, 22] (by decide +kernel) (by decide +kernel)
set_option maxRecDepth 20000 in
theorem gX0_growTwofold_J7_copyOf_c38d5 : GoodIn wsX0_growTwofold (va_wsS RX0 65 yJ7_copyOf_c38d5 wsJ7_copyOf_c38d5) := goodIn_app (goodIn_of _ (by decide +kernel)) ggX0_growTwofold_J7_copyOf_c38d5
set_option maxRecDepth 20000 in
theorem ggX0_growTwofold_X0_extend : GoodIn wsX0_growTwofold wsX0_extend := goodIn_r _ [27, 1, 28, 3, 29, 2, 30, 31, 32, 26, 33, 34, 35, 36, 37] (by decide +kernel) (by decide +kernel)
set_option maxRecDepth 20000 in
theorem gX0_growTwofold_X0_extend : GoodIn wsX0_growTwofold (wsV RX0 71 RX0 yX0_extend wsX0_extend) := goodIn_app (goodIn_of _ (by decide +kernel)) ggX0_growTwofold_X0_extend
theorem dX0_growTwofold_0 : decode cX0_growTwofold 0 = .ok (.aload_n 0, 1) := by decide +kernel
theorem dX0_growTwofold_1 : decode cX0_growTwofold 1 = .ok (.getfield 18, 3) := by decide +kernel
theorem dX0_growTwofold_4 : decode cX0_growTwofold 4 = .ok (.arraylength, 1) := by decide +kernel
theorem dX0_growTwofold_5 : decode cX0_growTwofold 5 = .ok (.sipush 512, 3) := by decide +kernel
theorem dX0_growTwofold_8 : decode cX0_growTwofold 8 = .ok (.aload_n 0, 1) := by decide +kernel
theorem dX0_growTwofold_9 : decode cX0_growTwofold 9 = .ok (.getfield 15, 3) := by decide +kernel
theorem dX0_growTwofold_12 : decode cX0_growTwofold 12 = .ok (.imul, 1) := by decide +kernel
theorem dX0_growTwofold_13 : decode cX0_growTwofold 13 = .ok (.if_icmp .lt 4, 3) := by decide +kernel
theorem dX0_growTwofold_16 : decode cX0_growTwofold 16 = .ok (.return_, 1) := by decide +kernel
theorem dX0_growTwofold_17 : decode cX0_growTwofold 17 = .ok (.aload_n 0, 1) := by decide +kernel
theorem dX0_growTwofold_18 : decode cX0_growTwofold 18 = .ok (.getfield 22, 3) := by decide +kernel
theorem dX0_growTwofold_21 : decode cX0_growTwofold 21 = .ok (.istore_n 1, 1) := by decide +kernel
theorem dX0_growTwofold_22 : decode cX0_growTwofold 22 = .ok (.aload_n 0, 1) := by decide +kernel
theorem dX0_growTwofold_23 : decode cX0_growTwofold 23 = .ok (.aload_n 0, 1) := by decide +kernel
theorem dX0_growTwofold_24 : decode cX0_growTwofold 24 = .ok (.getfield 18, 3) := by decide +kernel
theorem dX0_growTwofold_27 : decode cX0_growTwofold 27 = .ok (.iconst 2, 1) := by decide +kernel
theorem dX0_growTwofold_28 : decode cX0_growTwofold 28 = .ok (.aload_n 0, 1) := by decide +kernel
theorem dX0_growTwofold_29 : decode cX0_growTwofold 29 = .ok (.getfield 18, 3) := by decide +kernel
theorem dX0_growTwofold_32 : decode cX0_growTwofold 32 = .ok (.arraylength, 1) := by decide +kernel
theorem dX0_growTwofold_33 : decode cX0_growTwofold 33 = .ok (.imul, 1) := by decide +kernel
theorem dX0_growTwofold_34 : decode cX0_growTwofold 34 = .ok (.invokestatic 65, 3) := by decide +kernel
theorem dX0_growTwofold_37 : decode cX0_growTwofold 37 = .ok (.putfield 18, 3) := by decide +kernel
theorem dX0_growTwofold_40 : decode cX0_growTwofold 40 = .ok (.aload_n 0, 1) := by decide +kernel
theorem dX0_growTwofold_41 : decode cX0_growTwofold 41 = .ok (.aload_n 0, 1) := by decide +kernel
theorem dX0_growTwofold_42 : decode cX0_growTwofold 42 = .ok (.getfield 18, 3) := by decide +kernel
theorem dX0_growTwofold_45 : decode cX0_growTwofold 45 = .ok (.arraylength, 1) := by decide +kernel
theorem dX0_growTwofold_46 : decode cX0_growTwofold 46 = .ok (.aload_n 0, 1) := by decide +kernel
theorem dX0_growTwofold_47 : decode cX0_growTwofold 47 = .ok (.getfield 15, 3) := by decide +kernel
theorem dX0_growTwofold_50 : decode cX0_growTwofold 50 = .ok (.isub, 1) := by decide +kernel
theorem dX0_growTwofold_51 : decode cX0_growTwofold 51 = .ok (.putfield 22, 3) := by decide +kernel
theorem dX0_growTwofold_54 : decode cX0_growTwofold 54 = .ok (.iconst 0, 1) := by decide +kernel
theorem dX0_growTwofold_55 : decode cX0_growTwofold 55 = .ok (.istore_n 2, 1) := by decide +kernel
theorem dX0_growTwofold_56 : decode cX0_growTwofold 56 = .ok (.iload_n 2, 1) := by decide +kernel
theorem dX0_growTwofold_57 : decode cX0_growTwofold 57 = .ok (.aload_n 0, 1) := by decide +kernel
theorem dX0_growTwofold_58 : decode cX0_growTwofold 58 = .ok (.getfield 15, 3) := by decide +kernel
theorem dX0_growTwofold_61 : decode cX0_growTwofold 61 = .ok (.if_icmp .ge 15, 3) := by decide +kernel
theorem dX0_growTwofold_64 : decode cX0_growTwofold 64 = .ok (.aload_n 0, 1) := by decide +kernel
theorem dX0_growTwofold_65 : decode cX0_growTwofold 65 = .ok (.iload_n 2, 1) := by decide +kernel
theorem dX0_growTwofold_66 : decode cX0_growTwofold 66 = .ok (.iload_n 1, 1) := by decide +kernel
theorem dX0_growTwofold_67 : decode cX0_growTwofold 67 = .ok (.invokevirtual 71, 3) := by decide +kernel
theorem dX0_growTwofold_70 : decode cX0_growTwofold 70 = .ok (.iinc 2 1, 3) := by decide +kernel
theorem dX0_growTwofold_73 : decode cX0_growTwofold 73 = .ok (.goto (-17), 3) := by decide +kernel
theorem dX0_growTwofold_76 : decode cX0_growTwofold 76 = .ok (.return_, 1) := by decide +kernel
set_option maxRecDepth 20000 in
theorem ggX0_extend_X0_setInfinite : GoodIn wsX0_extend wsX0_setInfinite := goodIn_r _ [10, 3, 1, 5, 2, 11, 12, 13, 14] (by decide +kernel) (by decide +kernel)
set_option maxRecDepth 20000 in
theorem gX0_extend_X0_setInfinite : GoodIn wsX0_extend (wsV RX0 45 RX0 yX0_setInfinite wsX0_setInfinite) := goodIn_app (goodIn_of _ (by decide +kernel)) ggX0_extend_X0_setInfinite
theorem dX0_extend_0 : decode cX0_extend 0 = .ok (.aload_n 0, 1) := by decide +kernel
theorem dX0_extend_1 : decode cX0_extend 1 = .ok (.getfield 18, 3) := by decide +kernel
theorem dX0_extend_4 : decode cX0_extend 4 = .ok (.iload_n 2, 1) := by decide +kernel
theorem dX0_extend_5 : decode cX0_extend 5 = .ok (.iload_n 1, 1) := by decide +kernel
theorem dX0_extend_6 : decode cX0_extend 6 = .ok (.iadd, 1) := by decide +kernel
theorem dX0_extend_7 : decode cX0_extend 7 = .ok (.laload, 1) := by decide +kernel
theorem dX0_extend_8 : decode cX0_extend 8 = .ok (.lstore_n 3, 1) := by decide +kernel
theorem dX0_extend_9 : decode cX0_extend 9 = .ok (.lload_n 3, 1) := by decide +kernel
theorem dX0_extend_10 : decode cX0_extend 10 = .ok (.ldc2_w 25, 3) := by decide +kernel
theorem dX0_extend_13 : decode cX0_extend 13 = .ok (.lcmp, 1) := by decide +kernel
theorem dX0_extend_14 : decode cX0_extend 14 = .ok (.ifCond .ne 9, 3) := by decide +kernel
theorem dX0_extend_17 : decode cX0_extend 17 = .ok (.aload_n 0, 1) := by decide +kernel
theorem dX0_extend_18 : decode cX0_extend 18 = .ok (.iload_n 1, 1) := by decide +kernel
theorem dX0_extend_19 : decode cX0_extend 19 = .ok (.invokevirtual 45, 3) := by decide +kernel
theorem dX0_extend_22 : decode cX0_extend 22 = .ok (.return_, 1) := by decide +kernel
theorem dX0_extend_23 : decode cX0_extend 23 = .ok (.iload_n 2, 1) := by decide +kernel
theorem dX0_extend_24 : decode cX0_extend 24 = .ok (.istore 5, 2) := by decide +kernel
theorem dX0_extend_26 : decode cX0_extend 26 = .ok (.iload 5, 2) := by decide +kernel
theorem dX0_extend_28 : decode cX0_extend 28 = .ok (.aload_n 0, 1) := by decide +kernel
theorem dX0_extend_29 : decode cX0_extend 29 = .ok (.getfield 22, 3) := by decide +kernel
theorem dX0_extend_32 : decode cX0_extend 32 = .ok (.if_icmp .ge 34, 3) := by decide +kernel
theorem dX0_extend_35 : decode cX0_extend 35 = .ok (.aload_n 0, 1) := by decide +kernel
theorem dX0_extend_36 : decode cX0_extend 36 = .ok (.getfield 18, 3) := by decide +kernel
theorem dX0_extend_39 : decode cX0_extend 39 = .ok (.iload 5, 2) := by decide +kernel
theorem dX0_extend_41 : decode cX0_extend 41 = .ok (.iload_n 1, 1) := by decide +kernel
theorem dX0_extend_42 : decode cX0_extend 42 = .ok (.iadd, 1) := by decide +kernel
theorem dX0_extend_43 : decode cX0_extend 43 = .ok (.lload_n 3, 1) := by decide +kernel
theorem dX0_extend_44 : decode cX0_extend 44 = .ok (.ldc2_w 39, 3) := by decide +kernel
theorem dX0_extend_47 : decode cX0_extend 47 = .ok (.land, 1) := by decide +kernel
theorem dX0_extend_48 : decode cX0_extend 48 = .ok (.lastore, 1) := by decide +kernel
theorem dX0_extend_49 : decode cX0_extend 49 = .ok (.lload_n 3, 1) := by decide +kernel
theorem dX0_extend_50 : decode cX0_extend 50 = .ok (.bipush 60, 2) := by decide +kernel
theorem dX0_extend_52 : decode cX0_extend 52 = .ok (.lshr, 1) := by decide +kernel
theorem dX0_extend_53 : decode cX0_extend 53 = .ok (.lstore_n 3, 1) := by decide +kernel
theorem dX0_extend_54 : decode cX0_extend 54 = .ok (.iload 5, 2) := by decide +kernel
theorem dX0_extend_56 : decode cX0_extend 56 = .ok (.aload_n 0, 1) := by decide +kernel
theorem dX0_extend_57 : decode cX0_extend 57 = .ok (.getfield 15, 3) := by decide +kernel
theorem dX0_extend_60 : decode cX0_extend 60 = .ok (.iadd, 1) := by decide +kernel
theorem dX0_extend_61 : decode cX0_extend 61 = .ok (.istore 5, 2) := by decide +kernel
theorem dX0_extend_63 : decode cX0_extend 63 = .ok (.goto (-37), 3) := by decide +kernel
theorem dX0_extend_66 : decode cX0_extend 66 = .ok (.aload_n 0, 1) := by decide +kernel
theorem dX0_extend_67 : decode cX0_extend 67 = .ok (.getfield 18, 3) := by decide +kernel
theorem dX0_extend_70 : decode cX0_extend 70 = .ok (.aload_n 0, 1) := by decide +kernel
theorem dX0_extend_71 : decode cX0_extend 71 = .ok (.getfield 22, 3) := by decide +kernel
theorem dX0_extend_74 : decode cX0_extend 74 = .ok (.iload_n 1, 1) := by decide +kernel
theorem dX0_extend_75 : decode cX0_extend 75 = .ok (.iadd, 1) := by decide +kernel
theorem dX0_extend_76 : decode cX0_extend 76 = .ok (.lload_n 3, 1) := by decide +kernel
theorem dX0_extend_77 : decode cX0_extend 77 = .ok (.lastore, 1) := by decide +kernel
theorem dX0_extend_78 : decode cX0_extend 78 = .ok (.return_, 1) := by decide +kernel
end
section
/-! A WORLD AS A MAP: mu says of an address what lies there; a method gets the whole map, and hands a whole map back. All addresses are from B on. -/
abbrev mp : Type := Nat → Option va_E
def mu (μ : mp) (a : Nat) (e : va_E) : mp := fun q => if q = a then some e else μ q
theorem mu_s (μ : mp) (a : Nat) (e : va_E) : mu μ a e a = some e := by simp [mu]
theorem mu_n {μ : mp} {a q : Nat} {e : va_E} (h : q ≠ a) : mu μ a e q = μ q := by simp [mu, h]
theorem mu_u (μ : mp) (a : Nat) (e e' : va_E) : mu (mu μ a e) a e' = mu μ a e' := by
  funext q
  by_cases h : q = a <;> simp [mu, h]
theorem mu_c {μ : mp} {a b : Nat} (e e' : va_E) (h : a ≠ b) : mu (mu μ a e) b e' = mu (mu μ b e') a e := by
  funext q
  by_cases h1 : q = a
  · by_cases h2 : q = b
    · exact absurd (h1.symm.trans h2) h
    · simp [mu, h1, h2, h]
  · by_cases h2 : q = b
    · subst h2
      simp [mu, Ne.symm h]
    · simp [mu, h1, h2]
theorem mu_i {μ : mp} {a : Nat} {e : va_E} (h : μ a = some e) : mu μ a e = μ := by
  funext q
  by_cases h1 : q = a
  · simp [mu, h1, h]
  · simp [mu, h1]
def mw (D : va_G) (cl : List vw_C) (B : Nat) (μ : mp) (H : Heap) : Prop := ∀ (a : Nat) (e : va_E), μ a = some e → B ≤ a ∧ va_at D cl (a, e) H
section MW
variable {D : va_G} {cl : List vw_C} {B : Nat} {μ : mp} {H H1 : Heap} {a : Nat} {e e0 : va_E}
theorem mw.one (h : mw D cl B μ H) (ha : μ a = some e) : va_P D cl [(a, e)] H := by
  intro k q hk
  have hz : k < 1 := (List.getElem?_eq_some_iff.mp hk).1
  rw [show k = 0 by omega] at hk
  cases hk
  exact (h a e ha).2
theorem mw.lt (h : mw D cl B μ H) (ha : μ a = some e) : a < H.size := (h a e ha).2.lt
theorem mw.ge (h : mw D cl B μ H) (ha : μ a = some e) : B ≤ a := (h a e ha).1
theorem mw.kept (h : mw D cl B μ H) (hq : ∀ q : Nat, q < H.size → H1[q]? = H[q]?) : mw D cl B μ H1 := fun b x hb => ⟨h.ge hb, (h b x hb).2.kept (hq b (h.lt hb))⟩
theorem mw.set (h : mw D cl B μ H) (hB : B ≤ a) (he : va_at D cl (a, e) H1) (oq : ∀ q : Nat, q ≠ a → H1[q]? = H[q]?) : mw D cl B (mu μ a e) H1 := by
  intro b x hb
  by_cases hba : b = a
  · subst hba
    rw [mu_s] at hb
    cases hb
    exact ⟨hB, he⟩
  · rw [mu_n hba] at hb
    exact ⟨h.ge hb, (h b x hb).2.kept (oq b hba)⟩
theorem mw.push (h : mw D cl B μ H) (hB : B ≤ H.size) (he : va_at D cl (H.size, e) H1) (oq : ∀ q : Nat, q < H.size → H1[q]? = H[q]?) : mw D cl B (mu μ H.size e) H1 := by
  intro b x hb
  by_cases hba : b = H.size
  · subst hba
    rw [mu_s] at hb
    cases hb
    exact ⟨hB, he⟩
  · rw [mu_n hba] at hb
    exact ⟨h.ge hb, (h b x hb).2.kept (oq b (h.lt hb))⟩
theorem mw.none (h : mw D cl B μ H) : μ H.size = none := by
  cases hq : μ H.size with
  | none => rfl
  | some e => exact absurd (h.lt hq) (Nat.lt_irrefl _)
end MW
section MR
variable {p : Program} {l : Launch} {e : Env} {R : Room} {s : State} {m : MethodId} {args : Array Value} {below : List Frame} {meth : Method} {c : Code} {H : Heap} {locs : List Loc} {cells slots : Nat} {Q : State → Prop}
variable {cc : ByteArray} {pc : Nat} {ls : Array Slot} {rest : List Value} {D : va_G} {cl : List vw_C} {a : Nat} {tys : List (ClassId × FieldType)} {B : Nat} {μ : mp} {H0 : Heap}
theorem mw_put (hexec : p.tables.exec = Jvm.exec) (hb : c.code = cc) {own ref C : String} {T : u_T} {N ci index : Nat} {Ts : List Cond} (hts : ∀ w ∈ Ts, w.before args s = true) (hin : ∀ w ∈ u_ws C T N, w ∈ Ts) (ty0 : Nat → FieldType) (hty : ∀ k, k < N → parseFieldDescriptor (T k).2.2.1 = some (ty0 k)) (hnm : ∀ a, a < N → ∀ b, b < N → a ≠ b → (T a).2.1 ≠ (T b).2.1) (hown : s.vm.findClass own = some m.cls) (hK : va_K D cl tys s) (hP : mw D cl B μ H) (hS0 : va_S (fun q => B ≤ q) H0 H locs) {fs : List Value} (he : μ a = some (.inr (ci, fs))) (hc : cl[ci]? = some (C, T, N)) (k : Nat) (hk : k < N) (hlink : (Cond.fieldLink own index ref (T k).2.1 (T k).2.2.1).before args s = true) (hsame : ∀ x, s.fieldFound? (T k).1 (T k).2.1 (T k).2.2.1 = some x → s.fieldFound? ref (T k).2.1 (T k).2.2.1 = some x) (hfin : (T k).2.2.2 = false) {ty : FieldType} {v : Value} (hd : parseFieldDescriptor (T k).2.2.1 = some ty) (hn : narrow ty v = v) (hfit : fits ty v = true) (hl : k < fs.length)
    (hdg : decode cc pc = .ok (.putfield index, 3)) (kk : ∀ (H1 : Heap) (locs1 : List Loc), mw D cl B (mu μ a (.inr (ci, fs.set k v))) H1 → va_S (fun q => B ≤ q) H0 H1 locs1 → W p l e R s m args below meth c H1 locs1 cells slots Q (F0 m (pc + 3) ls rest)) : W p l e R s m args below meth c H locs cells slots Q (F0 m pc ls (v :: .ref a :: rest)) := by
  have hap := va_apart (own := own) hts hin ty0 hty hnm hK hc
  obtain ⟨hB, r, h1, cell, q1, q2, q3, q4⟩ := hP a _ he
  have hr : r = (C, T, N) := Option.some.inj (h1.symm.trans hc)
  subst hr
  obtain ⟨hS, hfc, kC, hkC, hkind⟩ := hK.1 ci _ hc
  obtain ⟨cf, kf, fi, f, hi, hsl⟩ := hS k hk
  have hlay := hts _ (hin _ (u_in_lay hk))
  unfold u_lay at hlay
  rw [if_neg (by rw [hfin]; decide)] at hlay
  have hst := (u_facts hfc hkC (u_lays hts hin hk) hi).1
  have h6 := u_store hfc hkC hkind hlay hi hd hn hfit
  refine W.putK hexec hb (f := f) ⟨hown, hlink, ⟨_, _, _, hsame _ hi⟩, hst⟩ (by rw [q2]; exact h6) q1 q3 (by rw [hsl]; exact k2_hasslot (q4 k hk)) rfl rfl hdg fun H' e1 e2 e3 => ?_
  rw [hsl] at e1 ⊢
  exact kk H' _ (hP.set hB ⟨_, hc, t_OB.to (V := updV (vp_V fs) k v) ⟨_, e1, q2, q3, t_set q4 hap hk v⟩ (fun j _ => vp_updV_set hl v j)⟩ e3) (hS0.put e2 e3 hB)
theorem mw_putN (hexec : p.tables.exec = Jvm.exec) (hb : c.code = cc) {own ref C host : String} {T : u_T} {N ci index : Nat} {Ts : List Cond} (hts : ∀ w ∈ Ts, w.before args s = true) (hin : ∀ w ∈ u_ws C T N, w ∈ Ts) (ty0 : Nat → FieldType) (hty : ∀ k, k < N → parseFieldDescriptor (T k).2.2.1 = some (ty0 k)) (hnm : ∀ a, a < N → ∀ b, b < N → a ≠ b → (T a).2.1 ≠ (T b).2.1) (hown : s.vm.findClass own = some m.cls) (hK : va_K D cl tys s) (hP : mw D cl B μ H) (hS0 : va_S (fun q => B ≤ q) H0 H locs) {fs : List Value} (he : μ a = some (.inr (ci, fs))) (hc : cl[ci]? = some (C, T, N)) (k : Nat) (hk : k < N) (hlink : (Cond.fieldLinkNest own index ref (T k).2.1 (T k).2.2.1 host).before args s = true) (hsame : ∀ x, s.fieldFound? (T k).1 (T k).2.1 (T k).2.2.1 = some x → s.fieldFound? ref (T k).2.1 (T k).2.2.1 = some x) (hfin : (T k).2.2.2 = false) {ty : FieldType} {v : Value} (hd : parseFieldDescriptor (T k).2.2.1 = some ty) (hn : narrow ty v = v) (hfit : fits ty v = true) (hl : k < fs.length)
    (hdg : decode cc pc = .ok (.putfield index, 3)) (kk : ∀ (H1 : Heap) (locs1 : List Loc), mw D cl B (mu μ a (.inr (ci, fs.set k v))) H1 → va_S (fun q => B ≤ q) H0 H1 locs1 → W p l e R s m args below meth c H1 locs1 cells slots Q (F0 m (pc + 3) ls rest)) : W p l e R s m args below meth c H locs cells slots Q (F0 m pc ls (v :: .ref a :: rest)) := by
  have hap := va_apart (own := own) hts hin ty0 hty hnm hK hc
  obtain ⟨hB, r, h1, cell, q1, q2, q3, q4⟩ := hP a _ he
  have hr : r = (C, T, N) := Option.some.inj (h1.symm.trans hc)
  subst hr
  obtain ⟨hS, hfc, kC, hkC, hkind⟩ := hK.1 ci _ hc
  obtain ⟨cf, kf, fi, f, hi, hsl⟩ := hS k hk
  have hlay := hts _ (hin _ (u_in_lay hk))
  unfold u_lay at hlay
  rw [if_neg (by rw [hfin]; decide)] at hlay
  have hst := (u_facts hfc hkC (u_lays hts hin hk) hi).1
  have h6 := u_store hfc hkC hkind hlay hi hd hn hfit
  refine va_WputK hexec hb (f := f) hown hlink (hsame _ hi) hst (by rw [q2]; exact h6) q1 q3 (by rw [hsl]; exact k2_hasslot (q4 k hk)) rfl rfl hdg fun H' e1 e2 e3 => ?_
  rw [hsl] at e1 ⊢
  exact kk H' _ (hP.set hB ⟨_, hc, t_OB.to (V := updV (vp_V fs) k v) ⟨_, e1, q2, q3, t_set q4 hap hk v⟩ (fun j _ => vp_updV_set hl v j)⟩ e3) (hS0.put e2 e3 hB)
theorem mw_putF (hexec : p.tables.exec = Jvm.exec) (hb : c.code = cc) {own ref C : String} {T : u_T} {N ci index : Nat} {Ts : List Cond} (hts : ∀ w ∈ Ts, w.before args s = true) (hin : ∀ w ∈ u_ws C T N, w ∈ Ts) (ty0 : Nat → FieldType) (hty : ∀ k, k < N → parseFieldDescriptor (T k).2.2.1 = some (ty0 k)) (hnm : ∀ a, a < N → ∀ b, b < N → a ≠ b → (T a).2.1 ≠ (T b).2.1) (hown : s.vm.findClass own = some m.cls) (hK : va_K D cl tys s) (hP : mw D cl B μ H) (hS0 : va_S (fun q => B ≤ q) H0 H locs) {fs : List Value} (he : μ a = some (.inr (ci, fs))) (hc : cl[ci]? = some (C, T, N)) (k : Nat) (hk : k < N) (hlink : (Cond.fieldLink own index ref (T k).2.1 (T k).2.2.1).before args s = true) (hsame : ∀ x, s.fieldFound? (T k).1 (T k).2.1 (T k).2.2.1 = some x → s.fieldFound? ref (T k).2.1 (T k).2.2.1 = some x) (hfin : (T k).2.2.2 = true) (hin2 : meth.name = "<init>") (hdecl : (T k).1 = own) {ty : FieldType} {v : Value} (hd : parseFieldDescriptor (T k).2.2.1 = some ty) (hn : narrow ty v = v) (hfit : fits ty v = true) (hl : k < fs.length)
    (hdg : decode cc pc = .ok (.putfield index, 3)) (kk : ∀ (H1 : Heap) (locs1 : List Loc), mw D cl B (mu μ a (.inr (ci, fs.set k v))) H1 → va_S (fun q => B ≤ q) H0 H1 locs1 → W p l e R s m args below meth c H1 locs1 cells slots Q (F0 m (pc + 3) ls rest)) : W p l e R s m args below meth c H locs cells slots Q (F0 m pc ls (v :: .ref a :: rest)) := by
  have hap := va_apart (own := own) hts hin ty0 hty hnm hK hc
  obtain ⟨hB, r, h1, cell, q1, q2, q3, q4⟩ := hP a _ he
  have hr : r = (C, T, N) := Option.some.inj (h1.symm.trans hc)
  subst hr
  obtain ⟨hS, hfc, kC, hkC, hkind⟩ := hK.1 ci _ hc
  obtain ⟨cf, kf, fi, f, hi, hsl⟩ := hS k hk
  have hlay := hts _ (hin _ (u_in_lay hk))
  unfold u_lay at hlay
  rw [if_pos hfin] at hlay
  have hst := (u_facts hfc hkC (u_lays hts hin hk) hi).1
  have hcf : m.cls = cf := by
    obtain ⟨_, _, c', _, _, _, -, -, hf', -, -, -, hown2, -⟩ := Cond.laysFinal_spec hlay
    have e1 : c' = cf := by have := hi.symm.trans hf'; simp at this; exact this.1.symm
    rw [hdecl] at hown2
    rw [← e1]; exact Option.some.inj (hown.symm.trans hown2)
  have h6 := u_fits hfc hkC hkind (Or.inr hlay) hi hd hn hfit
  refine W.putFinK hexec hb hown hlink (hsame _ hi) hst hcf hin2 (by rw [q2]; exact h6) q1 q3 (by rw [hsl]; exact k2_hasslot (q4 k hk)) rfl rfl hdg fun H' e1 e2 e3 => ?_
  rw [hsl] at e1 ⊢
  exact kk H' _ (hP.set hB ⟨_, hc, t_OB.to (V := updV (vp_V fs) k v) ⟨_, e1, q2, q3, t_set q4 hap hk v⟩ (fun j _ => vp_updV_set hl v j)⟩ e3) (hS0.put e2 e3 hB)
theorem mw_get (hexec : p.tables.exec = Jvm.exec) (hb : c.code = cc) {own ref C : String} {T : u_T} {N ci index : Nat} {Ts : List Cond} (hts : ∀ w ∈ Ts, w.before args s = true) (hin : ∀ w ∈ u_ws C T N, w ∈ Ts) (hown : s.vm.findClass own = some m.cls) (hK : va_K D cl tys s) (hP : mw D cl B μ H) {fs : List Value} (he : μ a = some (.inr (ci, fs))) (hc : cl[ci]? = some (C, T, N)) (k : Nat) (hk : k < N) (hlink : (Cond.fieldLink own index ref (T k).2.1 (T k).2.2.1).before args s = true) (hsame : ∀ x, s.fieldFound? (T k).1 (T k).2.1 (T k).2.2.1 = some x → s.fieldFound? ref (T k).2.1 (T k).2.2.1 = some x) {v : Value} (hv : fs[k]? = some v) (hdg : decode cc pc = .ok (.getfield index, 3))
    (kk : W p l e R s m args below meth c H locs cells slots Q (F0 m (pc + 3) ls (v :: rest))) : W p l e R s m args below meth c H locs cells slots Q (F0 m pc ls (.ref a :: rest)) :=
  va_get hexec hb hts hin hown hK (hP.one he) 0 rfl hc k hk hlink hsame hv hdg kk
theorem mw_getN (hexec : p.tables.exec = Jvm.exec) (hb : c.code = cc) {own ref C host : String} {T : u_T} {N ci index : Nat} {Ts : List Cond} (hts : ∀ w ∈ Ts, w.before args s = true) (hin : ∀ w ∈ u_ws C T N, w ∈ Ts) (hown : s.vm.findClass own = some m.cls) (hK : va_K D cl tys s) (hP : mw D cl B μ H) {fs : List Value} (he : μ a = some (.inr (ci, fs))) (hc : cl[ci]? = some (C, T, N)) (k : Nat) (hk : k < N) (hlink : (Cond.fieldLinkNest own index ref (T k).2.1 (T k).2.2.1 host).before args s = true) (hsame : ∀ x, s.fieldFound? (T k).1 (T k).2.1 (T k).2.2.1 = some x → s.fieldFound? ref (T k).2.1 (T k).2.2.1 = some x) {v : Value} (hv : fs[k]? = some v) (hdg : decode cc pc = .ok (.getfield index, 3))
    (kk : W p l e R s m args below meth c H locs cells slots Q (F0 m (pc + 3) ls (v :: rest))) : W p l e R s m args below meth c H locs cells slots Q (F0 m pc ls (.ref a :: rest)) :=
  va_getN hexec hb hts hin hown hK (hP.one he) 0 rfl hc k hk hlink hsame hv hdg kk
/-- an array of longs, read and written at a place that is a natural number -/
theorem mw_lald (hexec : p.tables.exec = Jvm.exec) (hb : c.code = cc) (hK : va_K D cl tys s) (hP : mw D cl B μ H) (t0 : Nat) {cA : ClassId} {n : Nat} {f : Nat → Int64} (ha : μ a = some (.inl (cA, n, .inr (.inl f)))) (ht : tys[t0]? = some (cA, .long)) {i : Nat} (hi : i < n) (hn : n < 2 ^ 31) (hdg : decode cc pc = .ok (.laload, 1))
    (kk : W p l e R s m args below meth c H locs cells slots Q (F0 m (pc + 1) ls (.long (f i) :: rest))) : W p l e R s m args below meth c H locs cells slots Q (F0 m pc ls (.int (nI i) :: .ref a :: rest)) := by
  refine va_lald hexec hb hK (hP.one ha) 0 t0 rfl ht (vp_in_nI hi hn) hdg ?_
  rw [nI_clamp (Nat.lt_trans hi hn)]
  exact kk
theorem mw_iald (hexec : p.tables.exec = Jvm.exec) (hb : c.code = cc) (hK : va_K D cl tys s) (hP : mw D cl B μ H) (t0 : Nat) {cA : ClassId} {n : Nat} {f : Nat → Int32} (ha : μ a = some (.inl (cA, n, .inl f))) (ht : tys[t0]? = some (cA, .int)) {i : Nat} (hi : i < n) (hn : n < 2 ^ 31) (hdg : decode cc pc = .ok (.iaload, 1))
    (kk : W p l e R s m args below meth c H locs cells slots Q (F0 m (pc + 1) ls (.int (f i) :: rest))) : W p l e R s m args below meth c H locs cells slots Q (F0 m pc ls (.int (nI i) :: .ref a :: rest)) := by
  refine va_iald hexec hb hK (hP.one ha) 0 t0 rfl ht (vp_in_nI hi hn) hdg ?_
  rw [nI_clamp (Nat.lt_trans hi hn)]
  exact kk
theorem mw_zald (hexec : p.tables.exec = Jvm.exec) (hb : c.code = cc) (hK : va_K D cl tys s) (hP : mw D cl B μ H) (t0 : Nat) {cA : ClassId} {n : Nat} {f : Nat → Int32} (ha : μ a = some (.inl (cA, n, .inl f))) (ht : tys[t0]? = some (cA, .boolean)) {i : Nat} (hi : i < n) (hn : n < 2 ^ 31) (hdg : decode cc pc = .ok (.baload, 1))
    (kk : W p l e R s m args below meth c H locs cells slots Q (F0 m (pc + 1) ls (.int (f i) :: rest))) : W p l e R s m args below meth c H locs cells slots Q (F0 m pc ls (.int (nI i) :: .ref a :: rest)) := by
  refine va_zald hexec hb hK (hP.one ha) 0 t0 rfl ht (vp_in_nI hi hn) hdg ?_
  rw [nI_clamp (Nat.lt_trans hi hn)]
  exact kk
theorem mw_aldq (hexec : p.tables.exec = Jvm.exec) (hb : c.code = cc) (hK : va_K D cl tys s) (hP : mw D cl B μ H) (t0 : Nat) {cA : ClassId} {C : String} {n : Nat} {f : Nat → Option Nat} (ha : μ a = some (.inl (cA, n, .inr (.inr (.inr (.inr f)))))) (ht : tys[t0]? = some (cA, .object C)) {i b : Nat} (hi : i < n) (hn : n < 2 ^ 31) (hv : f i = some b) (hdg : decode cc pc = .ok (.aaload, 1))
    (kk : W p l e R s m args below meth c H locs cells slots Q (F0 m (pc + 1) ls (.ref b :: rest))) : W p l e R s m args below meth c H locs cells slots Q (F0 m pc ls (.int (nI i) :: .ref a :: rest)) := by
  refine va_aldq hexec hb hK (hP.one ha) 0 t0 rfl ht (vp_in_nI hi hn) hdg ?_
  rw [nI_clamp (Nat.lt_trans hi hn), hv]
  exact kk
theorem mw_alen (hexec : p.tables.exec = Jvm.exec) (hb : c.code = cc) (hK : va_K D cl tys s) (hP : mw D cl B μ H) (t0 : Nat) {cA : ClassId} {x : vp_A} (ha : μ a = some (.inl (cA, x))) {ty : FieldType} (ht : tys[t0]? = some (cA, ty)) (hdg : decode cc pc = .ok (.arraylength, 1))
    (kk : W p l e R s m args below meth c H locs cells slots Q (F0 m (pc + 1) ls (.int (nI x.1) :: rest))) : W p l e R s m args below meth c H locs cells slots Q (F0 m pc ls (.ref a :: rest)) :=
  va_alen hexec hb hK (hP.one ha) 0 t0 rfl ht rfl hdg kk
theorem mw_last (hexec : p.tables.exec = Jvm.exec) (hb : c.code = cc) (hK : va_K D cl tys s) (hP : mw D cl B μ H) (hS : va_S (fun q => B ≤ q) H0 H locs) (t0 : Nat) {cA : ClassId} {n : Nat} {f : Nat → Int64} (ha : μ a = some (.inl (cA, n, .inr (.inl f)))) (ht : tys[t0]? = some (cA, .long)) {i : Nat} {x : Int64} (hi : i < n) (hn : n < 2 ^ 31) (hdg : decode cc pc = .ok (.lastore, 1))
    (kk : ∀ (H1 : Heap) (locs1 : List Loc), mw D cl B (mu μ a (.inl (cA, n, .inr (.inl (vp_updL f i x))))) H1 → va_S (fun q => B ≤ q) H0 H1 locs1 → W p l e R s m args below meth c H1 locs1 cells slots Q (F0 m (pc + 1) ls rest)) : W p l e R s m args below meth c H locs cells slots Q (F0 m pc ls (.long x :: .int (nI i) :: .ref a :: rest)) := by
  have hin := vp_in_nI hi hn
  have hcl := nI_clamp (Nat.lt_trans hi hn)
  refine W.last hexec hb (hP a _ ha).2 ((hK.2 t0 _ ht).1 n (fun j => .long (f j))) (fun q => by cases q) (by show ¬ (nI i < 0 ∨ (arrV _ _ _).slots.size ≤ _); rw [arrV_size]; exact hin) rfl rfl hdg fun H1 e z oq => ?_
  refine kk H1 _ (hP.set (hP.ge ha) ?_ oq) (hS.put z oq (hP.ge ha))
  show H1[a]? = some (vp_cell _ _)
  rw [e, hcl, vp_cell_l, vp_cell_l, arrV_store]
  congr 2
  funext q
  by_cases hq : q = i
  · subst hq
    simp [updV, vp_updL]
  · simp [updV, vp_updL, hq]
theorem mw_iast (hexec : p.tables.exec = Jvm.exec) (hb : c.code = cc) (hK : va_K D cl tys s) (hP : mw D cl B μ H) (hS : va_S (fun q => B ≤ q) H0 H locs) (t0 : Nat) {cA : ClassId} {n : Nat} {f : Nat → Int32} (ha : μ a = some (.inl (cA, n, .inl f))) (ht : tys[t0]? = some (cA, .int)) {i : Nat} {x : Int32} (hi : i < n) (hn : n < 2 ^ 31) (hdg : decode cc pc = .ok (.iastore, 1))
    (kk : ∀ (H1 : Heap) (locs1 : List Loc), mw D cl B (mu μ a (.inl (cA, n, .inl (upd f i x)))) H1 → va_S (fun q => B ≤ q) H0 H1 locs1 → W p l e R s m args below meth c H1 locs1 cells slots Q (F0 m (pc + 1) ls rest)) : W p l e R s m args below meth c H locs cells slots Q (F0 m pc ls (.int x :: .int (nI i) :: .ref a :: rest)) := by
  have hin := vp_in_nI hi hn
  have hcl := nI_clamp (Nat.lt_trans hi hn)
  refine W.iast hexec hb (hP a _ ha).2 ((hK.2 t0 _ ht).1 n (fun j => .int (f j))) (fun q => by cases q) (by show ¬ (nI i < 0 ∨ (arrV _ _ _).slots.size ≤ _); rw [arrV_size]; exact hin) rfl rfl hdg fun H1 e z oq => ?_
  refine kk H1 _ (hP.set (hP.ge ha) ?_ oq) (hS.put z oq (hP.ge ha))
  show H1[a]? = some (vp_cell _ _)
  rw [e, hcl, vp_cell_i, vp_cell_i, arrV_store]
  congr 2
  funext q
  by_cases hq : q = i
  · subst hq
    simp [updV, upd]
  · simp [updV, upd, hq]
theorem mw_zast (hexec : p.tables.exec = Jvm.exec) (hb : c.code = cc) (hK : va_K D cl tys s) (hP : mw D cl B μ H) (hS : va_S (fun q => B ≤ q) H0 H locs) (t0 : Nat) {cA : ClassId} {n : Nat} {f : Nat → Int32} (ha : μ a = some (.inl (cA, n, .inl f))) (ht : tys[t0]? = some (cA, .boolean)) {i : Nat} {x : Int32} (hx : narrow .boolean (.int x) = .int x) (hi : i < n) (hn : n < 2 ^ 31) (hdg : decode cc pc = .ok (.bastore, 1))
    (kk : ∀ (H1 : Heap) (locs1 : List Loc), mw D cl B (mu μ a (.inl (cA, n, .inl (upd f i x)))) H1 → va_S (fun q => B ≤ q) H0 H1 locs1 → W p l e R s m args below meth c H1 locs1 cells slots Q (F0 m (pc + 1) ls rest)) : W p l e R s m args below meth c H locs cells slots Q (F0 m pc ls (.int x :: .int (nI i) :: .ref a :: rest)) := by
  have hin := vp_in_nI hi hn
  have hcl := nI_clamp (Nat.lt_trans hi hn)
  refine W.zast hexec hb (hP a _ ha).2 ((hK.2 t0 _ ht).1 n (fun j => .int (f j))) (fun q => by cases q) (by show ¬ (nI i < 0 ∨ (arrV _ _ _).slots.size ≤ _); rw [arrV_size]; exact hin) rfl rfl hdg fun H1 e z oq => ?_
  refine kk H1 _ (hP.set (hP.ge ha) ?_ oq) (hS.put z oq (hP.ge ha))
  show H1[a]? = some (vp_cell _ _)
  rw [e, hcl, hx, vp_cell_i, vp_cell_i, arrV_store]
  congr 2
  funext q
  by_cases hq : q = i
  · subst hq
    simp [updV, upd]
  · simp [updV, upd, hq]
theorem mw_astq (hexec : p.tables.exec = Jvm.exec) (hb : c.code = cc) (hK : va_K D cl tys s) (hP : mw D cl B μ H) (hS : va_S (fun q => B ≤ q) H0 H locs) (t0 ci : Nat) {cA : ClassId} {r : vw_C} {n v : Nat} {vs : List Value} {f : Nat → Option Nat} (ha : μ a = some (.inl (cA, n, .inr (.inr (.inr (.inr f)))))) (ht : tys[t0]? = some (cA, .object r.1)) (hv : μ v = some (.inr (ci, vs))) (hc : cl[ci]? = some r) {i : Nat} (hi : i < n) (hn : n < 2 ^ 31) (hdg : decode cc pc = .ok (.aastore, 1))
    (kk : ∀ (H1 : Heap) (locs1 : List Loc), mw D cl B (mu μ a (.inl (cA, n, .inr (.inr (.inr (.inr (va_up f i (some v)))))))) H1 → va_S (fun q => B ≤ q) H0 H1 locs1 → W p l e R s m args below meth c H1 locs1 cells slots Q (F0 m (pc + 1) ls rest)) : W p l e R s m args below meth c H locs cells slots Q (F0 m pc ls (.ref v :: .int (nI i) :: .ref a :: rest)) := by
  have hin := vp_in_nI hi hn
  have hi0 : (nI i).toNatClampNeg = i := nI_clamp (Nat.lt_trans hi hn)
  have h0 : ¬ nI i < 0 := fun q => hin (Or.inl q)
  obtain ⟨-, r', hr', cellV, g1, g2, g3, -⟩ := hP v _ hv
  have hcls := (hK.1 ci r hc).2
  obtain ⟨kA, comp, k1, k2, k3, -⟩ := (hK.2 t0 _ ht).2
  have hcomp : comp = D.1 ci := Option.some.inj (k3.symm.trans hcls.1)
  subst hcomp
  obtain ⟨kC, hkC, -⟩ := hcls.2
  refine W.aast hexec hb (hP a _ ha).2 (fun q h => by cases h) (fun h => by cases h) k1 k2 rfl hkC ⟨h0, by show _ < (arrV _ _ _).slots.size; rw [arrV_size, hi0]; exact hi⟩ g1 (fun q h => by rw [g3] at h; cases h) (by rw [g2]; exact hkC) (by rw [g2]; exact va_assign hcls) rfl rfl hdg fun H1 e z oq => ?_
  refine kk H1 _ (hP.set (hP.ge ha) ?_ oq) (hS.put z oq (hP.ge ha))
  show H1[a]? = some (vp_cell _ _)
  rw [e, hi0, vp_cell_q, vp_cell_q, arrV_store]
  congr 2
  funext q
  by_cases hq : q = i
  · subst hq
    simp [updV, va_up, va_rf]
  · simp [updV, va_up, hq]
/-- a new object -/
theorem mw_new (hexec : p.tables.exec = Jvm.exec) (hb : c.code = cc) {own C : String} {T : u_T} {N ci index : Nat} {Ts : List Cond} (hts : ∀ w ∈ Ts, w.before args s = true) (hin : ∀ w ∈ u_ws C T N, w ∈ Ts) (ty : Nat → FieldType) (hty : ∀ k, k < N → parseFieldDescriptor (T k).2.2.1 = some (ty k)) (hown : s.vm.findClass own = some m.cls) (hcl : (Cond.classLink own index C).before args s = true) (hinst : (Cond.instantiable C N).before args s = true) (hini : (Cond.initialized C).before args s = true)
    (hK : va_K D cl tys s) (hP : mw D cl B μ H) (hS : va_S (fun q => B ≤ q) H0 H locs) (hA : B ≤ H0.size) (hc : cl[ci]? = some (C, T, N)) {fs : List Value} (hfs : ∀ j, j < N → defaultValue (ty j) = vp_V fs j) (hcells : cells + 1 ≤ R.cells) (hslots : slots + N ≤ R.slots) (hdg : decode cc pc = .ok (.new index, 3))
    (kk : ∀ (q : Nat) (H1 : Heap), q = H.size → H1.size = H.size + 1 → μ q = none → mw D cl B (mu μ q (.inr (ci, fs))) H1 → va_S (fun q => B ≤ q) H0 H1 locs →
      W p l e R s m args below meth c H1 locs (cells + 1) (slots + N) Q (F0 m (pc + 3) ls (.ref q :: rest))) : W p l e R s m args below meth c H locs cells slots Q (F0 m pc ls rest) := by
  have hKn := hK.1 ci _ hc
  refine W.newcK hexec hb hown hcl hinst hini rfl hdg hcells hslots hKn.2.1 rfl fun H1 kC hkC e1 z1 o1 => ?_
  refine kk H.size H1 rfl z1 hP.none (hP.push (Nat.le_trans hA hS.1) ?_ o1) ⟨Nat.le_trans hS.1 (by omega), fun x h1 h2 => (o1 x (Nat.lt_of_lt_of_le h1 hS.1)).trans (hS.2.1 x h1 h2), hS.2.2⟩
  exact ⟨_, hc, (u_born ty hts hin hKn hkC e1 hty).to hfs⟩
/-- a new array of a primitive type, of the class that the world's table has for it -/
theorem mw_newa (hexec : p.tables.exec = Jvm.exec) (hb : c.code = cc) {atype : ArrayType} (harr : (Cond.arrayClass (newarray.typeOf atype)).before args s = true) {ty : FieldType} (hty : newarray.typeOf atype = ty) (hK : va_K D cl tys s) (hP : mw D cl B μ H) (hS : va_S (fun q => B ≤ q) H0 H locs) (hA : B ≤ H0.size) (t0 : Nat) {cA : ClassId} (ht : tys[t0]? = some (cA, ty))
    {n : Nat} {a0 : vp_A} (ha : ∀ cA : ClassId, vp_cell cA a0 = arrV cA n (fun _ => defaultValue ty)) (hn : n < 2 ^ 31) (hbytes : n * componentBytes ty ≤ 536870912) (hcells : cells + 1 ≤ R.cells) (hslots : slots + n ≤ R.slots) (hdg : decode cc pc = .ok (.newarray atype, 2))
    (kk : ∀ (q : Nat) (H1 : Heap), q = H.size → H1.size = H.size + 1 → μ q = none → mw D cl B (mu μ q (.inl (cA, a0))) H1 → va_S (fun q => B ≤ q) H0 H1 locs →
      W p l e R s m args below meth c H1 locs (cells + 1) (slots + n) Q (F0 m (pc + 2) ls (.ref q :: rest))) : W p l e R s m args below meth c H locs cells slots Q (F0 m pc ls (.int (nI n) :: rest)) := by
  subst hty
  refine va_newaK hexec hb harr rfl hdg rfl (nI_pos hn) (nI_clamp hn) hbytes hcells hslots rfl fun H1 cA' e1 z1 o1 hAr hNm => ?_
  have hcc : cA' = cA := by
    have h := (hK.2 t0 _ ht).2
    have h2 : s.vm.findClass ("[" ++ (newarray.typeOf atype).toString) = some cA := by cases atype <;> exact h
    exact Option.some.inj (hNm.symm.trans h2)
  subst hcc
  refine kk H.size H1 rfl z1 hP.none (hP.push (Nat.le_trans hA hS.1) ?_ o1) ⟨Nat.le_trans hS.1 (by omega), fun x h1 h2 => (o1 x (Nat.lt_of_lt_of_le h1 hS.1)).trans (hS.2.1 x h1 h2), hS.2.2⟩
  show H1[H.size]? = some (vp_cell _ _)
  rw [ha]
  exact e1
/-- a new array of references -/
theorem mw_newq (hexec : p.tables.exec = Jvm.exec) (hb : c.code = cc) {own C : String} {index : Nat} (hown : s.vm.findClass own = some m.cls) (hclink : (Cond.classLink own index C).before args s = true) (hover : va_AO C s) (hK : va_K D cl tys s) (hP : mw D cl B μ H) (hS : va_S (fun q => B ≤ q) H0 H locs) (hA : B ≤ H0.size) (t0 : Nat) {cA : ClassId} (ht : tys[t0]? = some (cA, .object C))
    {n : Nat} (hn : n < 2 ^ 27) (hcells : cells + 1 ≤ R.cells) (hslots : slots + n ≤ R.slots) (hdg : decode cc pc = .ok (.anewarray index, 3))
    (kk : ∀ (q : Nat) (H1 : Heap), q = H.size → H1.size = H.size + 1 → μ q = none → mw D cl B (mu μ q (.inl (cA, n, .inr (.inr (.inr (.inr (fun _ => none))))))) H1 → va_S (fun q => B ≤ q) H0 H1 locs →
      W p l e R s m args below meth c H1 locs (cells + 1) (slots + n) Q (F0 m (pc + 3) ls (.ref q :: rest))) : W p l e R s m args below meth c H locs cells slots Q (F0 m pc ls (.int (nI n) :: rest)) := by
  have hn31 : n < 2 ^ 31 := by omega
  have hcl := nI_clamp hn31
  refine W.anew hexec hb hown hclink (va_AO.use hover) rfl hdg rfl (nI_pos hn31) (by rw [hcl]; omega) hcells (by rw [hcl]; exact hslots) fun cA' kA comp f1 f2 f3 f4 => ?_
  have hcc : cA' = cA := by
    obtain ⟨kA2, comp2, g1, g2, g3, g4⟩ := (hK.2 t0 _ ht).2
    exact Option.some.inj (f1.symm.trans g4)
  subst hcc
  rw [hcl]
  generalize hH1 : H.push ({ cls := cA', slots := Array.replicate n .null, vm := .none } : Cell) = H1
  have z1 : H1.size = H.size + 1 := by rw [← hH1, Array.size_push]
  have e1 : H1[H.size]? = some (arrV cA' n (fun _ => .null)) := by rw [← hH1, Array.getElem?_push_size, ← arrV_new]
  have o1 : ∀ q : Nat, q < H.size → H1[q]? = H[q]? := fun q hq => by rw [← hH1, Array.getElem?_push, if_neg (Nat.ne_of_lt hq)]
  refine kk H.size H1 rfl z1 hP.none (hP.push (Nat.le_trans hA hS.1) ?_ o1) ⟨Nat.le_trans hS.1 (by omega), fun x h1 h2 => (o1 x (Nat.lt_of_lt_of_le h1 hS.1)).trans (hS.2.1 x h1 h2), hS.2.2⟩
  show H1[H.size]? = some (vp_cell _ _)
  rw [vp_cell_q]
  exact e1
/-- numbers that are natural: their sums and products -/
theorem nv_iadd (hexec : p.tables.exec = Jvm.exec) (hb : c.code = cc) {x y : Nat} (hdg : decode cc pc = .ok (.iadd, 1)) (k : W p l e R s m args below meth c H locs cells slots Q (F0 m (pc + 1) ls (.int (nI (x + y)) :: rest))) : W p l e R s m args below meth c H locs cells slots Q (F0 m pc ls (.int (nI y) :: .int (nI x) :: rest)) := by
  refine lv_iadd hexec hb hdg ?_
  rw [nI_add]
  exact k
theorem nv_imul (hexec : p.tables.exec = Jvm.exec) (hb : c.code = cc) {x y : Nat} (hdg : decode cc pc = .ok (.imul, 1)) (k : W p l e R s m args below meth c H locs cells slots Q (F0 m (pc + 1) ls (.int (nI (x * y)) :: rest))) : W p l e R s m args below meth c H locs cells slots Q (F0 m pc ls (.int (nI y) :: .int (nI x) :: rest)) := by
  refine lv_imul hexec hb hdg ?_
  rw [pk_mul]
  exact k
theorem nv_isub (hexec : p.tables.exec = Jvm.exec) (hb : c.code = cc) {x y : Nat} (h : y ≤ x) (hdg : decode cc pc = .ok (.isub, 1)) (k : W p l e R s m args below meth c H locs cells slots Q (F0 m (pc + 1) ls (.int (nI (x - y)) :: rest))) : W p l e R s m args below meth c H locs cells slots Q (F0 m pc ls (.int (nI y) :: .int (nI x) :: rest)) := by
  refine lv_isub hexec hb hdg ?_
  rw [pk_sub h]
  exact k
theorem nv_eqi {x y : Int32} (h : x = y) (k : W p l e R s m args below meth c H locs cells slots Q (F0 m pc ls (.int y :: rest))) : W p l e R s m args below meth c H locs cells slots Q (F0 m pc ls (.int x :: rest)) := h ▸ k
theorem nv_eql {x y : Int64} (h : x = y) (k : W p l e R s m args below meth c H locs cells slots Q (F0 m pc ls (.long y :: rest))) : W p l e R s m args below meth c H locs cells slots Q (F0 m pc ls (.long x :: rest)) := h ▸ k
end MR
section ML
variable {p : Program} {l : Launch} {e : Env} {R : Room} {s : State} {m : MethodId} {args : Array Value} {below : List Frame} {meth : Method} {c : Code} {H : Heap} {locs : List Loc} {cells slots : Nat} {Q : State → Prop}
variable {cc : ByteArray} {pc : Nat} {ls : Array Slot} {rest : List Value}
theorem nl_if_lt (hexec : p.tables.exec = Jvm.exec) (hb : c.code = cc) {x y : Int64} {off : Int} {tgt : Nat} (hd0 : decode cc pc = .ok (.lcmp, 1)) (hdg : decode cc (pc + 1) = .ok (.ifCond .lt off, 3)) (ht : ((pc + 1 : Nat) : Int) + off = (tgt : Int))
    (kt : x < y → W p l e R s m args below meth c H locs cells slots Q (F0 m tgt ls rest)) (kf : ¬ x < y → W p l e R s m args below meth c H locs cells slots Q (F0 m (pc + 4) ls rest)) : W p l e R s m args below meth c H locs cells slots Q (F0 m pc ls (.long y :: .long x :: rest)) :=
  W.lcmp hexec hb hd0 (lv_if_lt hexec hb hdg ht (fun h => kt ((lg_cmp_lt _ _).mp h)) (fun h => kf (fun q => h ((lg_cmp_lt _ _).mpr q))))
theorem nl_if_le (hexec : p.tables.exec = Jvm.exec) (hb : c.code = cc) {x y : Int64} {off : Int} {tgt : Nat} (hd0 : decode cc pc = .ok (.lcmp, 1)) (hdg : decode cc (pc + 1) = .ok (.ifCond .le off, 3)) (ht : ((pc + 1 : Nat) : Int) + off = (tgt : Int))
    (kt : x ≤ y → W p l e R s m args below meth c H locs cells slots Q (F0 m tgt ls rest)) (kf : ¬ x ≤ y → W p l e R s m args below meth c H locs cells slots Q (F0 m (pc + 4) ls rest)) : W p l e R s m args below meth c H locs cells slots Q (F0 m pc ls (.long y :: .long x :: rest)) :=
  W.lcmp hexec hb hd0 (lv_if_le hexec hb hdg ht (fun h => kt ((lg_cmp_le _ _).mp h)) (fun h => kf (fun q => h ((lg_cmp_le _ _).mpr q))))
theorem nl_if_gt (hexec : p.tables.exec = Jvm.exec) (hb : c.code = cc) {x y : Int64} {off : Int} {tgt : Nat} (hd0 : decode cc pc = .ok (.lcmp, 1)) (hdg : decode cc (pc + 1) = .ok (.ifCond .gt off, 3)) (ht : ((pc + 1 : Nat) : Int) + off = (tgt : Int))
    (kt : y < x → W p l e R s m args below meth c H locs cells slots Q (F0 m tgt ls rest)) (kf : ¬ y < x → W p l e R s m args below meth c H locs cells slots Q (F0 m (pc + 4) ls rest)) : W p l e R s m args below meth c H locs cells slots Q (F0 m pc ls (.long y :: .long x :: rest)) :=
  W.lcmp hexec hb hd0 (lv_if_gt hexec hb hdg ht (fun h => kt ((lg_cmp_gt _ _).mp h)) (fun h => kf (fun q => h ((lg_cmp_gt _ _).mpr q))))
theorem nl_if_ge (hexec : p.tables.exec = Jvm.exec) (hb : c.code = cc) {x y : Int64} {off : Int} {tgt : Nat} (hd0 : decode cc pc = .ok (.lcmp, 1)) (hdg : decode cc (pc + 1) = .ok (.ifCond .ge off, 3)) (ht : ((pc + 1 : Nat) : Int) + off = (tgt : Int))
    (kt : y ≤ x → W p l e R s m args below meth c H locs cells slots Q (F0 m tgt ls rest)) (kf : ¬ y ≤ x → W p l e R s m args below meth c H locs cells slots Q (F0 m (pc + 4) ls rest)) : W p l e R s m args below meth c H locs cells slots Q (F0 m pc ls (.long y :: .long x :: rest)) :=
  W.lcmp hexec hb hd0 (lv_if_ge hexec hb hdg ht (fun h => kt ((lg_cmp_ge _ _).mp h)) (fun h => kf (fun q => h ((lg_cmp_ge _ _).mpr q))))
theorem nl_if_eq (hexec : p.tables.exec = Jvm.exec) (hb : c.code = cc) {x y : Int64} {off : Int} {tgt : Nat} (hd0 : decode cc pc = .ok (.lcmp, 1)) (hdg : decode cc (pc + 1) = .ok (.ifCond .eq off, 3)) (ht : ((pc + 1 : Nat) : Int) + off = (tgt : Int))
    (kt : x = y → W p l e R s m args below meth c H locs cells slots Q (F0 m tgt ls rest)) (kf : ¬ x = y → W p l e R s m args below meth c H locs cells slots Q (F0 m (pc + 4) ls rest)) : W p l e R s m args below meth c H locs cells slots Q (F0 m pc ls (.long y :: .long x :: rest)) :=
  W.lcmp hexec hb hd0 (lv_if_eq hexec hb hdg ht (fun h => kt ((lg_cmp_eq _ _).mp h)) (fun h => kf (fun q => h ((lg_cmp_eq _ _).mpr q))))
theorem nl_if_ne (hexec : p.tables.exec = Jvm.exec) (hb : c.code = cc) {x y : Int64} {off : Int} {tgt : Nat} (hd0 : decode cc pc = .ok (.lcmp, 1)) (hdg : decode cc (pc + 1) = .ok (.ifCond .ne off, 3)) (ht : ((pc + 1 : Nat) : Int) + off = (tgt : Int))
    (kt : ¬ x = y → W p l e R s m args below meth c H locs cells slots Q (F0 m tgt ls rest)) (kf : x = y → W p l e R s m args below meth c H locs cells slots Q (F0 m (pc + 4) ls rest)) : W p l e R s m args below meth c H locs cells slots Q (F0 m pc ls (.long y :: .long x :: rest)) :=
  W.lcmp hexec hb hd0 (lv_if_ne hexec hb hdg ht (fun h => kt (fun q => h ((lg_cmp_eq _ _).mpr q))) (fun h => kf ((lg_cmp_eq _ _).mp h)))
theorem nv_icmp_eq (hexec : p.tables.exec = Jvm.exec) (hb : c.code = cc) {x y : Nat} {off : Int} {tgt : Nat} (hx : x < 2 ^ 31) (hy : y < 2 ^ 31) (hdg : decode cc pc = .ok (.if_icmp .eq off, 3)) (ht : (pc : Int) + off = (tgt : Int))
    (kt : x = y → W p l e R s m args below meth c H locs cells slots Q (F0 m tgt ls rest)) (kf : ¬ x = y → W p l e R s m args below meth c H locs cells slots Q (F0 m (pc + 3) ls rest)) : W p l e R s m args below meth c H locs cells slots Q (F0 m pc ls (.int (nI y) :: .int (nI x) :: rest)) :=
  lv_icmp_eq hexec hb hdg ht (fun h => kt ((nI_eq hx hy).mp h)) (fun h => kf (fun q => h ((nI_eq hx hy).mpr q)))
theorem nv_icmp_ne (hexec : p.tables.exec = Jvm.exec) (hb : c.code = cc) {x y : Nat} {off : Int} {tgt : Nat} (hx : x < 2 ^ 31) (hy : y < 2 ^ 31) (hdg : decode cc pc = .ok (.if_icmp .ne off, 3)) (ht : (pc : Int) + off = (tgt : Int))
    (kt : ¬ x = y → W p l e R s m args below meth c H locs cells slots Q (F0 m tgt ls rest)) (kf : x = y → W p l e R s m args below meth c H locs cells slots Q (F0 m (pc + 3) ls rest)) : W p l e R s m args below meth c H locs cells slots Q (F0 m pc ls (.int (nI y) :: .int (nI x) :: rest)) :=
  lv_icmp_ne hexec hb hdg ht (fun h => kt (fun q => h ((nI_eq hx hy).mpr q))) (fun h => kf ((nI_eq hx hy).mp h))
theorem nv_icmp_lt (hexec : p.tables.exec = Jvm.exec) (hb : c.code = cc) {x y : Nat} {off : Int} {tgt : Nat} (hx : x < 2 ^ 31) (hy : y < 2 ^ 31) (hdg : decode cc pc = .ok (.if_icmp .lt off, 3)) (ht : (pc : Int) + off = (tgt : Int))
    (kt : x < y → W p l e R s m args below meth c H locs cells slots Q (F0 m tgt ls rest)) (kf : ¬ x < y → W p l e R s m args below meth c H locs cells slots Q (F0 m (pc + 3) ls rest)) : W p l e R s m args below meth c H locs cells slots Q (F0 m pc ls (.int (nI y) :: .int (nI x) :: rest)) :=
  lv_icmp_lt hexec hb hdg ht (fun h => kt ((nI_ltI hx hy).mp h)) (fun h => kf (fun q => h ((nI_ltI hx hy).mpr q)))
theorem nv_icmp_ge (hexec : p.tables.exec = Jvm.exec) (hb : c.code = cc) {x y : Nat} {off : Int} {tgt : Nat} (hx : x < 2 ^ 31) (hy : y < 2 ^ 31) (hdg : decode cc pc = .ok (.if_icmp .ge off, 3)) (ht : (pc : Int) + off = (tgt : Int))
    (kt : y ≤ x → W p l e R s m args below meth c H locs cells slots Q (F0 m tgt ls rest)) (kf : ¬ y ≤ x → W p l e R s m args below meth c H locs cells slots Q (F0 m (pc + 3) ls rest)) : W p l e R s m args below meth c H locs cells slots Q (F0 m pc ls (.int (nI y) :: .int (nI x) :: rest)) :=
  lv_icmp_ge hexec hb hdg ht (fun h => kt ((nI_leI hy hx).mp h)) (fun h => kf (fun q => h ((nI_leI hy hx).mpr q)))
theorem nv_icmp_gt (hexec : p.tables.exec = Jvm.exec) (hb : c.code = cc) {x y : Nat} {off : Int} {tgt : Nat} (hx : x < 2 ^ 31) (hy : y < 2 ^ 31) (hdg : decode cc pc = .ok (.if_icmp .gt off, 3)) (ht : (pc : Int) + off = (tgt : Int))
    (kt : y < x → W p l e R s m args below meth c H locs cells slots Q (F0 m tgt ls rest)) (kf : ¬ y < x → W p l e R s m args below meth c H locs cells slots Q (F0 m (pc + 3) ls rest)) : W p l e R s m args below meth c H locs cells slots Q (F0 m pc ls (.int (nI y) :: .int (nI x) :: rest)) :=
  lv_icmp_gt hexec hb hdg ht (fun h => kt ((nI_ltI hy hx).mp h)) (fun h => kf (fun q => h ((nI_ltI hy hx).mpr q)))
theorem nv_icmp_le (hexec : p.tables.exec = Jvm.exec) (hb : c.code = cc) {x y : Nat} {off : Int} {tgt : Nat} (hx : x < 2 ^ 31) (hy : y < 2 ^ 31) (hdg : decode cc pc = .ok (.if_icmp .le off, 3)) (ht : (pc : Int) + off = (tgt : Int))
    (kt : x ≤ y → W p l e R s m args below meth c H locs cells slots Q (F0 m tgt ls rest)) (kf : ¬ x ≤ y → W p l e R s m args below meth c H locs cells slots Q (F0 m (pc + 3) ls rest)) : W p l e R s m args below meth c H locs cells slots Q (F0 m pc ls (.int (nI y) :: .int (nI x) :: rest)) :=
  lv_icmp_le hexec hb hdg ht (fun h => kt ((nI_leI hx hy).mp h)) (fun h => kf (fun q => h ((nI_leI hx hy).mpr q)))
end ML
end
section
section MC
variable {p : Program} {l : Launch} {e : Env} {R : Room} {s : State} {m : MethodId} {args : Array Value} {below : List Frame} {meth : Method} {c : Code} {H : Heap} {locs : List Loc} {cells slots : Nat} {Q : State → Prop}
variable {pc : Nat} {ls : Array Slot} {rest : List Value} {D : va_G} {cl : List vw_C} {a : Nat} {tys : List (ClassId × FieldType)} {B : Nat} {μ : mp} {H0 : Heap}
theorem mw_copyl0 {cc : ByteArray} (hexec : p.tables.exec = Jvm.exec) (hb : c.code = cc) (hml : c.maxLocals = ls.size) {own : String} {index : Nat} (hown : s.vm.findClass own = some m.cls) (hlink : (Cond.methodLink own index arraycopyName).before args s = true) (hnat : (Cond.native arraycopyName).before args s = true) (hstat : (Cond.static arraycopyName).before args s = true) (hini : (Cond.initialized "java/lang/System").before args s = true)
    (hK : va_K D cl tys s) (hP : mw D cl B μ H) (hS : va_S (fun q => B ≤ q) H0 H locs) (t0 t1 : Nat) {a0 : Nat} {c0 c1 : ClassId} {n0 n1 : Nat} {f g : Nat → Int64} {ty : FieldType} (ha0 : μ a0 = some (.inl (c0, n0, .inr (.inl f)))) (ha1 : μ a = some (.inl (c1, n1, .inr (.inl g)))) (ht0 : tys[t0]? = some (c0, ty)) (ht1 : tys[t1]? = some (c1, ty)) (hprim : refKind ty = false)
    {sp dp n : Int32} (h1 : ¬ sp < 0) (h2 : ¬ dp < 0) (h3 : ¬ n < 0) (h4 : sp.toNatClampNeg + n.toNatClampNeg ≤ n0) (h5 : dp.toNatClampNeg + n.toNatClampNeg ≤ n1) (hfit : ∀ i, i < n.toNatClampNeg → fits ty (.long (f (sp.toNatClampNeg + i))) = true)
    (hframes : 1 ≤ R.frames) (hlocals : (rest.map fun v => v.category).sum + (nativeFrameWords "java/lang/System" "arraycopy" 5 + 11) ≤ R.locals) (hdg : decode cc pc = .ok (.invokestatic index, 3))
    (kk : ∀ (H1 : Heap) (locs1 : List Loc), mw D cl B (mu μ a (.inl (c1, n1, .inr (.inl (va_cpy f g sp.toNatClampNeg dp.toNatClampNeg n.toNatClampNeg))))) H1 → va_S (fun q => B ≤ q) H0 H1 locs1 → W p l e R s m args below meth c H1 locs1 cells slots Q (F0 m (pc + 3) ls rest)) : W p l e R s m args below meth c H locs cells slots Q (F0 m pc ls (.int n :: .int dp :: .ref a :: .int sp :: .ref a0 :: rest)) := by
  have nn : ∀ z : Int32, ¬ z < 0 → z.toInt = (z.toNatClampNeg : Int) := by
    intro z hz
    have hz0 : (0 : Int) ≤ z.toInt := by
      have := Int32.not_lt.mp hz
      simpa using Int32.le_iff_toInt_le.mp this
    show z.toInt = ((z.toInt.toNat : Nat) : Int)
    omega
  intro T hT X
  have hc0 : H[a0]? = some (vp_cell c0 (n0, .inr (.inl f))) := (hP a0 _ ha0).2
  have hc1 : H[a]? = some (vp_cell c1 (n1, .inr (.inl g))) := (hP a _ ha1).2
  obtain ⟨-, k0, hk0, cm0, hkk0⟩ := (hK.2 t0 _ ht0).1 n0 (fun j => .long (f j))
  obtain ⟨-, k1, hk1, cm1, hkk1⟩ := (hK.2 t1 _ ht1).1 n1 (fun j => .long (g j))
  obtain ⟨vm', X', step⟩ := X.arraycopy hexec hown hlink hnat hstat hini (src := a0) (dst := a) (cs := vp_cell c0 (n0, .inr (.inl f))) (cd := vp_cell c1 (n1, .inr (.inl g))) (srcPos := sp) (destPos := dp) (n := n) (by rw [hT]; exact hc0) (by rw [hT]; exact hc1)
    (fun _ h => by cases h) (fun _ h => by cases h) (fun h => by cases h) (fun h => by cases h) hk0 hk1 hkk0 hkk1 (by simp [hprim]) h1 h2 h3
    (by rw [nn sp h1, nn n h3]; show ¬ _ > ((arrV c0 n0 (fun j => .long (f j))).slots.size : Int); rw [arrV_size]; omega)
    (by rw [nn dp h2, nn n h3]; show ¬ _ > ((arrV c1 n1 (fun j => .long (g j))).slots.size : Int); rw [arrV_size]; omega)
    (fun vm₁ _ i hi => by
      have e : (vp_cell c0 (n0, .inr (.inl f))).slots.getD (sp.toNatClampNeg + i) .null = .long (f (sp.toNatClampNeg + i)) := by
        show (arrV c0 n0 (fun j => .long (f j))).slots.getD _ _ = _
        rw [Array.getD_eq_getD_getElem?, arrV_read _ _ (by omega)]
        rfl
      refine ⟨?_, ?_⟩
      · rw [e]
        exact hfit i hi
      · rw [e]
        exact trivial)
    (g := F0 m pc ls (.int n :: .int dp :: .ref a :: .int sp :: .ref a0 :: rest)) rfl (by rw [hml]) (rest := rest) rfl (by rw [hb]; exact hdg) hframes (by show 2 * 0 + _ + _ ≤ _; omega)
  have e1 : copied (vp_cell c0 (n0, .inr (.inl f))) (vp_cell c1 (n1, .inr (.inl g))) sp dp n = vp_cell c1 (n1, .inr (.inl (va_cpy f g sp.toNatClampNeg dp.toNatClampNeg n.toNatClampNeg))) := va_copied (fun z => .long z) c0 c1 f g h4
  rw [e1] at X' step
  have hl : a < H.size := (Array.getElem?_eq_some_iff.mp hc1).1
  have hheap : ((T.setVm vm').setCell a (vp_cell c1 (n1, .inr (.inl (va_cpy f g sp.toNatClampNeg dp.toNatClampNeg n.toNatClampNeg))))).heap = H.setIfInBounds a (vp_cell c1 (n1, .inr (.inl (va_cpy f g sp.toNatClampNeg dp.toNatClampNeg n.toNatClampNeg)))) := by rw [← hT]; rfl
  have oq : ∀ q : Nat, q ≠ a → (H.setIfInBounds a (vp_cell c1 (n1, .inr (.inl (va_cpy f g sp.toNatClampNeg dp.toNatClampNeg n.toNatClampNeg)))))[q]? = H[q]? := fun q hq => by simp [Array.getElem?_setIfInBounds, Ne.symm hq]
  obtain ⟨t, a1, b1⟩ := kk _ _ (hP.set (hP.ge ha1) (show (H.setIfInBounds a _)[a]? = some _ by simp [Array.getElem?_setIfInBounds, hl]) oq) ⟨by simp; exact hS.1, fun q g1 g2 => by
      rw [oq q (fun e => g2 (by rw [e]; exact hP.ge ha1))]
      exact hS.2.1 q g1 g2, fun q hq => by
      rcases List.mem_append.mp hq with h | h
      · exact hS.2.2 q h
      · obtain ⟨z, -, hz⟩ := List.mem_map.mp h
        rw [← hz]
        exact hP.ge ha1⟩ _ hheap X'
  exact ⟨t, step t a1, b1⟩
theorem mw_copyl {cc : ByteArray} (hexec : p.tables.exec = Jvm.exec) (hb : c.code = cc) (hml : c.maxLocals = ls.size) {own : String} {index : Nat} (hown : s.vm.findClass own = some m.cls) (hlink : (Cond.methodLink own index arraycopyName).before args s = true) (hnat : (Cond.native arraycopyName).before args s = true) (hstat : (Cond.static arraycopyName).before args s = true) (hini : (Cond.initialized "java/lang/System").before args s = true)
    (hK : va_K D cl tys s) (hP : mw D cl B μ H) (hS : va_S (fun q => B ≤ q) H0 H locs) (t0 t1 : Nat) {a0 : Nat} {c0 c1 : ClassId} {n0 n1 : Nat} {f g : Nat → Int64} (ha0 : μ a0 = some (.inl (c0, n0, .inr (.inl f)))) (ha1 : μ a = some (.inl (c1, n1, .inr (.inl g)))) (ht0 : tys[t0]? = some (c0, .long)) (ht1 : tys[t1]? = some (c1, .long))
    {n : Nat} (h4 : n ≤ n0) (h5 : n ≤ n1) (hn : n < 2 ^ 31) (hframes : 1 ≤ R.frames) (hlocals : (rest.map fun v => v.category).sum + (nativeFrameWords "java/lang/System" "arraycopy" 5 + 11) ≤ R.locals) (hdg : decode cc pc = .ok (.invokestatic index, 3))
    (kk : ∀ (H1 : Heap) (locs1 : List Loc), mw D cl B (mu μ a (.inl (c1, n1, .inr (.inl (va_cpy f g 0 0 n))))) H1 → va_S (fun q => B ≤ q) H0 H1 locs1 → W p l e R s m args below meth c H1 locs1 cells slots Q (F0 m (pc + 3) ls rest)) : W p l e R s m args below meth c H locs cells slots Q (F0 m pc ls (.int (nI n) :: .int (nI 0) :: .ref a :: .int (nI 0) :: .ref a0 :: rest)) := by
  have e0 : (nI 0).toNatClampNeg = 0 := nI_clamp (by decide)
  have en : (nI n).toNatClampNeg = n := nI_clamp hn
  refine mw_copyl0 hexec hb hml hown hlink hnat hstat hini hK hP hS t0 t1 ha0 ha1 ht0 ht1 rfl (nI_pos (by decide)) (nI_pos (by decide)) (nI_pos hn) (by rw [e0, en]; omega) (by rw [e0, en]; omega) (fun i _ => rfl) hframes hlocals hdg (fun H1 locs1 h1 h2 => ?_)
  rw [e0, en] at h1
  exact kk H1 locs1 h1 h2
theorem nv_idiv {cc : ByteArray} (hexec : p.tables.exec = Jvm.exec) (hb : c.code = cc) {x y : Nat} (hx : x < 2 ^ 31) (h0 : 0 < y) (hy : y < 2 ^ 31) (hdg : decode cc pc = .ok (.idiv, 1)) (k : W p l e R s m args below meth c H locs cells slots Q (F0 m (pc + 1) ls (.int (nI (x / y)) :: rest))) : W p l e R s m args below meth c H locs cells slots Q (F0 m pc ls (.int (nI y) :: .int (nI x) :: rest)) := by
  refine lv_idiv hexec hb hdg (nI_ne0 h0 hy) ?_
  rw [pk_div hx h0 hy]
  exact k
theorem nv_irem {cc : ByteArray} (hexec : p.tables.exec = Jvm.exec) (hb : c.code = cc) {x y : Nat} (hx : x < 2 ^ 31) (h0 : 0 < y) (hy : y < 2 ^ 31) (hdg : decode cc pc = .ok (.irem, 1)) (k : W p l e R s m args below meth c H locs cells slots Q (F0 m (pc + 1) ls (.int (nI (x % y)) :: rest))) : W p l e R s m args below meth c H locs cells slots Q (F0 m pc ls (.int (nI y) :: .int (nI x) :: rest)) := by
  refine lv_irem hexec hb hdg (nI_ne0 h0 hy) ?_
  rw [pk_rem hx h0 hy]
  exact k
end MC
end
section
/-! WHAT HOLDS AT EVERY METHOD'S START: the tables' facts (KK), and the world (KW) -/
abbrev GG : Type := va_G × (Nat → ClassId)
abbrev tysG (G : GG) : List (ClassId × FieldType) := [(G.2 0, .long), (G.2 1, .int), (G.2 2, .boolean), (G.2 3, .object RX1), (G.2 4, .object RX2)]
abbrev exA : String := "java/lang/IllegalArgumentException"
abbrev exS : String := "java/lang/IllegalStateException"
abbrev exN : List String := ["java/lang/RuntimeException", "java/lang/Exception"]
def strs : List (Nat × String) := [(128, "no such way"), (135, "there are as many steps as there may be"), (149, "no such point"), (151, "no such slot"), (153, "no such variable"), (155, "no such term"), (163, "the terms are each other's negation"), (167, "no such number"), (172, "no number is from b to c"), (174, "no such kind of action"), (176, "the shape is empty")]
def KK (G : GG) (B : Nat) (U : State) : Prop := va_K G.1 vwCl (tysG G) U ∧ (va_Nw (.methodLinkNest RX1 82 yX3_negation RX3) U ∧ va_Nw (.methodLinkNest RX3 47 yX2_init RX3) U) ∧ (va_AO RX1 U ∧ va_AO RX2 U) ∧ (∀ q ∈ strs, ∃ a : Nat, vk_R RX3 q.1 q.2 a U) ∧ (va_Nw (.castable exA exA) U ∧ va_Nw (.castable exS exS) U) ∧
  (vx_Zq Jvm.Bundle.tN "UNASSIGNED_STACK" Jvm.Bundle.steD (fun q => B ≤ q) U U.heap ∧ vx_Zq Jvm.Bundle.tN "SUPPRESSED_SENTINEL" Jvm.Bundle.listD (fun q => B ≤ q) U U.heap)
theorem KK.k {G : GG} {B : Nat} {U : State} (h : KK G B U) : va_K G.1 vwCl (tysG G) U := h.1
theorem KK.at {G : GG} {B : Nat} {s U : State} (h : KK G B s) (hW : s.WarmedH U.vm) (hS : ∀ a : Nat, a < s.heap.size → ¬ B ≤ a → U.heap[a]? = s.heap[a]?) : KK G B U := by
  obtain ⟨h1, ⟨h2, h3⟩, ⟨h4, h5⟩, h6, ⟨h7, h8⟩, h9, h10⟩ := h
  exact ⟨h1.moved hW.alike, ⟨h2.warmM hW, h3.warmM hW⟩, ⟨h4.moved hW.alike, h5.moved hW.alike⟩, fun q hq => by obtain ⟨a, ha⟩ := h6 q hq; exact ⟨a, vk_R.warm hW ha⟩, ⟨h7.warmC hW, h8.warmC hW⟩, (h9.kept hS).moved hW.alike, (h10.kept hS).moved hW.alike⟩
def KW (G : GG) (B : Nat) (μ : mp) (U : State) : Prop := B ≤ U.heap.size ∧ mw G.1 vwCl B μ U.heap ∧ KK G B U
theorem KW.pre {G : GG} {B : Nat} {μ : mp} {s : State} {H : Heap} {locs : List Loc} (hBs : B ≤ s.heap.size) (hKK : KK G B s) (hS : va_S (fun q => B ≤ q) s.heap H locs) (hP : mw G.1 vwCl B μ H) : ∀ U : State, U.heap = H → s.WarmedH U.vm → KW G B μ U := by
  intro U hU hW
  refine ⟨by rw [hU]; exact Nat.le_trans hBs hS.1, by rw [hU]; exact hP, hKK.at hW (fun a h1 h2 => by rw [hU]; exact hS.2.1 a h1 h2)⟩
theorem KW.blind {G : GG} {B : Nat} {μ : mp} {av : List Value} : FrameBlind (va_Pc av (KW G B μ)) := by
  intro a U g mk q
  obtain ⟨q0, q1, q2, q3⟩ := q
  exact ⟨q0, q1, q2, q3.at (U := U.calling g mk a) (State.WarmedH.refl U) (fun _ _ _ => rfl)⟩
abbrev BB (G : GG) (B : Nat) : mp → State → Prop := fun μ2 t => mw G.1 vwCl B μ2 t.heap
theorem mw.recv {G : GG} {B : Nat} {μ : mp} {s : State} {H : Heap} {tys : List (ClassId × FieldType)} {a ci : Nat} {q : vw_C} {fs : List Value} (hP : mw G.1 vwCl B μ H) (hK : va_K G.1 vwCl tys s) (hc : vwCl[ci]? = some q) (he : μ a = some (.inr (ci, fs))) : ∃ cell : Cell, H[a]? = some cell ∧ cell.vm.isStatics = false ∧ s.vm.findClass q.1 = some cell.cls :=
  va_recv hK (hP.one he) hc (q0 := 0) rfl
theorem mw_eq {D : va_G} {cl : List vw_C} {B : Nat} {μ μ' : mp} {H : Heap} (h : μ = μ') (hP : mw D cl B μ H) : mw D cl B μ' H := h ▸ hP
theorem mp_ne {μ : mp} {a b : Nat} {e1 e2 : va_E} (h1 : μ a = some e1) (h2 : μ b = some e2) (h : e1 ≠ e2) : a ≠ b := fun q => h (Option.some.inj (h1.symm.trans (q ▸ h2)))
section KC
variable {p : Program} {l : Launch} {e : Env} {R : Room} {s : State} {m : MethodId} {args : Array Value} {below : List Frame} {meth : Method} {c : Code} {H : Heap} {locs : List Loc} {cells slots : Nat} {Q : State → Prop}
variable {pc : Nat} {ls : Array Slot} {rest st0 : List Value} {a : Array Value} {mc ms : Nat} {G : GG} {B : Nat}
theorem kc_v {post : mp → Prop} (hr : va_Run p l e R s m args below meth c H locs cells slots mc ms (F0 m pc ls st0) rest (va_Qv post (BB G B) (fun q => B ≤ q) a) (fun q => B ≤ q)) (hS : va_S (fun q => B ≤ q) s.heap H locs)
    (kk : ∀ (u : mp) (H1 : Heap) (locs1 : List Loc), post u → mw G.1 vwCl B u H1 → H.size ≤ H1.size → va_S (fun q => B ≤ q) s.heap H1 locs1 → W p l e R s m args below meth c H1 locs1 (cells + mc) (slots + ms) Q (F0 m (pc + 3) ls rest)) : W p l e R s m args below meth c H locs cells slots Q (F0 m pc ls st0) :=
  va_callv hr hS (fun _ _ h => h) (fun _ h => h) (fun u t H1 locs1 ht _ hp hb hz _ hS1 => kk u H1 locs1 hp (by rw [← ht]; exact hb) hz hS1)
theorem kc_i {post : Int32 → mp → Prop} (hr : va_Run p l e R s m args below meth c H locs cells slots mc ms (F0 m pc ls st0) rest (va_Qi post (BB G B) (fun q => B ≤ q) a) (fun q => B ≤ q)) (hS : va_S (fun q => B ≤ q) s.heap H locs)
    (kk : ∀ (r : Int32) (u : mp) (H1 : Heap) (locs1 : List Loc), post r u → mw G.1 vwCl B u H1 → H.size ≤ H1.size → va_S (fun q => B ≤ q) s.heap H1 locs1 → W p l e R s m args below meth c H1 locs1 (cells + mc) (slots + ms) Q (F0 m (pc + 3) ls (.int r :: rest))) : W p l e R s m args below meth c H locs cells slots Q (F0 m pc ls st0) :=
  va_calli hr hS (fun _ _ h => h) (fun _ h => h) (fun r u t H1 locs1 ht _ hp hb hz _ hS1 => kk r u H1 locs1 hp (by rw [← ht]; exact hb) hz hS1)
theorem kc_l {post : Int64 → mp → Prop} (hr : va_Run p l e R s m args below meth c H locs cells slots mc ms (F0 m pc ls st0) rest (va_Ql post (BB G B) (fun q => B ≤ q) a) (fun q => B ≤ q)) (hS : va_S (fun q => B ≤ q) s.heap H locs)
    (kk : ∀ (r : Int64) (u : mp) (H1 : Heap) (locs1 : List Loc), post r u → mw G.1 vwCl B u H1 → H.size ≤ H1.size → va_S (fun q => B ≤ q) s.heap H1 locs1 → W p l e R s m args below meth c H1 locs1 (cells + mc) (slots + ms) Q (F0 m (pc + 3) ls (.long r :: rest))) : W p l e R s m args below meth c H locs cells slots Q (F0 m pc ls st0) :=
  va_calll hr hS (fun _ _ h => h) (fun _ h => h) (fun r u t H1 locs1 ht _ hp hb hz _ hS1 => kk r u H1 locs1 hp (by rw [← ht]; exact hb) hz hS1)
theorem kc_r {post : mp → Nat → Prop} (hr : va_Run p l e R s m args below meth c H locs cells slots mc ms (F0 m pc ls st0) rest (va_Qr (fun (_ : mp) => True) (fun μ2 ra t => post μ2 ra ∧ BB G B μ2 t) (fun q => B ≤ q) a) (fun q => B ≤ q)) (hS : va_S (fun q => B ≤ q) s.heap H locs)
    (kk : ∀ (u : mp) (ra : Nat) (H1 : Heap) (locs1 : List Loc), post u ra → mw G.1 vwCl B u H1 → H.size ≤ H1.size → va_S (fun q => B ≤ q) s.heap H1 locs1 → W p l e R s m args below meth c H1 locs1 (cells + mc) (slots + ms) Q (F0 m (pc + 3) ls (.ref ra :: rest))) : W p l e R s m args below meth c H locs cells slots Q (F0 m pc ls st0) :=
  va_callr hr hS (fun _ _ h => h) (fun _ h => h) (fun u ra t H1 locs1 ht _ _ hb hz _ hS1 => kk u ra H1 locs1 hb.1 (by rw [← ht]; exact hb.2) hz hS1)
end KC
end
section
/-- Numbers: sums with infinity, halves, what 'lower' makes of the cells; how far a loop that goes down has come -/
abbrev INF : Int64 := 9223372036854775807
def sm (x y : Int64) : Int64 := if x = INF ∨ y = INF then INF else x + y
def hf (x : Int64) : Int64 := if x = INF then INF else x >>> ((nI 1).toInt64 &&& 63)
def ng (x : Int64) : Int64 := if x = INF then INF else 0 - x
def lw (f : Nat → Int64) (i j m : Nat) : Nat → Int64 := if sm (f j) (f m) < f i then vp_updL (vp_updL f 157 (sm (f j) (f m))) i (sm (f j) (f m)) else vp_updL f 157 (sm (f j) (f m))
def dn : Nat → Int32 | 0 => -158 | j + 1 => nI (158 * j)
theorem dn_sub (j : Nat) : nI (158 * j) - nI 158 = dn j := by
  cases j with
  | zero => rfl
  | succ j => show nI (158 * (j + 1)) - nI 158 = nI (158 * j); rw [pk_sub (by omega), show 158 * (j + 1) - 158 = 158 * j by omega]
theorem if_01 (c : Prop) [Decidable c] : (if c then (1 : Int32) else 0) = 0 ∨ (if c then (1 : Int32) else 0) = 1 := by
  by_cases h : c <;> simp [h]

theorem il_keep {k q i j : Nat} {f g : Nat → Int64} {x y : Int64} (hz : k = 0 → q + 1 = 1 ∨ (q + 1 = 0 ∧ f i = g j)) (hx : x = f (158 * q + i)) (hy : y = g (158 * q + j)) (h : x = y) : k = 0 → q = 1 ∨ (q = 0 ∧ f i = g j) := by
  intro h0
  rcases hz h0 with h1 | ⟨h1, -⟩
  · have hq : q = 0 := by omega
    subst hq
    rw [hx, hy] at h
    exact Or.inr ⟨rfl, by simpa using h⟩
  · omega
theorem il_end {k i j : Nat} {f g : Nat → Int64} (hz : k = 0 → 0 = 1 ∨ (0 = 0 ∧ f i = g j)) : k = 0 → nI 0 = if f i < g j then (1 : Int32) else 0 := by
  intro h0
  rcases hz h0 with h1 | ⟨-, h1⟩
  · omega
  · rw [h1, if_neg (fun h => absurd (Int64.lt_iff_toInt_lt.mp h) (Int.lt_irrefl _))]; rfl
theorem il_1 {k q i j : Nat} {f g : Nat → Int64} {x y : Int64} (hz : k = 0 → q + 1 = 1 ∨ (q + 1 = 0 ∧ f i = g j)) (hx : x = f (158 * q + i)) (hy : y = g (158 * q + j)) (h : ¬ y ≤ x) : k = 0 → nI 1 = if f i < g j then (1 : Int32) else 0 := by
  intro h0
  rcases hz h0 with h1 | ⟨h1, -⟩
  · have hq : q = 0 := by omega
    subst hq
    rw [hx, hy] at h
    rw [if_pos (by simpa using Int64.not_le.mp h)]; rfl
  · omega
theorem il_0 {k q i j : Nat} {f g : Nat → Int64} {x y : Int64} (hz : k = 0 → q + 1 = 1 ∨ (q + 1 = 0 ∧ f i = g j)) (hx : x = f (158 * q + i)) (hy : y = g (158 * q + j)) (h : y ≤ x) : k = 0 → nI 0 = if f i < g j then (1 : Int32) else 0 := by
  intro h0
  rcases hz h0 with h1 | ⟨h1, -⟩
  · have hq : q = 0 := by omega
    subst hq
    rw [hx, hy] at h
    rw [if_neg (by simpa using Int64.not_lt.mpr h)]; rfl
  · omega

theorem ps_1 {k to i j b : Nat} {f g : Nat → Int64} (h0 : k = 0) (hg : g = f) (hb : (b = 1 ∧ (f (158 * k + i) = INF ∨ f (158 * k + j) = INF)) ∨ (b = 0 ∧ ¬ (f (158 * k + i) = INF ∨ f (158 * k + j) = INF))) (hn : ¬ nI b = 0) : vp_updL g (158 * k + to) 9223372036854775807 = vp_updL f to (sm (f i) (f j)) := by
  subst h0; subst hg
  rcases hb with ⟨-, h1⟩ | ⟨h1, -⟩
  · have h2 : g i = INF ∨ g j = INF := by simpa using h1
    rw [sm, if_pos h2, Nat.mul_zero, Nat.zero_add]
  · subst h1; exact absurd rfl hn
theorem ps_0 {k to i j b : Nat} {f g : Nat → Int64} {x v : Int64} (h0 : k = 0) (hg : g = f ∧ x = 0) (hb : (b = 1 ∧ (f (158 * k + i) = INF ∨ f (158 * k + j) = INF)) ∨ (b = 0 ∧ ¬ (f (158 * k + i) = INF ∨ f (158 * k + j) = INF))) (hn : nI b = 0) (hv : v = (g (158 * k + i) + g (158 * k + j)) + x) : vp_updL g (158 * k + to) v = vp_updL f to (sm (f i) (f j)) := by
  obtain ⟨hg, hx⟩ := hg
  subst h0; subst hg; subst hx
  rcases hb with ⟨h1, -⟩ | ⟨-, h1⟩
  · subst h1; exact absurd hn (by decide)
  · have h2 : ¬ (g i = INF ∨ g j = INF) := by simpa using h1
    rw [hv, sm, if_neg h2, Nat.mul_zero, Nat.zero_add, Nat.zero_add, Nat.zero_add, Int64.add_zero]
theorem lo_0 {k i j m : Nat} {f g : Nat → Int64} {r : Int32} (hg : k = 0 → g = vp_updL f 157 (sm (f j) (f m))) (hr : k = 0 → r = if g 157 < g i then (1 : Int32) else 0) (hi : i < 157) (h : r = 0) : k = 0 → g = lw f i j m := by
  intro h0
  have hr := hr h0
  have hg := hg h0
  subst hg
  rw [h] at hr
  have hne : i ≠ 157 := by omega
  rw [pk_uLs, pk_uLn hne] at hr
  by_cases hc : sm (f j) (f m) < f i
  · rw [if_pos hc] at hr; exact absurd hr (by decide)
  · rw [lw, if_neg hc]
theorem lo_1 {k i j m : Nat} {f g g2 : Nat → Int64} {r : Int32} (hg : k = 0 → g = vp_updL f 157 (sm (f j) (f m))) (hr : k = 0 → r = if g 157 < g i then (1 : Int32) else 0) (hi : i < 157) (h : ¬ r = 0) (hg2 : k = 0 → g2 = vp_updL g i (g 157)) : k = 0 → g2 = lw f i j m := by
  intro h0
  have hr := hr h0
  have hg2 := hg2 h0
  have hg := hg h0
  subst hg2; subst hg
  have hne : i ≠ 157 := by omega
  rw [pk_uLs, pk_uLn hne] at hr
  by_cases hc : sm (f j) (f m) < f i
  · rw [lw, if_pos hc, pk_uLs]
  · rw [if_neg hc] at hr; exact absurd hr h

theorem pi_1 {k to i : Nat} {f g g0 : Nat → Int64} {r : Int32} {w : Int64} (hr : r = if f (158 * k + i) = INF then (1 : Int32) else 0) (hc : ¬ r = 0) (hg : k = 0 → g = vp_updL g0 to INF) (hw : f i = INF → w = INF) : k = 0 → g = vp_updL g0 to w := by
  intro h0
  have hg1 := hg h0
  subst h0
  rw [Nat.mul_zero, Nat.zero_add] at hr
  by_cases h : f i = INF
  · rw [hg1, hw h]
  · rw [if_neg h] at hr; exact absurd hr hc
theorem pi_0 {k i : Nat} {f : Nat → Int64} {r : Int32} (hr : r = if f (158 * k + i) = INF then (1 : Int32) else 0) (hc : r = 0) : ¬ f (158 * k + i) = INF := by
  intro h
  rw [if_pos h, hc] at hr
  exact absurd hr (by decide)

theorem ic_1 {k q : Nat} {f : Nat → Int64} {x : Int64} {r : Int32} (hq : q < 158) (hx : x = f (158 * k + q)) (h1 : ¬ x = INF) (h2 : 18014398509481984 ≤ x ∨ ¬ -18014398509481984 ≤ x) : (k = 0 ∧ ∀ c9 < 158, f c9 = INF ∨ (-18014398509481984 ≤ f c9 ∧ f c9 < 18014398509481984)) → r = 0 := by
  rintro ⟨h0, h⟩
  subst h0
  rw [Nat.mul_zero, Nat.zero_add] at hx
  rcases h q hq with h3 | ⟨h3, h4⟩
  · rw [hx] at h1; exact absurd h3 h1
  · rw [← hx] at h3 h4
    rcases h2 with h2 | h2
    · exact absurd h4 (Int64.not_lt.mpr h2)
    · exact absurd h3 h2
abbrev rm_X0_isInfinite : Room := { frames := 0, cells := 0, slots := 0, locals := 0 }
set_option maxHeartbeats 4000000 in
set_option maxRecDepth 100000 in
theorem c_X0_isInfinite (l : Launch) (G : GG) (B : Nat) (μ : mp) (h la k : Nat) (f : Nat → Int64) (i : Nat) (hh : μ h = some (.inr (0, [.int (nI 158), .int (nI 157), .ref la, .int (nI (158 * k))]))) (ha : μ la = some (.inl (G.2 0, 158 * k + 158, .inr (.inl f)))) (hk : k ≤ 1022) (hi : i < 158) : Met l yX0_isInfinite wsX0_isInfinite rm_X0_isInfinite (va_Pc [.ref h, .int (nI i)] (KW G B μ)) (va_Qi (fun r μ2 => μ2 = μ ∧ r = if f (158 * k + i) = INF then (1 : Int32) else 0) (BB G B) (fun q => B ≤ q)) 0 0 (fun q => B ≤ q) := by
  refine Met.ofW (cc := cX0_isInfinite) (maxL := 2) (ret := (some .boolean)) (by decide) rfl ?_
  intro p e s m args below meth c s₁ B9 hml hv
  obtain ⟨hargs, hBs, hP, hKK⟩ := hv
  have hx := B9.exec
  have hb := B9.bytes
  have hr := B9.returns
  have hts := atoms_spec (ws := wsX0_isInfinite) B9.pre
  have hown : s.vm.findClass RX0 = some m.cls := findClass_of_methodNamed B9.named
  have hlocks := B9.notSynchronized
  have hK := hKK.k
  have hS : va_S (fun q => B ≤ q) s.heap s.heap [] := va_S.rf
  obtain ⟨Q, hQ⟩ : ∃ Q, Q = MQ below (va_Qi (fun r μ2 => μ2 = μ ∧ r = if f (158 * k + i) = INF then (1 : Int32) else 0) (BB G B) (fun q => B ≤ q)) args s 0 0 (fun q => B ≤ q) := ⟨_, rfl⟩
  rw [← hQ]
  have ne0_1 : h ≠ la := mp_ne hh ha (by simp)
  have in_X0_isInfinite_X0 : ∀ w ∈ wsX00, w ∈ wsX0_isInfinite := by decide +kernel
  have hl := lv_entry ([.ref h, .int (nI i)]) (n := 2) (Nat.le_of_ble_eq_true rfl)
  have he9 : entryFrame m args 2 = entryFrame m ([.ref h, .int (nI i)] : List Value).toArray 2 := by rw [hargs]
  rw [he9, lg_entry_eq]
  generalize (lg_sl ([.ref h, .int (nI i)]) ++ List.replicate (2 - (lg_sl ([.ref h, .int (nI i)])).length) Slot.unset).toArray = ls at hl ⊢
  have hl : lv_has ls 2 [(0, .ref h), (1, .int (nI i))] := hl
  refine lv_aload_n hx hb dX0_isInfinite_0 rfl (lv_at hl 0 rfl) ?_
  refine mw_get (C := RX0) (T := TX0) (N := 4) hx hb hts in_X0_isInfinite_X0 hown hK hP (hh) rfl 2 (by decide) (hts (.fieldLink RX0 18 "OctagonDesk$Numbers" "limbs" "[J") (by decide +kernel)) (fun _ h9 => h9) rfl dX0_isInfinite_1 ?_
  refine lv_aload_n hx hb dX0_isInfinite_4 rfl (lv_at hl 0 rfl) ?_
  refine mw_get (C := RX0) (T := TX0) (N := 4) hx hb hts in_X0_isInfinite_X0 hown hK hP (hh) rfl 3 (by decide) (hts (.fieldLink RX0 22 "OctagonDesk$Numbers" "top" "I") (by decide +kernel)) (fun _ h9 => h9) rfl dX0_isInfinite_5 ?_
  refine lv_iload_n hx hb dX0_isInfinite_8 rfl (lv_at hl 1 rfl) ?_
  refine nv_iadd hx hb dX0_isInfinite_9 ?_
  refine mw_lald hx hb hK hP 0 (ha) rfl (by omega) (by omega) dX0_isInfinite_10 ?_
  refine lv_ldc2 (v := (9223372036854775807)) hx hb hown (hts (.constantLong RX0 25 (9223372036854775807)) (by decide +kernel)) dX0_isInfinite_11 ?_
  refine nl_if_ne (tgt := 22) hx hb dX0_isInfinite_14 dX0_isInfinite_15 (by decide) (fun hc14 => ?_) (fun hc14 => ?_)
  · refine lv_iconst (v := nI 0) hx hb dX0_isInfinite_22 (by decide) ?_
    rw [hQ]
    exact W.zret (v := nI 0) (ty := .boolean) hx hb hr (by first | rfl | decide) (fun t9 ht9 hW9 => ⟨⟨nI 0, μ, rfl, (⟨rfl, by first | (rw [if_pos hc14]; rfl) | (rw [if_neg hc14]; rfl)⟩), by show mw _ _ _ _ t9.heap; rw [ht9]; exact hP⟩, hS.F ht9⟩) hS.2.2 dX0_isInfinite_23
  · refine lv_iconst (v := nI 1) hx hb dX0_isInfinite_18 (by decide) ?_
    refine lv_goto (tgt := 23) hx hb dX0_isInfinite_19 (by decide) ?_
    rw [hQ]
    exact W.zret (v := nI 1) (ty := .boolean) hx hb hr (by first | rfl | decide) (fun t9 ht9 hW9 => ⟨⟨nI 1, μ, rfl, (⟨rfl, by first | (rw [if_pos hc14]; rfl) | (rw [if_neg hc14]; rfl)⟩), by show mw _ _ _ _ t9.heap; rw [ht9]; exact hP⟩, hS.F ht9⟩) hS.2.2 dX0_isInfinite_23

abbrev rm_X0_isNegative : Room := { frames := 0, cells := 0, slots := 0, locals := 0 }
set_option maxHeartbeats 4000000 in
set_option maxRecDepth 100000 in
theorem c_X0_isNegative (l : Launch) (G : GG) (B : Nat) (μ : mp) (h la k : Nat) (f : Nat → Int64) (i : Nat) (hh : μ h = some (.inr (0, [.int (nI 158), .int (nI 157), .ref la, .int (nI (158 * k))]))) (ha : μ la = some (.inl (G.2 0, 158 * k + 158, .inr (.inl f)))) (hk : k ≤ 1022) (hi : i < 158) : Met l yX0_isNegative wsX0_isNegative rm_X0_isNegative (va_Pc [.ref h, .int (nI i)] (KW G B μ)) (va_Qi (fun r μ2 => μ2 = μ ∧ r = if f (158 * k + i) < 0 then (1 : Int32) else 0) (BB G B) (fun q => B ≤ q)) 0 0 (fun q => B ≤ q) := by
  refine Met.ofW (cc := cX0_isNegative) (maxL := 2) (ret := (some .boolean)) (by decide) rfl ?_
  intro p e s m args below meth c s₁ B9 hml hv
  obtain ⟨hargs, hBs, hP, hKK⟩ := hv
  have hx := B9.exec
  have hb := B9.bytes
  have hr := B9.returns
  have hts := atoms_spec (ws := wsX0_isNegative) B9.pre
  have hown : s.vm.findClass RX0 = some m.cls := findClass_of_methodNamed B9.named
  have hlocks := B9.notSynchronized
  have hK := hKK.k
  have hS : va_S (fun q => B ≤ q) s.heap s.heap [] := va_S.rf
  obtain ⟨Q, hQ⟩ : ∃ Q, Q = MQ below (va_Qi (fun r μ2 => μ2 = μ ∧ r = if f (158 * k + i) < 0 then (1 : Int32) else 0) (BB G B) (fun q => B ≤ q)) args s 0 0 (fun q => B ≤ q) := ⟨_, rfl⟩
  rw [← hQ]
  have ne0_1 : h ≠ la := mp_ne hh ha (by simp)
  have in_X0_isNegative_X0 : ∀ w ∈ wsX00, w ∈ wsX0_isNegative := by decide +kernel
  have hl := lv_entry ([.ref h, .int (nI i)]) (n := 2) (Nat.le_of_ble_eq_true rfl)
  have he9 : entryFrame m args 2 = entryFrame m ([.ref h, .int (nI i)] : List Value).toArray 2 := by rw [hargs]
  rw [he9, lg_entry_eq]
  generalize (lg_sl ([.ref h, .int (nI i)]) ++ List.replicate (2 - (lg_sl ([.ref h, .int (nI i)])).length) Slot.unset).toArray = ls at hl ⊢
  have hl : lv_has ls 2 [(0, .ref h), (1, .int (nI i))] := hl
  refine lv_aload_n hx hb dX0_isNegative_0 rfl (lv_at hl 0 rfl) ?_
  refine mw_get (C := RX0) (T := TX0) (N := 4) hx hb hts in_X0_isNegative_X0 hown hK hP (hh) rfl 2 (by decide) (hts (.fieldLink RX0 18 "OctagonDesk$Numbers" "limbs" "[J") (by decide +kernel)) (fun _ h9 => h9) rfl dX0_isNegative_1 ?_
  refine lv_aload_n hx hb dX0_isNegative_4 rfl (lv_at hl 0 rfl) ?_
  refine mw_get (C := RX0) (T := TX0) (N := 4) hx hb hts in_X0_isNegative_X0 hown hK hP (hh) rfl 3 (by decide) (hts (.fieldLink RX0 22 "OctagonDesk$Numbers" "top" "I") (by decide +kernel)) (fun _ h9 => h9) rfl dX0_isNegative_5 ?_
  refine lv_iload_n hx hb dX0_isNegative_8 rfl (lv_at hl 1 rfl) ?_
  refine nv_iadd hx hb dX0_isNegative_9 ?_
  refine mw_lald hx hb hK hP 0 (ha) rfl (by omega) (by omega) dX0_isNegative_10 ?_
  refine lv_lconst (v := 0) hx hb dX0_isNegative_11 (by decide) ?_
  refine nl_if_ge (tgt := 20) hx hb dX0_isNegative_12 dX0_isNegative_13 (by decide) (fun hc12 => ?_) (fun hc12 => ?_)
  · refine lv_iconst (v := nI 0) hx hb dX0_isNegative_20 (by decide) ?_
    rw [hQ]
    exact W.zret (v := nI 0) (ty := .boolean) hx hb hr (by first | rfl | decide) (fun t9 ht9 hW9 => ⟨⟨nI 0, μ, rfl, (⟨rfl, by rw [if_neg (Int64.not_lt.mpr hc12)]; rfl⟩), by show mw _ _ _ _ t9.heap; rw [ht9]; exact hP⟩, hS.F ht9⟩) hS.2.2 dX0_isNegative_21
  · refine lv_iconst (v := nI 1) hx hb dX0_isNegative_16 (by decide) ?_
    refine lv_goto (tgt := 21) hx hb dX0_isNegative_17 (by decide) ?_
    rw [hQ]
    exact W.zret (v := nI 1) (ty := .boolean) hx hb hr (by first | rfl | decide) (fun t9 ht9 hW9 => ⟨⟨nI 1, μ, rfl, (⟨rfl, by rw [if_pos (Int64.not_le.mp hc12)]; rfl⟩), by show mw _ _ _ _ t9.heap; rw [ht9]; exact hP⟩, hS.F ht9⟩) hS.2.2 dX0_isNegative_21

abbrev rm_X0_isLess : Room := { frames := 0, cells := 0, slots := 0, locals := 0 }
set_option maxHeartbeats 4000000 in
set_option maxRecDepth 100000 in
theorem c_X0_isLess (l : Launch) (G : GG) (B : Nat) (μ : mp) (h la k : Nat) (f : Nat → Int64) (h2 la2 : Nat) (g : Nat → Int64) (i j : Nat) (hh : μ h = some (.inr (0, [.int (nI 158), .int (nI 157), .ref la, .int (nI (158 * k))]))) (ha : μ la = some (.inl (G.2 0, 158 * k + 158, .inr (.inl f)))) (hh2 : μ h2 = some (.inr (0, [.int (nI 158), .int (nI 157), .ref la2, .int (nI (158 * k))]))) (ha2 : μ la2 = some (.inl (G.2 0, 158 * k + 158, .inr (.inl g)))) (hk : k ≤ 1022) (hi : i < 158) (hj : j < 158) : Met l yX0_isLess wsX0_isLess rm_X0_isLess (va_Pc [.ref h, .int (nI i), .ref h2, .int (nI j)] (KW G B μ)) (va_Qi (fun r μ2 => μ2 = μ ∧ (r = 0 ∨ r = 1) ∧ (k = 0 → r = if f i < g j then (1 : Int32) else 0)) (BB G B) (fun q => B ≤ q)) 0 0 (fun q => B ≤ q) := by
  refine Met.ofW (cc := cX0_isLess) (maxL := 9) (ret := (some .boolean)) (by decide) rfl ?_
  intro p e s m args below meth c s₁ B9 hml hv
  obtain ⟨hargs, hBs, hP, hKK⟩ := hv
  have hx := B9.exec
  have hb := B9.bytes
  have hr := B9.returns
  have hts := atoms_spec (ws := wsX0_isLess) B9.pre
  have hown : s.vm.findClass RX0 = some m.cls := findClass_of_methodNamed B9.named
  have hlocks := B9.notSynchronized
  have hK := hKK.k
  have hS : va_S (fun q => B ≤ q) s.heap s.heap [] := va_S.rf
  obtain ⟨Q, hQ⟩ : ∃ Q, Q = MQ below (va_Qi (fun r μ2 => μ2 = μ ∧ (r = 0 ∨ r = 1) ∧ (k = 0 → r = if f i < g j then (1 : Int32) else 0)) (BB G B) (fun q => B ≤ q)) args s 0 0 (fun q => B ≤ q) := ⟨_, rfl⟩
  rw [← hQ]
  have ne0_1 : h ≠ la := mp_ne hh ha (by simp)
  have ne0_3 : h ≠ la2 := mp_ne hh ha2 (by simp)
  have ne1_2 : la ≠ h2 := mp_ne ha hh2 (by simp)
  have ne2_3 : h2 ≠ la2 := mp_ne hh2 ha2 (by simp)
  have in_X0_isLess_X0 : ∀ w ∈ wsX00, w ∈ wsX0_isLess := by decide +kernel
  have L6 : ∀ (N9 : Nat) (a : Int32) (q : Nat) (hN9 : q < N9) (ha4 : a = dn q) (hq : q ≤ k + 1) (hz : k = 0 → q = 1 ∨ (q = 0 ∧ f i = g j)), ∀ (H : Heap) (locs : List Loc), mw G.1 vwCl B (μ) H → va_S (fun q => B ≤ q) s.heap H locs → ∀ ls : Array Slot, lv_has ls 9 [(0, .ref h), (1, .int (nI i)), (2, .ref h2), (3, .int (nI j)), (4, .int a)] → W p l e rm_X0_isLess s m args below meth c H locs 0 0 Q (F0 m 6 ls []) := by
    intro N9
    induction N9 with
    | zero => intro a q hN9; exact absurd hN9 (Nat.not_lt_zero _)
    | succ N9 ih =>
      intro a q hN9 ha4 hq hz H locs hP hS ls hl
      rcases q with _ | q
      · have ha4 : a = -158 := ha4
        subst ha4
        refine lv_iload hx hb dX0_isLess_6 (lv_at hl 4 rfl) ?_
        refine lv_if_lt (tgt := 67) hx hb dX0_isLess_8 (by decide) (fun hc8 => ?_) (fun hc8 => ?_)
        · refine lv_iconst (v := nI 0) hx hb dX0_isLess_67 (by decide) ?_
          rw [hQ]
          exact W.zret (v := nI 0) (ty := .boolean) hx hb hr (by first | rfl | decide) (fun t9 ht9 hW9 => ⟨⟨nI 0, μ, rfl, (⟨rfl, Or.inl rfl, il_end hz⟩), by show mw _ _ _ _ t9.heap; rw [ht9]; exact hP⟩, hS.F ht9⟩) hS.2.2 dX0_isLess_68
        · exact absurd (by decide : (-158 : Int32) < 0) hc8
      · have ha4 : a = nI (158 * q) := ha4
        subst ha4
        refine lv_iload hx hb dX0_isLess_6 (lv_at hl 4 rfl) ?_
        refine lv_if_lt (tgt := 67) hx hb dX0_isLess_8 (by decide) (fun hc8 => ?_) (fun hc8 => ?_)
        · exact absurd hc8 (nI_pos (by omega))
        · refine lv_aload_n hx hb dX0_isLess_11 rfl (lv_at hl 0 rfl) ?_
          refine mw_get (C := RX0) (T := TX0) (N := 4) hx hb hts in_X0_isLess_X0 hown hK hP (hh) rfl 2 (by decide) (hts (.fieldLink RX0 18 "OctagonDesk$Numbers" "limbs" "[J") (by decide +kernel)) (fun _ h9 => h9) rfl dX0_isLess_12 ?_
          refine lv_iload hx hb dX0_isLess_15 (lv_at hl 4 rfl) ?_
          refine lv_iload_n hx hb dX0_isLess_17 rfl (lv_at hl 1 rfl) ?_
          refine nv_iadd hx hb dX0_isLess_18 ?_
          refine mw_lald hx hb hK hP 0 (ha) rfl (by omega) (by omega) dX0_isLess_19 ?_
          refine lv_topl (fun v20 ev20 => ?_)
          refine lv_lstore (lv' := [(5, .long v20), (0, .ref h), (1, .int (nI i)), (2, .ref h2), (3, .int (nI j)), (4, .int (nI (158 * q)))]) hx hb dX0_isLess_20 hl (by decide) rfl (fun ls hl => ?_)
          refine lv_aload_n hx hb dX0_isLess_22 rfl (lv_at hl 3 rfl) ?_
          refine mw_get (C := RX0) (T := TX0) (N := 4) hx hb hts in_X0_isLess_X0 hown hK hP (hh2) rfl 2 (by decide) (hts (.fieldLink RX0 18 "OctagonDesk$Numbers" "limbs" "[J") (by decide +kernel)) (fun _ h9 => h9) rfl dX0_isLess_23 ?_
          refine lv_iload hx hb dX0_isLess_26 (lv_at hl 5 rfl) ?_
          refine lv_iload_n hx hb dX0_isLess_28 rfl (lv_at hl 4 rfl) ?_
          refine nv_iadd hx hb dX0_isLess_29 ?_
          refine mw_lald hx hb hK hP 0 (ha2) rfl (by omega) (by omega) dX0_isLess_30 ?_
          refine lv_topl (fun v31 ev31 => ?_)
          refine lv_lstore (lv' := [(7, .long v31), (5, .long v20), (0, .ref h), (1, .int (nI i)), (2, .ref h2), (3, .int (nI j)), (4, .int (nI (158 * q)))]) hx hb dX0_isLess_31 hl (by decide) rfl (fun ls hl => ?_)
          refine lv_lload hx hb dX0_isLess_33 (lv_at hl 1 rfl) ?_
          refine lv_lload hx hb dX0_isLess_35 (lv_at hl 0 rfl) ?_
          refine nl_if_eq (tgt := 55) hx hb dX0_isLess_37 dX0_isLess_38 (by decide) (fun hc37 => ?_) (fun hc37 => ?_)
          · refine lv_iload hx hb dX0_isLess_55 (lv_at hl 6 rfl) ?_
            refine lv_aload_n hx hb dX0_isLess_57 rfl (lv_at hl 2 rfl) ?_
            refine mw_get (C := RX0) (T := TX0) (N := 4) hx hb hts in_X0_isLess_X0 hown hK hP (hh) rfl 0 (by decide) (hts (.fieldLink RX0 15 "OctagonDesk$Numbers" "cells" "I") (by decide +kernel)) (fun _ h9 => h9) rfl dX0_isLess_58 ?_
            refine lv_isub hx hb dX0_isLess_61 ?_
            refine lv_topi (fun v62 ev62 => ?_)
            refine lv_istore (lv' := [(4, .int v62), (7, .long v31), (5, .long v20), (0, .ref h), (1, .int (nI i)), (2, .ref h2), (3, .int (nI j))]) hx hb dX0_isLess_62 hl (by decide) rfl (fun ls hl => ?_)
            refine lv_goto (tgt := 6) hx hb dX0_isLess_64 (by decide) ?_
            exact ih v62 q (by omega) (by rw [ev62]; exact dn_sub q) (by omega) (il_keep hz ev20 ev31 hc37) _ _ hP hS ls (lv_sub hl [3, 4, 5, 6, 0] rfl)
          · refine lv_lload hx hb dX0_isLess_41 (lv_at hl 1 rfl) ?_
            refine lv_lload hx hb dX0_isLess_43 (lv_at hl 0 rfl) ?_
            refine nl_if_ge (tgt := 53) hx hb dX0_isLess_45 dX0_isLess_46 (by decide) (fun hc45 => ?_) (fun hc45 => ?_)
            · refine lv_iconst (v := nI 0) hx hb dX0_isLess_53 (by decide) ?_
              rw [hQ]
              exact W.zret (v := nI 0) (ty := .boolean) hx hb hr (by first | rfl | decide) (fun t9 ht9 hW9 => ⟨⟨nI 0, μ, rfl, (⟨rfl, Or.inl rfl, il_0 hz ev20 ev31 hc45⟩), by show mw _ _ _ _ t9.heap; rw [ht9]; exact hP⟩, hS.F ht9⟩) hS.2.2 dX0_isLess_54
            · refine lv_iconst (v := nI 1) hx hb dX0_isLess_49 (by decide) ?_
              refine lv_goto (tgt := 54) hx hb dX0_isLess_50 (by decide) ?_
              rw [hQ]
              exact W.zret (v := nI 1) (ty := .boolean) hx hb hr (by first | rfl | decide) (fun t9 ht9 hW9 => ⟨⟨nI 1, μ, rfl, (⟨rfl, Or.inr rfl, il_1 hz ev20 ev31 hc45⟩), by show mw _ _ _ _ t9.heap; rw [ht9]; exact hP⟩, hS.F ht9⟩) hS.2.2 dX0_isLess_54
  have hl := lv_entry ([.ref h, .int (nI i), .ref h2, .int (nI j)]) (n := 9) (Nat.le_of_ble_eq_true rfl)
  have he9 : entryFrame m args 9 = entryFrame m ([.ref h, .int (nI i), .ref h2, .int (nI j)] : List Value).toArray 9 := by rw [hargs]
  rw [he9, lg_entry_eq]
  generalize (lg_sl ([.ref h, .int (nI i), .ref h2, .int (nI j)]) ++ List.replicate (9 - (lg_sl ([.ref h, .int (nI i), .ref h2, .int (nI j)])).length) Slot.unset).toArray = ls at hl ⊢
  have hl : lv_has ls 9 [(0, .ref h), (1, .int (nI i)), (2, .ref h2), (3, .int (nI j))] := hl
  refine lv_aload_n hx hb dX0_isLess_0 rfl (lv_at hl 0 rfl) ?_
  refine mw_get (C := RX0) (T := TX0) (N := 4) hx hb hts in_X0_isLess_X0 hown hK hP (hh) rfl 3 (by decide) (hts (.fieldLink RX0 22 "OctagonDesk$Numbers" "top" "I") (by decide +kernel)) (fun _ h9 => h9) rfl dX0_isLess_1 ?_
  refine lv_istore (lv' := [(4, .int (nI (158 * k))), (0, .ref h), (1, .int (nI i)), (2, .ref h2), (3, .int (nI j))]) hx hb dX0_isLess_4 hl (by decide) rfl (fun ls hl => ?_)
  exact L6 _ (nI (158 * k)) (k + 1) (Nat.lt_succ_self _) (rfl) (by omega) (fun h0 => Or.inl (by omega)) _ _ hP hS ls (lv_sub hl [1, 2, 3, 4, 0] rfl)

abbrev rm_X0_set : Room := { frames := 0, cells := 0, slots := 0, locals := 0 }
set_option maxHeartbeats 4000000 in
set_option maxRecDepth 100000 in
theorem c_X0_set (l : Launch) (G : GG) (B : Nat) (μ : mp) (h la k : Nat) (f : Nat → Int64) (i : Nat) (v : Int64) (hh : μ h = some (.inr (0, [.int (nI 158), .int (nI 157), .ref la, .int (nI (158 * k))]))) (ha : μ la = some (.inl (G.2 0, 158 * k + 158, .inr (.inl f)))) (hk : k ≤ 1022) (hi : i < 158) : Met l yX0_set wsX0_set rm_X0_set (va_Pc [.ref h, .int (nI i), .long v] (KW G B μ)) (va_Qv (fun μ2 => ∃ g9 : Nat → Int64, μ2 = mu μ la (.inl (G.2 0, 158 * k + 158, .inr (.inl g9))) ∧ (k = 0 → g9 = vp_updL f i v)) (BB G B) (fun q => B ≤ q)) 0 0 (fun q => B ≤ q) := by
  refine Met.ofW (cc := cX0_set) (maxL := 7) (ret := none) (by decide) rfl ?_
  intro p e s m args below meth c s₁ B9 hml hv
  obtain ⟨hargs, hBs, hP, hKK⟩ := hv
  have hx := B9.exec
  have hb := B9.bytes
  have hr := B9.returns
  have hts := atoms_spec (ws := wsX0_set) B9.pre
  have hown : s.vm.findClass RX0 = some m.cls := findClass_of_methodNamed B9.named
  have hlocks := B9.notSynchronized
  have hK := hKK.k
  have hS : va_S (fun q => B ≤ q) s.heap s.heap [] := va_S.rf
  obtain ⟨Q, hQ⟩ : ∃ Q, Q = MQ below (va_Qv (fun μ2 => ∃ g9 : Nat → Int64, μ2 = mu μ la (.inl (G.2 0, 158 * k + 158, .inr (.inl g9))) ∧ (k = 0 → g9 = vp_updL f i v)) (BB G B) (fun q => B ≤ q)) args s 0 0 (fun q => B ≤ q) := ⟨_, rfl⟩
  rw [← hQ]
  have ne0_1 : h ≠ la := mp_ne hh ha (by simp)
  have in_X0_set_X0 : ∀ w ∈ wsX00, w ∈ wsX0_set := by decide +kernel
  have hP : mw G.1 vwCl B (mu μ la (.inl (G.2 0, 158 * k + 158, .inr (.inl f)))) s.heap := mw_eq (mu_i ha).symm hP
  have L6 : ∀ (N9 : Nat) (a : Nat) (q : Nat) (x : Int64) (g : Nat → Int64) (hN9 : k - q < N9) (ha4 : a = 158 * q) (hq : q ≤ k) (hz : k = 0 → g = f ∧ x = v), ∀ (H : Heap) (locs : List Loc), mw G.1 vwCl B (mu μ la (.inl (G.2 0, 158 * k + 158, .inr (.inl g)))) H → va_S (fun q => B ≤ q) s.heap H locs → ∀ ls : Array Slot, lv_has ls 7 [(0, .ref h), (1, .int (nI i)), (4, .long x), (6, .int (nI a))] → W p l e rm_X0_set s m args below meth c H locs 0 0 Q (F0 m 6 ls []) := by
    intro N9
    induction N9 with
    | zero => intro a q x g hN9; exact absurd hN9 (Nat.not_lt_zero _)
    | succ N9 ih =>
      intro a q x g hN9 ha4 hq hz H locs hP hS ls hl
      refine lv_iload hx hb dX0_set_6 (lv_at hl 3 rfl) ?_
      refine lv_aload_n hx hb dX0_set_8 rfl (lv_at hl 0 rfl) ?_
      refine mw_get (C := RX0) (T := TX0) (N := 4) hx hb hts in_X0_set_X0 hown hK hP ((mu_n ne0_1).trans (hh)) rfl 3 (by decide) (hts (.fieldLink RX0 22 "OctagonDesk$Numbers" "top" "I") (by decide +kernel)) (fun _ h9 => h9) rfl dX0_set_9 ?_
      refine nv_icmp_ge (tgt := 49) hx hb (by omega) (by omega) dX0_set_12 (by decide) (fun hc12 => ?_) (fun hc12 => ?_)
      · refine lv_aload_n hx hb dX0_set_49 rfl (lv_at hl 0 rfl) ?_
        refine mw_get (C := RX0) (T := TX0) (N := 4) hx hb hts in_X0_set_X0 hown hK hP ((mu_n ne0_1).trans (hh)) rfl 2 (by decide) (hts (.fieldLink RX0 18 "OctagonDesk$Numbers" "limbs" "[J") (by decide +kernel)) (fun _ h9 => h9) rfl dX0_set_50 ?_
        refine lv_aload_n hx hb dX0_set_53 rfl (lv_at hl 0 rfl) ?_
        refine mw_get (C := RX0) (T := TX0) (N := 4) hx hb hts in_X0_set_X0 hown hK hP ((mu_n ne0_1).trans (hh)) rfl 3 (by decide) (hts (.fieldLink RX0 22 "OctagonDesk$Numbers" "top" "I") (by decide +kernel)) (fun _ h9 => h9) rfl dX0_set_54 ?_
        refine lv_iload_n hx hb dX0_set_57 rfl (lv_at hl 1 rfl) ?_
        refine nv_iadd hx hb dX0_set_58 ?_
        refine lv_lload hx hb dX0_set_59 (lv_at hl 2 rfl) ?_
        refine mw_last hx hb hK hP hS 0 (mu_s _ _ _) rfl (by omega) (by omega) dX0_set_61 (fun H locs hP hS => ?_)
        have hP : mw G.1 vwCl B (mu μ la (.inl (G.2 0, 158 * k + 158, .inr (.inl (vp_updL g ((158 * k) + i) x))))) _ := mw_eq (mu_u _ _ _ _) hP
        rw [hQ]
        exact W.vret hx hb hr (fun t9 ht9 hW9 => ⟨⟨mu μ la (.inl (G.2 0, 158 * k + 158, .inr (.inl (vp_updL g ((158 * k) + i) x)))), rfl, (⟨_, rfl, fun h0 => by obtain ⟨h1, h2⟩ := hz h0; rw [h1, h2, h0, Nat.mul_zero, Nat.zero_add]⟩), by show mw _ _ _ _ t9.heap; rw [ht9]; exact hP⟩, hS.F ht9⟩) hS.2.2 dX0_set_62
      · refine lv_aload_n hx hb dX0_set_15 rfl (lv_at hl 0 rfl) ?_
        refine mw_get (C := RX0) (T := TX0) (N := 4) hx hb hts in_X0_set_X0 hown hK hP ((mu_n ne0_1).trans (hh)) rfl 2 (by decide) (hts (.fieldLink RX0 18 "OctagonDesk$Numbers" "limbs" "[J") (by decide +kernel)) (fun _ h9 => h9) rfl dX0_set_16 ?_
        refine lv_iload hx hb dX0_set_19 (lv_at hl 3 rfl) ?_
        refine lv_iload_n hx hb dX0_set_21 rfl (lv_at hl 1 rfl) ?_
        refine nv_iadd hx hb dX0_set_22 ?_
        refine lv_lload hx hb dX0_set_23 (lv_at hl 2 rfl) ?_
        refine lv_ldc2 (v := (1152921504606846975)) hx hb hown (hts (.constantLong RX0 39 (1152921504606846975)) (by decide +kernel)) dX0_set_25 ?_
        refine lv_land hx hb dX0_set_28 ?_
        refine lv_topl (fun v29 ev29 => ?_)
        refine mw_last hx hb hK hP hS 0 (mu_s _ _ _) rfl (by omega) (by omega) dX0_set_29 (fun H locs hP hS => ?_)
        have hP : mw G.1 vwCl B (mu μ la (.inl (G.2 0, 158 * k + 158, .inr (.inl (vp_updL g (a + i) v29))))) _ := mw_eq (mu_u _ _ _ _) hP
        refine lv_lload hx hb dX0_set_30 (lv_at hl 2 rfl) ?_
        refine lv_bipush (v := nI 60) hx hb dX0_set_32 (by decide) ?_
        refine lv_lshr (v := x >>> ((nI 60).toInt64 &&& 63)) hx hb dX0_set_34 rfl ?_
        refine lv_topl (fun v35 ev35 => ?_)
        refine lv_lstore (lv' := [(4, .long v35), (0, .ref h), (1, .int (nI i)), (6, .int (nI a))]) hx hb dX0_set_35 hl (by decide) rfl (fun ls hl => ?_)
        refine lv_iload hx hb dX0_set_37 (lv_at hl 3 rfl) ?_
        refine lv_aload_n hx hb dX0_set_39 rfl (lv_at hl 1 rfl) ?_
        refine mw_get (C := RX0) (T := TX0) (N := 4) hx hb hts in_X0_set_X0 hown hK hP ((mu_n ne0_1).trans (hh)) rfl 0 (by decide) (hts (.fieldLink RX0 15 "OctagonDesk$Numbers" "cells" "I") (by decide +kernel)) (fun _ h9 => h9) rfl dX0_set_40 ?_
        refine nv_iadd hx hb dX0_set_43 ?_
        refine lv_istore (lv' := [(6, .int (nI (a + 158))), (4, .long v35), (0, .ref h), (1, .int (nI i))]) hx hb dX0_set_44 hl (by decide) rfl (fun ls hl => ?_)
        refine lv_goto (tgt := 6) hx hb dX0_set_46 (by decide) ?_
        exact ih (a + 158) (q + 1) v35 (vp_updL g (a + i) v29) (by omega) (by omega) (by omega) (fun h0 => absurd h0 (by omega)) _ _ hP hS ls (lv_sub hl [2, 3, 1, 0] rfl)
  have hl := lv_entry ([.ref h, .int (nI i), .long v]) (n := 7) (Nat.le_of_ble_eq_true rfl)
  have he9 : entryFrame m args 7 = entryFrame m ([.ref h, .int (nI i), .long v] : List Value).toArray 7 := by rw [hargs]
  rw [he9, lg_entry_eq]
  generalize (lg_sl ([.ref h, .int (nI i), .long v]) ++ List.replicate (7 - (lg_sl ([.ref h, .int (nI i), .long v])).length) Slot.unset).toArray = ls at hl ⊢
  have hl : lv_has ls 7 [(0, .ref h), (1, .int (nI i)), (2, .long v)] := hl
  refine lv_lload_n hx hb dX0_set_0 rfl (lv_at hl 2 rfl) ?_
  refine lv_lstore (lv' := [(4, .long v), (0, .ref h), (1, .int (nI i)), (2, .long v)]) hx hb dX0_set_1 hl (by decide) rfl (fun ls hl => ?_)
  refine lv_iconst (v := nI 0) hx hb dX0_set_3 (by decide) ?_
  refine lv_istore (lv' := [(6, .int (nI 0)), (4, .long v), (0, .ref h), (1, .int (nI i)), (2, .long v)]) hx hb dX0_set_4 hl (by decide) rfl (fun ls hl => ?_)
  exact L6 _ 0 0 v f (Nat.lt_succ_self _) (by omega) (by omega) (fun h0 => ⟨rfl, rfl⟩) _ _ hP hS ls (lv_sub hl [2, 3, 1, 0] rfl)

abbrev rm_X0_setInfinite : Room := { frames := 0, cells := 0, slots := 0, locals := 0 }
set_option maxHeartbeats 4000000 in
set_option maxRecDepth 100000 in
theorem c_X0_setInfinite (l : Launch) (G : GG) (B : Nat) (μ : mp) (h la k : Nat) (f : Nat → Int64) (i : Nat) (hh : μ h = some (.inr (0, [.int (nI 158), .int (nI 157), .ref la, .int (nI (158 * k))]))) (ha : μ la = some (.inl (G.2 0, 158 * k + 158, .inr (.inl f)))) (hk : k ≤ 1022) (hi : i < 158) : Met l yX0_setInfinite wsX0_setInfinite rm_X0_setInfinite (va_Pc [.ref h, .int (nI i)] (KW G B μ)) (va_Qv (fun μ2 => ∃ g9 : Nat → Int64, μ2 = mu μ la (.inl (G.2 0, 158 * k + 158, .inr (.inl g9))) ∧ (k = 0 → g9 = vp_updL f i INF)) (BB G B) (fun q => B ≤ q)) 0 0 (fun q => B ≤ q) := by
  refine Met.ofW (cc := cX0_setInfinite) (maxL := 3) (ret := none) (by decide) rfl ?_
  intro p e s m args below meth c s₁ B9 hml hv
  obtain ⟨hargs, hBs, hP, hKK⟩ := hv
  have hx := B9.exec
  have hb := B9.bytes
  have hr := B9.returns
  have hts := atoms_spec (ws := wsX0_setInfinite) B9.pre
  have hown : s.vm.findClass RX0 = some m.cls := findClass_of_methodNamed B9.named
  have hlocks := B9.notSynchronized
  have hK := hKK.k
  have hS : va_S (fun q => B ≤ q) s.heap s.heap [] := va_S.rf
  obtain ⟨Q, hQ⟩ : ∃ Q, Q = MQ below (va_Qv (fun μ2 => ∃ g9 : Nat → Int64, μ2 = mu μ la (.inl (G.2 0, 158 * k + 158, .inr (.inl g9))) ∧ (k = 0 → g9 = vp_updL f i INF)) (BB G B) (fun q => B ≤ q)) args s 0 0 (fun q => B ≤ q) := ⟨_, rfl⟩
  rw [← hQ]
  have ne0_1 : h ≠ la := mp_ne hh ha (by simp)
  have in_X0_setInfinite_X0 : ∀ w ∈ wsX00, w ∈ wsX0_setInfinite := by decide +kernel
  have hP : mw G.1 vwCl B (mu μ la (.inl (G.2 0, 158 * k + 158, .inr (.inl f)))) s.heap := mw_eq (mu_i ha).symm hP
  have L2 : ∀ (N9 : Nat) (a : Nat) (q : Nat) (g : Nat → Int64) (hN9 : k - q < N9) (ha4 : a = 158 * q) (hq : q ≤ k) (hz : k = 0 → g = f), ∀ (H : Heap) (locs : List Loc), mw G.1 vwCl B (mu μ la (.inl (G.2 0, 158 * k + 158, .inr (.inl g)))) H → va_S (fun q => B ≤ q) s.heap H locs → ∀ ls : Array Slot, lv_has ls 3 [(0, .ref h), (1, .int (nI i)), (2, .int (nI a))] → W p l e rm_X0_setInfinite s m args below meth c H locs 0 0 Q (F0 m 2 ls []) := by
    intro N9
    induction N9 with
    | zero => intro a q g hN9; exact absurd hN9 (Nat.not_lt_zero _)
    | succ N9 ih =>
      intro a q g hN9 ha4 hq hz H locs hP hS ls hl
      refine lv_iload_n hx hb dX0_setInfinite_2 rfl (lv_at hl 2 rfl) ?_
      refine lv_aload_n hx hb dX0_setInfinite_3 rfl (lv_at hl 0 rfl) ?_
      refine mw_get (C := RX0) (T := TX0) (N := 4) hx hb hts in_X0_setInfinite_X0 hown hK hP ((mu_n ne0_1).trans (hh)) rfl 3 (by decide) (hts (.fieldLink RX0 22 "OctagonDesk$Numbers" "top" "I") (by decide +kernel)) (fun _ h9 => h9) rfl dX0_setInfinite_4 ?_
      refine nv_icmp_ge (tgt := 29) hx hb (by omega) (by omega) dX0_setInfinite_7 (by decide) (fun hc7 => ?_) (fun hc7 => ?_)
      · refine lv_aload_n hx hb dX0_setInfinite_29 rfl (lv_at hl 0 rfl) ?_
        refine mw_get (C := RX0) (T := TX0) (N := 4) hx hb hts in_X0_setInfinite_X0 hown hK hP ((mu_n ne0_1).trans (hh)) rfl 2 (by decide) (hts (.fieldLink RX0 18 "OctagonDesk$Numbers" "limbs" "[J") (by decide +kernel)) (fun _ h9 => h9) rfl dX0_setInfinite_30 ?_
        refine lv_aload_n hx hb dX0_setInfinite_33 rfl (lv_at hl 0 rfl) ?_
        refine mw_get (C := RX0) (T := TX0) (N := 4) hx hb hts in_X0_setInfinite_X0 hown hK hP ((mu_n ne0_1).trans (hh)) rfl 3 (by decide) (hts (.fieldLink RX0 22 "OctagonDesk$Numbers" "top" "I") (by decide +kernel)) (fun _ h9 => h9) rfl dX0_setInfinite_34 ?_
        refine lv_iload_n hx hb dX0_setInfinite_37 rfl (lv_at hl 1 rfl) ?_
        refine nv_iadd hx hb dX0_setInfinite_38 ?_
        refine lv_ldc2 (v := (9223372036854775807)) hx hb hown (hts (.constantLong RX0 25 (9223372036854775807)) (by decide +kernel)) dX0_setInfinite_39 ?_
        refine mw_last hx hb hK hP hS 0 (mu_s _ _ _) rfl (by omega) (by omega) dX0_setInfinite_42 (fun H locs hP hS => ?_)
        have hP : mw G.1 vwCl B (mu μ la (.inl (G.2 0, 158 * k + 158, .inr (.inl (vp_updL g ((158 * k) + i) 9223372036854775807))))) _ := mw_eq (mu_u _ _ _ _) hP
        rw [hQ]
        exact W.vret hx hb hr (fun t9 ht9 hW9 => ⟨⟨mu μ la (.inl (G.2 0, 158 * k + 158, .inr (.inl (vp_updL g ((158 * k) + i) 9223372036854775807)))), rfl, (⟨_, rfl, fun h0 => by rw [hz h0, h0, Nat.mul_zero, Nat.zero_add]⟩), by show mw _ _ _ _ t9.heap; rw [ht9]; exact hP⟩, hS.F ht9⟩) hS.2.2 dX0_setInfinite_43
      · refine lv_aload_n hx hb dX0_setInfinite_10 rfl (lv_at hl 0 rfl) ?_
        refine mw_get (C := RX0) (T := TX0) (N := 4) hx hb hts in_X0_setInfinite_X0 hown hK hP ((mu_n ne0_1).trans (hh)) rfl 2 (by decide) (hts (.fieldLink RX0 18 "OctagonDesk$Numbers" "limbs" "[J") (by decide +kernel)) (fun _ h9 => h9) rfl dX0_setInfinite_11 ?_
        refine lv_iload_n hx hb dX0_setInfinite_14 rfl (lv_at hl 2 rfl) ?_
        refine lv_iload_n hx hb dX0_setInfinite_15 rfl (lv_at hl 1 rfl) ?_
        refine nv_iadd hx hb dX0_setInfinite_16 ?_
        refine lv_lconst (v := 0) hx hb dX0_setInfinite_17 (by decide) ?_
        refine mw_last hx hb hK hP hS 0 (mu_s _ _ _) rfl (by omega) (by omega) dX0_setInfinite_18 (fun H locs hP hS => ?_)
        have hP : mw G.1 vwCl B (mu μ la (.inl (G.2 0, 158 * k + 158, .inr (.inl (vp_updL g (a + i) 0))))) _ := mw_eq (mu_u _ _ _ _) hP
        refine lv_iload_n hx hb dX0_setInfinite_19 rfl (lv_at hl 2 rfl) ?_
        refine lv_aload_n hx hb dX0_setInfinite_20 rfl (lv_at hl 0 rfl) ?_
        refine mw_get (C := RX0) (T := TX0) (N := 4) hx hb hts in_X0_setInfinite_X0 hown hK hP ((mu_n ne0_1).trans (hh)) rfl 0 (by decide) (hts (.fieldLink RX0 15 "OctagonDesk$Numbers" "cells" "I") (by decide +kernel)) (fun _ h9 => h9) rfl dX0_setInfinite_21 ?_
        refine nv_iadd hx hb dX0_setInfinite_24 ?_
        refine lv_istore_n (lv' := [(2, .int (nI (a + 158))), (0, .ref h), (1, .int (nI i))]) hx hb dX0_setInfinite_25 rfl hl (by decide) rfl (fun ls hl => ?_)
        refine lv_goto (tgt := 2) hx hb dX0_setInfinite_26 (by decide) ?_
        exact ih (a + 158) (q + 1) (vp_updL g (a + i) 0) (by omega) (by omega) (by omega) (fun h0 => absurd h0 (by omega)) _ _ hP hS ls (lv_sub hl [1, 2, 0] rfl)
  have hl := lv_entry ([.ref h, .int (nI i)]) (n := 3) (Nat.le_of_ble_eq_true rfl)
  have he9 : entryFrame m args 3 = entryFrame m ([.ref h, .int (nI i)] : List Value).toArray 3 := by rw [hargs]
  rw [he9, lg_entry_eq]
  generalize (lg_sl ([.ref h, .int (nI i)]) ++ List.replicate (3 - (lg_sl ([.ref h, .int (nI i)])).length) Slot.unset).toArray = ls at hl ⊢
  have hl : lv_has ls 3 [(0, .ref h), (1, .int (nI i))] := hl
  refine lv_iconst (v := nI 0) hx hb dX0_setInfinite_0 (by decide) ?_
  refine lv_istore_n (lv' := [(2, .int (nI 0)), (0, .ref h), (1, .int (nI i))]) hx hb dX0_setInfinite_1 rfl hl (by decide) rfl (fun ls hl => ?_)
  exact L2 _ 0 0 f (Nat.lt_succ_self _) (by omega) (by omega) (fun h0 => rfl) _ _ hP hS ls (lv_sub hl [1, 2, 0] rfl)

abbrev rm_X0_put : Room := { frames := 0, cells := 0, slots := 0, locals := 0 }
set_option maxHeartbeats 4000000 in
set_option maxRecDepth 100000 in
theorem c_X0_put_s (l : Launch) (G : GG) (B : Nat) (μ : mp) (h la k : Nat) (f : Nat → Int64) (to i : Nat) (hh : μ h = some (.inr (0, [.int (nI 158), .int (nI 157), .ref la, .int (nI (158 * k))]))) (ha : μ la = some (.inl (G.2 0, 158 * k + 158, .inr (.inl f)))) (hk : k ≤ 1022) (ht : to < 158) (hi : i < 158) : Met l yX0_put wsX0_put rm_X0_put (va_Pc [.ref h, .int (nI to), .ref h, .int (nI i)] (KW G B μ)) (va_Qv (fun μ2 => ∃ g9 : Nat → Int64, μ2 = mu μ la (.inl (G.2 0, 158 * k + 158, .inr (.inl g9))) ∧ (k = 0 → g9 = vp_updL f to (f i))) (BB G B) (fun q => B ≤ q)) 0 0 (fun q => B ≤ q) := by
  refine Met.ofW (cc := cX0_put) (maxL := 5) (ret := none) (by decide) rfl ?_
  intro p e s m args below meth c s₁ B9 hml hv
  obtain ⟨hargs, hBs, hP, hKK⟩ := hv
  have hx := B9.exec
  have hb := B9.bytes
  have hr := B9.returns
  have hts := atoms_spec (ws := wsX0_put) B9.pre
  have hown : s.vm.findClass RX0 = some m.cls := findClass_of_methodNamed B9.named
  have hlocks := B9.notSynchronized
  have hK := hKK.k
  have hS : va_S (fun q => B ≤ q) s.heap s.heap [] := va_S.rf
  obtain ⟨Q, hQ⟩ : ∃ Q, Q = MQ below (va_Qv (fun μ2 => ∃ g9 : Nat → Int64, μ2 = mu μ la (.inl (G.2 0, 158 * k + 158, .inr (.inl g9))) ∧ (k = 0 → g9 = vp_updL f to (f i))) (BB G B) (fun q => B ≤ q)) args s 0 0 (fun q => B ≤ q) := ⟨_, rfl⟩
  rw [← hQ]
  have ne0_1 : h ≠ la := mp_ne hh ha (by simp)
  have in_X0_put_X0 : ∀ w ∈ wsX00, w ∈ wsX0_put := by decide +kernel
  have hP : mw G.1 vwCl B (mu μ la (.inl (G.2 0, 158 * k + 158, .inr (.inl f)))) s.heap := mw_eq (mu_i ha).symm hP
  have L3 : ∀ (N9 : Nat) (a : Nat) (q : Nat) (g1 : Nat → Int64) (hN9 : k + 1 - q < N9) (ha4 : a = 158 * q) (hq : q ≤ k + 1) (hz : k = 0 → (q = 0 ∧ g1 = f) ∨ (q = 1 ∧ g1 = vp_updL f to (f i))), ∀ (H : Heap) (locs : List Loc), mw G.1 vwCl B (mu μ la (.inl (G.2 0, 158 * k + 158, .inr (.inl g1)))) H → va_S (fun q => B ≤ q) s.heap H locs → ∀ ls : Array Slot, lv_has ls 5 [(0, .ref h), (1, .int (nI to)), (2, .ref h), (3, .int (nI i)), (4, .int (nI a))] → W p l e rm_X0_put s m args below meth c H locs 0 0 Q (F0 m 3 ls []) := by
    intro N9
    induction N9 with
    | zero => intro a q g1 hN9; exact absurd hN9 (Nat.not_lt_zero _)
    | succ N9 ih =>
      intro a q g1 hN9 ha4 hq hz H locs hP hS ls hl
      refine lv_iload hx hb dX0_put_3 (lv_at hl 4 rfl) ?_
      refine lv_aload_n hx hb dX0_put_5 rfl (lv_at hl 0 rfl) ?_
      refine mw_get (C := RX0) (T := TX0) (N := 4) hx hb hts in_X0_put_X0 hown hK hP ((mu_n ne0_1).trans (hh)) rfl 3 (by decide) (hts (.fieldLink RX0 22 "OctagonDesk$Numbers" "top" "I") (by decide +kernel)) (fun _ h9 => h9) rfl dX0_put_6 ?_
      refine nv_icmp_gt (tgt := 42) hx hb (by omega) (by omega) dX0_put_9 (by decide) (fun hc9 => ?_) (fun hc9 => ?_)
      · rw [hQ]
        exact W.vret hx hb hr (fun t9 ht9 hW9 => ⟨⟨mu μ la (.inl (G.2 0, 158 * k + 158, .inr (.inl g1))), rfl, (⟨_, rfl, fun h0 => by rcases hz h0 with h1 | h1; exact absurd h1.1 (by omega); exact h1.2⟩), by show mw _ _ _ _ t9.heap; rw [ht9]; exact hP⟩, hS.F ht9⟩) hS.2.2 dX0_put_42
      · refine lv_aload_n hx hb dX0_put_12 rfl (lv_at hl 0 rfl) ?_
        refine mw_get (C := RX0) (T := TX0) (N := 4) hx hb hts in_X0_put_X0 hown hK hP ((mu_n ne0_1).trans (hh)) rfl 2 (by decide) (hts (.fieldLink RX0 18 "OctagonDesk$Numbers" "limbs" "[J") (by decide +kernel)) (fun _ h9 => h9) rfl dX0_put_13 ?_
        refine lv_iload hx hb dX0_put_16 (lv_at hl 4 rfl) ?_
        refine lv_iload_n hx hb dX0_put_18 rfl (lv_at hl 1 rfl) ?_
        refine nv_iadd hx hb dX0_put_19 ?_
        refine lv_aload_n hx hb dX0_put_20 rfl (lv_at hl 2 rfl) ?_
        refine mw_get (C := RX0) (T := TX0) (N := 4) hx hb hts in_X0_put_X0 hown hK hP ((mu_n ne0_1).trans (hh)) rfl 2 (by decide) (hts (.fieldLink RX0 18 "OctagonDesk$Numbers" "limbs" "[J") (by decide +kernel)) (fun _ h9 => h9) rfl dX0_put_21 ?_
        refine lv_iload hx hb dX0_put_24 (lv_at hl 4 rfl) ?_
        refine lv_iload_n hx hb dX0_put_26 rfl (lv_at hl 3 rfl) ?_
        refine nv_iadd hx hb dX0_put_27 ?_
        refine mw_lald hx hb hK hP 0 (mu_s _ _ _) rfl (by omega) (by omega) dX0_put_28 ?_
        refine lv_topl (fun v29 ev29 => ?_)
        refine mw_last hx hb hK hP hS 0 (mu_s _ _ _) rfl (by omega) (by omega) dX0_put_29 (fun H locs hP hS => ?_)
        have hP : mw G.1 vwCl B (mu μ la (.inl (G.2 0, 158 * k + 158, .inr (.inl (vp_updL g1 (a + to) v29))))) _ := mw_eq (mu_u _ _ _ _) hP
        refine lv_iload hx hb dX0_put_30 (lv_at hl 4 rfl) ?_
        refine lv_aload_n hx hb dX0_put_32 rfl (lv_at hl 0 rfl) ?_
        refine mw_get (C := RX0) (T := TX0) (N := 4) hx hb hts in_X0_put_X0 hown hK hP ((mu_n ne0_1).trans (hh)) rfl 0 (by decide) (hts (.fieldLink RX0 15 "OctagonDesk$Numbers" "cells" "I") (by decide +kernel)) (fun _ h9 => h9) rfl dX0_put_33 ?_
        refine nv_iadd hx hb dX0_put_36 ?_
        refine lv_istore (lv' := [(4, .int (nI (a + 158))), (0, .ref h), (1, .int (nI to)), (2, .ref h), (3, .int (nI i))]) hx hb dX0_put_37 hl (by decide) rfl (fun ls hl => ?_)
        refine lv_goto (tgt := 3) hx hb dX0_put_39 (by decide) ?_
        exact ih (a + 158) (q + 1) (vp_updL g1 (a + to) v29) (by omega) (by omega) (by omega) (fun h0 => Or.inr ⟨by omega, by obtain ⟨h1, h2⟩ : q = 0 ∧ g1 = f := by { rcases hz h0 with h1 | h1; exact h1; exact absurd h1.1 (by omega) }; subst h1; subst h2; subst ha4; rw [ev29]; simp⟩) _ _ hP hS ls (lv_sub hl [1, 2, 3, 4, 0] rfl)
  have hl := lv_entry ([.ref h, .int (nI to), .ref h, .int (nI i)]) (n := 5) (Nat.le_of_ble_eq_true rfl)
  have he9 : entryFrame m args 5 = entryFrame m ([.ref h, .int (nI to), .ref h, .int (nI i)] : List Value).toArray 5 := by rw [hargs]
  rw [he9, lg_entry_eq]
  generalize (lg_sl ([.ref h, .int (nI to), .ref h, .int (nI i)]) ++ List.replicate (5 - (lg_sl ([.ref h, .int (nI to), .ref h, .int (nI i)])).length) Slot.unset).toArray = ls at hl ⊢
  have hl : lv_has ls 5 [(0, .ref h), (1, .int (nI to)), (2, .ref h), (3, .int (nI i))] := hl
  refine lv_iconst (v := nI 0) hx hb dX0_put_0 (by decide) ?_
  refine lv_istore (lv' := [(4, .int (nI 0)), (0, .ref h), (1, .int (nI to)), (2, .ref h), (3, .int (nI i))]) hx hb dX0_put_1 hl (by decide) rfl (fun ls hl => ?_)
  exact L3 _ 0 0 f (Nat.lt_succ_self _) (by omega) (by omega) (fun h0 => Or.inl ⟨rfl, rfl⟩) _ _ hP hS ls (lv_sub hl [1, 2, 3, 4, 0] rfl)

set_option maxHeartbeats 4000000 in
set_option maxRecDepth 100000 in
theorem c_X0_put_t (l : Launch) (G : GG) (B : Nat) (μ : mp) (h la k : Nat) (f : Nat → Int64) (h2 la2 : Nat) (g : Nat → Int64) (to i : Nat) (hh : μ h = some (.inr (0, [.int (nI 158), .int (nI 157), .ref la, .int (nI (158 * k))]))) (ha : μ la = some (.inl (G.2 0, 158 * k + 158, .inr (.inl f)))) (hh2 : μ h2 = some (.inr (0, [.int (nI 158), .int (nI 157), .ref la2, .int (nI (158 * k))]))) (ha2 : μ la2 = some (.inl (G.2 0, 158 * k + 158, .inr (.inl g)))) (hk : k ≤ 1022) (ht : to < 158) (hi : i < 158) (hne : la ≠ la2) : Met l yX0_put wsX0_put rm_X0_put (va_Pc [.ref h, .int (nI to), .ref h2, .int (nI i)] (KW G B μ)) (va_Qv (fun μ2 => ∃ g9 : Nat → Int64, μ2 = mu μ la (.inl (G.2 0, 158 * k + 158, .inr (.inl g9))) ∧ (k = 0 → g9 = vp_updL f to (g i))) (BB G B) (fun q => B ≤ q)) 0 0 (fun q => B ≤ q) := by
  refine Met.ofW (cc := cX0_put) (maxL := 5) (ret := none) (by decide) rfl ?_
  intro p e s m args below meth c s₁ B9 hml hv
  obtain ⟨hargs, hBs, hP, hKK⟩ := hv
  have hx := B9.exec
  have hb := B9.bytes
  have hr := B9.returns
  have hts := atoms_spec (ws := wsX0_put) B9.pre
  have hown : s.vm.findClass RX0 = some m.cls := findClass_of_methodNamed B9.named
  have hlocks := B9.notSynchronized
  have hK := hKK.k
  have hS : va_S (fun q => B ≤ q) s.heap s.heap [] := va_S.rf
  obtain ⟨Q, hQ⟩ : ∃ Q, Q = MQ below (va_Qv (fun μ2 => ∃ g9 : Nat → Int64, μ2 = mu μ la (.inl (G.2 0, 158 * k + 158, .inr (.inl g9))) ∧ (k = 0 → g9 = vp_updL f to (g i))) (BB G B) (fun q => B ≤ q)) args s 0 0 (fun q => B ≤ q) := ⟨_, rfl⟩
  rw [← hQ]
  have ne0_1 : h ≠ la := mp_ne hh ha (by simp)
  have ne0_3 : h ≠ la2 := mp_ne hh ha2 (by simp)
  have ne1_2 : la ≠ h2 := mp_ne ha hh2 (by simp)
  have ne2_3 : h2 ≠ la2 := mp_ne hh2 ha2 (by simp)
  have in_X0_put_X0 : ∀ w ∈ wsX00, w ∈ wsX0_put := by decide +kernel
  have hP : mw G.1 vwCl B (mu μ la (.inl (G.2 0, 158 * k + 158, .inr (.inl f)))) s.heap := mw_eq (mu_i ha).symm hP
  have L3 : ∀ (N9 : Nat) (a : Nat) (q : Nat) (g1 : Nat → Int64) (hN9 : k + 1 - q < N9) (ha4 : a = 158 * q) (hq : q ≤ k + 1) (hz : k = 0 → (q = 0 ∧ g1 = f) ∨ (q = 1 ∧ g1 = vp_updL f to (g i))), ∀ (H : Heap) (locs : List Loc), mw G.1 vwCl B (mu μ la (.inl (G.2 0, 158 * k + 158, .inr (.inl g1)))) H → va_S (fun q => B ≤ q) s.heap H locs → ∀ ls : Array Slot, lv_has ls 5 [(0, .ref h), (1, .int (nI to)), (2, .ref h2), (3, .int (nI i)), (4, .int (nI a))] → W p l e rm_X0_put s m args below meth c H locs 0 0 Q (F0 m 3 ls []) := by
    intro N9
    induction N9 with
    | zero => intro a q g1 hN9; exact absurd hN9 (Nat.not_lt_zero _)
    | succ N9 ih =>
      intro a q g1 hN9 ha4 hq hz H locs hP hS ls hl
      refine lv_iload hx hb dX0_put_3 (lv_at hl 4 rfl) ?_
      refine lv_aload_n hx hb dX0_put_5 rfl (lv_at hl 0 rfl) ?_
      refine mw_get (C := RX0) (T := TX0) (N := 4) hx hb hts in_X0_put_X0 hown hK hP ((mu_n ne0_1).trans (hh)) rfl 3 (by decide) (hts (.fieldLink RX0 22 "OctagonDesk$Numbers" "top" "I") (by decide +kernel)) (fun _ h9 => h9) rfl dX0_put_6 ?_
      refine nv_icmp_gt (tgt := 42) hx hb (by omega) (by omega) dX0_put_9 (by decide) (fun hc9 => ?_) (fun hc9 => ?_)
      · rw [hQ]
        exact W.vret hx hb hr (fun t9 ht9 hW9 => ⟨⟨mu μ la (.inl (G.2 0, 158 * k + 158, .inr (.inl g1))), rfl, (⟨_, rfl, fun h0 => by rcases hz h0 with h1 | h1; exact absurd h1.1 (by omega); exact h1.2⟩), by show mw _ _ _ _ t9.heap; rw [ht9]; exact hP⟩, hS.F ht9⟩) hS.2.2 dX0_put_42
      · refine lv_aload_n hx hb dX0_put_12 rfl (lv_at hl 0 rfl) ?_
        refine mw_get (C := RX0) (T := TX0) (N := 4) hx hb hts in_X0_put_X0 hown hK hP ((mu_n ne0_1).trans (hh)) rfl 2 (by decide) (hts (.fieldLink RX0 18 "OctagonDesk$Numbers" "limbs" "[J") (by decide +kernel)) (fun _ h9 => h9) rfl dX0_put_13 ?_
        refine lv_iload hx hb dX0_put_16 (lv_at hl 4 rfl) ?_
        refine lv_iload_n hx hb dX0_put_18 rfl (lv_at hl 1 rfl) ?_
        refine nv_iadd hx hb dX0_put_19 ?_
        refine lv_aload_n hx hb dX0_put_20 rfl (lv_at hl 2 rfl) ?_
        refine mw_get (C := RX0) (T := TX0) (N := 4) hx hb hts in_X0_put_X0 hown hK hP ((mu_n ((Ne.symm ne1_2))).trans (hh2)) rfl 2 (by decide) (hts (.fieldLink RX0 18 "OctagonDesk$Numbers" "limbs" "[J") (by decide +kernel)) (fun _ h9 => h9) rfl dX0_put_21 ?_
        refine lv_iload hx hb dX0_put_24 (lv_at hl 4 rfl) ?_
        refine lv_iload_n hx hb dX0_put_26 rfl (lv_at hl 3 rfl) ?_
        refine nv_iadd hx hb dX0_put_27 ?_
        refine mw_lald hx hb hK hP 0 ((mu_n ((Ne.symm hne))).trans (ha2)) rfl (by omega) (by omega) dX0_put_28 ?_
        refine lv_topl (fun v29 ev29 => ?_)
        refine mw_last hx hb hK hP hS 0 (mu_s _ _ _) rfl (by omega) (by omega) dX0_put_29 (fun H locs hP hS => ?_)
        have hP : mw G.1 vwCl B (mu μ la (.inl (G.2 0, 158 * k + 158, .inr (.inl (vp_updL g1 (a + to) v29))))) _ := mw_eq (mu_u _ _ _ _) hP
        refine lv_iload hx hb dX0_put_30 (lv_at hl 4 rfl) ?_
        refine lv_aload_n hx hb dX0_put_32 rfl (lv_at hl 0 rfl) ?_
        refine mw_get (C := RX0) (T := TX0) (N := 4) hx hb hts in_X0_put_X0 hown hK hP ((mu_n ne0_1).trans (hh)) rfl 0 (by decide) (hts (.fieldLink RX0 15 "OctagonDesk$Numbers" "cells" "I") (by decide +kernel)) (fun _ h9 => h9) rfl dX0_put_33 ?_
        refine nv_iadd hx hb dX0_put_36 ?_
        refine lv_istore (lv' := [(4, .int (nI (a + 158))), (0, .ref h), (1, .int (nI to)), (2, .ref h2), (3, .int (nI i))]) hx hb dX0_put_37 hl (by decide) rfl (fun ls hl => ?_)
        refine lv_goto (tgt := 3) hx hb dX0_put_39 (by decide) ?_
        exact ih (a + 158) (q + 1) (vp_updL g1 (a + to) v29) (by omega) (by omega) (by omega) (fun h0 => Or.inr ⟨by omega, by obtain ⟨h1, h2⟩ : q = 0 ∧ g1 = f := by { rcases hz h0 with h1 | h1; exact h1; exact absurd h1.1 (by omega) }; subst h1; subst h2; subst ha4; rw [ev29]; simp⟩) _ _ hP hS ls (lv_sub hl [1, 2, 3, 4, 0] rfl)
  have hl := lv_entry ([.ref h, .int (nI to), .ref h2, .int (nI i)]) (n := 5) (Nat.le_of_ble_eq_true rfl)
  have he9 : entryFrame m args 5 = entryFrame m ([.ref h, .int (nI to), .ref h2, .int (nI i)] : List Value).toArray 5 := by rw [hargs]
  rw [he9, lg_entry_eq]
  generalize (lg_sl ([.ref h, .int (nI to), .ref h2, .int (nI i)]) ++ List.replicate (5 - (lg_sl ([.ref h, .int (nI to), .ref h2, .int (nI i)])).length) Slot.unset).toArray = ls at hl ⊢
  have hl : lv_has ls 5 [(0, .ref h), (1, .int (nI to)), (2, .ref h2), (3, .int (nI i))] := hl
  refine lv_iconst (v := nI 0) hx hb dX0_put_0 (by decide) ?_
  refine lv_istore (lv' := [(4, .int (nI 0)), (0, .ref h), (1, .int (nI to)), (2, .ref h2), (3, .int (nI i))]) hx hb dX0_put_1 hl (by decide) rfl (fun ls hl => ?_)
  exact L3 _ 0 0 f (Nat.lt_succ_self _) (by omega) (by omega) (fun h0 => Or.inl ⟨rfl, rfl⟩) _ _ hP hS ls (lv_sub hl [1, 2, 3, 4, 0] rfl)

abbrev rm_X0_putSum : Room := { frames := 0, cells := 0, slots := 0, locals := 0 }
set_option maxHeartbeats 4000000 in
set_option maxRecDepth 100000 in
theorem c_X0_putSum (l : Launch) (G : GG) (B : Nat) (μ : mp) (h la k : Nat) (f : Nat → Int64) (to i j : Nat) (hh : μ h = some (.inr (0, [.int (nI 158), .int (nI 157), .ref la, .int (nI (158 * k))]))) (ha : μ la = some (.inl (G.2 0, 158 * k + 158, .inr (.inl f)))) (hk : k ≤ 1022) (ht : to < 158) (hi : i < 158) (hj : j < 158) : Met l yX0_putSum wsX0_putSum rm_X0_putSum (va_Pc [.ref h, .int (nI to), .int (nI i), .int (nI j)] (KW G B μ)) (va_Qv (fun μ2 => ∃ g9 : Nat → Int64, μ2 = mu μ la (.inl (G.2 0, 158 * k + 158, .inr (.inl g9))) ∧ (k = 0 → g9 = vp_updL f to (sm (f i) (f j)))) (BB G B) (fun q => B ≤ q)) 0 0 (fun q => B ≤ q) := by
  refine Met.ofW (cc := cX0_putSum) (maxL := 8) (ret := none) (by decide) rfl ?_
  intro p e s m args below meth c s₁ B9 hml hv
  obtain ⟨hargs, hBs, hP, hKK⟩ := hv
  have hx := B9.exec
  have hb := B9.bytes
  have hr := B9.returns
  have hts := atoms_spec (ws := wsX0_putSum) B9.pre
  have hown : s.vm.findClass RX0 = some m.cls := findClass_of_methodNamed B9.named
  have hlocks := B9.notSynchronized
  have hK := hKK.k
  have hS : va_S (fun q => B ≤ q) s.heap s.heap [] := va_S.rf
  obtain ⟨Q, hQ⟩ : ∃ Q, Q = MQ below (va_Qv (fun μ2 => ∃ g9 : Nat → Int64, μ2 = mu μ la (.inl (G.2 0, 158 * k + 158, .inr (.inl g9))) ∧ (k = 0 → g9 = vp_updL f to (sm (f i) (f j)))) (BB G B) (fun q => B ≤ q)) args s 0 0 (fun q => B ≤ q) := ⟨_, rfl⟩
  rw [← hQ]
  have ne0_1 : h ≠ la := mp_ne hh ha (by simp)
  have in_X0_putSum_X0 : ∀ w ∈ wsX00, w ∈ wsX0_putSum := by decide +kernel
  have hP : mw G.1 vwCl B (mu μ la (.inl (G.2 0, 158 * k + 158, .inr (.inl f)))) s.heap := mw_eq (mu_i ha).symm hP
  have L49 : ∀ (N9 : Nat) (a : Nat) (q : Nat) (x : Int64) (g : Nat → Int64) (b : Nat) (hN9 : k - q < N9) (ha4 : a = 158 * q) (hq : q ≤ k) (hz : k = 0 → g = f ∧ x = 0) (hb4 : (b = 1 ∧ (f (158 * k + i) = INF ∨ f (158 * k + j) = INF)) ∨ (b = 0 ∧ ¬ (f (158 * k + i) = INF ∨ f (158 * k + j) = INF))), ∀ (H : Heap) (locs : List Loc), mw G.1 vwCl B (mu μ la (.inl (G.2 0, 158 * k + 158, .inr (.inl g)))) H → va_S (fun q => B ≤ q) s.heap H locs → ∀ ls : Array Slot, lv_has ls 8 [(0, .ref h), (1, .int (nI to)), (2, .int (nI i)), (3, .int (nI j)), (4, .int (nI b)), (5, .long x), (7, .int (nI a))] → W p l e rm_X0_putSum s m args below meth c H locs 0 0 Q (F0 m 49 ls []) := by
    intro N9
    induction N9 with
    | zero => intro a q x g b hN9; exact absurd hN9 (Nat.not_lt_zero _)
    | succ N9 ih =>
      intro a q x g b hN9 ha4 hq hz hb4 H locs hP hS ls hl
      refine lv_iload hx hb dX0_putSum_49 (lv_at hl 6 rfl) ?_
      refine lv_aload_n hx hb dX0_putSum_51 rfl (lv_at hl 0 rfl) ?_
      refine mw_get (C := RX0) (T := TX0) (N := 4) hx hb hts in_X0_putSum_X0 hown hK hP ((mu_n ne0_1).trans (hh)) rfl 3 (by decide) (hts (.fieldLink RX0 22 "OctagonDesk$Numbers" "top" "I") (by decide +kernel)) (fun _ h9 => h9) rfl dX0_putSum_52 ?_
      refine nv_icmp_ge (tgt := 125) hx hb (by omega) (by omega) dX0_putSum_55 (by decide) (fun hc55 => ?_) (fun hc55 => ?_)
      · refine lv_aload_n hx hb dX0_putSum_125 rfl (lv_at hl 0 rfl) ?_
        refine mw_get (C := RX0) (T := TX0) (N := 4) hx hb hts in_X0_putSum_X0 hown hK hP ((mu_n ne0_1).trans (hh)) rfl 2 (by decide) (hts (.fieldLink RX0 18 "OctagonDesk$Numbers" "limbs" "[J") (by decide +kernel)) (fun _ h9 => h9) rfl dX0_putSum_126 ?_
        refine lv_aload_n hx hb dX0_putSum_129 rfl (lv_at hl 0 rfl) ?_
        refine mw_get (C := RX0) (T := TX0) (N := 4) hx hb hts in_X0_putSum_X0 hown hK hP ((mu_n ne0_1).trans (hh)) rfl 3 (by decide) (hts (.fieldLink RX0 22 "OctagonDesk$Numbers" "top" "I") (by decide +kernel)) (fun _ h9 => h9) rfl dX0_putSum_130 ?_
        refine lv_iload_n hx hb dX0_putSum_133 rfl (lv_at hl 1 rfl) ?_
        refine nv_iadd hx hb dX0_putSum_134 ?_
        refine lv_iload hx hb dX0_putSum_135 (lv_at hl 4 rfl) ?_
        refine lv_if_eq (tgt := 146) hx hb dX0_putSum_137 (by decide) (fun hc137 => ?_) (fun hc137 => ?_)
        · refine lv_aload_n hx hb dX0_putSum_146 rfl (lv_at hl 0 rfl) ?_
          refine mw_get (C := RX0) (T := TX0) (N := 4) hx hb hts in_X0_putSum_X0 hown hK hP ((mu_n ne0_1).trans (hh)) rfl 2 (by decide) (hts (.fieldLink RX0 18 "OctagonDesk$Numbers" "limbs" "[J") (by decide +kernel)) (fun _ h9 => h9) rfl dX0_putSum_147 ?_
          refine lv_aload_n hx hb dX0_putSum_150 rfl (lv_at hl 0 rfl) ?_
          refine mw_get (C := RX0) (T := TX0) (N := 4) hx hb hts in_X0_putSum_X0 hown hK hP ((mu_n ne0_1).trans (hh)) rfl 3 (by decide) (hts (.fieldLink RX0 22 "OctagonDesk$Numbers" "top" "I") (by decide +kernel)) (fun _ h9 => h9) rfl dX0_putSum_151 ?_
          refine lv_iload_n hx hb dX0_putSum_154 rfl (lv_at hl 2 rfl) ?_
          refine nv_iadd hx hb dX0_putSum_155 ?_
          refine mw_lald hx hb hK hP 0 (mu_s _ _ _) rfl (by omega) (by omega) dX0_putSum_156 ?_
          refine lv_aload_n hx hb dX0_putSum_157 rfl (lv_at hl 0 rfl) ?_
          refine mw_get (C := RX0) (T := TX0) (N := 4) hx hb hts in_X0_putSum_X0 hown hK hP ((mu_n ne0_1).trans (hh)) rfl 2 (by decide) (hts (.fieldLink RX0 18 "OctagonDesk$Numbers" "limbs" "[J") (by decide +kernel)) (fun _ h9 => h9) rfl dX0_putSum_158 ?_
          refine lv_aload_n hx hb dX0_putSum_161 rfl (lv_at hl 0 rfl) ?_
          refine mw_get (C := RX0) (T := TX0) (N := 4) hx hb hts in_X0_putSum_X0 hown hK hP ((mu_n ne0_1).trans (hh)) rfl 3 (by decide) (hts (.fieldLink RX0 22 "OctagonDesk$Numbers" "top" "I") (by decide +kernel)) (fun _ h9 => h9) rfl dX0_putSum_162 ?_
          refine lv_iload_n hx hb dX0_putSum_165 rfl (lv_at hl 3 rfl) ?_
          refine nv_iadd hx hb dX0_putSum_166 ?_
          refine mw_lald hx hb hK hP 0 (mu_s _ _ _) rfl (by omega) (by omega) dX0_putSum_167 ?_
          refine lv_ladd hx hb dX0_putSum_168 ?_
          refine lv_lload hx hb dX0_putSum_169 (lv_at hl 5 rfl) ?_
          refine lv_ladd hx hb dX0_putSum_171 ?_
          refine lv_topl (fun v172 ev172 => ?_)
          refine mw_last hx hb hK hP hS 0 (mu_s _ _ _) rfl (by omega) (by omega) dX0_putSum_172 (fun H locs hP hS => ?_)
          have hP : mw G.1 vwCl B (mu μ la (.inl (G.2 0, 158 * k + 158, .inr (.inl (vp_updL g ((158 * k) + to) v172))))) _ := mw_eq (mu_u _ _ _ _) hP
          rw [hQ]
          exact W.vret hx hb hr (fun t9 ht9 hW9 => ⟨⟨mu μ la (.inl (G.2 0, 158 * k + 158, .inr (.inl (vp_updL g ((158 * k) + to) v172)))), rfl, (⟨_, rfl, fun h0 => ps_0 h0 (hz h0) hb4 hc137 ev172⟩), by show mw _ _ _ _ t9.heap; rw [ht9]; exact hP⟩, hS.F ht9⟩) hS.2.2 dX0_putSum_173
        · refine lv_ldc2 (v := (9223372036854775807)) hx hb hown (hts (.constantLong RX0 25 (9223372036854775807)) (by decide +kernel)) dX0_putSum_140 ?_
          refine lv_goto (tgt := 172) hx hb dX0_putSum_143 (by decide) ?_
          refine mw_last hx hb hK hP hS 0 (mu_s _ _ _) rfl (by omega) (by omega) dX0_putSum_172 (fun H locs hP hS => ?_)
          have hP : mw G.1 vwCl B (mu μ la (.inl (G.2 0, 158 * k + 158, .inr (.inl (vp_updL g ((158 * k) + to) 9223372036854775807))))) _ := mw_eq (mu_u _ _ _ _) hP
          rw [hQ]
          exact W.vret hx hb hr (fun t9 ht9 hW9 => ⟨⟨mu μ la (.inl (G.2 0, 158 * k + 158, .inr (.inl (vp_updL g ((158 * k) + to) 9223372036854775807)))), rfl, (⟨_, rfl, fun h0 => ps_1 h0 (hz h0).1 hb4 hc137⟩), by show mw _ _ _ _ t9.heap; rw [ht9]; exact hP⟩, hS.F ht9⟩) hS.2.2 dX0_putSum_173
      · refine lv_lload hx hb dX0_putSum_58 (lv_at hl 5 rfl) ?_
        refine lv_aload_n hx hb dX0_putSum_60 rfl (lv_at hl 0 rfl) ?_
        refine mw_get (C := RX0) (T := TX0) (N := 4) hx hb hts in_X0_putSum_X0 hown hK hP ((mu_n ne0_1).trans (hh)) rfl 2 (by decide) (hts (.fieldLink RX0 18 "OctagonDesk$Numbers" "limbs" "[J") (by decide +kernel)) (fun _ h9 => h9) rfl dX0_putSum_61 ?_
        refine lv_iload hx hb dX0_putSum_64 (lv_at hl 6 rfl) ?_
        refine lv_iload_n hx hb dX0_putSum_66 rfl (lv_at hl 2 rfl) ?_
        refine nv_iadd hx hb dX0_putSum_67 ?_
        refine mw_lald hx hb hK hP 0 (mu_s _ _ _) rfl (by omega) (by omega) dX0_putSum_68 ?_
        refine lv_aload_n hx hb dX0_putSum_69 rfl (lv_at hl 0 rfl) ?_
        refine mw_get (C := RX0) (T := TX0) (N := 4) hx hb hts in_X0_putSum_X0 hown hK hP ((mu_n ne0_1).trans (hh)) rfl 2 (by decide) (hts (.fieldLink RX0 18 "OctagonDesk$Numbers" "limbs" "[J") (by decide +kernel)) (fun _ h9 => h9) rfl dX0_putSum_70 ?_
        refine lv_iload hx hb dX0_putSum_73 (lv_at hl 6 rfl) ?_
        refine lv_iload_n hx hb dX0_putSum_75 rfl (lv_at hl 3 rfl) ?_
        refine nv_iadd hx hb dX0_putSum_76 ?_
        refine mw_lald hx hb hK hP 0 (mu_s _ _ _) rfl (by omega) (by omega) dX0_putSum_77 ?_
        refine lv_ladd hx hb dX0_putSum_78 ?_
        refine lv_ladd hx hb dX0_putSum_79 ?_
        refine lv_topl (fun v80 ev80 => ?_)
        refine lv_lstore (lv' := [(5, .long v80), (0, .ref h), (1, .int (nI to)), (2, .int (nI i)), (3, .int (nI j)), (4, .int (nI b)), (7, .int (nI a))]) hx hb dX0_putSum_80 hl (by decide) rfl (fun ls hl => ?_)
        refine lv_aload_n hx hb dX0_putSum_82 rfl (lv_at hl 1 rfl) ?_
        refine mw_get (C := RX0) (T := TX0) (N := 4) hx hb hts in_X0_putSum_X0 hown hK hP ((mu_n ne0_1).trans (hh)) rfl 2 (by decide) (hts (.fieldLink RX0 18 "OctagonDesk$Numbers" "limbs" "[J") (by decide +kernel)) (fun _ h9 => h9) rfl dX0_putSum_83 ?_
        refine lv_iload hx hb dX0_putSum_86 (lv_at hl 6 rfl) ?_
        refine lv_iload_n hx hb dX0_putSum_88 rfl (lv_at hl 2 rfl) ?_
        refine nv_iadd hx hb dX0_putSum_89 ?_
        refine lv_iload hx hb dX0_putSum_90 (lv_at hl 5 rfl) ?_
        refine lv_if_eq (tgt := 99) hx hb dX0_putSum_92 (by decide) (fun hc92 => ?_) (fun hc92 => ?_)
        · refine lv_lload hx hb dX0_putSum_99 (lv_at hl 0 rfl) ?_
          refine lv_ldc2 (v := (1152921504606846975)) hx hb hown (hts (.constantLong RX0 39 (1152921504606846975)) (by decide +kernel)) dX0_putSum_101 ?_
          refine lv_land hx hb dX0_putSum_104 ?_
          refine lv_topl (fun v105 ev105 => ?_)
          refine mw_last hx hb hK hP hS 0 (mu_s _ _ _) rfl (by omega) (by omega) dX0_putSum_105 (fun H locs hP hS => ?_)
          have hP : mw G.1 vwCl B (mu μ la (.inl (G.2 0, 158 * k + 158, .inr (.inl (vp_updL g (a + to) v105))))) _ := mw_eq (mu_u _ _ _ _) hP
          refine lv_lload hx hb dX0_putSum_106 (lv_at hl 0 rfl) ?_
          refine lv_bipush (v := nI 60) hx hb dX0_putSum_108 (by decide) ?_
          refine lv_lshr (v := v80 >>> ((nI 60).toInt64 &&& 63)) hx hb dX0_putSum_110 rfl ?_
          refine lv_topl (fun v111 ev111 => ?_)
          refine lv_lstore (lv' := [(5, .long v111), (0, .ref h), (1, .int (nI to)), (2, .int (nI i)), (3, .int (nI j)), (4, .int (nI b)), (7, .int (nI a))]) hx hb dX0_putSum_111 hl (by decide) rfl (fun ls hl => ?_)
          refine lv_iload hx hb dX0_putSum_113 (lv_at hl 6 rfl) ?_
          refine lv_aload_n hx hb dX0_putSum_115 rfl (lv_at hl 1 rfl) ?_
          refine mw_get (C := RX0) (T := TX0) (N := 4) hx hb hts in_X0_putSum_X0 hown hK hP ((mu_n ne0_1).trans (hh)) rfl 0 (by decide) (hts (.fieldLink RX0 15 "OctagonDesk$Numbers" "cells" "I") (by decide +kernel)) (fun _ h9 => h9) rfl dX0_putSum_116 ?_
          refine nv_iadd hx hb dX0_putSum_119 ?_
          refine lv_istore (lv' := [(7, .int (nI (a + 158))), (5, .long v111), (0, .ref h), (1, .int (nI to)), (2, .int (nI i)), (3, .int (nI j)), (4, .int (nI b))]) hx hb dX0_putSum_120 hl (by decide) rfl (fun ls hl => ?_)
          refine lv_goto (tgt := 49) hx hb dX0_putSum_122 (by decide) ?_
          exact ih (a + 158) (q + 1) v111 (vp_updL g (a + to) v105) b (by omega) (by omega) (by omega) (fun h0 => absurd h0 (by omega)) (hb4) _ _ hP hS ls (lv_sub hl [2, 3, 4, 5, 6, 1, 0] rfl)
        · refine lv_lconst (v := 0) hx hb dX0_putSum_95 (by decide) ?_
          refine lv_goto (tgt := 105) hx hb dX0_putSum_96 (by decide) ?_
          refine mw_last hx hb hK hP hS 0 (mu_s _ _ _) rfl (by omega) (by omega) dX0_putSum_105 (fun H locs hP hS => ?_)
          have hP : mw G.1 vwCl B (mu μ la (.inl (G.2 0, 158 * k + 158, .inr (.inl (vp_updL g (a + to) 0))))) _ := mw_eq (mu_u _ _ _ _) hP
          refine lv_lload hx hb dX0_putSum_106 (lv_at hl 0 rfl) ?_
          refine lv_bipush (v := nI 60) hx hb dX0_putSum_108 (by decide) ?_
          refine lv_lshr (v := v80 >>> ((nI 60).toInt64 &&& 63)) hx hb dX0_putSum_110 rfl ?_
          refine lv_topl (fun v111 ev111 => ?_)
          refine lv_lstore (lv' := [(5, .long v111), (0, .ref h), (1, .int (nI to)), (2, .int (nI i)), (3, .int (nI j)), (4, .int (nI b)), (7, .int (nI a))]) hx hb dX0_putSum_111 hl (by decide) rfl (fun ls hl => ?_)
          refine lv_iload hx hb dX0_putSum_113 (lv_at hl 6 rfl) ?_
          refine lv_aload_n hx hb dX0_putSum_115 rfl (lv_at hl 1 rfl) ?_
          refine mw_get (C := RX0) (T := TX0) (N := 4) hx hb hts in_X0_putSum_X0 hown hK hP ((mu_n ne0_1).trans (hh)) rfl 0 (by decide) (hts (.fieldLink RX0 15 "OctagonDesk$Numbers" "cells" "I") (by decide +kernel)) (fun _ h9 => h9) rfl dX0_putSum_116 ?_
          refine nv_iadd hx hb dX0_putSum_119 ?_
          refine lv_istore (lv' := [(7, .int (nI (a + 158))), (5, .long v111), (0, .ref h), (1, .int (nI to)), (2, .int (nI i)), (3, .int (nI j)), (4, .int (nI b))]) hx hb dX0_putSum_120 hl (by decide) rfl (fun ls hl => ?_)
          refine lv_goto (tgt := 49) hx hb dX0_putSum_122 (by decide) ?_
          exact ih (a + 158) (q + 1) v111 (vp_updL g (a + to) 0) b (by omega) (by omega) (by omega) (fun h0 => absurd h0 (by omega)) (hb4) _ _ hP hS ls (lv_sub hl [2, 3, 4, 5, 6, 1, 0] rfl)
  have L41 : ∀ (b : Nat) (hb4 : (b = 1 ∧ (f (158 * k + i) = INF ∨ f (158 * k + j) = INF)) ∨ (b = 0 ∧ ¬ (f (158 * k + i) = INF ∨ f (158 * k + j) = INF))), ∀ (H : Heap) (locs : List Loc), mw G.1 vwCl B (mu μ la (.inl (G.2 0, 158 * k + 158, .inr (.inl f)))) H → va_S (fun q => B ≤ q) s.heap H locs → ∀ ls : Array Slot, lv_has ls 8 [(0, .ref h), (1, .int (nI to)), (2, .int (nI i)), (3, .int (nI j))] → W p l e rm_X0_putSum s m args below meth c H locs 0 0 Q (F0 m 41 ls [.int (nI b)]) := by
    intro b hb4 H locs hP hS ls hl
    refine lv_istore (lv' := [(4, .int (nI b)), (0, .ref h), (1, .int (nI to)), (2, .int (nI i)), (3, .int (nI j))]) hx hb dX0_putSum_41 hl (by decide) rfl (fun ls hl => ?_)
    refine lv_lconst (v := 0) hx hb dX0_putSum_43 (by decide) ?_
    refine lv_lstore (lv' := [(5, .long 0), (4, .int (nI b)), (0, .ref h), (1, .int (nI to)), (2, .int (nI i)), (3, .int (nI j))]) hx hb dX0_putSum_44 hl (by decide) rfl (fun ls hl => ?_)
    refine lv_iconst (v := nI 0) hx hb dX0_putSum_46 (by decide) ?_
    refine lv_istore (lv' := [(7, .int (nI 0)), (5, .long 0), (4, .int (nI b)), (0, .ref h), (1, .int (nI to)), (2, .int (nI i)), (3, .int (nI j))]) hx hb dX0_putSum_47 hl (by decide) rfl (fun ls hl => ?_)
    exact L49 _ 0 0 0 f b (Nat.lt_succ_self _) (by omega) (by omega) (fun h0 => ⟨rfl, rfl⟩) (hb4) _ _ hP hS ls (lv_sub hl [3, 4, 5, 6, 2, 1, 0] rfl)
  have hl := lv_entry ([.ref h, .int (nI to), .int (nI i), .int (nI j)]) (n := 8) (Nat.le_of_ble_eq_true rfl)
  have he9 : entryFrame m args 8 = entryFrame m ([.ref h, .int (nI to), .int (nI i), .int (nI j)] : List Value).toArray 8 := by rw [hargs]
  rw [he9, lg_entry_eq]
  generalize (lg_sl ([.ref h, .int (nI to), .int (nI i), .int (nI j)]) ++ List.replicate (8 - (lg_sl ([.ref h, .int (nI to), .int (nI i), .int (nI j)])).length) Slot.unset).toArray = ls at hl ⊢
  have hl : lv_has ls 8 [(0, .ref h), (1, .int (nI to)), (2, .int (nI i)), (3, .int (nI j))] := hl
  refine lv_aload_n hx hb dX0_putSum_0 rfl (lv_at hl 0 rfl) ?_
  refine mw_get (C := RX0) (T := TX0) (N := 4) hx hb hts in_X0_putSum_X0 hown hK hP ((mu_n ne0_1).trans (hh)) rfl 2 (by decide) (hts (.fieldLink RX0 18 "OctagonDesk$Numbers" "limbs" "[J") (by decide +kernel)) (fun _ h9 => h9) rfl dX0_putSum_1 ?_
  refine lv_aload_n hx hb dX0_putSum_4 rfl (lv_at hl 0 rfl) ?_
  refine mw_get (C := RX0) (T := TX0) (N := 4) hx hb hts in_X0_putSum_X0 hown hK hP ((mu_n ne0_1).trans (hh)) rfl 3 (by decide) (hts (.fieldLink RX0 22 "OctagonDesk$Numbers" "top" "I") (by decide +kernel)) (fun _ h9 => h9) rfl dX0_putSum_5 ?_
  refine lv_iload_n hx hb dX0_putSum_8 rfl (lv_at hl 2 rfl) ?_
  refine nv_iadd hx hb dX0_putSum_9 ?_
  refine mw_lald hx hb hK hP 0 (mu_s _ _ _) rfl (by omega) (by omega) dX0_putSum_10 ?_
  refine lv_ldc2 (v := (9223372036854775807)) hx hb hown (hts (.constantLong RX0 25 (9223372036854775807)) (by decide +kernel)) dX0_putSum_11 ?_
  refine nl_if_eq (tgt := 36) hx hb dX0_putSum_14 dX0_putSum_15 (by decide) (fun hc14 => ?_) (fun hc14 => ?_)
  · refine lv_iconst (v := nI 1) hx hb dX0_putSum_36 (by decide) ?_
    refine lv_goto (tgt := 41) hx hb dX0_putSum_37 (by decide) ?_
    exact L41 1 (by first | exact Or.inl ⟨rfl, Or.inl hc14⟩ | exact Or.inl ⟨rfl, Or.inr hc32⟩ | exact Or.inr ⟨rfl, fun h9 => h9.elim hc14 hc32⟩) _ _ hP hS ls (lv_sub hl [0, 1, 2, 3] rfl)
  · refine lv_aload_n hx hb dX0_putSum_18 rfl (lv_at hl 0 rfl) ?_
    refine mw_get (C := RX0) (T := TX0) (N := 4) hx hb hts in_X0_putSum_X0 hown hK hP ((mu_n ne0_1).trans (hh)) rfl 2 (by decide) (hts (.fieldLink RX0 18 "OctagonDesk$Numbers" "limbs" "[J") (by decide +kernel)) (fun _ h9 => h9) rfl dX0_putSum_19 ?_
    refine lv_aload_n hx hb dX0_putSum_22 rfl (lv_at hl 0 rfl) ?_
    refine mw_get (C := RX0) (T := TX0) (N := 4) hx hb hts in_X0_putSum_X0 hown hK hP ((mu_n ne0_1).trans (hh)) rfl 3 (by decide) (hts (.fieldLink RX0 22 "OctagonDesk$Numbers" "top" "I") (by decide +kernel)) (fun _ h9 => h9) rfl dX0_putSum_23 ?_
    refine lv_iload_n hx hb dX0_putSum_26 rfl (lv_at hl 3 rfl) ?_
    refine nv_iadd hx hb dX0_putSum_27 ?_
    refine mw_lald hx hb hK hP 0 (mu_s _ _ _) rfl (by omega) (by omega) dX0_putSum_28 ?_
    refine lv_ldc2 (v := (9223372036854775807)) hx hb hown (hts (.constantLong RX0 25 (9223372036854775807)) (by decide +kernel)) dX0_putSum_29 ?_
    refine nl_if_ne (tgt := 40) hx hb dX0_putSum_32 dX0_putSum_33 (by decide) (fun hc32 => ?_) (fun hc32 => ?_)
    · refine lv_iconst (v := nI 0) hx hb dX0_putSum_40 (by decide) ?_
      exact L41 0 (by first | exact Or.inl ⟨rfl, Or.inl hc14⟩ | exact Or.inl ⟨rfl, Or.inr hc32⟩ | exact Or.inr ⟨rfl, fun h9 => h9.elim hc14 hc32⟩) _ _ hP hS ls (lv_sub hl [0, 1, 2, 3] rfl)
    · refine lv_iconst (v := nI 1) hx hb dX0_putSum_36 (by decide) ?_
      refine lv_goto (tgt := 41) hx hb dX0_putSum_37 (by decide) ?_
      exact L41 1 (by first | exact Or.inl ⟨rfl, Or.inl hc14⟩ | exact Or.inl ⟨rfl, Or.inr hc32⟩ | exact Or.inr ⟨rfl, fun h9 => h9.elim hc14 hc32⟩) _ _ hP hS ls (lv_sub hl [0, 1, 2, 3] rfl)

abbrev rm_X0_lower : Room := { frames := 1, cells := 0, slots := 0, locals := 28 }
set_option maxHeartbeats 4000000 in
set_option maxRecDepth 100000 in
theorem c_X0_lower (l : Launch) (G : GG) (B : Nat) (μ : mp) (h la k : Nat) (f : Nat → Int64) (i j m9 : Nat) (hh : μ h = some (.inr (0, [.int (nI 158), .int (nI 157), .ref la, .int (nI (158 * k))]))) (ha : μ la = some (.inl (G.2 0, 158 * k + 158, .inr (.inl f)))) (hk : k ≤ 1022) (hi : i < 157) (hj : j < 158) (hm : m9 < 158) : Met l yX0_lower wsX0_lower rm_X0_lower (va_Pc [.ref h, .int (nI i), .int (nI j), .int (nI m9)] (KW G B μ)) (va_Qv (fun μ2 => ∃ g9 : Nat → Int64, μ2 = mu μ la (.inl (G.2 0, 158 * k + 158, .inr (.inl g9))) ∧ (k = 0 → g9 = lw f i j m9)) (BB G B) (fun q => B ≤ q)) 0 0 (fun q => B ≤ q) := by
  refine Met.ofW (cc := cX0_lower) (maxL := 4) (ret := none) (by decide) rfl ?_
  intro p e s m args below meth c s₁ B9 hml hv
  obtain ⟨hargs, hBs, hP, hKK⟩ := hv
  have hx := B9.exec
  have hb := B9.bytes
  have hr := B9.returns
  have hts := atoms_spec (ws := wsX0_lower) B9.pre
  have hown : s.vm.findClass RX0 = some m.cls := findClass_of_methodNamed B9.named
  have hlocks := B9.notSynchronized
  have hK := hKK.k
  have hS : va_S (fun q => B ≤ q) s.heap s.heap [] := va_S.rf
  obtain ⟨Q, hQ⟩ : ∃ Q, Q = MQ below (va_Qv (fun μ2 => ∃ g9 : Nat → Int64, μ2 = mu μ la (.inl (G.2 0, 158 * k + 158, .inr (.inl g9))) ∧ (k = 0 → g9 = lw f i j m9)) (BB G B) (fun q => B ≤ q)) args s 0 0 (fun q => B ≤ q) := ⟨_, rfl⟩
  rw [← hQ]
  have ne0_1 : h ≠ la := mp_ne hh ha (by simp)
  have in_X0_lower_X0 : ∀ w ∈ wsX00, w ∈ wsX0_lower := by decide +kernel
  have hP : mw G.1 vwCl B (mu μ la (.inl (G.2 0, 158 * k + 158, .inr (.inl f)))) s.heap := mw_eq (mu_i ha).symm hP
  have hl := lv_entry ([.ref h, .int (nI i), .int (nI j), .int (nI m9)]) (n := 4) (Nat.le_of_ble_eq_true rfl)
  have he9 : entryFrame m args 4 = entryFrame m ([.ref h, .int (nI i), .int (nI j), .int (nI m9)] : List Value).toArray 4 := by rw [hargs]
  rw [he9, lg_entry_eq]
  generalize (lg_sl ([.ref h, .int (nI i), .int (nI j), .int (nI m9)]) ++ List.replicate (4 - (lg_sl ([.ref h, .int (nI i), .int (nI j), .int (nI m9)])).length) Slot.unset).toArray = ls at hl ⊢
  have hl : lv_has ls 4 [(0, .ref h), (1, .int (nI i)), (2, .int (nI j)), (3, .int (nI m9))] := hl
  refine lv_aload_n hx hb dX0_lower_0 rfl (lv_at hl 0 rfl) ?_
  refine lv_aload_n hx hb dX0_lower_1 rfl (lv_at hl 0 rfl) ?_
  refine mw_get (C := RX0) (T := TX0) (N := 4) hx hb hts in_X0_lower_X0 hown hK hP ((mu_n ne0_1).trans (hh)) rfl 1 (by decide) (hts (.fieldLink RX0 11 "OctagonDesk$Numbers" "sum" "I") (by decide +kernel)) (fun _ h9 => h9) rfl dX0_lower_2 ?_
  refine lv_iload_n hx hb dX0_lower_5 rfl (lv_at hl 2 rfl) ?_
  refine lv_iload_n hx hb dX0_lower_6 rfl (lv_at hl 3 rfl) ?_
  refine kc_v (va_runV (As := [.int (nI 157), .int (nI j), .int (nI m9)]) (rest := []) ⟨hx, hb, hml, hown, hts⟩ (c_X0_putSum l G B (mu μ la (.inl (G.2 0, 158 * k + 158, .inr (.inl f)))) h la k f 157 j m9 ((mu_n ne0_1).trans (hh)) (mu_s _ _ _) (by omega) (by omega) (by omega) (by omega)) (cwV 3 hts gX0_lower_X0_putSum rfl rfl rfl (by decide +kernel) ⟨Nat.le_of_ble_eq_true rfl, Nat.le_of_ble_eq_true rfl⟩) ⟨KW.blind, hP.recv hK rfl ((mu_n ne0_1).trans (hh)), fun U9 hU9 hW9 => ⟨rfl, KW.pre hBs hKK hS hP U9 hU9 hW9⟩⟩ rfl rfl hl.1 rfl (lv_room (Nat.le_of_ble_eq_true rfl)) dX0_lower_7 ⟨Nat.le_of_ble_eq_true rfl, Nat.le_of_ble_eq_true rfl⟩) hS (fun u9 H locs hq9 hP hz9 hS => ?_)
  obtain ⟨g7, rfl, hg7⟩ := hq9
  have hP : mw G.1 vwCl B (mu μ la (.inl (G.2 0, 158 * k + 158, .inr (.inl g7)))) _ := mw_eq (mu_u _ _ _ _) hP
  refine lv_aload_n hx hb dX0_lower_10 rfl (lv_at hl 0 rfl) ?_
  refine lv_aload_n hx hb dX0_lower_11 rfl (lv_at hl 0 rfl) ?_
  refine mw_get (C := RX0) (T := TX0) (N := 4) hx hb hts in_X0_lower_X0 hown hK hP ((mu_n ne0_1).trans (hh)) rfl 1 (by decide) (hts (.fieldLink RX0 11 "OctagonDesk$Numbers" "sum" "I") (by decide +kernel)) (fun _ h9 => h9) rfl dX0_lower_12 ?_
  refine lv_aload_n hx hb dX0_lower_15 rfl (lv_at hl 0 rfl) ?_
  refine lv_iload_n hx hb dX0_lower_16 rfl (lv_at hl 1 rfl) ?_
  refine kc_i (va_runV (As := [.int (nI 157), .ref h, .int (nI i)]) (rest := []) ⟨hx, hb, hml, hown, hts⟩ (c_X0_isLess l G B (mu μ la (.inl (G.2 0, 158 * k + 158, .inr (.inl g7)))) h la k g7 h la g7 157 i ((mu_n ne0_1).trans (hh)) (mu_s _ _ _) ((mu_n ne0_1).trans (hh)) (mu_s _ _ _) (by omega) (by omega) (by omega)) (cwV 3 hts gX0_lower_X0_isLess rfl rfl rfl (by decide +kernel) ⟨Nat.le_of_ble_eq_true rfl, Nat.le_of_ble_eq_true rfl⟩) ⟨KW.blind, hP.recv hK rfl ((mu_n ne0_1).trans (hh)), fun U9 hU9 hW9 => ⟨rfl, KW.pre hBs hKK hS hP U9 hU9 hW9⟩⟩ rfl rfl hl.1 rfl (lv_room (Nat.le_of_ble_eq_true rfl)) dX0_lower_17 ⟨Nat.le_of_ble_eq_true rfl, Nat.le_of_ble_eq_true rfl⟩) hS (fun r17 u9 H locs hq9 hP hz9 hS => ?_)
  obtain ⟨rfl, hbr17, hr17⟩ := hq9
  refine lv_if_eq (tgt := 33) hx hb dX0_lower_20 (by decide) (fun hc20 => ?_) (fun hc20 => ?_)
  · rw [hQ]
    exact W.vret hx hb hr (fun t9 ht9 hW9 => ⟨⟨mu μ la (.inl (G.2 0, 158 * k + 158, .inr (.inl g7))), rfl, (⟨_, rfl, lo_0 hg7 hr17 hi hc20⟩), by show mw _ _ _ _ t9.heap; rw [ht9]; exact hP⟩, hS.F ht9⟩) hS.2.2 dX0_lower_33
  · refine lv_aload_n hx hb dX0_lower_23 rfl (lv_at hl 0 rfl) ?_
    refine lv_iload_n hx hb dX0_lower_24 rfl (lv_at hl 1 rfl) ?_
    refine lv_aload_n hx hb dX0_lower_25 rfl (lv_at hl 0 rfl) ?_
    refine lv_aload_n hx hb dX0_lower_26 rfl (lv_at hl 0 rfl) ?_
    refine mw_get (C := RX0) (T := TX0) (N := 4) hx hb hts in_X0_lower_X0 hown hK hP ((mu_n ne0_1).trans (hh)) rfl 1 (by decide) (hts (.fieldLink RX0 11 "OctagonDesk$Numbers" "sum" "I") (by decide +kernel)) (fun _ h9 => h9) rfl dX0_lower_27 ?_
    refine kc_v (va_runV (As := [.int (nI i), .ref h, .int (nI 157)]) (rest := []) ⟨hx, hb, hml, hown, hts⟩ (c_X0_put_s l G B (mu μ la (.inl (G.2 0, 158 * k + 158, .inr (.inl g7)))) h la k g7 i 157 ((mu_n ne0_1).trans (hh)) (mu_s _ _ _) (by omega) (by omega) (by omega)) (cwV 3 hts gX0_lower_X0_put rfl rfl rfl (by decide +kernel) ⟨Nat.le_of_ble_eq_true rfl, Nat.le_of_ble_eq_true rfl⟩) ⟨KW.blind, hP.recv hK rfl ((mu_n ne0_1).trans (hh)), fun U9 hU9 hW9 => ⟨rfl, KW.pre hBs hKK hS hP U9 hU9 hW9⟩⟩ rfl rfl hl.1 rfl (lv_room (Nat.le_of_ble_eq_true rfl)) dX0_lower_30 ⟨Nat.le_of_ble_eq_true rfl, Nat.le_of_ble_eq_true rfl⟩) hS (fun u9 H locs hq9 hP hz9 hS => ?_)
    obtain ⟨g30, rfl, hg30⟩ := hq9
    have hP : mw G.1 vwCl B (mu μ la (.inl (G.2 0, 158 * k + 158, .inr (.inl g30)))) _ := mw_eq (mu_u _ _ _ _) hP
    rw [hQ]
    exact W.vret hx hb hr (fun t9 ht9 hW9 => ⟨⟨mu μ la (.inl (G.2 0, 158 * k + 158, .inr (.inl g30))), rfl, (⟨_, rfl, lo_1 hg7 hr17 hi hc20 hg30⟩), by show mw _ _ _ _ t9.heap; rw [ht9]; exact hP⟩, hS.F ht9⟩) hS.2.2 dX0_lower_33

abbrev rm_X0_putNegative : Room := { frames := 1, cells := 0, slots := 0, locals := 22 }
set_option maxHeartbeats 4000000 in
set_option maxRecDepth 100000 in
theorem c_X0_putNegative (l : Launch) (G : GG) (B : Nat) (μ : mp) (h la k : Nat) (f : Nat → Int64) (to i : Nat) (hh : μ h = some (.inr (0, [.int (nI 158), .int (nI 157), .ref la, .int (nI (158 * k))]))) (ha : μ la = some (.inl (G.2 0, 158 * k + 158, .inr (.inl f)))) (hk : k ≤ 1022) (ht : to < 158) (hi : i < 158) : Met l yX0_putNegative wsX0_putNegative rm_X0_putNegative (va_Pc [.ref h, .int (nI to), .int (nI i)] (KW G B μ)) (va_Qv (fun μ2 => ∃ g9 : Nat → Int64, μ2 = mu μ la (.inl (G.2 0, 158 * k + 158, .inr (.inl g9))) ∧ (k = 0 → g9 = vp_updL f to (ng (f i)))) (BB G B) (fun q => B ≤ q)) 0 0 (fun q => B ≤ q) := by
  refine Met.ofW (cc := cX0_putNegative) (maxL := 6) (ret := none) (by decide) rfl ?_
  intro p e s m args below meth c s₁ B9 hml hv
  obtain ⟨hargs, hBs, hP, hKK⟩ := hv
  have hx := B9.exec
  have hb := B9.bytes
  have hr := B9.returns
  have hts := atoms_spec (ws := wsX0_putNegative) B9.pre
  have hown : s.vm.findClass RX0 = some m.cls := findClass_of_methodNamed B9.named
  have hlocks := B9.notSynchronized
  have hK := hKK.k
  have hS : va_S (fun q => B ≤ q) s.heap s.heap [] := va_S.rf
  obtain ⟨Q, hQ⟩ : ∃ Q, Q = MQ below (va_Qv (fun μ2 => ∃ g9 : Nat → Int64, μ2 = mu μ la (.inl (G.2 0, 158 * k + 158, .inr (.inl g9))) ∧ (k = 0 → g9 = vp_updL f to (ng (f i)))) (BB G B) (fun q => B ≤ q)) args s 0 0 (fun q => B ≤ q) := ⟨_, rfl⟩
  rw [← hQ]
  have ne0_1 : h ≠ la := mp_ne hh ha (by simp)
  have in_X0_putNegative_X0 : ∀ w ∈ wsX00, w ∈ wsX0_putNegative := by decide +kernel
  have hP : mw G.1 vwCl B (mu μ la (.inl (G.2 0, 158 * k + 158, .inr (.inl f)))) s.heap := mw_eq (mu_i ha).symm hP
  have L19 : ∀ (N9 : Nat) (a : Nat) (q : Nat) (x : Int64) (g : Nat → Int64) (hN9 : k - q < N9) (ha4 : a = 158 * q) (hq : q ≤ k) (hz : k = 0 → g = f ∧ x = 0) (hn4 : ¬ f (158 * k + i) = INF), ∀ (H : Heap) (locs : List Loc), mw G.1 vwCl B (mu μ la (.inl (G.2 0, 158 * k + 158, .inr (.inl g)))) H → va_S (fun q => B ≤ q) s.heap H locs → ∀ ls : Array Slot, lv_has ls 6 [(0, .ref h), (1, .int (nI to)), (2, .int (nI i)), (3, .long x), (5, .int (nI a))] → W p l e rm_X0_putNegative s m args below meth c H locs 0 0 Q (F0 m 19 ls []) := by
    intro N9
    induction N9 with
    | zero => intro a q x g hN9; exact absurd hN9 (Nat.not_lt_zero _)
    | succ N9 ih =>
      intro a q x g hN9 ha4 hq hz hn4 H locs hP hS ls hl
      refine lv_iload hx hb dX0_putNegative_19 (lv_at hl 4 rfl) ?_
      refine lv_aload_n hx hb dX0_putNegative_21 rfl (lv_at hl 0 rfl) ?_
      refine mw_get (C := RX0) (T := TX0) (N := 4) hx hb hts in_X0_putNegative_X0 hown hK hP ((mu_n ne0_1).trans (hh)) rfl 3 (by decide) (hts (.fieldLink RX0 22 "OctagonDesk$Numbers" "top" "I") (by decide +kernel)) (fun _ h9 => h9) rfl dX0_putNegative_22 ?_
      refine nv_icmp_ge (tgt := 71) hx hb (by omega) (by omega) dX0_putNegative_25 (by decide) (fun hc25 => ?_) (fun hc25 => ?_)
      · refine lv_aload_n hx hb dX0_putNegative_71 rfl (lv_at hl 0 rfl) ?_
        refine mw_get (C := RX0) (T := TX0) (N := 4) hx hb hts in_X0_putNegative_X0 hown hK hP ((mu_n ne0_1).trans (hh)) rfl 2 (by decide) (hts (.fieldLink RX0 18 "OctagonDesk$Numbers" "limbs" "[J") (by decide +kernel)) (fun _ h9 => h9) rfl dX0_putNegative_72 ?_
        refine lv_aload_n hx hb dX0_putNegative_75 rfl (lv_at hl 0 rfl) ?_
        refine mw_get (C := RX0) (T := TX0) (N := 4) hx hb hts in_X0_putNegative_X0 hown hK hP ((mu_n ne0_1).trans (hh)) rfl 3 (by decide) (hts (.fieldLink RX0 22 "OctagonDesk$Numbers" "top" "I") (by decide +kernel)) (fun _ h9 => h9) rfl dX0_putNegative_76 ?_
        refine lv_iload_n hx hb dX0_putNegative_79 rfl (lv_at hl 1 rfl) ?_
        refine nv_iadd hx hb dX0_putNegative_80 ?_
        refine lv_lload_n hx hb dX0_putNegative_81 rfl (lv_at hl 3 rfl) ?_
        refine lv_aload_n hx hb dX0_putNegative_82 rfl (lv_at hl 0 rfl) ?_
        refine mw_get (C := RX0) (T := TX0) (N := 4) hx hb hts in_X0_putNegative_X0 hown hK hP ((mu_n ne0_1).trans (hh)) rfl 2 (by decide) (hts (.fieldLink RX0 18 "OctagonDesk$Numbers" "limbs" "[J") (by decide +kernel)) (fun _ h9 => h9) rfl dX0_putNegative_83 ?_
        refine lv_aload_n hx hb dX0_putNegative_86 rfl (lv_at hl 0 rfl) ?_
        refine mw_get (C := RX0) (T := TX0) (N := 4) hx hb hts in_X0_putNegative_X0 hown hK hP ((mu_n ne0_1).trans (hh)) rfl 3 (by decide) (hts (.fieldLink RX0 22 "OctagonDesk$Numbers" "top" "I") (by decide +kernel)) (fun _ h9 => h9) rfl dX0_putNegative_87 ?_
        refine lv_iload_n hx hb dX0_putNegative_90 rfl (lv_at hl 2 rfl) ?_
        refine nv_iadd hx hb dX0_putNegative_91 ?_
        refine mw_lald hx hb hK hP 0 (mu_s _ _ _) rfl (by omega) (by omega) dX0_putNegative_92 ?_
        refine lv_lsub hx hb dX0_putNegative_93 ?_
        refine lv_topl (fun v94 ev94 => ?_)
        refine mw_last hx hb hK hP hS 0 (mu_s _ _ _) rfl (by omega) (by omega) dX0_putNegative_94 (fun H locs hP hS => ?_)
        have hP : mw G.1 vwCl B (mu μ la (.inl (G.2 0, 158 * k + 158, .inr (.inl (vp_updL g ((158 * k) + to) v94))))) _ := mw_eq (mu_u _ _ _ _) hP
        rw [hQ]
        exact W.vret hx hb hr (fun t9 ht9 hW9 => ⟨⟨mu μ la (.inl (G.2 0, 158 * k + 158, .inr (.inl (vp_updL g ((158 * k) + to) v94)))), rfl, (⟨_, rfl, fun h0 => by obtain ⟨h1, h2⟩ := hz h0; subst h0; subst h1; subst h2; have h3 : ¬ g i = INF := (by simpa using hn4); rw [ev94, ng, if_neg h3, Nat.mul_zero, Nat.zero_add, Nat.zero_add]⟩), by show mw _ _ _ _ t9.heap; rw [ht9]; exact hP⟩, hS.F ht9⟩) hS.2.2 dX0_putNegative_95
      · refine lv_lload_n hx hb dX0_putNegative_28 rfl (lv_at hl 3 rfl) ?_
        refine lv_aload_n hx hb dX0_putNegative_29 rfl (lv_at hl 0 rfl) ?_
        refine mw_get (C := RX0) (T := TX0) (N := 4) hx hb hts in_X0_putNegative_X0 hown hK hP ((mu_n ne0_1).trans (hh)) rfl 2 (by decide) (hts (.fieldLink RX0 18 "OctagonDesk$Numbers" "limbs" "[J") (by decide +kernel)) (fun _ h9 => h9) rfl dX0_putNegative_30 ?_
        refine lv_iload hx hb dX0_putNegative_33 (lv_at hl 4 rfl) ?_
        refine lv_iload_n hx hb dX0_putNegative_35 rfl (lv_at hl 2 rfl) ?_
        refine nv_iadd hx hb dX0_putNegative_36 ?_
        refine mw_lald hx hb hK hP 0 (mu_s _ _ _) rfl (by omega) (by omega) dX0_putNegative_37 ?_
        refine lv_lsub hx hb dX0_putNegative_38 ?_
        refine lv_topl (fun v39 ev39 => ?_)
        refine lv_lstore_n (lv' := [(3, .long v39), (0, .ref h), (1, .int (nI to)), (2, .int (nI i)), (5, .int (nI a))]) hx hb dX0_putNegative_39 rfl hl (by decide) rfl (fun ls hl => ?_)
        refine lv_aload_n hx hb dX0_putNegative_40 rfl (lv_at hl 1 rfl) ?_
        refine mw_get (C := RX0) (T := TX0) (N := 4) hx hb hts in_X0_putNegative_X0 hown hK hP ((mu_n ne0_1).trans (hh)) rfl 2 (by decide) (hts (.fieldLink RX0 18 "OctagonDesk$Numbers" "limbs" "[J") (by decide +kernel)) (fun _ h9 => h9) rfl dX0_putNegative_41 ?_
        refine lv_iload hx hb dX0_putNegative_44 (lv_at hl 4 rfl) ?_
        refine lv_iload_n hx hb dX0_putNegative_46 rfl (lv_at hl 2 rfl) ?_
        refine nv_iadd hx hb dX0_putNegative_47 ?_
        refine lv_lload_n hx hb dX0_putNegative_48 rfl (lv_at hl 0 rfl) ?_
        refine lv_ldc2 (v := (1152921504606846975)) hx hb hown (hts (.constantLong RX0 39 (1152921504606846975)) (by decide +kernel)) dX0_putNegative_49 ?_
        refine lv_land hx hb dX0_putNegative_52 ?_
        refine lv_topl (fun v53 ev53 => ?_)
        refine mw_last hx hb hK hP hS 0 (mu_s _ _ _) rfl (by omega) (by omega) dX0_putNegative_53 (fun H locs hP hS => ?_)
        have hP : mw G.1 vwCl B (mu μ la (.inl (G.2 0, 158 * k + 158, .inr (.inl (vp_updL g (a + to) v53))))) _ := mw_eq (mu_u _ _ _ _) hP
        refine lv_lload_n hx hb dX0_putNegative_54 rfl (lv_at hl 0 rfl) ?_
        refine lv_bipush (v := nI 60) hx hb dX0_putNegative_55 (by decide) ?_
        refine lv_lshr (v := v39 >>> ((nI 60).toInt64 &&& 63)) hx hb dX0_putNegative_57 rfl ?_
        refine lv_topl (fun v58 ev58 => ?_)
        refine lv_lstore_n (lv' := [(3, .long v58), (0, .ref h), (1, .int (nI to)), (2, .int (nI i)), (5, .int (nI a))]) hx hb dX0_putNegative_58 rfl hl (by decide) rfl (fun ls hl => ?_)
        refine lv_iload hx hb dX0_putNegative_59 (lv_at hl 4 rfl) ?_
        refine lv_aload_n hx hb dX0_putNegative_61 rfl (lv_at hl 1 rfl) ?_
        refine mw_get (C := RX0) (T := TX0) (N := 4) hx hb hts in_X0_putNegative_X0 hown hK hP ((mu_n ne0_1).trans (hh)) rfl 0 (by decide) (hts (.fieldLink RX0 15 "OctagonDesk$Numbers" "cells" "I") (by decide +kernel)) (fun _ h9 => h9) rfl dX0_putNegative_62 ?_
        refine nv_iadd hx hb dX0_putNegative_65 ?_
        refine lv_istore (lv' := [(5, .int (nI (a + 158))), (3, .long v58), (0, .ref h), (1, .int (nI to)), (2, .int (nI i))]) hx hb dX0_putNegative_66 hl (by decide) rfl (fun ls hl => ?_)
        refine lv_goto (tgt := 19) hx hb dX0_putNegative_68 (by decide) ?_
        exact ih (a + 158) (q + 1) v58 (vp_updL g (a + to) v53) (by omega) (by omega) (by omega) (fun h0 => absurd h0 (by omega)) (hn4) _ _ hP hS ls (lv_sub hl [2, 3, 4, 1, 0] rfl)
  have hl := lv_entry ([.ref h, .int (nI to), .int (nI i)]) (n := 6) (Nat.le_of_ble_eq_true rfl)
  have he9 : entryFrame m args 6 = entryFrame m ([.ref h, .int (nI to), .int (nI i)] : List Value).toArray 6 := by rw [hargs]
  rw [he9, lg_entry_eq]
  generalize (lg_sl ([.ref h, .int (nI to), .int (nI i)]) ++ List.replicate (6 - (lg_sl ([.ref h, .int (nI to), .int (nI i)])).length) Slot.unset).toArray = ls at hl ⊢
  have hl : lv_has ls 6 [(0, .ref h), (1, .int (nI to)), (2, .int (nI i))] := hl
  refine lv_aload_n hx hb dX0_putNegative_0 rfl (lv_at hl 0 rfl) ?_
  refine lv_iload_n hx hb dX0_putNegative_1 rfl (lv_at hl 2 rfl) ?_
  refine kc_i (va_runV (As := [.int (nI i)]) (rest := []) ⟨hx, hb, hml, hown, hts⟩ (c_X0_isInfinite l G B (mu μ la (.inl (G.2 0, 158 * k + 158, .inr (.inl f)))) h la k f i ((mu_n ne0_1).trans (hh)) (mu_s _ _ _) (by omega) (by omega)) (cwV 1 hts gX0_putNegative_X0_isInfinite rfl rfl rfl (by decide +kernel) ⟨Nat.le_of_ble_eq_true rfl, Nat.le_of_ble_eq_true rfl⟩) ⟨KW.blind, hP.recv hK rfl ((mu_n ne0_1).trans (hh)), fun U9 hU9 hW9 => ⟨rfl, KW.pre hBs hKK hS hP U9 hU9 hW9⟩⟩ rfl rfl hl.1 rfl (lv_room (Nat.le_of_ble_eq_true rfl)) dX0_putNegative_2 ⟨Nat.le_of_ble_eq_true rfl, Nat.le_of_ble_eq_true rfl⟩) hS (fun r2 u9 H locs hq9 hP hz9 hS => ?_)
  obtain ⟨rfl, hr2⟩ := hq9
  refine lv_if_eq (tgt := 14) hx hb dX0_putNegative_5 (by decide) (fun hc5 => ?_) (fun hc5 => ?_)
  · refine lv_lconst (v := 0) hx hb dX0_putNegative_14 (by decide) ?_
    refine lv_lstore_n (lv' := [(3, .long 0), (0, .ref h), (1, .int (nI to)), (2, .int (nI i))]) hx hb dX0_putNegative_15 rfl hl (by decide) rfl (fun ls hl => ?_)
    refine lv_iconst (v := nI 0) hx hb dX0_putNegative_16 (by decide) ?_
    refine lv_istore (lv' := [(5, .int (nI 0)), (3, .long 0), (0, .ref h), (1, .int (nI to)), (2, .int (nI i))]) hx hb dX0_putNegative_17 hl (by decide) rfl (fun ls hl => ?_)
    exact L19 _ 0 0 0 f (Nat.lt_succ_self _) (by omega) (by omega) (fun h0 => ⟨rfl, rfl⟩) (pi_0 hr2 hc5) _ _ hP hS ls (lv_sub hl [2, 3, 4, 1, 0] rfl)
  · refine lv_aload_n hx hb dX0_putNegative_8 rfl (lv_at hl 0 rfl) ?_
    refine lv_iload_n hx hb dX0_putNegative_9 rfl (lv_at hl 1 rfl) ?_
    refine kc_v (va_runV (As := [.int (nI to)]) (rest := []) ⟨hx, hb, hml, hown, hts⟩ (c_X0_setInfinite l G B (mu μ la (.inl (G.2 0, 158 * k + 158, .inr (.inl f)))) h la k f to ((mu_n ne0_1).trans (hh)) (mu_s _ _ _) (by omega) (by omega)) (cwV 1 hts gX0_putNegative_X0_setInfinite rfl rfl rfl (by decide +kernel) ⟨Nat.le_of_ble_eq_true rfl, Nat.le_of_ble_eq_true rfl⟩) ⟨KW.blind, hP.recv hK rfl ((mu_n ne0_1).trans (hh)), fun U9 hU9 hW9 => ⟨rfl, KW.pre hBs hKK hS hP U9 hU9 hW9⟩⟩ rfl rfl hl.1 rfl (lv_room (Nat.le_of_ble_eq_true rfl)) dX0_putNegative_10 ⟨Nat.le_of_ble_eq_true rfl, Nat.le_of_ble_eq_true rfl⟩) hS (fun u9 H locs hq9 hP hz9 hS => ?_)
    obtain ⟨g10, rfl, hg10⟩ := hq9
    have hP : mw G.1 vwCl B (mu μ la (.inl (G.2 0, 158 * k + 158, .inr (.inl g10)))) _ := mw_eq (mu_u _ _ _ _) hP
    rw [hQ]
    exact W.vret hx hb hr (fun t9 ht9 hW9 => ⟨⟨mu μ la (.inl (G.2 0, 158 * k + 158, .inr (.inl g10))), rfl, (⟨_, rfl, pi_1 hr2 hc5 hg10 (fun h9 => by rw [ng, if_pos h9])⟩), by show mw _ _ _ _ t9.heap; rw [ht9]; exact hP⟩, hS.F ht9⟩) hS.2.2 dX0_putNegative_13

abbrev rm_X0_putHalf : Room := { frames := 1, cells := 0, slots := 0, locals := 22 }
set_option maxHeartbeats 4000000 in
set_option maxRecDepth 100000 in
theorem c_X0_putHalf (l : Launch) (G : GG) (B : Nat) (μ : mp) (h la k : Nat) (f : Nat → Int64) (to i : Nat) (hh : μ h = some (.inr (0, [.int (nI 158), .int (nI 157), .ref la, .int (nI (158 * k))]))) (ha : μ la = some (.inl (G.2 0, 158 * k + 158, .inr (.inl f)))) (hk : k ≤ 1022) (ht : to < 158) (hi : i < 158) : Met l yX0_putHalf wsX0_putHalf rm_X0_putHalf (va_Pc [.ref h, .int (nI to), .int (nI i)] (KW G B μ)) (va_Qv (fun μ2 => ∃ g9 : Nat → Int64, μ2 = mu μ la (.inl (G.2 0, 158 * k + 158, .inr (.inl g9))) ∧ (k = 0 → g9 = vp_updL f to (hf (f i)))) (BB G B) (fun q => B ≤ q)) 0 0 (fun q => B ≤ q) := by
  refine Met.ofW (cc := cX0_putHalf) (maxL := 8) (ret := none) (by decide) rfl ?_
  intro p e s m args below meth c s₁ B9 hml hv
  obtain ⟨hargs, hBs, hP, hKK⟩ := hv
  have hx := B9.exec
  have hb := B9.bytes
  have hr := B9.returns
  have hts := atoms_spec (ws := wsX0_putHalf) B9.pre
  have hown : s.vm.findClass RX0 = some m.cls := findClass_of_methodNamed B9.named
  have hlocks := B9.notSynchronized
  have hK := hKK.k
  have hS : va_S (fun q => B ≤ q) s.heap s.heap [] := va_S.rf
  obtain ⟨Q, hQ⟩ : ∃ Q, Q = MQ below (va_Qv (fun μ2 => ∃ g9 : Nat → Int64, μ2 = mu μ la (.inl (G.2 0, 158 * k + 158, .inr (.inl g9))) ∧ (k = 0 → g9 = vp_updL f to (hf (f i)))) (BB G B) (fun q => B ≤ q)) args s 0 0 (fun q => B ≤ q) := ⟨_, rfl⟩
  rw [← hQ]
  have ne0_1 : h ≠ la := mp_ne hh ha (by simp)
  have in_X0_putHalf_X0 : ∀ w ∈ wsX00, w ∈ wsX0_putHalf := by decide +kernel
  have hP : mw G.1 vwCl B (mu μ la (.inl (G.2 0, 158 * k + 158, .inr (.inl f)))) s.heap := mw_eq (mu_i ha).symm hP
  have L63 : ∀ (N9 : Nat) (a : Int32) (q : Nat) (x : Int64) (g : Nat → Int64) (hN9 : q < N9) (ha4 : a = dn q) (hq : q ≤ k) (hz : k = 0 → g = vp_updL f to (hf (f i))), ∀ (H : Heap) (locs : List Loc), mw G.1 vwCl B (mu μ la (.inl (G.2 0, 158 * k + 158, .inr (.inl g)))) H → va_S (fun q => B ≤ q) s.heap H locs → ∀ ls : Array Slot, lv_has ls 8 [(0, .ref h), (1, .int (nI to)), (2, .int (nI i)), (3, .long x), (5, .int a)] → W p l e rm_X0_putHalf s m args below meth c H locs 0 0 Q (F0 m 63 ls []) := by
    intro N9
    induction N9 with
    | zero => intro a q x g hN9; exact absurd hN9 (Nat.not_lt_zero _)
    | succ N9 ih =>
      intro a q x g hN9 ha4 hq hz H locs hP hS ls hl
      rcases q with _ | q
      · have ha4 : a = -158 := ha4
        subst ha4
        refine lv_iload hx hb dX0_putHalf_63 (lv_at hl 4 rfl) ?_
        refine lv_if_lt (tgt := 114) hx hb dX0_putHalf_65 (by decide) (fun hc65 => ?_) (fun hc65 => ?_)
        · rw [hQ]
          exact W.vret hx hb hr (fun t9 ht9 hW9 => ⟨⟨mu μ la (.inl (G.2 0, 158 * k + 158, .inr (.inl g))), rfl, (⟨_, rfl, hz⟩), by show mw _ _ _ _ t9.heap; rw [ht9]; exact hP⟩, hS.F ht9⟩) hS.2.2 dX0_putHalf_114
        · exact absurd (by decide : (-158 : Int32) < 0) hc65
      · have ha4 : a = nI (158 * q) := ha4
        subst ha4
        refine lv_iload hx hb dX0_putHalf_63 (lv_at hl 4 rfl) ?_
        refine lv_if_lt (tgt := 114) hx hb dX0_putHalf_65 (by decide) (fun hc65 => ?_) (fun hc65 => ?_)
        · exact absurd hc65 (nI_pos (by omega))
        · refine lv_aload_n hx hb dX0_putHalf_68 rfl (lv_at hl 0 rfl) ?_
          refine mw_get (C := RX0) (T := TX0) (N := 4) hx hb hts in_X0_putHalf_X0 hown hK hP ((mu_n ne0_1).trans (hh)) rfl 2 (by decide) (hts (.fieldLink RX0 18 "OctagonDesk$Numbers" "limbs" "[J") (by decide +kernel)) (fun _ h9 => h9) rfl dX0_putHalf_69 ?_
          refine lv_iload hx hb dX0_putHalf_72 (lv_at hl 4 rfl) ?_
          refine lv_iload_n hx hb dX0_putHalf_74 rfl (lv_at hl 2 rfl) ?_
          refine nv_iadd hx hb dX0_putHalf_75 ?_
          refine mw_lald hx hb hK hP 0 (mu_s _ _ _) rfl (by omega) (by omega) dX0_putHalf_76 ?_
          refine lv_lload_n hx hb dX0_putHalf_77 rfl (lv_at hl 3 rfl) ?_
          refine lv_bipush (v := nI 60) hx hb dX0_putHalf_78 (by decide) ?_
          refine lv_lshl (v := x <<< ((nI 60).toInt64 &&& 63)) hx hb dX0_putHalf_80 rfl ?_
          refine lv_ladd hx hb dX0_putHalf_81 ?_
          refine lv_topl (fun v82 ev82 => ?_)
          refine lv_lstore (lv' := [(6, .long v82), (0, .ref h), (1, .int (nI to)), (2, .int (nI i)), (3, .long x), (5, .int (nI (158 * q)))]) hx hb dX0_putHalf_82 hl (by decide) rfl (fun ls hl => ?_)
          refine lv_lload hx hb dX0_putHalf_84 (lv_at hl 0 rfl) ?_
          refine lv_lconst (v := 1) hx hb dX0_putHalf_86 (by decide) ?_
          refine lv_land hx hb dX0_putHalf_87 ?_
          refine lv_topl (fun v88 ev88 => ?_)
          refine lv_lstore_n (lv' := [(3, .long v88), (6, .long v82), (0, .ref h), (1, .int (nI to)), (2, .int (nI i)), (5, .int (nI (158 * q)))]) hx hb dX0_putHalf_88 rfl hl (by decide) rfl (fun ls hl => ?_)
          refine lv_aload_n hx hb dX0_putHalf_89 rfl (lv_at hl 2 rfl) ?_
          refine mw_get (C := RX0) (T := TX0) (N := 4) hx hb hts in_X0_putHalf_X0 hown hK hP ((mu_n ne0_1).trans (hh)) rfl 2 (by decide) (hts (.fieldLink RX0 18 "OctagonDesk$Numbers" "limbs" "[J") (by decide +kernel)) (fun _ h9 => h9) rfl dX0_putHalf_90 ?_
          refine lv_iload hx hb dX0_putHalf_93 (lv_at hl 5 rfl) ?_
          refine lv_iload_n hx hb dX0_putHalf_95 rfl (lv_at hl 3 rfl) ?_
          refine nv_iadd hx hb dX0_putHalf_96 ?_
          refine lv_lload hx hb dX0_putHalf_97 (lv_at hl 1 rfl) ?_
          refine lv_iconst (v := nI 1) hx hb dX0_putHalf_99 (by decide) ?_
          refine lv_lshr (v := v82 >>> ((nI 1).toInt64 &&& 63)) hx hb dX0_putHalf_100 rfl ?_
          refine lv_topl (fun v101 ev101 => ?_)
          refine mw_last hx hb hK hP hS 0 (mu_s _ _ _) rfl (by omega) (by omega) dX0_putHalf_101 (fun H locs hP hS => ?_)
          have hP : mw G.1 vwCl B (mu μ la (.inl (G.2 0, 158 * k + 158, .inr (.inl (vp_updL g ((158 * q) + to) v101))))) _ := mw_eq (mu_u _ _ _ _) hP
          refine lv_iload hx hb dX0_putHalf_102 (lv_at hl 5 rfl) ?_
          refine lv_aload_n hx hb dX0_putHalf_104 rfl (lv_at hl 2 rfl) ?_
          refine mw_get (C := RX0) (T := TX0) (N := 4) hx hb hts in_X0_putHalf_X0 hown hK hP ((mu_n ne0_1).trans (hh)) rfl 0 (by decide) (hts (.fieldLink RX0 15 "OctagonDesk$Numbers" "cells" "I") (by decide +kernel)) (fun _ h9 => h9) rfl dX0_putHalf_105 ?_
          refine lv_isub hx hb dX0_putHalf_108 ?_
          refine lv_topi (fun v109 ev109 => ?_)
          refine lv_istore (lv' := [(5, .int v109), (3, .long v88), (6, .long v82), (0, .ref h), (1, .int (nI to)), (2, .int (nI i))]) hx hb dX0_putHalf_109 hl (by decide) rfl (fun ls hl => ?_)
          refine lv_goto (tgt := 63) hx hb dX0_putHalf_111 (by decide) ?_
          exact ih v109 q v88 (vp_updL g ((158 * q) + to) v101) (by omega) (by rw [ev109]; exact dn_sub _) (by omega) (fun h0 => absurd h0 (by omega)) _ _ hP hS ls (lv_sub hl [3, 4, 5, 1, 0] rfl)
  have hl := lv_entry ([.ref h, .int (nI to), .int (nI i)]) (n := 8) (Nat.le_of_ble_eq_true rfl)
  have he9 : entryFrame m args 8 = entryFrame m ([.ref h, .int (nI to), .int (nI i)] : List Value).toArray 8 := by rw [hargs]
  rw [he9, lg_entry_eq]
  generalize (lg_sl ([.ref h, .int (nI to), .int (nI i)]) ++ List.replicate (8 - (lg_sl ([.ref h, .int (nI to), .int (nI i)])).length) Slot.unset).toArray = ls at hl ⊢
  have hl : lv_has ls 8 [(0, .ref h), (1, .int (nI to)), (2, .int (nI i))] := hl
  refine lv_aload_n hx hb dX0_putHalf_0 rfl (lv_at hl 0 rfl) ?_
  refine lv_iload_n hx hb dX0_putHalf_1 rfl (lv_at hl 2 rfl) ?_
  refine kc_i (va_runV (As := [.int (nI i)]) (rest := []) ⟨hx, hb, hml, hown, hts⟩ (c_X0_isInfinite l G B (mu μ la (.inl (G.2 0, 158 * k + 158, .inr (.inl f)))) h la k f i ((mu_n ne0_1).trans (hh)) (mu_s _ _ _) (by omega) (by omega)) (cwV 1 hts gX0_putHalf_X0_isInfinite rfl rfl rfl (by decide +kernel) ⟨Nat.le_of_ble_eq_true rfl, Nat.le_of_ble_eq_true rfl⟩) ⟨KW.blind, hP.recv hK rfl ((mu_n ne0_1).trans (hh)), fun U9 hU9 hW9 => ⟨rfl, KW.pre hBs hKK hS hP U9 hU9 hW9⟩⟩ rfl rfl hl.1 rfl (lv_room (Nat.le_of_ble_eq_true rfl)) dX0_putHalf_2 ⟨Nat.le_of_ble_eq_true rfl, Nat.le_of_ble_eq_true rfl⟩) hS (fun r2 u9 H locs hq9 hP hz9 hS => ?_)
  obtain ⟨rfl, hr2⟩ := hq9
  refine lv_if_eq (tgt := 14) hx hb dX0_putHalf_5 (by decide) (fun hc5 => ?_) (fun hc5 => ?_)
  · refine lv_aload_n hx hb dX0_putHalf_14 rfl (lv_at hl 0 rfl) ?_
    refine mw_get (C := RX0) (T := TX0) (N := 4) hx hb hts in_X0_putHalf_X0 hown hK hP ((mu_n ne0_1).trans (hh)) rfl 2 (by decide) (hts (.fieldLink RX0 18 "OctagonDesk$Numbers" "limbs" "[J") (by decide +kernel)) (fun _ h9 => h9) rfl dX0_putHalf_15 ?_
    refine lv_aload_n hx hb dX0_putHalf_18 rfl (lv_at hl 0 rfl) ?_
    refine mw_get (C := RX0) (T := TX0) (N := 4) hx hb hts in_X0_putHalf_X0 hown hK hP ((mu_n ne0_1).trans (hh)) rfl 3 (by decide) (hts (.fieldLink RX0 22 "OctagonDesk$Numbers" "top" "I") (by decide +kernel)) (fun _ h9 => h9) rfl dX0_putHalf_19 ?_
    refine lv_iload_n hx hb dX0_putHalf_22 rfl (lv_at hl 2 rfl) ?_
    refine nv_iadd hx hb dX0_putHalf_23 ?_
    refine mw_lald hx hb hK hP 0 (mu_s _ _ _) rfl (by omega) (by omega) dX0_putHalf_24 ?_
    refine lv_lconst (v := 1) hx hb dX0_putHalf_25 (by decide) ?_
    refine lv_land hx hb dX0_putHalf_26 ?_
    refine lv_topl (fun v27 ev27 => ?_)
    refine lv_lstore_n (lv' := [(3, .long v27), (0, .ref h), (1, .int (nI to)), (2, .int (nI i))]) hx hb dX0_putHalf_27 rfl hl (by decide) rfl (fun ls hl => ?_)
    refine lv_aload_n hx hb dX0_putHalf_28 rfl (lv_at hl 1 rfl) ?_
    refine mw_get (C := RX0) (T := TX0) (N := 4) hx hb hts in_X0_putHalf_X0 hown hK hP ((mu_n ne0_1).trans (hh)) rfl 2 (by decide) (hts (.fieldLink RX0 18 "OctagonDesk$Numbers" "limbs" "[J") (by decide +kernel)) (fun _ h9 => h9) rfl dX0_putHalf_29 ?_
    refine lv_aload_n hx hb dX0_putHalf_32 rfl (lv_at hl 1 rfl) ?_
    refine mw_get (C := RX0) (T := TX0) (N := 4) hx hb hts in_X0_putHalf_X0 hown hK hP ((mu_n ne0_1).trans (hh)) rfl 3 (by decide) (hts (.fieldLink RX0 22 "OctagonDesk$Numbers" "top" "I") (by decide +kernel)) (fun _ h9 => h9) rfl dX0_putHalf_33 ?_
    refine lv_iload_n hx hb dX0_putHalf_36 rfl (lv_at hl 2 rfl) ?_
    refine nv_iadd hx hb dX0_putHalf_37 ?_
    refine lv_aload_n hx hb dX0_putHalf_38 rfl (lv_at hl 1 rfl) ?_
    refine mw_get (C := RX0) (T := TX0) (N := 4) hx hb hts in_X0_putHalf_X0 hown hK hP ((mu_n ne0_1).trans (hh)) rfl 2 (by decide) (hts (.fieldLink RX0 18 "OctagonDesk$Numbers" "limbs" "[J") (by decide +kernel)) (fun _ h9 => h9) rfl dX0_putHalf_39 ?_
    refine lv_aload_n hx hb dX0_putHalf_42 rfl (lv_at hl 1 rfl) ?_
    refine mw_get (C := RX0) (T := TX0) (N := 4) hx hb hts in_X0_putHalf_X0 hown hK hP ((mu_n ne0_1).trans (hh)) rfl 3 (by decide) (hts (.fieldLink RX0 22 "OctagonDesk$Numbers" "top" "I") (by decide +kernel)) (fun _ h9 => h9) rfl dX0_putHalf_43 ?_
    refine lv_iload_n hx hb dX0_putHalf_46 rfl (lv_at hl 3 rfl) ?_
    refine nv_iadd hx hb dX0_putHalf_47 ?_
    refine mw_lald hx hb hK hP 0 (mu_s _ _ _) rfl (by omega) (by omega) dX0_putHalf_48 ?_
    refine lv_iconst (v := nI 1) hx hb dX0_putHalf_49 (by decide) ?_
    refine lv_lshr (v := (f ((158 * k) + i)) >>> ((nI 1).toInt64 &&& 63)) hx hb dX0_putHalf_50 rfl ?_
    refine lv_topl (fun v51 ev51 => ?_)
    refine mw_last hx hb hK hP hS 0 (mu_s _ _ _) rfl (by omega) (by omega) dX0_putHalf_51 (fun H locs hP hS => ?_)
    have hP : mw G.1 vwCl B (mu μ la (.inl (G.2 0, 158 * k + 158, .inr (.inl (vp_updL f ((158 * k) + to) v51))))) _ := mw_eq (mu_u _ _ _ _) hP
    refine lv_aload_n hx hb dX0_putHalf_52 rfl (lv_at hl 1 rfl) ?_
    refine mw_get (C := RX0) (T := TX0) (N := 4) hx hb hts in_X0_putHalf_X0 hown hK hP ((mu_n ne0_1).trans (hh)) rfl 3 (by decide) (hts (.fieldLink RX0 22 "OctagonDesk$Numbers" "top" "I") (by decide +kernel)) (fun _ h9 => h9) rfl dX0_putHalf_53 ?_
    refine lv_aload_n hx hb dX0_putHalf_56 rfl (lv_at hl 1 rfl) ?_
    refine mw_get (C := RX0) (T := TX0) (N := 4) hx hb hts in_X0_putHalf_X0 hown hK hP ((mu_n ne0_1).trans (hh)) rfl 0 (by decide) (hts (.fieldLink RX0 15 "OctagonDesk$Numbers" "cells" "I") (by decide +kernel)) (fun _ h9 => h9) rfl dX0_putHalf_57 ?_
    refine lv_isub hx hb dX0_putHalf_60 ?_
    refine lv_topi (fun v61 ev61 => ?_)
    refine lv_istore (lv' := [(5, .int v61), (3, .long v27), (0, .ref h), (1, .int (nI to)), (2, .int (nI i))]) hx hb dX0_putHalf_61 hl (by decide) rfl (fun ls hl => ?_)
    exact L63 _ v61 k v27 (vp_updL f ((158 * k) + to) v51) (Nat.lt_succ_self _) (by rw [ev61]; exact dn_sub _) (by omega) (fun h0 => by subst h0; have h3 : ¬ f i = INF := (by simpa using pi_0 hr2 hc5); rw [ev51, hf, if_neg h3, Nat.mul_zero, Nat.zero_add, Nat.zero_add]) _ _ hP hS ls (lv_sub hl [2, 3, 4, 1, 0] rfl)
  · refine lv_aload_n hx hb dX0_putHalf_8 rfl (lv_at hl 0 rfl) ?_
    refine lv_iload_n hx hb dX0_putHalf_9 rfl (lv_at hl 1 rfl) ?_
    refine kc_v (va_runV (As := [.int (nI to)]) (rest := []) ⟨hx, hb, hml, hown, hts⟩ (c_X0_setInfinite l G B (mu μ la (.inl (G.2 0, 158 * k + 158, .inr (.inl f)))) h la k f to ((mu_n ne0_1).trans (hh)) (mu_s _ _ _) (by omega) (by omega)) (cwV 1 hts gX0_putHalf_X0_setInfinite rfl rfl rfl (by decide +kernel) ⟨Nat.le_of_ble_eq_true rfl, Nat.le_of_ble_eq_true rfl⟩) ⟨KW.blind, hP.recv hK rfl ((mu_n ne0_1).trans (hh)), fun U9 hU9 hW9 => ⟨rfl, KW.pre hBs hKK hS hP U9 hU9 hW9⟩⟩ rfl rfl hl.1 rfl (lv_room (Nat.le_of_ble_eq_true rfl)) dX0_putHalf_10 ⟨Nat.le_of_ble_eq_true rfl, Nat.le_of_ble_eq_true rfl⟩) hS (fun u9 H locs hq9 hP hz9 hS => ?_)
    obtain ⟨g10, rfl, hg10⟩ := hq9
    have hP : mw G.1 vwCl B (mu μ la (.inl (G.2 0, 158 * k + 158, .inr (.inl g10)))) _ := mw_eq (mu_u _ _ _ _) hP
    rw [hQ]
    exact W.vret hx hb hr (fun t9 ht9 hW9 => ⟨⟨mu μ la (.inl (G.2 0, 158 * k + 158, .inr (.inl g10))), rfl, (⟨_, rfl, pi_1 hr2 hc5 hg10 (fun h9 => by rw [hf, if_pos h9])⟩), by show mw _ _ _ _ t9.heap; rw [ht9]; exact hP⟩, hS.F ht9⟩) hS.2.2 dX0_putHalf_13

abbrev rm_X0_putMore : Room := { frames := 1, cells := 0, slots := 0, locals := 22 }
set_option maxHeartbeats 4000000 in
set_option maxRecDepth 100000 in
theorem c_X0_putMore (l : Launch) (G : GG) (B : Nat) (μ : mp) (h la k : Nat) (f : Nat → Int64) (h2 la2 : Nat) (g : Nat → Int64) (to i : Nat) (v : Int64) (hh : μ h = some (.inr (0, [.int (nI 158), .int (nI 157), .ref la, .int (nI (158 * k))]))) (ha : μ la = some (.inl (G.2 0, 158 * k + 158, .inr (.inl f)))) (hh2 : μ h2 = some (.inr (0, [.int (nI 158), .int (nI 157), .ref la2, .int (nI (158 * k))]))) (ha2 : μ la2 = some (.inl (G.2 0, 158 * k + 158, .inr (.inl g)))) (hk : k ≤ 1022) (ht : to < 158) (hi : i < 158) (hne : la ≠ la2) : Met l yX0_putMore wsX0_putMore rm_X0_putMore (va_Pc [.ref h, .int (nI to), .ref h2, .int (nI i), .long v] (KW G B μ)) (va_Qv (fun μ2 => ∃ g9 : Nat → Int64, μ2 = mu μ la (.inl (G.2 0, 158 * k + 158, .inr (.inl g9))) ∧ (k = 0 → g9 = vp_updL f to (if g i = INF then INF else g i + v))) (BB G B) (fun q => B ≤ q)) 0 0 (fun q => B ≤ q) := by
  refine Met.ofW (cc := cX0_putMore) (maxL := 9) (ret := none) (by decide) rfl ?_
  intro p e s m args below meth c s₁ B9 hml hv
  obtain ⟨hargs, hBs, hP, hKK⟩ := hv
  have hx := B9.exec
  have hb := B9.bytes
  have hr := B9.returns
  have hts := atoms_spec (ws := wsX0_putMore) B9.pre
  have hown : s.vm.findClass RX0 = some m.cls := findClass_of_methodNamed B9.named
  have hlocks := B9.notSynchronized
  have hK := hKK.k
  have hS : va_S (fun q => B ≤ q) s.heap s.heap [] := va_S.rf
  obtain ⟨Q, hQ⟩ : ∃ Q, Q = MQ below (va_Qv (fun μ2 => ∃ g9 : Nat → Int64, μ2 = mu μ la (.inl (G.2 0, 158 * k + 158, .inr (.inl g9))) ∧ (k = 0 → g9 = vp_updL f to (if g i = INF then INF else g i + v))) (BB G B) (fun q => B ≤ q)) args s 0 0 (fun q => B ≤ q) := ⟨_, rfl⟩
  rw [← hQ]
  have ne0_1 : h ≠ la := mp_ne hh ha (by simp)
  have ne0_3 : h ≠ la2 := mp_ne hh ha2 (by simp)
  have ne1_2 : la ≠ h2 := mp_ne ha hh2 (by simp)
  have ne2_3 : h2 ≠ la2 := mp_ne hh2 ha2 (by simp)
  have in_X0_putMore_X0 : ∀ w ∈ wsX00, w ∈ wsX0_putMore := by decide +kernel
  have hP : mw G.1 vwCl B (mu μ la (.inl (G.2 0, 158 * k + 158, .inr (.inl f)))) s.heap := mw_eq (mu_i ha).symm hP
  have L21 : ∀ (N9 : Nat) (a : Nat) (q : Nat) (x : Int64) (g1 : Nat → Int64) (hN9 : k - q < N9) (ha4 : a = 158 * q) (hq : q ≤ k) (hz : k = 0 → g1 = f ∧ x = v) (hn4 : ¬ g (158 * k + i) = INF), ∀ (H : Heap) (locs : List Loc), mw G.1 vwCl B (mu μ la (.inl (G.2 0, 158 * k + 158, .inr (.inl g1)))) H → va_S (fun q => B ≤ q) s.heap H locs → ∀ ls : Array Slot, lv_has ls 9 [(0, .ref h), (1, .int (nI to)), (2, .ref h2), (3, .int (nI i)), (6, .long x), (8, .int (nI a))] → W p l e rm_X0_putMore s m args below meth c H locs 0 0 Q (F0 m 21 ls []) := by
    intro N9
    induction N9 with
    | zero => intro a q x g1 hN9; exact absurd hN9 (Nat.not_lt_zero _)
    | succ N9 ih =>
      intro a q x g1 hN9 ha4 hq hz hn4 H locs hP hS ls hl
      refine lv_iload hx hb dX0_putMore_21 (lv_at hl 5 rfl) ?_
      refine lv_aload_n hx hb dX0_putMore_23 rfl (lv_at hl 0 rfl) ?_
      refine mw_get (C := RX0) (T := TX0) (N := 4) hx hb hts in_X0_putMore_X0 hown hK hP ((mu_n ne0_1).trans (hh)) rfl 3 (by decide) (hts (.fieldLink RX0 22 "OctagonDesk$Numbers" "top" "I") (by decide +kernel)) (fun _ h9 => h9) rfl dX0_putMore_24 ?_
      refine nv_icmp_ge (tgt := 78) hx hb (by omega) (by omega) dX0_putMore_27 (by decide) (fun hc27 => ?_) (fun hc27 => ?_)
      · refine lv_aload_n hx hb dX0_putMore_78 rfl (lv_at hl 0 rfl) ?_
        refine mw_get (C := RX0) (T := TX0) (N := 4) hx hb hts in_X0_putMore_X0 hown hK hP ((mu_n ne0_1).trans (hh)) rfl 2 (by decide) (hts (.fieldLink RX0 18 "OctagonDesk$Numbers" "limbs" "[J") (by decide +kernel)) (fun _ h9 => h9) rfl dX0_putMore_79 ?_
        refine lv_aload_n hx hb dX0_putMore_82 rfl (lv_at hl 0 rfl) ?_
        refine mw_get (C := RX0) (T := TX0) (N := 4) hx hb hts in_X0_putMore_X0 hown hK hP ((mu_n ne0_1).trans (hh)) rfl 3 (by decide) (hts (.fieldLink RX0 22 "OctagonDesk$Numbers" "top" "I") (by decide +kernel)) (fun _ h9 => h9) rfl dX0_putMore_83 ?_
        refine lv_iload_n hx hb dX0_putMore_86 rfl (lv_at hl 1 rfl) ?_
        refine nv_iadd hx hb dX0_putMore_87 ?_
        refine lv_aload_n hx hb dX0_putMore_88 rfl (lv_at hl 2 rfl) ?_
        refine mw_get (C := RX0) (T := TX0) (N := 4) hx hb hts in_X0_putMore_X0 hown hK hP ((mu_n ((Ne.symm ne1_2))).trans (hh2)) rfl 2 (by decide) (hts (.fieldLink RX0 18 "OctagonDesk$Numbers" "limbs" "[J") (by decide +kernel)) (fun _ h9 => h9) rfl dX0_putMore_89 ?_
        refine lv_aload_n hx hb dX0_putMore_92 rfl (lv_at hl 0 rfl) ?_
        refine mw_get (C := RX0) (T := TX0) (N := 4) hx hb hts in_X0_putMore_X0 hown hK hP ((mu_n ne0_1).trans (hh)) rfl 3 (by decide) (hts (.fieldLink RX0 22 "OctagonDesk$Numbers" "top" "I") (by decide +kernel)) (fun _ h9 => h9) rfl dX0_putMore_93 ?_
        refine lv_iload_n hx hb dX0_putMore_96 rfl (lv_at hl 3 rfl) ?_
        refine nv_iadd hx hb dX0_putMore_97 ?_
        refine mw_lald hx hb hK hP 0 ((mu_n ((Ne.symm hne))).trans (ha2)) rfl (by omega) (by omega) dX0_putMore_98 ?_
        refine lv_lload hx hb dX0_putMore_99 (lv_at hl 4 rfl) ?_
        refine lv_ladd hx hb dX0_putMore_101 ?_
        refine lv_topl (fun v102 ev102 => ?_)
        refine mw_last hx hb hK hP hS 0 (mu_s _ _ _) rfl (by omega) (by omega) dX0_putMore_102 (fun H locs hP hS => ?_)
        have hP : mw G.1 vwCl B (mu μ la (.inl (G.2 0, 158 * k + 158, .inr (.inl (vp_updL g1 ((158 * k) + to) v102))))) _ := mw_eq (mu_u _ _ _ _) hP
        rw [hQ]
        exact W.vret hx hb hr (fun t9 ht9 hW9 => ⟨⟨mu μ la (.inl (G.2 0, 158 * k + 158, .inr (.inl (vp_updL g1 ((158 * k) + to) v102)))), rfl, (⟨_, rfl, fun h0 => by obtain ⟨h1, h2⟩ := hz h0; subst h0; subst h1; subst h2; have h3 : ¬ g i = INF := (by simpa using hn4); rw [ev102, if_neg h3, Nat.mul_zero, Nat.zero_add, Nat.zero_add]⟩), by show mw _ _ _ _ t9.heap; rw [ht9]; exact hP⟩, hS.F ht9⟩) hS.2.2 dX0_putMore_103
      · refine lv_lload hx hb dX0_putMore_30 (lv_at hl 4 rfl) ?_
        refine lv_aload_n hx hb dX0_putMore_32 rfl (lv_at hl 2 rfl) ?_
        refine mw_get (C := RX0) (T := TX0) (N := 4) hx hb hts in_X0_putMore_X0 hown hK hP ((mu_n ((Ne.symm ne1_2))).trans (hh2)) rfl 2 (by decide) (hts (.fieldLink RX0 18 "OctagonDesk$Numbers" "limbs" "[J") (by decide +kernel)) (fun _ h9 => h9) rfl dX0_putMore_33 ?_
        refine lv_iload hx hb dX0_putMore_36 (lv_at hl 5 rfl) ?_
        refine lv_iload_n hx hb dX0_putMore_38 rfl (lv_at hl 3 rfl) ?_
        refine nv_iadd hx hb dX0_putMore_39 ?_
        refine mw_lald hx hb hK hP 0 ((mu_n ((Ne.symm hne))).trans (ha2)) rfl (by omega) (by omega) dX0_putMore_40 ?_
        refine lv_ladd hx hb dX0_putMore_41 ?_
        refine lv_topl (fun v42 ev42 => ?_)
        refine lv_lstore (lv' := [(6, .long v42), (0, .ref h), (1, .int (nI to)), (2, .ref h2), (3, .int (nI i)), (8, .int (nI a))]) hx hb dX0_putMore_42 hl (by decide) rfl (fun ls hl => ?_)
        refine lv_aload_n hx hb dX0_putMore_44 rfl (lv_at hl 1 rfl) ?_
        refine mw_get (C := RX0) (T := TX0) (N := 4) hx hb hts in_X0_putMore_X0 hown hK hP ((mu_n ne0_1).trans (hh)) rfl 2 (by decide) (hts (.fieldLink RX0 18 "OctagonDesk$Numbers" "limbs" "[J") (by decide +kernel)) (fun _ h9 => h9) rfl dX0_putMore_45 ?_
        refine lv_iload hx hb dX0_putMore_48 (lv_at hl 5 rfl) ?_
        refine lv_iload_n hx hb dX0_putMore_50 rfl (lv_at hl 2 rfl) ?_
        refine nv_iadd hx hb dX0_putMore_51 ?_
        refine lv_lload hx hb dX0_putMore_52 (lv_at hl 0 rfl) ?_
        refine lv_ldc2 (v := (1152921504606846975)) hx hb hown (hts (.constantLong RX0 39 (1152921504606846975)) (by decide +kernel)) dX0_putMore_54 ?_
        refine lv_land hx hb dX0_putMore_57 ?_
        refine lv_topl (fun v58 ev58 => ?_)
        refine mw_last hx hb hK hP hS 0 (mu_s _ _ _) rfl (by omega) (by omega) dX0_putMore_58 (fun H locs hP hS => ?_)
        have hP : mw G.1 vwCl B (mu μ la (.inl (G.2 0, 158 * k + 158, .inr (.inl (vp_updL g1 (a + to) v58))))) _ := mw_eq (mu_u _ _ _ _) hP
        refine lv_lload hx hb dX0_putMore_59 (lv_at hl 0 rfl) ?_
        refine lv_bipush (v := nI 60) hx hb dX0_putMore_61 (by decide) ?_
        refine lv_lshr (v := v42 >>> ((nI 60).toInt64 &&& 63)) hx hb dX0_putMore_63 rfl ?_
        refine lv_topl (fun v64 ev64 => ?_)
        refine lv_lstore (lv' := [(6, .long v64), (0, .ref h), (1, .int (nI to)), (2, .ref h2), (3, .int (nI i)), (8, .int (nI a))]) hx hb dX0_putMore_64 hl (by decide) rfl (fun ls hl => ?_)
        refine lv_iload hx hb dX0_putMore_66 (lv_at hl 5 rfl) ?_
        refine lv_aload_n hx hb dX0_putMore_68 rfl (lv_at hl 1 rfl) ?_
        refine mw_get (C := RX0) (T := TX0) (N := 4) hx hb hts in_X0_putMore_X0 hown hK hP ((mu_n ne0_1).trans (hh)) rfl 0 (by decide) (hts (.fieldLink RX0 15 "OctagonDesk$Numbers" "cells" "I") (by decide +kernel)) (fun _ h9 => h9) rfl dX0_putMore_69 ?_
        refine nv_iadd hx hb dX0_putMore_72 ?_
        refine lv_istore (lv' := [(8, .int (nI (a + 158))), (6, .long v64), (0, .ref h), (1, .int (nI to)), (2, .ref h2), (3, .int (nI i))]) hx hb dX0_putMore_73 hl (by decide) rfl (fun ls hl => ?_)
        refine lv_goto (tgt := 21) hx hb dX0_putMore_75 (by decide) ?_
        exact ih (a + 158) (q + 1) v64 (vp_updL g1 (a + to) v58) (by omega) (by omega) (by omega) (fun h0 => absurd h0 (by omega)) (hn4) _ _ hP hS ls (lv_sub hl [2, 3, 4, 5, 1, 0] rfl)
  have hl := lv_entry ([.ref h, .int (nI to), .ref h2, .int (nI i), .long v]) (n := 9) (Nat.le_of_ble_eq_true rfl)
  have he9 : entryFrame m args 9 = entryFrame m ([.ref h, .int (nI to), .ref h2, .int (nI i), .long v] : List Value).toArray 9 := by rw [hargs]
  rw [he9, lg_entry_eq]
  generalize (lg_sl ([.ref h, .int (nI to), .ref h2, .int (nI i), .long v]) ++ List.replicate (9 - (lg_sl ([.ref h, .int (nI to), .ref h2, .int (nI i), .long v])).length) Slot.unset).toArray = ls at hl ⊢
  have hl : lv_has ls 9 [(0, .ref h), (1, .int (nI to)), (2, .ref h2), (3, .int (nI i)), (4, .long v)] := hl
  refine lv_aload_n hx hb dX0_putMore_0 rfl (lv_at hl 2 rfl) ?_
  refine lv_iload_n hx hb dX0_putMore_1 rfl (lv_at hl 3 rfl) ?_
  refine kc_i (va_runV (As := [.int (nI i)]) (rest := []) ⟨hx, hb, hml, hown, hts⟩ (c_X0_isInfinite l G B (mu μ la (.inl (G.2 0, 158 * k + 158, .inr (.inl f)))) h2 la2 k g i ((mu_n ((Ne.symm ne1_2))).trans (hh2)) ((mu_n ((Ne.symm hne))).trans (ha2)) (by omega) (by omega)) (cwV 1 hts gX0_putMore_X0_isInfinite rfl rfl rfl (by decide +kernel) ⟨Nat.le_of_ble_eq_true rfl, Nat.le_of_ble_eq_true rfl⟩) ⟨KW.blind, hP.recv hK rfl ((mu_n ((Ne.symm ne1_2))).trans (hh2)), fun U9 hU9 hW9 => ⟨rfl, KW.pre hBs hKK hS hP U9 hU9 hW9⟩⟩ rfl rfl hl.1 rfl (lv_room (Nat.le_of_ble_eq_true rfl)) dX0_putMore_2 ⟨Nat.le_of_ble_eq_true rfl, Nat.le_of_ble_eq_true rfl⟩) hS (fun r2 u9 H locs hq9 hP hz9 hS => ?_)
  obtain ⟨rfl, hr2⟩ := hq9
  refine lv_if_eq (tgt := 14) hx hb dX0_putMore_5 (by decide) (fun hc5 => ?_) (fun hc5 => ?_)
  · refine lv_lload hx hb dX0_putMore_14 (lv_at hl 4 rfl) ?_
    refine lv_lstore (lv' := [(6, .long v), (0, .ref h), (1, .int (nI to)), (2, .ref h2), (3, .int (nI i)), (4, .long v)]) hx hb dX0_putMore_16 hl (by decide) rfl (fun ls hl => ?_)
    refine lv_iconst (v := nI 0) hx hb dX0_putMore_18 (by decide) ?_
    refine lv_istore (lv' := [(8, .int (nI 0)), (6, .long v), (0, .ref h), (1, .int (nI to)), (2, .ref h2), (3, .int (nI i)), (4, .long v)]) hx hb dX0_putMore_19 hl (by decide) rfl (fun ls hl => ?_)
    exact L21 _ 0 0 v f (Nat.lt_succ_self _) (by omega) (by omega) (fun h0 => ⟨rfl, rfl⟩) (pi_0 hr2 hc5) _ _ hP hS ls (lv_sub hl [2, 3, 4, 5, 1, 0] rfl)
  · refine lv_aload_n hx hb dX0_putMore_8 rfl (lv_at hl 0 rfl) ?_
    refine lv_iload_n hx hb dX0_putMore_9 rfl (lv_at hl 1 rfl) ?_
    refine kc_v (va_runV (As := [.int (nI to)]) (rest := []) ⟨hx, hb, hml, hown, hts⟩ (c_X0_setInfinite l G B (mu μ la (.inl (G.2 0, 158 * k + 158, .inr (.inl f)))) h la k f to ((mu_n ne0_1).trans (hh)) (mu_s _ _ _) (by omega) (by omega)) (cwV 1 hts gX0_putMore_X0_setInfinite rfl rfl rfl (by decide +kernel) ⟨Nat.le_of_ble_eq_true rfl, Nat.le_of_ble_eq_true rfl⟩) ⟨KW.blind, hP.recv hK rfl ((mu_n ne0_1).trans (hh)), fun U9 hU9 hW9 => ⟨rfl, KW.pre hBs hKK hS hP U9 hU9 hW9⟩⟩ rfl rfl hl.1 rfl (lv_room (Nat.le_of_ble_eq_true rfl)) dX0_putMore_10 ⟨Nat.le_of_ble_eq_true rfl, Nat.le_of_ble_eq_true rfl⟩) hS (fun u9 H locs hq9 hP hz9 hS => ?_)
    obtain ⟨g10, rfl, hg10⟩ := hq9
    have hP : mw G.1 vwCl B (mu μ la (.inl (G.2 0, 158 * k + 158, .inr (.inl g10)))) _ := mw_eq (mu_u _ _ _ _) hP
    rw [hQ]
    exact W.vret hx hb hr (fun t9 ht9 hW9 => ⟨⟨mu μ la (.inl (G.2 0, 158 * k + 158, .inr (.inl g10))), rfl, (⟨_, rfl, pi_1 hr2 hc5 hg10 (fun h9 => if_pos h9)⟩), by show mw _ _ _ _ t9.heap; rw [ht9]; exact hP⟩, hS.F ht9⟩) hS.2.2 dX0_putMore_13

abbrev rm_X0_nearestLong : Room := { frames := 0, cells := 0, slots := 0, locals := 0 }
set_option maxHeartbeats 4000000 in
set_option maxRecDepth 100000 in
theorem c_X0_nearestLong (l : Launch) (G : GG) (B : Nat) (μ : mp) (h la k : Nat) (f : Nat → Int64) (i : Nat) (hh : μ h = some (.inr (0, [.int (nI 158), .int (nI 157), .ref la, .int (nI (158 * k))]))) (ha : μ la = some (.inl (G.2 0, 158 * k + 158, .inr (.inl f)))) (hk : k ≤ 1022) (hi : i < 158) : Met l yX0_nearestLong wsX0_nearestLong rm_X0_nearestLong (va_Pc [.ref h, .int (nI i)] (KW G B μ)) (va_Ql (fun r μ2 => μ2 = μ ∧ (k = 0 → r = f i)) (BB G B) (fun q => B ≤ q)) 0 0 (fun q => B ≤ q) := by
  refine Met.ofW (cc := cX0_nearestLong) (maxL := 5) (ret := (some .long)) (by decide) rfl ?_
  intro p e s m args below meth c s₁ B9 hml hv
  obtain ⟨hargs, hBs, hP, hKK⟩ := hv
  have hx := B9.exec
  have hb := B9.bytes
  have hr := B9.returns
  have hts := atoms_spec (ws := wsX0_nearestLong) B9.pre
  have hown : s.vm.findClass RX0 = some m.cls := findClass_of_methodNamed B9.named
  have hlocks := B9.notSynchronized
  have hK := hKK.k
  have hS : va_S (fun q => B ≤ q) s.heap s.heap [] := va_S.rf
  obtain ⟨Q, hQ⟩ : ∃ Q, Q = MQ below (va_Ql (fun r μ2 => μ2 = μ ∧ (k = 0 → r = f i)) (BB G B) (fun q => B ≤ q)) args s 0 0 (fun q => B ≤ q) := ⟨_, rfl⟩
  rw [← hQ]
  have ne0_1 : h ≠ la := mp_ne hh ha (by simp)
  have in_X0_nearestLong_X0 : ∀ w ∈ wsX00, w ∈ wsX0_nearestLong := by decide +kernel
  have L35 : ∀ (N9 : Nat) (a : Int32) (q : Nat) (x : Int64) (hN9 : q < N9) (ha4 : a = dn q) (hq : q ≤ k) (hz : k = 0 → x = f i), ∀ (H : Heap) (locs : List Loc), mw G.1 vwCl B (μ) H → va_S (fun q => B ≤ q) s.heap H locs → ∀ ls : Array Slot, lv_has ls 5 [(0, .ref h), (1, .int (nI i)), (2, .long x), (4, .int a)] → W p l e rm_X0_nearestLong s m args below meth c H locs 0 0 Q (F0 m 35 ls []) := by
    intro N9
    induction N9 with
    | zero => intro a q x hN9; exact absurd hN9 (Nat.not_lt_zero _)
    | succ N9 ih =>
      intro a q x hN9 ha4 hq hz H locs hP hS ls hl
      rcases q with _ | q
      · have ha4 : a = -158 := ha4
        subst ha4
        refine lv_iload hx hb dX0_nearestLong_35 (lv_at hl 3 rfl) ?_
        refine lv_if_lt (tgt := 91) hx hb dX0_nearestLong_37 (by decide) (fun hc37 => ?_) (fun hc37 => ?_)
        · refine lv_lload_n hx hb dX0_nearestLong_91 rfl (lv_at hl 2 rfl) ?_
          rw [hQ]
          exact W.lret (v := x) hx hb hr (fun t9 ht9 hW9 => ⟨⟨x, μ, rfl, (⟨rfl, hz⟩), by show mw _ _ _ _ t9.heap; rw [ht9]; exact hP⟩, hS.F ht9⟩) hS.2.2 dX0_nearestLong_92
        · exact absurd (by decide : (-158 : Int32) < 0) hc37
      · have ha4 : a = nI (158 * q) := ha4
        subst ha4
        refine lv_iload hx hb dX0_nearestLong_35 (lv_at hl 3 rfl) ?_
        refine lv_if_lt (tgt := 91) hx hb dX0_nearestLong_37 (by decide) (fun hc37 => ?_) (fun hc37 => ?_)
        · exact absurd hc37 (nI_pos (by omega))
        · refine lv_lload_n hx hb dX0_nearestLong_40 rfl (lv_at hl 2 rfl) ?_
          refine lv_ldc2 (v := (7)) hx hb hown (hts (.constantLong RX0 27 (7)) (by decide +kernel)) dX0_nearestLong_41 ?_
          refine nl_if_le (tgt := 52) hx hb dX0_nearestLong_44 dX0_nearestLong_45 (by decide) (fun hc44 => ?_) (fun hc44 => ?_)
          · refine lv_lload_n hx hb dX0_nearestLong_52 rfl (lv_at hl 2 rfl) ?_
            refine lv_ldc2 (v := (-8)) hx hb hown (hts (.constantLong RX0 29 (-8)) (by decide +kernel)) dX0_nearestLong_53 ?_
            refine nl_if_ge (tgt := 64) hx hb dX0_nearestLong_56 dX0_nearestLong_57 (by decide) (fun hc56 => ?_) (fun hc56 => ?_)
            · refine lv_lload_n hx hb dX0_nearestLong_64 rfl (lv_at hl 2 rfl) ?_
              refine lv_bipush (v := nI 60) hx hb dX0_nearestLong_65 (by decide) ?_
              refine lv_lshl (v := x <<< ((nI 60).toInt64 &&& 63)) hx hb dX0_nearestLong_67 rfl ?_
              refine lv_aload_n hx hb dX0_nearestLong_68 rfl (lv_at hl 0 rfl) ?_
              refine mw_get (C := RX0) (T := TX0) (N := 4) hx hb hts in_X0_nearestLong_X0 hown hK hP (hh) rfl 2 (by decide) (hts (.fieldLink RX0 18 "OctagonDesk$Numbers" "limbs" "[J") (by decide +kernel)) (fun _ h9 => h9) rfl dX0_nearestLong_69 ?_
              refine lv_iload hx hb dX0_nearestLong_72 (lv_at hl 3 rfl) ?_
              refine lv_iload_n hx hb dX0_nearestLong_74 rfl (lv_at hl 1 rfl) ?_
              refine nv_iadd hx hb dX0_nearestLong_75 ?_
              refine mw_lald hx hb hK hP 0 (ha) rfl (by omega) (by omega) dX0_nearestLong_76 ?_
              refine lv_ladd hx hb dX0_nearestLong_77 ?_
              refine lv_topl (fun v78 ev78 => ?_)
              refine lv_lstore_n (lv' := [(2, .long v78), (0, .ref h), (1, .int (nI i)), (4, .int (nI (158 * q)))]) hx hb dX0_nearestLong_78 rfl hl (by decide) rfl (fun ls hl => ?_)
              refine lv_iload hx hb dX0_nearestLong_79 (lv_at hl 3 rfl) ?_
              refine lv_aload_n hx hb dX0_nearestLong_81 rfl (lv_at hl 1 rfl) ?_
              refine mw_get (C := RX0) (T := TX0) (N := 4) hx hb hts in_X0_nearestLong_X0 hown hK hP (hh) rfl 0 (by decide) (hts (.fieldLink RX0 15 "OctagonDesk$Numbers" "cells" "I") (by decide +kernel)) (fun _ h9 => h9) rfl dX0_nearestLong_82 ?_
              refine lv_isub hx hb dX0_nearestLong_85 ?_
              refine lv_topi (fun v86 ev86 => ?_)
              refine lv_istore (lv' := [(4, .int v86), (2, .long v78), (0, .ref h), (1, .int (nI i))]) hx hb dX0_nearestLong_86 hl (by decide) rfl (fun ls hl => ?_)
              refine lv_goto (tgt := 35) hx hb dX0_nearestLong_88 (by decide) ?_
              exact ih v86 q v78 (by omega) (by rw [ev86]; exact dn_sub _) (by omega) (fun h0 => absurd h0 (by omega)) _ _ hP hS ls (lv_sub hl [2, 3, 1, 0] rfl)
            · refine lv_ldc2 (v := (-9223372036854775808)) hx hb hown (hts (.constantLong RX0 31 (-9223372036854775808)) (by decide +kernel)) dX0_nearestLong_60 ?_
              rw [hQ]
              exact W.lret (v := (-9223372036854775808)) hx hb hr (fun t9 ht9 hW9 => ⟨⟨(-9223372036854775808), μ, rfl, (⟨rfl, fun h0 => absurd h0 (by omega)⟩), by show mw _ _ _ _ t9.heap; rw [ht9]; exact hP⟩, hS.F ht9⟩) hS.2.2 dX0_nearestLong_63
          · refine lv_ldc2 (v := (9223372036854775807)) hx hb hown (hts (.constantLong RX0 25 (9223372036854775807)) (by decide +kernel)) dX0_nearestLong_48 ?_
            rw [hQ]
            exact W.lret (v := 9223372036854775807) hx hb hr (fun t9 ht9 hW9 => ⟨⟨9223372036854775807, μ, rfl, (⟨rfl, fun h0 => absurd h0 (by omega)⟩), by show mw _ _ _ _ t9.heap; rw [ht9]; exact hP⟩, hS.F ht9⟩) hS.2.2 dX0_nearestLong_51
  have hl := lv_entry ([.ref h, .int (nI i)]) (n := 5) (Nat.le_of_ble_eq_true rfl)
  have he9 : entryFrame m args 5 = entryFrame m ([.ref h, .int (nI i)] : List Value).toArray 5 := by rw [hargs]
  rw [he9, lg_entry_eq]
  generalize (lg_sl ([.ref h, .int (nI i)]) ++ List.replicate (5 - (lg_sl ([.ref h, .int (nI i)])).length) Slot.unset).toArray = ls at hl ⊢
  have hl : lv_has ls 5 [(0, .ref h), (1, .int (nI i))] := hl
  refine lv_aload_n hx hb dX0_nearestLong_0 rfl (lv_at hl 0 rfl) ?_
  refine mw_get (C := RX0) (T := TX0) (N := 4) hx hb hts in_X0_nearestLong_X0 hown hK hP (hh) rfl 2 (by decide) (hts (.fieldLink RX0 18 "OctagonDesk$Numbers" "limbs" "[J") (by decide +kernel)) (fun _ h9 => h9) rfl dX0_nearestLong_1 ?_
  refine lv_aload_n hx hb dX0_nearestLong_4 rfl (lv_at hl 0 rfl) ?_
  refine mw_get (C := RX0) (T := TX0) (N := 4) hx hb hts in_X0_nearestLong_X0 hown hK hP (hh) rfl 3 (by decide) (hts (.fieldLink RX0 22 "OctagonDesk$Numbers" "top" "I") (by decide +kernel)) (fun _ h9 => h9) rfl dX0_nearestLong_5 ?_
  refine lv_iload_n hx hb dX0_nearestLong_8 rfl (lv_at hl 1 rfl) ?_
  refine nv_iadd hx hb dX0_nearestLong_9 ?_
  refine mw_lald hx hb hK hP 0 (ha) rfl (by omega) (by omega) dX0_nearestLong_10 ?_
  refine lv_topl (fun v11 ev11 => ?_)
  refine lv_lstore_n (lv' := [(2, .long v11), (0, .ref h), (1, .int (nI i))]) hx hb dX0_nearestLong_11 rfl hl (by decide) rfl (fun ls hl => ?_)
  refine lv_lload_n hx hb dX0_nearestLong_12 rfl (lv_at hl 0 rfl) ?_
  refine lv_ldc2 (v := (9223372036854775807)) hx hb hown (hts (.constantLong RX0 25 (9223372036854775807)) (by decide +kernel)) dX0_nearestLong_13 ?_
  refine nl_if_ne (tgt := 24) hx hb dX0_nearestLong_16 dX0_nearestLong_17 (by decide) (fun hc16 => ?_) (fun hc16 => ?_)
  · refine lv_aload_n hx hb dX0_nearestLong_24 rfl (lv_at hl 1 rfl) ?_
    refine mw_get (C := RX0) (T := TX0) (N := 4) hx hb hts in_X0_nearestLong_X0 hown hK hP (hh) rfl 3 (by decide) (hts (.fieldLink RX0 22 "OctagonDesk$Numbers" "top" "I") (by decide +kernel)) (fun _ h9 => h9) rfl dX0_nearestLong_25 ?_
    refine lv_aload_n hx hb dX0_nearestLong_28 rfl (lv_at hl 1 rfl) ?_
    refine mw_get (C := RX0) (T := TX0) (N := 4) hx hb hts in_X0_nearestLong_X0 hown hK hP (hh) rfl 0 (by decide) (hts (.fieldLink RX0 15 "OctagonDesk$Numbers" "cells" "I") (by decide +kernel)) (fun _ h9 => h9) rfl dX0_nearestLong_29 ?_
    refine lv_isub hx hb dX0_nearestLong_32 ?_
    refine lv_topi (fun v33 ev33 => ?_)
    refine lv_istore (lv' := [(4, .int v33), (2, .long v11), (0, .ref h), (1, .int (nI i))]) hx hb dX0_nearestLong_33 hl (by decide) rfl (fun ls hl => ?_)
    exact L35 _ v33 k v11 (Nat.lt_succ_self _) (by rw [ev33]; exact dn_sub _) (by omega) (fun h0 => by subst h0; rw [ev11]; simp) _ _ hP hS ls (lv_sub hl [2, 3, 1, 0] rfl)
  · refine lv_ldc2 (v := (9223372036854775807)) hx hb hown (hts (.constantLong RX0 25 (9223372036854775807)) (by decide +kernel)) dX0_nearestLong_20 ?_
    rw [hQ]
    exact W.lret (v := 9223372036854775807) hx hb hr (fun t9 ht9 hW9 => ⟨⟨9223372036854775807, μ, rfl, (⟨rfl, fun h0 => by subst h0; rw [ev11] at hc16; simpa using hc16.symm⟩), by show mw _ _ _ _ t9.heap; rw [ht9]; exact hP⟩, hS.F ht9⟩) hS.2.2 dX0_nearestLong_23

abbrev rm_X0_isCrowded : Room := { frames := 0, cells := 0, slots := 0, locals := 0 }
set_option maxHeartbeats 4000000 in
set_option maxRecDepth 100000 in
theorem c_X0_isCrowded (l : Launch) (G : GG) (B : Nat) (μ : mp) (h la k : Nat) (f : Nat → Int64) (hh : μ h = some (.inr (0, [.int (nI 158), .int (nI 157), .ref la, .int (nI (158 * k))]))) (ha : μ la = some (.inl (G.2 0, 158 * k + 158, .inr (.inl f)))) (hk : k ≤ 1022) : Met l yX0_isCrowded wsX0_isCrowded rm_X0_isCrowded (va_Pc [.ref h] (KW G B μ)) (va_Qi (fun r μ2 => μ2 = μ ∧ (r = 0 ∨ r = 1) ∧ ((k = 0 ∧ ∀ c9 < 158, f c9 = INF ∨ (-18014398509481984 ≤ f c9 ∧ f c9 < 18014398509481984)) → r = 0)) (BB G B) (fun q => B ≤ q)) 0 0 (fun q => B ≤ q) := by
  refine Met.ofW (cc := cX0_isCrowded) (maxL := 4) (ret := (some .boolean)) (by decide) rfl ?_
  intro p e s m args below meth c s₁ B9 hml hv
  obtain ⟨hargs, hBs, hP, hKK⟩ := hv
  have hx := B9.exec
  have hb := B9.bytes
  have hr := B9.returns
  have hts := atoms_spec (ws := wsX0_isCrowded) B9.pre
  have hown : s.vm.findClass RX0 = some m.cls := findClass_of_methodNamed B9.named
  have hlocks := B9.notSynchronized
  have hK := hKK.k
  have hS : va_S (fun q => B ≤ q) s.heap s.heap [] := va_S.rf
  obtain ⟨Q, hQ⟩ : ∃ Q, Q = MQ below (va_Qi (fun r μ2 => μ2 = μ ∧ (r = 0 ∨ r = 1) ∧ ((k = 0 ∧ ∀ c9 < 158, f c9 = INF ∨ (-18014398509481984 ≤ f c9 ∧ f c9 < 18014398509481984)) → r = 0)) (BB G B) (fun q => B ≤ q)) args s 0 0 (fun q => B ≤ q) := ⟨_, rfl⟩
  rw [← hQ]
  have ne0_1 : h ≠ la := mp_ne hh ha (by simp)
  have in_X0_isCrowded_X0 : ∀ w ∈ wsX00, w ∈ wsX0_isCrowded := by decide +kernel
  have L2 : ∀ (N9 : Nat) (q : Nat) (hN9 : 158 - q < N9) (hq : q ≤ 158), ∀ (H : Heap) (locs : List Loc), mw G.1 vwCl B (μ) H → va_S (fun q => B ≤ q) s.heap H locs → ∀ ls : Array Slot, lv_has ls 4 [(0, .ref h), (1, .int (nI q))] → W p l e rm_X0_isCrowded s m args below meth c H locs 0 0 Q (F0 m 2 ls []) := by
    intro N9
    induction N9 with
    | zero => intro q hN9; exact absurd hN9 (Nat.not_lt_zero _)
    | succ N9 ih =>
      intro q hN9 hq H locs hP hS ls hl
      refine lv_iload_n hx hb dX0_isCrowded_2 rfl (lv_at hl 1 rfl) ?_
      refine lv_aload_n hx hb dX0_isCrowded_3 rfl (lv_at hl 0 rfl) ?_
      refine mw_get (C := RX0) (T := TX0) (N := 4) hx hb hts in_X0_isCrowded_X0 hown hK hP (hh) rfl 0 (by decide) (hts (.fieldLink RX0 15 "OctagonDesk$Numbers" "cells" "I") (by decide +kernel)) (fun _ h9 => h9) rfl dX0_isCrowded_4 ?_
      refine nv_icmp_ge (tgt := 54) hx hb (by omega) (by omega) dX0_isCrowded_7 (by decide) (fun hc7 => ?_) (fun hc7 => ?_)
      · refine lv_iconst (v := nI 0) hx hb dX0_isCrowded_54 (by decide) ?_
        rw [hQ]
        exact W.zret (v := nI 0) (ty := .boolean) hx hb hr (by first | rfl | decide) (fun t9 ht9 hW9 => ⟨⟨nI 0, μ, rfl, (⟨rfl, Or.inl rfl, fun _ => rfl⟩), by show mw _ _ _ _ t9.heap; rw [ht9]; exact hP⟩, hS.F ht9⟩) hS.2.2 dX0_isCrowded_55
      · refine lv_aload_n hx hb dX0_isCrowded_10 rfl (lv_at hl 0 rfl) ?_
        refine mw_get (C := RX0) (T := TX0) (N := 4) hx hb hts in_X0_isCrowded_X0 hown hK hP (hh) rfl 2 (by decide) (hts (.fieldLink RX0 18 "OctagonDesk$Numbers" "limbs" "[J") (by decide +kernel)) (fun _ h9 => h9) rfl dX0_isCrowded_11 ?_
        refine lv_aload_n hx hb dX0_isCrowded_14 rfl (lv_at hl 0 rfl) ?_
        refine mw_get (C := RX0) (T := TX0) (N := 4) hx hb hts in_X0_isCrowded_X0 hown hK hP (hh) rfl 3 (by decide) (hts (.fieldLink RX0 22 "OctagonDesk$Numbers" "top" "I") (by decide +kernel)) (fun _ h9 => h9) rfl dX0_isCrowded_15 ?_
        refine lv_iload_n hx hb dX0_isCrowded_18 rfl (lv_at hl 1 rfl) ?_
        refine nv_iadd hx hb dX0_isCrowded_19 ?_
        refine mw_lald hx hb hK hP 0 (ha) rfl (by omega) (by omega) dX0_isCrowded_20 ?_
        refine lv_topl (fun v21 ev21 => ?_)
        refine lv_lstore_n (lv' := [(2, .long v21), (0, .ref h), (1, .int (nI q))]) hx hb dX0_isCrowded_21 rfl hl (by decide) rfl (fun ls hl => ?_)
        refine lv_lload_n hx hb dX0_isCrowded_22 rfl (lv_at hl 0 rfl) ?_
        refine lv_ldc2 (v := (9223372036854775807)) hx hb hown (hts (.constantLong RX0 25 (9223372036854775807)) (by decide +kernel)) dX0_isCrowded_23 ?_
        refine nl_if_eq (tgt := 48) hx hb dX0_isCrowded_26 dX0_isCrowded_27 (by decide) (fun hc26 => ?_) (fun hc26 => ?_)
        · refine lv_iinc (v := nI (q + 1)) (lv' := [(1, .int (nI (q + 1))), (2, .long v21), (0, .ref h)]) hx hb dX0_isCrowded_48 hl (k := 2) rfl (nI_add _ _) (by decide) rfl (fun ls hl => ?_)
          refine lv_goto (tgt := 2) hx hb dX0_isCrowded_51 (by decide) ?_
          exact ih (q + 1) (by omega) (by omega) _ _ hP hS ls (lv_sub hl [2, 0] rfl)
        · refine lv_lload_n hx hb dX0_isCrowded_30 rfl (lv_at hl 0 rfl) ?_
          refine lv_ldc2 (v := (18014398509481984)) hx hb hown (hts (.constantLong RX0 61 (18014398509481984)) (by decide +kernel)) dX0_isCrowded_31 ?_
          refine nl_if_ge (tgt := 46) hx hb dX0_isCrowded_34 dX0_isCrowded_35 (by decide) (fun hc34 => ?_) (fun hc34 => ?_)
          · refine lv_iconst (v := nI 1) hx hb dX0_isCrowded_46 (by decide) ?_
            rw [hQ]
            exact W.zret (v := nI 1) (ty := .boolean) hx hb hr (by first | rfl | decide) (fun t9 ht9 hW9 => ⟨⟨nI 1, μ, rfl, (⟨rfl, Or.inr rfl, ic_1 (by omega) ev21 hc26 (by first | exact Or.inl hc34 | exact Or.inr hc42)⟩), by show mw _ _ _ _ t9.heap; rw [ht9]; exact hP⟩, hS.F ht9⟩) hS.2.2 dX0_isCrowded_47
          · refine lv_lload_n hx hb dX0_isCrowded_38 rfl (lv_at hl 0 rfl) ?_
            refine lv_ldc2 (v := (-18014398509481984)) hx hb hown (hts (.constantLong RX0 63 (-18014398509481984)) (by decide +kernel)) dX0_isCrowded_39 ?_
            refine nl_if_ge (tgt := 48) hx hb dX0_isCrowded_42 dX0_isCrowded_43 (by decide) (fun hc42 => ?_) (fun hc42 => ?_)
            · refine lv_iinc (v := nI (q + 1)) (lv' := [(1, .int (nI (q + 1))), (2, .long v21), (0, .ref h)]) hx hb dX0_isCrowded_48 hl (k := 2) rfl (nI_add _ _) (by decide) rfl (fun ls hl => ?_)
              refine lv_goto (tgt := 2) hx hb dX0_isCrowded_51 (by decide) ?_
              exact ih (q + 1) (by omega) (by omega) _ _ hP hS ls (lv_sub hl [2, 0] rfl)
            · refine lv_iconst (v := nI 1) hx hb dX0_isCrowded_46 (by decide) ?_
              rw [hQ]
              exact W.zret (v := nI 1) (ty := .boolean) hx hb hr (by first | rfl | decide) (fun t9 ht9 hW9 => ⟨⟨nI 1, μ, rfl, (⟨rfl, Or.inr rfl, ic_1 (by omega) ev21 hc26 (by first | exact Or.inl hc34 | exact Or.inr hc42)⟩), by show mw _ _ _ _ t9.heap; rw [ht9]; exact hP⟩, hS.F ht9⟩) hS.2.2 dX0_isCrowded_47
  have hl := lv_entry ([.ref h]) (n := 4) (Nat.le_of_ble_eq_true rfl)
  have he9 : entryFrame m args 4 = entryFrame m ([.ref h] : List Value).toArray 4 := by rw [hargs]
  rw [he9, lg_entry_eq]
  generalize (lg_sl ([.ref h]) ++ List.replicate (4 - (lg_sl ([.ref h])).length) Slot.unset).toArray = ls at hl ⊢
  have hl : lv_has ls 4 [(0, .ref h)] := hl
  refine lv_iconst (v := nI 0) hx hb dX0_isCrowded_0 (by decide) ?_
  refine lv_istore_n (lv' := [(1, .int (nI 0)), (0, .ref h)]) hx hb dX0_isCrowded_1 rfl hl (by decide) rfl (fun ls hl => ?_)
  exact L2 _ 0 (Nat.lt_succ_self _) (by omega) _ _ hP hS ls (lv_sub hl [1, 0] rfl)

abbrev rm_X0_takeOver : Room := { frames := 1, cells := 0, slots := 0, locals := 60 }
set_option maxHeartbeats 4000000 in
set_option maxRecDepth 100000 in
theorem c_X0_takeOver (l : Launch) (G : GG) (B : Nat) (μ : mp) (h la k : Nat) (f : Nat → Int64) (h2 la2 : Nat) (g : Nat → Int64) (hh : μ h = some (.inr (0, [.int (nI 158), .int (nI 157), .ref la, .int (nI (158 * k))]))) (ha : μ la = some (.inl (G.2 0, 158 * k + 158, .inr (.inl f)))) (hh2 : μ h2 = some (.inr (0, [.int (nI 158), .int (nI 157), .ref la2, .int (nI (158 * k))]))) (ha2 : μ la2 = some (.inl (G.2 0, 158 * k + 158, .inr (.inl g)))) (hk : k ≤ 1022) : Met l yX0_takeOver wsX0_takeOver rm_X0_takeOver (va_Pc [.ref h, .ref h2] (KW G B μ)) (va_Qv (fun μ2 => ∃ g9 : Nat → Int64, μ2 = mu μ la (.inl (G.2 0, 158 * k + 158, .inr (.inl g9))) ∧ ∀ j < 158 * k + 158, g9 j = g j) (BB G B) (fun q => B ≤ q)) 0 0 (fun q => B ≤ q) := by
  refine Met.ofW (cc := cX0_takeOver) (maxL := 2) (ret := none) (by decide) rfl ?_
  intro p e s m args below meth c s₁ B9 hml hv
  obtain ⟨hargs, hBs, hP, hKK⟩ := hv
  have hx := B9.exec
  have hb := B9.bytes
  have hr := B9.returns
  have hts := atoms_spec (ws := wsX0_takeOver) B9.pre
  have hown : s.vm.findClass RX0 = some m.cls := findClass_of_methodNamed B9.named
  have hlocks := B9.notSynchronized
  have hK := hKK.k
  have hS : va_S (fun q => B ≤ q) s.heap s.heap [] := va_S.rf
  obtain ⟨Q, hQ⟩ : ∃ Q, Q = MQ below (va_Qv (fun μ2 => ∃ g9 : Nat → Int64, μ2 = mu μ la (.inl (G.2 0, 158 * k + 158, .inr (.inl g9))) ∧ ∀ j < 158 * k + 158, g9 j = g j) (BB G B) (fun q => B ≤ q)) args s 0 0 (fun q => B ≤ q) := ⟨_, rfl⟩
  rw [← hQ]
  have ne0_1 : h ≠ la := mp_ne hh ha (by simp)
  have ne0_3 : h ≠ la2 := mp_ne hh ha2 (by simp)
  have ne1_2 : la ≠ h2 := mp_ne ha hh2 (by simp)
  have ne2_3 : h2 ≠ la2 := mp_ne hh2 ha2 (by simp)
  have in_X0_takeOver_X0 : ∀ w ∈ wsX00, w ∈ wsX0_takeOver := by decide +kernel
  have hl := lv_entry ([.ref h, .ref h2]) (n := 2) (Nat.le_of_ble_eq_true rfl)
  have he9 : entryFrame m args 2 = entryFrame m ([.ref h, .ref h2] : List Value).toArray 2 := by rw [hargs]
  rw [he9, lg_entry_eq]
  generalize (lg_sl ([.ref h, .ref h2]) ++ List.replicate (2 - (lg_sl ([.ref h, .ref h2])).length) Slot.unset).toArray = ls at hl ⊢
  have hl : lv_has ls 2 [(0, .ref h), (1, .ref h2)] := hl
  refine lv_aload_n hx hb dX0_takeOver_0 rfl (lv_at hl 1 rfl) ?_
  refine mw_get (C := RX0) (T := TX0) (N := 4) hx hb hts in_X0_takeOver_X0 hown hK hP (hh2) rfl 2 (by decide) (hts (.fieldLink RX0 18 "OctagonDesk$Numbers" "limbs" "[J") (by decide +kernel)) (fun _ h9 => h9) rfl dX0_takeOver_1 ?_
  refine lv_iconst (v := nI 0) hx hb dX0_takeOver_4 (by decide) ?_
  refine lv_aload_n hx hb dX0_takeOver_5 rfl (lv_at hl 0 rfl) ?_
  refine mw_get (C := RX0) (T := TX0) (N := 4) hx hb hts in_X0_takeOver_X0 hown hK hP (hh) rfl 2 (by decide) (hts (.fieldLink RX0 18 "OctagonDesk$Numbers" "limbs" "[J") (by decide +kernel)) (fun _ h9 => h9) rfl dX0_takeOver_6 ?_
  refine lv_iconst (v := nI 0) hx hb dX0_takeOver_9 (by decide) ?_
  refine lv_aload_n hx hb dX0_takeOver_10 rfl (lv_at hl 0 rfl) ?_
  refine mw_get (C := RX0) (T := TX0) (N := 4) hx hb hts in_X0_takeOver_X0 hown hK hP (hh) rfl 2 (by decide) (hts (.fieldLink RX0 18 "OctagonDesk$Numbers" "limbs" "[J") (by decide +kernel)) (fun _ h9 => h9) rfl dX0_takeOver_11 ?_
  refine mw_alen hx hb hK hP 0 (ha) rfl dX0_takeOver_14 ?_
  refine mw_copyl hx hb (hml.trans hl.1.symm) hown (hts (.methodLink RX0 33 arraycopyName) (by decide +kernel)) (hts (.native arraycopyName) (by decide +kernel)) (hts (.static arraycopyName) (by decide +kernel)) (hts (.initialized "java/lang/System") (by decide +kernel)) hK hP hS 0 0 (ha2) (ha) rfl rfl (by omega) (by omega) (by omega) (Nat.le_of_ble_eq_true rfl) (Nat.le_of_ble_eq_true rfl) dX0_takeOver_15 (fun H locs hP hS => ?_)
  have hP : mw G.1 vwCl B (mu μ la (.inl (G.2 0, 158 * k + 158, .inr (.inl (va_cpy g f 0 0 (158 * k + 158)))))) _ := hP
  rw [hQ]
  exact W.vret hx hb hr (fun t9 ht9 hW9 => ⟨⟨mu μ la (.inl (G.2 0, 158 * k + 158, .inr (.inl (va_cpy g f 0 0 (158 * k + 158))))), rfl, (⟨_, rfl, fun j hj => by rw [pk_cpy_in (Nat.zero_le _) (by omega)]; simp⟩), by show mw _ _ _ _ t9.heap; rw [ht9]; exact hP⟩, hS.F ht9⟩) hS.2.2 dX0_takeOver_18
end
section
/-! Tables of terms: a cell of p and q lies at p * 12 + q. Closed tables; tables of zeros and infinities. -/
def ne (p : Nat) : Nat := if p % 2 = 0 then p + 1 else p - 1
theorem ne_lt {p : Nat} (h : p < 12) : ne p < 12 := by unfold ne; split <;> omega
theorem ne_ne (p : Nat) : ne (ne p) = p := by unfold ne; split <;> split <;> omega
theorem ne_x : ∀ p, p < 12 → nI p ^^^ nI 1 = nI (ne p) := by decide +kernel
def tz (c : Nat) : Int64 := if c % 12 = ne (c / 12) then 0 else INF
/-- a table in which no chain of two or three bounds, and no two halves, say less than a bound does -/
def Cl (f : Nat → Int64) : Prop := (∀ p q r, p < 12 → q < 12 → r < 12 → ¬ sm (f (p * 12 + r)) (f (ne r * 12 + q)) < f (p * 12 + q)) ∧
  (∀ i j p q, i < 12 → j < 12 → p < 12 → q < 12 → ¬ sm (sm (f (i * 12 + ne p)) (f (p * 12 + q))) (f (ne q * 12 + j)) < f (i * 12 + j)) ∧
  (∀ p q, p < 12 → q < 12 → ¬ sm (hf (f (p * 12 + p))) (hf (f (q * 12 + q))) < f (p * 12 + q)) ∧
  (∀ p, p < 12 → ¬ f (p * 12 + ne p) < 0) ∧ (∀ p q, p < 12 → q < 12 → ¬ sm (f (p * 12 + q)) (f (ne q * 12 + ne p)) < 0)
/-- where zeros may stand: a term and its negation, and the terms below d -/
def In (d p q : Nat) : Prop := q = ne p ∨ (p < d ∧ q < d)
theorem In.comp {d i r j : Nat} (hd : d % 2 = 0) (h1 : In d i r) (h2 : In d (ne r) j) : In d i j := by
  unfold In ne at *
  rcases h1 with h1 | ⟨h1, h3⟩ <;> rcases h2 with h2 | ⟨h2, h4⟩
  · left; subst h1; subst h2; split <;> split <;> omega
  · right; subst h1; refine ⟨?_, h4⟩; split at h2 <;> split at h2 <;> omega
  · right; refine ⟨h1, ?_⟩; subst h2; split <;> omega
  · right; exact ⟨h1, h4⟩
def Zb (d : Nat) (f : Nat → Int64) : Prop := ∀ p q, p < 12 → q < 12 → f (p * 12 + q) = INF ∨ (f (p * 12 + q) = 0 ∧ In d p q)
/-- what a method does that only lowers: nothing to a closed table; zeros stay and come where they may -/
def RR (f g : Nat → Int64) (b b2 : Nat) : Prop := (Cl f → (∀ c, c < 144 → g c = f c) ∧ b2 = b) ∧ (∀ d, d % 2 = 0 → Zb d f → Zb d g ∧ (∀ c, c < 144 → f c = 0 → g c = 0) ∧ b2 = b)
theorem lt144 {p q : Nat} (hp : p < 12) (hq : q < 12) : p * 12 + q < 144 := by omega
theorem Cl.of {f g : Nat → Int64} (h : Cl f) (e : ∀ c, c < 144 → g c = f c) : Cl g := by
  obtain ⟨h1, h2, h3, h4, h5⟩ := h
  refine ⟨fun p q r hp hq hr => ?_, fun i j p q hi hj hp hq => ?_, fun p q hp hq => ?_, fun p hp => ?_, fun p q hp hq => ?_⟩
  · rw [e _ (lt144 hp hr), e _ (lt144 (ne_lt hr) hq), e _ (lt144 hp hq)]; exact h1 p q r hp hq hr
  · rw [e _ (lt144 hi (ne_lt hp)), e _ (lt144 hp hq), e _ (lt144 (ne_lt hq) hj), e _ (lt144 hi hj)]; exact h2 i j p q hi hj hp hq
  · rw [e _ (lt144 hp hp), e _ (lt144 hq hq), e _ (lt144 hp hq)]; exact h3 p q hp hq
  · rw [e _ (lt144 hp (ne_lt hp))]; exact h4 p hp
  · rw [e _ (lt144 hp hq), e _ (lt144 (ne_lt hq) (ne_lt hp))]; exact h5 p q hp hq
theorem RR.rf (f : Nat → Int64) (b : Nat) : RR f f b b := ⟨fun _ => ⟨fun _ _ => rfl, rfl⟩, fun _ _ h => ⟨h, fun _ _ h2 => h2, rfl⟩⟩
theorem RR.tr {f g h : Nat → Int64} {b b1 b2 : Nat} (h1 : RR f g b b1) (h2 : RR g h b1 b2) : RR f h b b2 := by
  refine ⟨fun hc => ?_, fun d hd hz => ?_⟩
  · obtain ⟨a1, a2⟩ := h1.1 hc
    obtain ⟨a3, a4⟩ := h2.1 (hc.of a1)
    exact ⟨fun c hl => (a3 c hl).trans (a1 c hl), a4.trans a2⟩
  · obtain ⟨a1, a2, a3⟩ := h1.2 d hd hz
    obtain ⟨a4, a5, a6⟩ := h2.2 d hd a1
    exact ⟨a4, fun c hl hf => a5 c hl (a2 c hl hf), a6.trans a3⟩
/-- cells that are alike below 144 -/
def Sm (f g : Nat → Int64) : Prop := ∀ c, c < 144 → g c = f c
theorem Sm.upd {f g : Nat → Int64} (h : Sm f g) {c : Nat} (hc : 144 ≤ c) (v : Int64) : Sm f (vp_updL g c v) := fun x hx => by rw [pk_uLn (by omega)]; exact h x hx
theorem Zb.of {d : Nat} {f g : Nat → Int64} (h : Zb d f) (e : Sm f g) : Zb d g := fun p q hp hq => by rw [e _ (lt144 hp hq)]; exact h p q hp hq
theorem RR.sm {f g h : Nat → Int64} {b b2 : Nat} (h1 : RR f g b b2) (e : Sm g h) : RR f h b b2 := by
  refine ⟨fun hc => ?_, fun d hd hz => ?_⟩
  · obtain ⟨a1, a2⟩ := h1.1 hc
    exact ⟨fun c hl => (e c hl).trans (a1 c hl), a2⟩
  · obtain ⟨a1, a2, a3⟩ := h1.2 d hd hz
    exact ⟨a1.of e, fun c hl hf => (e c hl).trans (a2 c hl hf), a3⟩
theorem lw_x {f : Nat → Int64} {i j m c : Nat} (hc : c ≠ 157) (hi : c ≠ i) : lw f i j m c = f c := by
  unfold lw
  split
  · rw [pk_uLn hi, pk_uLn hc]
  · rw [pk_uLn hc]
theorem lw_no {f : Nat → Int64} {i j m c : Nat} (h : ¬ sm (f j) (f m) < f i) (hc : c ≠ 157) : lw f i j m c = f c := by
  unfold lw
  rw [if_neg h, pk_uLn hc]
theorem lw_i {f : Nat → Int64} {i j m : Nat} (hi : i ≠ 157) : lw f i j m i = sm (f j) (f m) ∨ lw f i j m i = f i := by
  unfold lw
  split
  · exact Or.inl pk_uLs
  · exact Or.inr (pk_uLn hi)
theorem sm_z {x y : Int64} (hx : x = INF ∨ x = 0) (hy : y = INF ∨ y = 0) : sm x y = INF ∨ (sm x y = 0 ∧ x = 0 ∧ y = 0) := by
  unfold sm
  rcases hx with hx | hx
  · left; rw [if_pos (Or.inl hx)]
  · rcases hy with hy | hy
    · left; rw [if_pos (Or.inr hy)]
    · right; subst hx; subst hy; exact ⟨rfl, rfl, rfl⟩
theorem INF_lt0 : ¬ (INF : Int64) < 0 := by decide
theorem z_lt0 : ¬ (0 : Int64) < 0 := by decide
/-- one cell lowered by a sum that isn't less (closed), or is a zero that may stand there (zeros) -/
theorem RR.low {f g : Nat → Int64} {b b2 p q j m : Nat} (hp : p < 12) (hq : q < 12) (h : RR f g b b2) (h1 : Cl f → ¬ sm (g j) (g m) < f (p * 12 + q)) (h2 : ∀ d, d % 2 = 0 → Zb d f → sm (g j) (g m) = INF ∨ (sm (g j) (g m) = 0 ∧ In d p q)) : RR f (lw g (p * 12 + q) j m) b b2 := by
  have hl := lt144 hp hq
  refine ⟨fun hc => ?_, fun d hd hz => ?_⟩
  · obtain ⟨a1, a2⟩ := h.1 hc
    refine ⟨fun c hc2 => ?_, a2⟩
    rw [lw_no (by rw [a1 _ hl]; exact h1 hc) (by omega)]
    exact a1 c hc2
  · obtain ⟨a1, a2, a3⟩ := h.2 d hd hz
    refine ⟨fun p2 q2 hp2 hq2 => ?_, fun c hc2 hf => ?_, a3⟩
    · by_cases he : p2 * 12 + q2 = p * 12 + q
      · have e1 : p2 = p := by omega
        have e2 : q2 = q := by omega
        subst e1; subst e2
        rcases lw_i (f := g) (i := p2 * 12 + q2) (j := j) (m := m) (by omega) with h3 | h3
        · rw [h3]; exact h2 d hd hz
        · rw [h3]; exact a1 p2 q2 hp2 hq2
      · rw [lw_x (by have := lt144 hp2 hq2; omega) he]; exact a1 p2 q2 hp2 hq2
    · by_cases he : c = p * 12 + q
      · subst he
        unfold lw
        split
        · rename_i hlt
          rw [a2 _ hl hf] at hlt
          rcases h2 d hd hz with h3 | ⟨h3, -⟩
          · rw [h3] at hlt; exact absurd hlt INF_lt0
          · rw [h3] at hlt; exact absurd hlt z_lt0
        · rw [pk_uLn (by omega)]; exact a2 _ hl hf
      · rw [lw_x (by omega) he]; exact a2 c hc2 hf
end
