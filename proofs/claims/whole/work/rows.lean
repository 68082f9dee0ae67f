section
-- ===== PART A: goes FIRST, ahead of the names: the tables' words, and 'selects' of the private methods out of them =====
/-- a private method of a class that the tables say can be made, by its rows of tables_1 -/
def lw_okq (q : MethodName × Nat) : Prop := (q.1.cls ≠ "java/lang/invoke/MethodHandle" ∧ q.1.cls ≠ "java/lang/invoke/VarHandle") ∧ Cond.instantiable q.1.cls q.2 ∈ tables_1 ∧ Cond.privateMethod q.1 ∈ tables_1 ∧ Cond.instanceMethod q.1 ∈ tables_1
theorem lw_p0 : lw_okq (⟨"WedApart", "counted", "(I)I"⟩, 7) := ⟨⟨by decide +kernel, by decide +kernel⟩, List.mem_of_getElem? (i := 20) (by decide +kernel), List.mem_of_getElem? (i := 194) (by decide +kernel), List.mem_of_getElem? (i := 195) (by decide +kernel)⟩
theorem lw_p1 : lw_okq (⟨"WedApart", "refuse", "(I)I"⟩, 7) := ⟨⟨by decide +kernel, by decide +kernel⟩, List.mem_of_getElem? (i := 20) (by decide +kernel), List.mem_of_getElem? (i := 198) (by decide +kernel), List.mem_of_getElem? (i := 199) (by decide +kernel)⟩
theorem lw_p2 : lw_okq (⟨"WedApart$TownText", "step", "()V"⟩, 4) := ⟨⟨by decide +kernel, by decide +kernel⟩, List.mem_of_getElem? (i := 28) (by decide +kernel), List.mem_of_getElem? (i := 281) (by decide +kernel), List.mem_of_getElem? (i := 282) (by decide +kernel)⟩
theorem lw_p3 : lw_okq (⟨"WedApart$TownText", "isLetter", "(I)Z"⟩, 4) := ⟨⟨by decide +kernel, by decide +kernel⟩, List.mem_of_getElem? (i := 28) (by decide +kernel), List.mem_of_getElem? (i := 285) (by decide +kernel), List.mem_of_getElem? (i := 286) (by decide +kernel)⟩
theorem lw_p4 : lw_okq (⟨"WedApart$TownText", "at", "(I)I"⟩, 4) := ⟨⟨by decide +kernel, by decide +kernel⟩, List.mem_of_getElem? (i := 28) (by decide +kernel), List.mem_of_getElem? (i := 289) (by decide +kernel), List.mem_of_getElem? (i := 290) (by decide +kernel)⟩
theorem lw_p5 : lw_okq (⟨"WedApart$TownText", "isFigure", "(I)Z"⟩, 4) := ⟨⟨by decide +kernel, by decide +kernel⟩, List.mem_of_getElem? (i := 28) (by decide +kernel), List.mem_of_getElem? (i := 293) (by decide +kernel), List.mem_of_getElem? (i := 294) (by decide +kernel)⟩
theorem lw_p6 : lw_okq (⟨"WedApart$TownText", "tellItem", "(LWedApart$Town;)I"⟩, 4) := ⟨⟨by decide +kernel, by decide +kernel⟩, List.mem_of_getElem? (i := 28) (by decide +kernel), List.mem_of_getElem? (i := 297) (by decide +kernel), List.mem_of_getElem? (i := 298) (by decide +kernel)⟩
theorem lw_p7 : lw_okq (⟨"WedApart$TownText", "isWord", "(Ljava/lang/String;)Z"⟩, 4) := ⟨⟨by decide +kernel, by decide +kernel⟩, List.mem_of_getElem? (i := 28) (by decide +kernel), List.mem_of_getElem? (i := 302) (by decide +kernel), List.mem_of_getElem? (i := 303) (by decide +kernel)⟩
theorem lw_p8 : lw_okq (⟨"WedApart$TownText", "takeNumber", "()I"⟩, 4) := ⟨⟨by decide +kernel, by decide +kernel⟩, List.mem_of_getElem? (i := 28) (by decide +kernel), List.mem_of_getElem? (i := 354) (by decide +kernel), List.mem_of_getElem? (i := 355) (by decide +kernel)⟩
theorem lw_p9 : lw_okq (⟨"WedApart$TownText", "takeMatters", "()I"⟩, 4) := ⟨⟨by decide +kernel, by decide +kernel⟩, List.mem_of_getElem? (i := 28) (by decide +kernel), List.mem_of_getElem? (i := 358) (by decide +kernel), List.mem_of_getElem? (i := 359) (by decide +kernel)⟩
theorem lw_p10 : lw_okq (⟨"WedApart$TownText", "isSign", "(C)Z"⟩, 4) := ⟨⟨by decide +kernel, by decide +kernel⟩, List.mem_of_getElem? (i := 28) (by decide +kernel), List.mem_of_getElem? (i := 370) (by decide +kernel), List.mem_of_getElem? (i := 371) (by decide +kernel)⟩
theorem lw_p11 : lw_okq (⟨"WedApart", "howMany", "(I)I"⟩, 7) := ⟨⟨by decide +kernel, by decide +kernel⟩, List.mem_of_getElem? (i := 20) (by decide +kernel), List.mem_of_getElem? (i := 673) (by decide +kernel), List.mem_of_getElem? (i := 674) (by decide +kernel)⟩
theorem lw_p12 : lw_okq (⟨"WedApartModel", "empties", "()V"⟩, 24) := ⟨⟨by decide +kernel, by decide +kernel⟩, List.mem_of_getElem? (i := 688) (by decide +kernel), List.mem_of_getElem? (i := 694) (by decide +kernel), List.mem_of_getElem? (i := 695) (by decide +kernel)⟩
theorem lw_p13 : lw_okq (⟨"WedApartModel", "bad", "()I"⟩, 24) := ⟨⟨by decide +kernel, by decide +kernel⟩, List.mem_of_getElem? (i := 688) (by decide +kernel), List.mem_of_getElem? (i := 783) (by decide +kernel), List.mem_of_getElem? (i := 784) (by decide +kernel)⟩
theorem lw_p14 : lw_okq (⟨"WedApartModel", "refuses", "(II)I"⟩, 24) := ⟨⟨by decide +kernel, by decide +kernel⟩, List.mem_of_getElem? (i := 688) (by decide +kernel), List.mem_of_getElem? (i := 787) (by decide +kernel), List.mem_of_getElem? (i := 788) (by decide +kernel)⟩
theorem lw_p15 : lw_okq (⟨"WedApartModel", "full", "()I"⟩, 24) := ⟨⟨by decide +kernel, by decide +kernel⟩, List.mem_of_getElem? (i := 688) (by decide +kernel), List.mem_of_getElem? (i := 791) (by decide +kernel), List.mem_of_getElem? (i := 792) (by decide +kernel)⟩
def lw_privs_1 : List (MethodName × Nat) := [(⟨"WedApart", "counted", "(I)I"⟩, 7), (⟨"WedApart", "refuse", "(I)I"⟩, 7), (⟨"WedApart$TownText", "step", "()V"⟩, 4), (⟨"WedApart$TownText", "isLetter", "(I)Z"⟩, 4), (⟨"WedApart$TownText", "at", "(I)I"⟩, 4), (⟨"WedApart$TownText", "isFigure", "(I)Z"⟩, 4), (⟨"WedApart$TownText", "tellItem", "(LWedApart$Town;)I"⟩, 4), (⟨"WedApart$TownText", "isWord", "(Ljava/lang/String;)Z"⟩, 4), (⟨"WedApart$TownText", "takeNumber", "()I"⟩, 4), (⟨"WedApart$TownText", "takeMatters", "()I"⟩, 4), (⟨"WedApart$TownText", "isSign", "(C)Z"⟩, 4), (⟨"WedApart", "howMany", "(I)I"⟩, 7), (⟨"WedApartModel", "empties", "()V"⟩, 24), (⟨"WedApartModel", "bad", "()I"⟩, 24), (⟨"WedApartModel", "refuses", "(II)I"⟩, 24), (⟨"WedApartModel", "full", "()I"⟩, 24)]
theorem lw_r1 : ∀ q ∈ lw_privs_1, lw_okq q := List.forall_mem_cons.mpr ⟨lw_p0, List.forall_mem_cons.mpr ⟨lw_p1, List.forall_mem_cons.mpr ⟨lw_p2, List.forall_mem_cons.mpr ⟨lw_p3, List.forall_mem_cons.mpr ⟨lw_p4, List.forall_mem_cons.mpr ⟨lw_p5, List.forall_mem_cons.mpr ⟨lw_p6, List.forall_mem_cons.mpr ⟨lw_p7, List.forall_mem_cons.mpr ⟨lw_p8, List.forall_mem_cons.mpr ⟨lw_p9, List.forall_mem_cons.mpr ⟨lw_p10, List.forall_mem_cons.mpr ⟨lw_p11, List.forall_mem_cons.mpr ⟨lw_p12, List.forall_mem_cons.mpr ⟨lw_p13, List.forall_mem_cons.mpr ⟨lw_p14, List.forall_mem_cons.mpr ⟨lw_p15, fun _ h => absurd h List.not_mem_nil⟩⟩⟩⟩⟩⟩⟩⟩⟩⟩⟩⟩⟩⟩⟩⟩
theorem lw_p16 : lw_okq (⟨"WedApartModel", "isPerson", "(I)Z"⟩, 24) := ⟨⟨by decide +kernel, by decide +kernel⟩, List.mem_of_getElem? (i := 688) (by decide +kernel), List.mem_of_getElem? (i := 799) (by decide +kernel), List.mem_of_getElem? (i := 800) (by decide +kernel)⟩
theorem lw_p17 : lw_okq (⟨"WedApartModel", "puts", "(II)I"⟩, 24) := ⟨⟨by decide +kernel, by decide +kernel⟩, List.mem_of_getElem? (i := 688) (by decide +kernel), List.mem_of_getElem? (i := 803) (by decide +kernel), List.mem_of_getElem? (i := 804) (by decide +kernel)⟩
theorem lw_p18 : lw_okq (⟨"WedApartModel", "areTwo", "(II)Z"⟩, 24) := ⟨⟨by decide +kernel, by decide +kernel⟩, List.mem_of_getElem? (i := 688) (by decide +kernel), List.mem_of_getElem? (i := 824) (by decide +kernel), List.mem_of_getElem? (i := 825) (by decide +kernel)⟩
theorem lw_p19 : lw_okq (⟨"WedApartModel", "reads", "()Z"⟩, 24) := ⟨⟨by decide +kernel, by decide +kernel⟩, List.mem_of_getElem? (i := 688) (by decide +kernel), List.mem_of_getElem? (i := 845) (by decide +kernel), List.mem_of_getElem? (i := 846) (by decide +kernel)⟩
theorem lw_p20 : lw_okq (⟨"WedApartModel", "scans", "()V"⟩, 24) := ⟨⟨by decide +kernel, by decide +kernel⟩, List.mem_of_getElem? (i := 688) (by decide +kernel), List.mem_of_getElem? (i := 849) (by decide +kernel), List.mem_of_getElem? (i := 850) (by decide +kernel)⟩
theorem lw_p21 : lw_okq (⟨"WedApartModel", "isAt", "(II)Z"⟩, 24) := ⟨⟨by decide +kernel, by decide +kernel⟩, List.mem_of_getElem? (i := 688) (by decide +kernel), List.mem_of_getElem? (i := 853) (by decide +kernel), List.mem_of_getElem? (i := 854) (by decide +kernel)⟩
theorem lw_p22 : lw_okq (⟨"WedApartModel", "takesLetters", "(I)Z"⟩, 24) := ⟨⟨by decide +kernel, by decide +kernel⟩, List.mem_of_getElem? (i := 688) (by decide +kernel), List.mem_of_getElem? (i := 867) (by decide +kernel), List.mem_of_getElem? (i := 868) (by decide +kernel)⟩
theorem lw_p23 : lw_okq (⟨"WedApartModel", "takesNumber", "(I)Z"⟩, 24) := ⟨⟨by decide +kernel, by decide +kernel⟩, List.mem_of_getElem? (i := 688) (by decide +kernel), List.mem_of_getElem? (i := 872) (by decide +kernel), List.mem_of_getElem? (i := 873) (by decide +kernel)⟩
theorem lw_p24 : lw_okq (⟨"WedApartModel", "tellsItem", "(I)Z"⟩, 24) := ⟨⟨by decide +kernel, by decide +kernel⟩, List.mem_of_getElem? (i := 688) (by decide +kernel), List.mem_of_getElem? (i := 876) (by decide +kernel), List.mem_of_getElem? (i := 877) (by decide +kernel)⟩
theorem lw_p25 : lw_okq (⟨"WedApartModel", "counted", "(I)I"⟩, 24) := ⟨⟨by decide +kernel, by decide +kernel⟩, List.mem_of_getElem? (i := 688) (by decide +kernel), List.mem_of_getElem? (i := 896) (by decide +kernel), List.mem_of_getElem? (i := 897) (by decide +kernel)⟩
theorem lw_p26 : lw_okq (⟨"WedApartModel", "asNow", "()V"⟩, 24) := ⟨⟨by decide +kernel, by decide +kernel⟩, List.mem_of_getElem? (i := 688) (by decide +kernel), List.mem_of_getElem? (i := 907) (by decide +kernel), List.mem_of_getElem? (i := 908) (by decide +kernel)⟩
theorem lw_p27 : lw_okq (⟨"WedApartModel", "isLawful", "(II)Z"⟩, 24) := ⟨⟨by decide +kernel, by decide +kernel⟩, List.mem_of_getElem? (i := 688) (by decide +kernel), List.mem_of_getElem? (i := 911) (by decide +kernel), List.mem_of_getElem? (i := 912) (by decide +kernel)⟩
theorem lw_p28 : lw_okq (⟨"WedApartModel", "remembers", "()V"⟩, 24) := ⟨⟨by decide +kernel, by decide +kernel⟩, List.mem_of_getElem? (i := 688) (by decide +kernel), List.mem_of_getElem? (i := 923) (by decide +kernel), List.mem_of_getElem? (i := 924) (by decide +kernel)⟩
theorem lw_p29 : lw_okq (⟨"WedApartModel", "goes", "(I)V"⟩, 24) := ⟨⟨by decide +kernel, by decide +kernel⟩, List.mem_of_getElem? (i := 688) (by decide +kernel), List.mem_of_getElem? (i := 927) (by decide +kernel), List.mem_of_getElem? (i := 928) (by decide +kernel)⟩
theorem lw_p30 : lw_okq (⟨"WedApartModel", "talks", "(II)V"⟩, 24) := ⟨⟨by decide +kernel, by decide +kernel⟩, List.mem_of_getElem? (i := 688) (by decide +kernel), List.mem_of_getElem? (i := 931) (by decide +kernel), List.mem_of_getElem? (i := 932) (by decide +kernel)⟩
theorem lw_p31 : lw_okq (⟨"WedApartModel", "swayedBy", "(IIIII)I"⟩, 24) := ⟨⟨by decide +kernel, by decide +kernel⟩, List.mem_of_getElem? (i := 688) (by decide +kernel), List.mem_of_getElem? (i := 935) (by decide +kernel), List.mem_of_getElem? (i := 936) (by decide +kernel)⟩
def lw_privs_2 : List (MethodName × Nat) := [(⟨"WedApartModel", "isPerson", "(I)Z"⟩, 24), (⟨"WedApartModel", "puts", "(II)I"⟩, 24), (⟨"WedApartModel", "areTwo", "(II)Z"⟩, 24), (⟨"WedApartModel", "reads", "()Z"⟩, 24), (⟨"WedApartModel", "scans", "()V"⟩, 24), (⟨"WedApartModel", "isAt", "(II)Z"⟩, 24), (⟨"WedApartModel", "takesLetters", "(I)Z"⟩, 24), (⟨"WedApartModel", "takesNumber", "(I)Z"⟩, 24), (⟨"WedApartModel", "tellsItem", "(I)Z"⟩, 24), (⟨"WedApartModel", "counted", "(I)I"⟩, 24), (⟨"WedApartModel", "asNow", "()V"⟩, 24), (⟨"WedApartModel", "isLawful", "(II)Z"⟩, 24), (⟨"WedApartModel", "remembers", "()V"⟩, 24), (⟨"WedApartModel", "goes", "(I)V"⟩, 24), (⟨"WedApartModel", "talks", "(II)V"⟩, 24), (⟨"WedApartModel", "swayedBy", "(IIIII)I"⟩, 24)]
theorem lw_r2 : ∀ q ∈ lw_privs_2, lw_okq q := List.forall_mem_cons.mpr ⟨lw_p16, List.forall_mem_cons.mpr ⟨lw_p17, List.forall_mem_cons.mpr ⟨lw_p18, List.forall_mem_cons.mpr ⟨lw_p19, List.forall_mem_cons.mpr ⟨lw_p20, List.forall_mem_cons.mpr ⟨lw_p21, List.forall_mem_cons.mpr ⟨lw_p22, List.forall_mem_cons.mpr ⟨lw_p23, List.forall_mem_cons.mpr ⟨lw_p24, List.forall_mem_cons.mpr ⟨lw_p25, List.forall_mem_cons.mpr ⟨lw_p26, List.forall_mem_cons.mpr ⟨lw_p27, List.forall_mem_cons.mpr ⟨lw_p28, List.forall_mem_cons.mpr ⟨lw_p29, List.forall_mem_cons.mpr ⟨lw_p30, List.forall_mem_cons.mpr ⟨lw_p31, fun _ h => absurd h List.not_mem_nil⟩⟩⟩⟩⟩⟩⟩⟩⟩⟩⟩⟩⟩⟩⟩⟩
theorem lw_p32 : lw_okq (⟨"WedApartModel", "keepsAll", "()I"⟩, 24) := ⟨⟨by decide +kernel, by decide +kernel⟩, List.mem_of_getElem? (i := 688) (by decide +kernel), List.mem_of_getElem? (i := 939) (by decide +kernel), List.mem_of_getElem? (i := 940) (by decide +kernel)⟩
theorem lw_p33 : lw_okq (⟨"WedApartModel", "no", "()I"⟩, 24) := ⟨⟨by decide +kernel, by decide +kernel⟩, List.mem_of_getElem? (i := 688) (by decide +kernel), List.mem_of_getElem? (i := 951) (by decide +kernel), List.mem_of_getElem? (i := 952) (by decide +kernel)⟩
theorem lw_p34 : lw_okq (⟨"WedApartModel", "lastsBy", "(I)V"⟩, 24) := ⟨⟨by decide +kernel, by decide +kernel⟩, List.mem_of_getElem? (i := 688) (by decide +kernel), List.mem_of_getElem? (i := 960) (by decide +kernel), List.mem_of_getElem? (i := 961) (by decide +kernel)⟩
theorem lw_p35 : lw_okq (⟨"WedApartModel", "isOne", "()Z"⟩, 24) := ⟨⟨by decide +kernel, by decide +kernel⟩, List.mem_of_getElem? (i := 688) (by decide +kernel), List.mem_of_getElem? (i := 977) (by decide +kernel), List.mem_of_getElem? (i := 978) (by decide +kernel)⟩
theorem lw_p36 : lw_okq (⟨"WedApartModel", "allows", "(I)V"⟩, 24) := ⟨⟨by decide +kernel, by decide +kernel⟩, List.mem_of_getElem? (i := 688) (by decide +kernel), List.mem_of_getElem? (i := 991) (by decide +kernel), List.mem_of_getElem? (i := 992) (by decide +kernel)⟩
theorem lw_p37 : lw_okq (⟨"WedApartModel", "dines", "(III)Z"⟩, 24) := ⟨⟨by decide +kernel, by decide +kernel⟩, List.mem_of_getElem? (i := 688) (by decide +kernel), List.mem_of_getElem? (i := 1000) (by decide +kernel), List.mem_of_getElem? (i := 1001) (by decide +kernel)⟩
theorem lw_p38 : lw_okq (⟨"WedApartModel", "lawfulPairs", "()I"⟩, 24) := ⟨⟨by decide +kernel, by decide +kernel⟩, List.mem_of_getElem? (i := 688) (by decide +kernel), List.mem_of_getElem? (i := 1020) (by decide +kernel), List.mem_of_getElem? (i := 1021) (by decide +kernel)⟩
theorem lw_p39 : lw_okq (⟨"WedApartModel", "countOf", "(I)I"⟩, 24) := ⟨⟨by decide +kernel, by decide +kernel⟩, List.mem_of_getElem? (i := 688) (by decide +kernel), List.mem_of_getElem? (i := 1073) (by decide +kernel), List.mem_of_getElem? (i := 1074) (by decide +kernel)⟩
theorem lw_p40 : lw_okq (⟨"WedApartModel", "mixed", "(JII)J"⟩, 24) := ⟨⟨by decide +kernel, by decide +kernel⟩, List.mem_of_getElem? (i := 688) (by decide +kernel), List.mem_of_getElem? (i := 1083) (by decide +kernel), List.mem_of_getElem? (i := 1084) (by decide +kernel)⟩
def lw_privs_3 : List (MethodName × Nat) := [(⟨"WedApartModel", "keepsAll", "()I"⟩, 24), (⟨"WedApartModel", "no", "()I"⟩, 24), (⟨"WedApartModel", "lastsBy", "(I)V"⟩, 24), (⟨"WedApartModel", "isOne", "()Z"⟩, 24), (⟨"WedApartModel", "allows", "(I)V"⟩, 24), (⟨"WedApartModel", "dines", "(III)Z"⟩, 24), (⟨"WedApartModel", "lawfulPairs", "()I"⟩, 24), (⟨"WedApartModel", "countOf", "(I)I"⟩, 24), (⟨"WedApartModel", "mixed", "(JII)J"⟩, 24)]
theorem lw_r3 : ∀ q ∈ lw_privs_3, lw_okq q := List.forall_mem_cons.mpr ⟨lw_p32, List.forall_mem_cons.mpr ⟨lw_p33, List.forall_mem_cons.mpr ⟨lw_p34, List.forall_mem_cons.mpr ⟨lw_p35, List.forall_mem_cons.mpr ⟨lw_p36, List.forall_mem_cons.mpr ⟨lw_p37, List.forall_mem_cons.mpr ⟨lw_p38, List.forall_mem_cons.mpr ⟨lw_p39, List.forall_mem_cons.mpr ⟨lw_p40, fun _ h => absurd h List.not_mem_nil⟩⟩⟩⟩⟩⟩⟩⟩⟩
def lw_privs : List (MethodName × Nat) := lw_privs_1 ++ (lw_privs_2 ++ (lw_privs_3))
def lw_tbl : List Cond := k2_sels lw_privs ++ tables_1
theorem lw_privs_ok : ∀ q ∈ lw_privs, lw_okq q := by
  show ∀ q ∈ lw_privs_1 ++ (lw_privs_2 ++ (lw_privs_3)), lw_okq q
  exact List.forall_mem_append.mpr ⟨lw_r1, List.forall_mem_append.mpr ⟨lw_r2, lw_r3⟩⟩

def RX0 : String := "WedApart$Course"
def RX1 : String := "WedApart$Dinners"
def RX2 : String := "WedApart$Fraction"
def RX3 : String := "WedApart$Kinds"
def RX4 : String := "WedApart$Marriages"
def RX5 : String := "WedApart$Minds"
def RX6 : String := "WedApart$Table"
def RX7 : String := "WedApart$Town"
def RX8 : String := "WedApart$TownText"
def RX9 : String := "WedApart"
def RX10 : String := "WedApartModel"
def RJ6 : String := "java/lang/Integer"
def RJ9 : String := "java/lang/Math"
def RJ0 : String := "java/lang/String"
def RJ1 : String := "java/lang/StringLatin1"
def RJ2 : String := "java/lang/StringUTF16"
def RJ10 : String := "java/lang/System"
def RJ3 : String := "jdk/internal/util/Preconditions"
def RL : String := "WedApartLaw"
/-- the tables' words that hold at every state of a run -/
def em_tb : List Cond := lw_tbl.filter goodWord
theorem em_tb_mem {w : Cond} (i : Nat) (h : lw_tbl[i]? = some w) (hg : goodWord w = true) : w ∈ em_tb := List.mem_filter.mpr ⟨List.mem_of_getElem? h, hg⟩
theorem em_tb_good : ∀ w ∈ em_tb, w ∈ em_tb ∧ ((w.onTables && w.keeps) = true ∨ ∃ ty, w = .arrayClass ty) := fun w h => ⟨h, good_of_word (List.mem_filter.mp h).2⟩
end
section

/-! ===== the engine: values, locals, heaps by number; ops as predicate transformers ===== -/
abbrev em_H : Type := List va_E
abbrev em_L : Type := List (Option Value)
abbrev em_K : Type := Nat → em_L → List Value → em_H → Prop
abbrev em_Q : Type := Option Value → em_H → Prop
abbrev em_Op : Type := em_Q → em_K → em_L → List Value → em_H → Prop
abbrev em_Sp : Type := List Value → em_H → em_Q → Prop
def em_nth : em_L → Nat → Option Value
  | [], _ => none
  | x :: _, 0 => x
  | _ :: r, i + 1 => em_nth r i
def em_cl1 : Option Value → Option Value
  | some (.long _) => none
  | some (.double _) => none
  | x => x
def em_s1 : em_L → Nat → Value → em_L
  | [], _, _ => []
  | _ :: r, 0, v => some v :: r
  | x :: r, 1, v => em_cl1 x :: em_s1 r 0 v
  | x :: r, i + 2, v => x :: em_s1 r (i + 1) v
def em_clK : Option Value → (Option Value → Prop) → Prop
  | some (.long _), k => k none
  | some (.double _), k => k none
  | x, k => k x
def em_st1 : em_L → Nat → Value → (em_L → Prop) → Prop
  | [], _, _, k => k []
  | _ :: r, 0, v, k => k (some v :: r)
  | x :: r, 1, v, k => em_st1 r 0 v (fun r' => em_clK x (fun x' => k (x' :: r')))
  | x :: r, i + 2, v, k => em_st1 r (i + 1) v (fun r' => k (x :: r'))
def em_kl : em_L → em_L
  | [] => []
  | _ :: r => none :: r
def em_klK : em_L → (em_L → Prop) → Prop
  | [], k => k []
  | _ :: r, k => k (none :: r)
theorem em_klK_eq (l : em_L) (k : em_L → Prop) : em_klK l k = k (em_kl l) := by cases l <;> rfl
theorem em_kl_len (l : em_L) : (em_kl l).length = l.length := by cases l <;> rfl
theorem em_kl_nth : ∀ (l : em_L) (j : Nat) (w : Value), em_nth (em_kl l) j = some w → j ≠ 0 ∧ em_nth l j = some w
  | [], j, w, h => by cases h
  | _ :: r, 0, w, h => by cases h
  | _ :: r, j + 1, w, h => ⟨by omega, h⟩
def em_s2 : em_L → Nat → Value → em_L
  | [], _, _ => []
  | _ :: r, 0, v => some v :: em_kl r
  | x :: r, 1, v => em_cl1 x :: em_s2 r 0 v
  | x :: r, i + 2, v => x :: em_s2 r (i + 1) v
def em_st2 : em_L → Nat → Value → (em_L → Prop) → Prop
  | [], _, _, k => k []
  | _ :: r, 0, v, k => em_klK r (fun r' => k (some v :: r'))
  | x :: r, 1, v, k => em_st2 r 0 v (fun r' => em_clK x (fun x' => k (x' :: r')))
  | x :: r, i + 2, v, k => em_st2 r (i + 1) v (fun r' => k (x :: r'))
theorem em_clK_eq (x : Option Value) (k : Option Value → Prop) : em_clK x k = k (em_cl1 x) := by
  cases x with
  | none => rfl
  | some v => cases v <;> rfl
theorem em_st1_eq : ∀ (l : em_L) (i : Nat) (v : Value) (k : em_L → Prop), em_st1 l i v k = k (em_s1 l i v)
  | [], i, v, k => by cases i <;> rfl
  | _ :: r, 0, v, k => rfl
  | x :: r, 1, v, k => by
    show em_st1 r 0 v _ = _
    rw [em_st1_eq r 0 v, em_clK_eq]; rfl
  | x :: r, i + 2, v, k => by
    show em_st1 r (i + 1) v _ = _
    rw [em_st1_eq r (i + 1) v]; rfl
theorem em_st2_eq : ∀ (l : em_L) (i : Nat) (v : Value) (k : em_L → Prop), em_st2 l i v k = k (em_s2 l i v)
  | [], i, v, k => by cases i <;> rfl
  | _ :: r, 0, v, k => by
    show em_klK r _ = _
    rw [em_klK_eq]; rfl
  | x :: r, 1, v, k => by
    show em_st2 r 0 v _ = _
    rw [em_st2_eq r 0 v, em_clK_eq]; rfl
  | x :: r, i + 2, v, k => by
    show em_st2 r (i + 1) v _ = _
    rw [em_st2_eq r (i + 1) v]; rfl
theorem em_s1_len : ∀ (l : em_L) (i : Nat) (v : Value), (em_s1 l i v).length = l.length
  | [], i, v => by cases i <;> rfl
  | _ :: r, 0, v => rfl
  | x :: r, 1, v => by show (em_s1 r 0 v).length + 1 = _; rw [em_s1_len r 0 v]; rfl
  | x :: r, i + 2, v => by show (em_s1 r (i + 1) v).length + 1 = _; rw [em_s1_len r (i + 1) v]; rfl
theorem em_s2_len : ∀ (l : em_L) (i : Nat) (v : Value), (em_s2 l i v).length = l.length
  | [], i, v => by cases i <;> rfl
  | _ :: r, 0, v => by show (em_kl r).length + 1 = _; rw [em_kl_len]; rfl
  | x :: r, 1, v => by show (em_s2 r 0 v).length + 1 = _; rw [em_s2_len r 0 v]; rfl
  | x :: r, i + 2, v => by show (em_s2 r (i + 1) v).length + 1 = _; rw [em_s2_len r (i + 1) v]; rfl
theorem em_cl1_some {x : Option Value} {w : Value} (h : em_cl1 x = some w) : x = some w ∧ w.category ≠ 2 := by
  cases x with
  | none => cases h
  | some v => cases v <;> first | (cases h; done) | (cases h; exact ⟨rfl, by decide⟩) | (simp only [em_cl1] at h; cases h; exact ⟨rfl, by simp [Value.category]⟩)
theorem em_s1_nth : ∀ (l : em_L) (i : Nat) (v : Value) (j : Nat) (w : Value), em_nth (em_s1 l i v) j = some w → (j = i ∧ w = v) ∨ (j ≠ i ∧ em_nth l j = some w ∧ ¬ (j + 1 = i ∧ w.category = 2))
  | [], i, v, j, w, h => by cases i <;> cases h
  | _ :: r, 0, v, 0, w, h => by cases h; exact Or.inl ⟨rfl, rfl⟩
  | _ :: r, 0, v, j + 1, w, h => Or.inr ⟨by omega, h, by omega⟩
  | x :: r, 1, v, 0, w, h => by
    obtain ⟨h1, h2⟩ := em_cl1_some h
    exact Or.inr ⟨by omega, h1, fun z => h2 z.2⟩
  | x :: r, 1, v, j + 1, w, h => by
    rcases em_s1_nth r 0 v j w h with ⟨a, b⟩ | ⟨a, b, d⟩
    · exact Or.inl ⟨by omega, b⟩
    · exact Or.inr ⟨by omega, b, by omega⟩
  | x :: r, i + 2, v, 0, w, h => Or.inr ⟨by omega, h, by omega⟩
  | x :: r, i + 2, v, j + 1, w, h => by
    rcases em_s1_nth r (i + 1) v j w h with ⟨a, b⟩ | ⟨a, b, d⟩
    · exact Or.inl ⟨by omega, b⟩
    · exact Or.inr ⟨by omega, b, fun z => d ⟨by omega, z.2⟩⟩
theorem em_s2_nth : ∀ (l : em_L) (i : Nat) (v : Value) (j : Nat) (w : Value), em_nth (em_s2 l i v) j = some w → (j = i ∧ w = v) ∨ (j ≠ i ∧ j ≠ i + 1 ∧ em_nth l j = some w ∧ ¬ (j + 1 = i ∧ w.category = 2))
  | [], i, v, j, w, h => by cases i <;> cases h
  | _ :: r, 0, v, 0, w, h => by cases h; exact Or.inl ⟨rfl, rfl⟩
  | _ :: r, 0, v, j + 1, w, h => by
    obtain ⟨h1, h2⟩ := em_kl_nth r j w h
    exact Or.inr ⟨by omega, by omega, h2, by omega⟩
  | x :: r, 1, v, 0, w, h => by
    obtain ⟨h1, h2⟩ := em_cl1_some h
    exact Or.inr ⟨by omega, by omega, h1, fun z => h2 z.2⟩
  | x :: r, 1, v, j + 1, w, h => by
    rcases em_s2_nth r 0 v j w h with ⟨a, b⟩ | ⟨a, a2, b, d⟩
    · exact Or.inl ⟨by omega, b⟩
    · exact Or.inr ⟨by omega, by omega, b, by omega⟩
  | x :: r, i + 2, v, 0, w, h => Or.inr ⟨by omega, by omega, h, by omega⟩
  | x :: r, i + 2, v, j + 1, w, h => by
    rcases em_s2_nth r (i + 1) v j w h with ⟨a, b⟩ | ⟨a, a2, b, d⟩
    · exact Or.inl ⟨by omega, b⟩
    · exact Or.inr ⟨by omega, by omega, b, fun z => d ⟨by omega, z.2⟩⟩
def em_hn : em_H → Nat → Option va_E
  | [], _ => none
  | x :: _, 0 => some x
  | _ :: r, i + 1 => em_hn r i
def em_hs : em_H → Nat → va_E → (em_H → Prop) → Prop
  | [], _, _, k => k []
  | _ :: r, 0, x, k => k (x :: r)
  | y :: r, i + 1, x, k => em_hs r i x (fun r' => k (y :: r'))
def em_fn : List Value → Nat → Option Value
  | [], _ => none
  | x :: _, 0 => some x
  | _ :: r, i + 1 => em_fn r i
def em_fs : List Value → Nat → Value → (List Value → Prop) → Prop
  | [], _, _, k => k []
  | _ :: r, 0, x, k => k (x :: r)
  | y :: r, i + 1, x, k => em_fs r i x (fun r' => k (y :: r'))
theorem em_hn_eq : ∀ (l : em_H) (i : Nat), em_hn l i = l[i]?
  | [], i => rfl
  | x :: r, 0 => rfl
  | x :: r, i + 1 => by rw [List.getElem?_cons_succ]; exact em_hn_eq r i
theorem em_hs_eq : ∀ (l : em_H) (i : Nat) (x : va_E) (k : em_H → Prop), em_hs l i x k = k (l.set i x)
  | [], i, x, k => rfl
  | y :: r, 0, x, k => rfl
  | y :: r, i + 1, x, k => by show em_hs r i x _ = _; rw [em_hs_eq r i x]; rfl
theorem em_fn_eq : ∀ (l : List Value) (i : Nat), em_fn l i = l[i]?
  | [], i => rfl
  | x :: r, 0 => rfl
  | x :: r, i + 1 => by rw [List.getElem?_cons_succ]; exact em_fn_eq r i
theorem em_fs_eq : ∀ (l : List Value) (i : Nat) (x : Value) (k : List Value → Prop), em_fs l i x k = k (l.set i x)
  | [], i, x, k => rfl
  | y :: r, 0, x, k => rfl
  | y :: r, i + 1, x, k => by show em_fs r i x _ = _; rw [em_fs_eq r i x]; rfl
/-! the meaning of numbered values and heaps on the machine -/
def em_v (σ ρ : Nat → Nat) : Value → Value
  | .ref a => .ref (ρ a)
  | .retAddr k => .ref (σ k)
  | v => v
theorem em_v_cat (σ ρ : Nat → Nat) (v : Value) : (em_v σ ρ v).category = v.category := by cases v <;> rfl
def em_e (σ : Nat → Nat) (dA : Nat → ClassId) (ρ : Nat → Nat) : va_E → va_E
  | .inl (t, n, .inl f) => .inl (dA t, n, .inl f)
  | .inl (t, n, .inr (.inl f)) => .inl (dA t, n, .inr (.inl f))
  | .inl (t, n, .inr (.inr (.inl f))) => .inl (dA t, n, .inr (.inr (.inl f)))
  | .inl (t, n, .inr (.inr (.inr (.inl f)))) => .inl (dA t, n, .inr (.inr (.inr (.inl f))))
  | .inl (t, n, .inr (.inr (.inr (.inr f)))) => .inl (dA t, n, .inr (.inr (.inr (.inr (fun i => (f i).map ρ)))))
  | .inr (c, fs) => .inr (c, fs.map (em_v σ ρ))
def em_w (σ : Nat → Nat) (dA : Nat → ClassId) (ρ : Nat → Nat) (hp : em_H) : va_W := hp.mapIdx (fun k x => (ρ k, em_e σ dA ρ x))
theorem em_w_get {σ : Nat → Nat} {dA : Nat → ClassId} {ρ : Nat → Nat} {hp : em_H} {a : Nat} {x : va_E} (h : em_hn hp a = some x) : (em_w σ dA ρ hp)[a]? = some (ρ a, em_e σ dA ρ x) := by
  rw [em_hn_eq] at h
  simp [em_w, List.getElem?_mapIdx, h]
theorem em_w_set {σ : Nat → Nat} {dA : Nat → ClassId} {ρ : Nat → Nat} {hp : em_H} {a : Nat} {x : va_E} : (em_w σ dA ρ hp).set a (ρ a, em_e σ dA ρ x) = em_w σ dA ρ (hp.set a x) := by
  apply List.ext_getElem?
  intro i
  by_cases hi : a = i
  · subst hi
    by_cases hl : a < hp.length
    · rw [List.getElem?_set_self (by simpa [em_w] using hl)]
      simp [em_w, List.getElem?_mapIdx, hl]
    · rw [List.getElem?_eq_none (by simp [em_w]; omega), List.getElem?_eq_none (by simp [em_w]; omega)]
  · rw [List.getElem?_set_ne hi]
    simp [em_w, List.getElem?_mapIdx, List.getElem?_set_ne hi]
theorem em_w_len {σ : Nat → Nat} {dA : Nat → ClassId} {ρ : Nat → Nat} {hp : em_H} : (em_w σ dA ρ hp).length = hp.length := by simp [em_w]
/-! locals -/
def em_al (f : Value → Value) : Nat → em_L → List (Nat × Value)
  | _, [] => []
  | o, none :: r => em_al f (o + 1) r
  | o, some v :: r => (o, f v) :: em_al f (o + 1) r
theorem em_al_of {f : Value → Value} : ∀ (l : em_L) (o i : Nat) (v : Value), em_nth l i = some v → (o + i, f v) ∈ em_al f o l
  | [], o, i, v, h => by cases h
  | none :: r, o, 0, v, h => by cases h
  | some x :: r, o, 0, v, h => by cases h; exact List.mem_cons_self
  | none :: r, o, i + 1, v, h => by
    have := em_al_of (f := f) r (o + 1) i v h
    rw [show o + 1 + i = o + (i + 1) by omega] at this
    exact this
  | some x :: r, o, i + 1, v, h => by
    have := em_al_of (f := f) r (o + 1) i v h
    rw [show o + 1 + i = o + (i + 1) by omega] at this
    exact List.mem_cons_of_mem _ this
theorem em_al_to {f : Value → Value} : ∀ (l : em_L) (o : Nat) (q : Nat × Value), q ∈ em_al f o l → ∃ (i : Nat) (v : Value), em_nth l i = some v ∧ q = (o + i, f v)
  | [], o, q, h => by cases h
  | none :: r, o, q, h => by
    obtain ⟨i, v, h1, h2⟩ := em_al_to r (o + 1) q h
    exact ⟨i + 1, v, h1, by rw [h2]; congr 1; omega⟩
  | some x :: r, o, q, h => by
    rcases List.mem_cons.mp h with rfl | h
    · exact ⟨0, x, rfl, rfl⟩
    · obtain ⟨i, v, h1, h2⟩ := em_al_to r (o + 1) q h
      exact ⟨i + 1, v, h1, by rw [h2]; congr 1; omega⟩
def em_LH (σ ρ : Nat → Nat) (arr : Array Slot) (nL : Nat) (ls : em_L) : Prop := ls.length = nL ∧ lv_has arr nL (em_al (em_v σ ρ) 0 ls)
theorem em_LH.at {σ ρ : Nat → Nat} {arr : Array Slot} {nL : Nat} {ls : em_L} (h : em_LH σ ρ arr nL ls) {i : Nat} {v : Value} (hi : em_nth ls i = some v) : arr[i]? = some (.val (em_v σ ρ v)) := by
  have := h.2.2.2 _ (em_al_of (f := em_v σ ρ) ls 0 i v hi)
  rw [Nat.zero_add] at this
  exact this
theorem em_LH.weak {σ ρ : Nat → Nat} {arr : Array Slot} {nL : Nat} {ls ls' : em_L} (h : em_LH σ ρ arr nL ls) (hl : ls'.length = ls.length) (hs : ∀ i v, em_nth ls' i = some v → em_nth ls i = some v) : em_LH σ ρ arr nL ls' := by
  refine ⟨hl.trans h.1, h.2.1, h.2.2.1, fun q hq => ?_⟩
  obtain ⟨i, v, h1, rfl⟩ := em_al_to ls' 0 q hq
  rw [Nat.zero_add]
  exact h.at (hs i v h1)
/-! the code as ops; what isn't in the list is left to K -/
def em_wp (Q : em_Q) (K : em_K) : List (Nat × em_Op) → em_K
  | [] => K
  | (p, o) :: r => fun pc ls st hp => bif Nat.beq p pc then o Q (em_wp Q K r) ls st hp else em_wp Q K r pc ls st hp
def em_le : em_L → em_L → Prop
  | [], [] => True
  | none :: a, _ :: b => em_le a b
  | some v :: a, w :: b => w = some v ∧ em_le a b
  | _, _ => False
theorem em_le_len : ∀ {a b : em_L}, em_le a b → a.length = b.length
  | [], [], _ => rfl
  | [], _ :: _, h => h.elim
  | none :: a, [], h => h.elim
  | some _ :: a, [], h => h.elim
  | none :: a, _ :: b, h => by show a.length + 1 = b.length + 1; rw [em_le_len (a := a) (b := b) h]
  | some v :: a, w :: b, h => by show a.length + 1 = b.length + 1; rw [em_le_len (a := a) (b := b) h.2]
theorem em_le_nth : ∀ {a b : em_L}, em_le a b → ∀ i v, em_nth a i = some v → em_nth b i = some v
  | [], [], _, i, v, h => by cases h
  | [], _ :: _, h, _, _, _ => h.elim
  | none :: a, [], h, _, _, _ => h.elim
  | some _ :: a, [], h, _, _, _ => h.elim
  | none :: a, y :: b, h, 0, v, hv => by cases hv
  | none :: a, y :: b, h, i + 1, v, hv => em_le_nth (a := a) (b := b) h i v hv
  | some x :: a, y :: b, h, 0, v, hv => by cases hv; exact h.1
  | some x :: a, y :: b, h, i + 1, v, hv => em_le_nth (a := a) (b := b) h.2 i v hv
def em_Ok (p : Program) (l : Launch) (e : Env) (R : Room) (s : State) (m : MethodId) (args : Array Value) (below : List Frame) (meth : Method) (c : Code) (D : va_G) (cl : List vw_C) (dA : Nat → ClassId) (σ : Nat → Nat) (A : Nat → Prop) (nL : Nat) (cnt : Nat → Nat × Nat) (Pr : (Nat → Nat) → Prop) (Z : State → Prop) : em_K :=
  fun pc ls st hp => ∀ (ρ : Nat → Nat) (arr : Array Slot) (H : Heap) (locs : List Loc), Pr ρ → em_LH σ ρ arr nL ls → va_P D cl (em_w σ dA ρ hp) H → va_D A (em_w σ dA ρ hp) → va_S A s.heap H locs → W p l e R s m args below meth c H locs (cnt pc).1 (cnt pc).2 Z (F0 m pc arr (st.map (em_v σ ρ)))
def em_Snd (p : Program) (l : Launch) (e : Env) (R : Room) (s : State) (m : MethodId) (args : Array Value) (below : List Frame) (meth : Method) (c : Code) (D : va_G) (cl : List vw_C) (dA : Nat → ClassId) (σ : Nat → Nat) (A : Nat → Prop) (nL : Nat) (cnt : Nat → Nat × Nat) (Pr : (Nat → Nat) → Prop) (Z : State → Prop) (Q : em_Q) (pc : Nat) (o : em_Op) : Prop :=
  ∀ k : em_K, (∀ pc' ls st hp, k pc' ls st hp → em_Ok p l e R s m args below meth c D cl dA σ A nL cnt Pr Z pc' ls st hp) → ∀ ls st hp, o Q k ls st hp → em_Ok p l e R s m args below meth c D cl dA σ A nL cnt Pr Z pc ls st hp
section EMA
variable {p : Program} {l : Launch} {e : Env} {R : Room} {s : State} {m : MethodId} {args : Array Value} {below : List Frame} {meth : Method} {c : Code} {D : va_G} {cl : List vw_C} {dA : Nat → ClassId} {σ : Nat → Nat} {A : Nat → Prop} {nL : Nat} {cnt : Nat → Nat × Nat} {Pr : (Nat → Nat) → Prop} {Z : State → Prop}
variable {tys : List (ClassId × FieldType)} {cc : ByteArray} {Q : em_Q} {own : String}
theorem em_wp_snd {T : List (Nat × em_Op)} (hT : ∀ q ∈ T, em_Snd p l e R s m args below meth c D cl dA σ A nL cnt Pr Z Q q.1 q.2) : ∀ L : List (Nat × em_Op), (∀ q ∈ L, q ∈ T) → ∀ pc ls st hp, em_wp Q (em_Ok p l e R s m args below meth c D cl dA σ A nL cnt Pr Z) L pc ls st hp → em_Ok p l e R s m args below meth c D cl dA σ A nL cnt Pr Z pc ls st hp
  | [], _, pc, ls, st, hp, h => h
  | (p0, o) :: r, hL, pc, ls, st, hp, h => by
    have ih := em_wp_snd hT r (fun q hq => hL q (List.mem_cons_of_mem _ hq))
    by_cases hpc : p0 = pc
    · subst hpc
      have h' : o Q (em_wp Q (em_Ok p l e R s m args below meth c D cl dA σ A nL cnt Pr Z) r) ls st hp := by
        unfold em_wp at h
        rw [show Nat.beq p0 p0 = true from Nat.beq_refl p0] at h
        exact h
      exact hT _ (hL _ List.mem_cons_self) _ ih ls st hp h'
    · have h' : em_wp Q (em_Ok p l e R s m args below meth c D cl dA σ A nL cnt Pr Z) r pc ls st hp := by
        unfold em_wp at h
        rw [show Nat.beq p0 pc = false from by
          cases hb : Nat.beq p0 pc with
          | false => rfl
          | true => exact absurd (Nat.eq_of_beq_eq_true hb) hpc] at h
        exact h
      exact ih pc ls st hp h'
theorem em_Ok_le {pc : Nat} {ls ls' : em_L} {st : List Value} {hp : em_H} (h : em_le ls' ls) (k : em_Ok p l e R s m args below meth c D cl dA σ A nL cnt Pr Z pc ls' st hp) : em_Ok p l e R s m args below meth c D cl dA σ A nL cnt Pr Z pc ls st hp :=
  fun ρ arr H locs hr hl hP hD hS => k ρ arr H locs hr (hl.weak (em_le_len h) (em_le_nth h)) hP hD hS
def em_Cx (p : Program) (s : State) (m : MethodId) (args : Array Value) (c : Code) (D : va_G) (cl : List vw_C) (A : Nat → Prop) (nL : Nat) (tys : List (ClassId × FieldType)) (cc : ByteArray) (own : String) : Prop :=
  p.tables.exec = Jvm.exec ∧ c.code = cc ∧ c.maxLocals = nL ∧ s.vm.findClass own = some m.cls ∧ (∀ w ∈ em_tb, w.before args s = true) ∧ va_K D cl tys s ∧ ∀ q, s.heap.size ≤ q → A q

def o_iconst (v : Int32) (n : Nat) : em_Op := fun _ k ls st hp => k n ls (.int v :: st) hp
def o_lconst (v : Int64) (n : Nat) : em_Op := fun _ k ls st hp => k n ls (.long v :: st) hp
theorem s_iconst (C : em_Cx p s m args c D cl A nL tys cc own) {pc n : Nat} {z : Int} {v : Int32} (hd : decode cc pc = .ok (.iconst z, 1)) (hn : pc + 1 = n) (hc : cnt n = cnt pc) (hv : Int32.ofInt z = v) : em_Snd p l e R s m args below meth c D cl dA σ A nL cnt Pr Z Q pc (o_iconst v n) := by
  intro k hk ls st hp h ρ arr H locs hr hl hP hD hS
  subst hn
  have h9 := hk _ _ _ _ h ρ arr H locs hr hl hP hD hS
  rw [hc] at h9
  exact lv_iconst C.1 C.2.1 hd hv h9
theorem s_bipush (C : em_Cx p s m args c D cl A nL tys cc own) {pc n : Nat} {z : Int} {v : Int32} (hd : decode cc pc = .ok (.bipush z, 2)) (hn : pc + 2 = n) (hc : cnt n = cnt pc) (hv : (Int8.ofInt z).toInt32 = v) : em_Snd p l e R s m args below meth c D cl dA σ A nL cnt Pr Z Q pc (o_iconst v n) := by
  intro k hk ls st hp h ρ arr H locs hr hl hP hD hS
  subst hn
  have h9 := hk _ _ _ _ h ρ arr H locs hr hl hP hD hS
  rw [hc] at h9
  exact lv_bipush C.1 C.2.1 hd hv h9
theorem s_sipush (C : em_Cx p s m args c D cl A nL tys cc own) {pc n : Nat} {z : Int} {v : Int32} (hd : decode cc pc = .ok (.sipush z, 3)) (hn : pc + 3 = n) (hc : cnt n = cnt pc) (hv : (Int16.ofInt z).toInt32 = v) : em_Snd p l e R s m args below meth c D cl dA σ A nL cnt Pr Z Q pc (o_iconst v n) := by
  intro k hk ls st hp h ρ arr H locs hr hl hP hD hS
  subst hn
  have h9 := hk _ _ _ _ h ρ arr H locs hr hl hP hD hS
  rw [hc] at h9
  exact lv_sipush C.1 C.2.1 hd hv h9
theorem s_lconst (C : em_Cx p s m args c D cl A nL tys cc own) {pc n : Nat} {z : Fin 2} {v : Int64} (hd : decode cc pc = .ok (.lconst z, 1)) (hn : pc + 1 = n) (hc : cnt n = cnt pc) (hv : Int64.ofNat (z : Nat) = v) : em_Snd p l e R s m args below meth c D cl dA σ A nL cnt Pr Z Q pc (o_lconst v n) := by
  intro k hk ls st hp h ρ arr H locs hr hl hP hD hS
  subst hn
  have h9 := hk _ _ _ _ h ρ arr H locs hr hl hP hD hS
  rw [hc] at h9
  exact lv_lconst C.1 C.2.1 hd hv h9
theorem s_ldc (C : em_Cx p s m args c D cl A nL tys cc own) {pc n : Nat} {index : Nat} {v : Int32} (hd : decode cc pc = .ok (.ldc index, 2)) (hn : pc + 2 = n) (hc : cnt n = cnt pc) (hw : Cond.constant own index v ∈ em_tb) : em_Snd p l e R s m args below meth c D cl dA σ A nL cnt Pr Z Q pc (o_iconst v n) := by
  intro k hk ls st hp h ρ arr H locs hr hl hP hD hS
  subst hn
  have h9 := hk _ _ _ _ h ρ arr H locs hr hl hP hD hS
  rw [hc] at h9
  exact lv_ldc C.1 C.2.1 C.2.2.2.1 (C.2.2.2.2.1 _ hw) hd h9
theorem s_ldcw (C : em_Cx p s m args c D cl A nL tys cc own) {pc n : Nat} {index : Nat} {v : Int32} (hd : decode cc pc = .ok (.ldc_w index, 3)) (hn : pc + 3 = n) (hc : cnt n = cnt pc) (hw : Cond.constant own index v ∈ em_tb) : em_Snd p l e R s m args below meth c D cl dA σ A nL cnt Pr Z Q pc (o_iconst v n) := by
  intro k hk ls st hp h ρ arr H locs hr hl hP hD hS
  subst hn
  have h9 := hk _ _ _ _ h ρ arr H locs hr hl hP hD hS
  rw [hc] at h9
  exact lv_ldcw C.1 C.2.1 C.2.2.2.1 (C.2.2.2.2.1 _ hw) hd h9
theorem s_ldc2 (C : em_Cx p s m args c D cl A nL tys cc own) {pc n : Nat} {index : Nat} {v : Int64} (hd : decode cc pc = .ok (.ldc2_w index, 3)) (hn : pc + 3 = n) (hc : cnt n = cnt pc) (hw : Cond.constantLong own index v ∈ em_tb) : em_Snd p l e R s m args below meth c D cl dA σ A nL cnt Pr Z Q pc (o_lconst v n) := by
  intro k hk ls st hp h ρ arr H locs hr hl hP hD hS
  subst hn
  have h9 := hk _ _ _ _ h ρ arr H locs hr hl hP hD hS
  rw [hc] at h9
  exact lv_ldc2 C.1 C.2.1 C.2.2.2.1 (C.2.2.2.2.1 _ hw) hd h9
def o_iload (i : Nat) (n : Nat) : em_Op := fun _ k ls st hp => match em_nth ls i with | some (.int x) => k n ls (.int x :: st) hp | _ => False
theorem s_iload (C : em_Cx p s m args c D cl A nL tys cc own) {pc n : Nat} {i : Nat} (hd : decode cc pc = .ok (.iload i, 2)) (hn : pc + 2 = n) (hc : cnt n = cnt pc) : em_Snd p l e R s m args below meth c D cl dA σ A nL cnt Pr Z Q pc (o_iload i n) := by
  intro k hk ls st hp h ρ arr H locs hr hl hP hD hS
  subst hn
  unfold o_iload at h
  split at h
  · rename_i x he
    have h9 := hk _ _ _ _ h ρ arr H locs hr hl hP hD hS
    rw [hc] at h9
    exact lv_iload C.1 C.2.1 hd (hl.at he) h9
  · exact h.elim
theorem s_iload_n (C : em_Cx p s m args c D cl A nL tys cc own) {pc n : Nat} {i : Nat} {q : Fin 4} (hd : decode cc pc = .ok (.iload_n q, 1)) (hn : pc + 1 = n) (hc : cnt n = cnt pc) (hi : (q : Nat) = i) : em_Snd p l e R s m args below meth c D cl dA σ A nL cnt Pr Z Q pc (o_iload i n) := by
  intro k hk ls st hp h ρ arr H locs hr hl hP hD hS
  subst hn
  unfold o_iload at h
  split at h
  · rename_i x he
    have h9 := hk _ _ _ _ h ρ arr H locs hr hl hP hD hS
    rw [hc] at h9
    exact lv_iload_n C.1 C.2.1 hd hi (hl.at he) h9
  · exact h.elim
def o_lload (i : Nat) (n : Nat) : em_Op := fun _ k ls st hp => match em_nth ls i with | some (.long x) => k n ls (.long x :: st) hp | _ => False
theorem s_lload (C : em_Cx p s m args c D cl A nL tys cc own) {pc n : Nat} {i : Nat} (hd : decode cc pc = .ok (.lload i, 2)) (hn : pc + 2 = n) (hc : cnt n = cnt pc) : em_Snd p l e R s m args below meth c D cl dA σ A nL cnt Pr Z Q pc (o_lload i n) := by
  intro k hk ls st hp h ρ arr H locs hr hl hP hD hS
  subst hn
  unfold o_lload at h
  split at h
  · rename_i x he
    have h9 := hk _ _ _ _ h ρ arr H locs hr hl hP hD hS
    rw [hc] at h9
    exact lv_lload C.1 C.2.1 hd (hl.at he) h9
  · exact h.elim
theorem s_lload_n (C : em_Cx p s m args c D cl A nL tys cc own) {pc n : Nat} {i : Nat} {q : Fin 4} (hd : decode cc pc = .ok (.lload_n q, 1)) (hn : pc + 1 = n) (hc : cnt n = cnt pc) (hi : (q : Nat) = i) : em_Snd p l e R s m args below meth c D cl dA σ A nL cnt Pr Z Q pc (o_lload i n) := by
  intro k hk ls st hp h ρ arr H locs hr hl hP hD hS
  subst hn
  unfold o_lload at h
  split at h
  · rename_i x he
    have h9 := hk _ _ _ _ h ρ arr H locs hr hl hP hD hS
    rw [hc] at h9
    exact lv_lload_n C.1 C.2.1 hd hi (hl.at he) h9
  · exact h.elim
def o_aload (i : Nat) (n : Nat) : em_Op := fun _ k ls st hp => match em_nth ls i with | some (.ref x) => k n ls (.ref x :: st) hp | _ => False
theorem s_aload (C : em_Cx p s m args c D cl A nL tys cc own) {pc n : Nat} {i : Nat} (hd : decode cc pc = .ok (.aload i, 2)) (hn : pc + 2 = n) (hc : cnt n = cnt pc) : em_Snd p l e R s m args below meth c D cl dA σ A nL cnt Pr Z Q pc (o_aload i n) := by
  intro k hk ls st hp h ρ arr H locs hr hl hP hD hS
  subst hn
  unfold o_aload at h
  split at h
  · rename_i x he
    have h9 := hk _ _ _ _ h ρ arr H locs hr hl hP hD hS
    rw [hc] at h9
    exact lv_aload C.1 C.2.1 hd (hl.at he) h9
  · exact h.elim
theorem s_aload_n (C : em_Cx p s m args c D cl A nL tys cc own) {pc n : Nat} {i : Nat} {q : Fin 4} (hd : decode cc pc = .ok (.aload_n q, 1)) (hn : pc + 1 = n) (hc : cnt n = cnt pc) (hi : (q : Nat) = i) : em_Snd p l e R s m args below meth c D cl dA σ A nL cnt Pr Z Q pc (o_aload i n) := by
  intro k hk ls st hp h ρ arr H locs hr hl hP hD hS
  subst hn
  unfold o_aload at h
  split at h
  · rename_i x he
    have h9 := hk _ _ _ _ h ρ arr H locs hr hl hP hD hS
    rw [hc] at h9
    exact lv_aload_n C.1 C.2.1 hd hi (hl.at he) h9
  · exact h.elim
def o_sload (i : Nat) (n : Nat) : em_Op := fun _ k ls st hp => match em_nth ls i with | some (.retAddr x) => k n ls (.retAddr x :: st) hp | _ => False
theorem s_sload (C : em_Cx p s m args c D cl A nL tys cc own) {pc n : Nat} {i : Nat} (hd : decode cc pc = .ok (.aload i, 2)) (hn : pc + 2 = n) (hc : cnt n = cnt pc) : em_Snd p l e R s m args below meth c D cl dA σ A nL cnt Pr Z Q pc (o_sload i n) := by
  intro k hk ls st hp h ρ arr H locs hr hl hP hD hS
  subst hn
  unfold o_sload at h
  split at h
  · rename_i x he
    have h9 := hk _ _ _ _ h ρ arr H locs hr hl hP hD hS
    rw [hc] at h9
    exact lv_aload C.1 C.2.1 hd (hl.at he) h9
  · exact h.elim
theorem s_sload_n (C : em_Cx p s m args c D cl A nL tys cc own) {pc n : Nat} {i : Nat} {q : Fin 4} (hd : decode cc pc = .ok (.aload_n q, 1)) (hn : pc + 1 = n) (hc : cnt n = cnt pc) (hi : (q : Nat) = i) : em_Snd p l e R s m args below meth c D cl dA σ A nL cnt Pr Z Q pc (o_sload i n) := by
  intro k hk ls st hp h ρ arr H locs hr hl hP hD hS
  subst hn
  unfold o_sload at h
  split at h
  · rename_i x he
    have h9 := hk _ _ _ _ h ρ arr H locs hr hl hP hD hS
    rw [hc] at h9
    exact lv_aload_n C.1 C.2.1 hd hi (hl.at he) h9
  · exact h.elim
def o_istore (i : Nat) (n : Nat) : em_Op := fun _ k ls st hp => match st with | .int x :: r => em_st1 ls i (.int x) (fun ls' => k n ls' r hp) | _ => False
theorem s_istore (C : em_Cx p s m args c D cl A nL tys cc own) {pc n : Nat} {i : Nat} (hd : decode cc pc = .ok (.istore i, 2)) (hn : pc + 2 = n) (hc : cnt n = cnt pc) (hb : i < nL) : em_Snd p l e R s m args below meth c D cl dA σ A nL cnt Pr Z Q pc (o_istore i n) := by
  intro k hk ls st hp h ρ arr H locs hr hl hP hD hS
  subst hn
  unfold o_istore at h
  split at h
  · rename_i x r
    rw [em_st1_eq] at h
    refine lv_istore C.1 C.2.1 hd hl.2 hb rfl (fun arr' ha => ?_)
    have h9 := hk _ _ _ _ h ρ arr' H locs hr ⟨(em_s1_len ls i _).trans hl.1, ha.1, ha.2.1, fun q2 hq2 => ?_⟩ hP hD hS
    · rw [hc] at h9
      exact h9
    · obtain ⟨j, w, h1, rfl⟩ := em_al_to _ 0 q2 hq2
      refine ha.2.2 _ ?_
      rcases em_s1_nth ls i _ j w h1 with ⟨rfl, rfl⟩ | ⟨n1, n2, n3⟩
      · rw [Nat.zero_add]; exact List.mem_cons_self
      · refine List.mem_cons_of_mem _ (List.mem_filter.mpr ⟨em_al_of ls 0 j w n2, ?_⟩)
        simp only [Nat.zero_add, em_v_cat, Bool.and_eq_true, Bool.not_eq_true', beq_eq_false_iff_ne, ne_eq, Bool.and_eq_false_iff]
        refine ⟨n1, ?_⟩
        by_cases hz : j + 1 = i
        · exact Or.inr (fun z => n3 ⟨hz, z⟩)
        · exact Or.inl hz
  · exact h.elim
theorem s_istore_n (C : em_Cx p s m args c D cl A nL tys cc own) {pc n : Nat} {i : Nat} {q : Fin 4} (hd : decode cc pc = .ok (.istore_n q, 1)) (hn : pc + 1 = n) (hc : cnt n = cnt pc) (hi : (q : Nat) = i) (hb : i < nL) : em_Snd p l e R s m args below meth c D cl dA σ A nL cnt Pr Z Q pc (o_istore i n) := by
  intro k hk ls st hp h ρ arr H locs hr hl hP hD hS
  subst hn
  unfold o_istore at h
  split at h
  · rename_i x r
    rw [em_st1_eq] at h
    refine lv_istore_n C.1 C.2.1 hd hi hl.2 hb rfl (fun arr' ha => ?_)
    have h9 := hk _ _ _ _ h ρ arr' H locs hr ⟨(em_s1_len ls i _).trans hl.1, ha.1, ha.2.1, fun q2 hq2 => ?_⟩ hP hD hS
    · rw [hc] at h9
      exact h9
    · obtain ⟨j, w, h1, rfl⟩ := em_al_to _ 0 q2 hq2
      refine ha.2.2 _ ?_
      rcases em_s1_nth ls i _ j w h1 with ⟨rfl, rfl⟩ | ⟨n1, n2, n3⟩
      · rw [Nat.zero_add]; exact List.mem_cons_self
      · refine List.mem_cons_of_mem _ (List.mem_filter.mpr ⟨em_al_of ls 0 j w n2, ?_⟩)
        simp only [Nat.zero_add, em_v_cat, Bool.and_eq_true, Bool.not_eq_true', beq_eq_false_iff_ne, ne_eq, Bool.and_eq_false_iff]
        refine ⟨n1, ?_⟩
        by_cases hz : j + 1 = i
        · exact Or.inr (fun z => n3 ⟨hz, z⟩)
        · exact Or.inl hz
  · exact h.elim
def o_lstore (i : Nat) (n : Nat) : em_Op := fun _ k ls st hp => match st with | .long x :: r => em_st2 ls i (.long x) (fun ls' => k n ls' r hp) | _ => False
theorem s_lstore (C : em_Cx p s m args c D cl A nL tys cc own) {pc n : Nat} {i : Nat} (hd : decode cc pc = .ok (.lstore i, 2)) (hn : pc + 2 = n) (hc : cnt n = cnt pc) (hb : i + 1 < nL) : em_Snd p l e R s m args below meth c D cl dA σ A nL cnt Pr Z Q pc (o_lstore i n) := by
  intro k hk ls st hp h ρ arr H locs hr hl hP hD hS
  subst hn
  unfold o_lstore at h
  split at h
  · rename_i x r
    rw [em_st2_eq] at h
    refine lv_lstore C.1 C.2.1 hd hl.2 hb rfl (fun arr' ha => ?_)
    have h9 := hk _ _ _ _ h ρ arr' H locs hr ⟨(em_s2_len ls i _).trans hl.1, ha.1, ha.2.1, fun q2 hq2 => ?_⟩ hP hD hS
    · rw [hc] at h9
      exact h9
    · obtain ⟨j, w, h1, rfl⟩ := em_al_to _ 0 q2 hq2
      refine ha.2.2 _ ?_
      rcases em_s2_nth ls i _ j w h1 with ⟨rfl, rfl⟩ | ⟨n1, n1', n2, n3⟩
      · rw [Nat.zero_add]; exact List.mem_cons_self
      · refine List.mem_cons_of_mem _ (List.mem_filter.mpr ⟨em_al_of ls 0 j w n2, ?_⟩)
        simp only [Nat.zero_add, em_v_cat, Bool.and_eq_true, Bool.not_eq_true', beq_eq_false_iff_ne, ne_eq, Bool.and_eq_false_iff]
        refine ⟨n1, n1', ?_⟩
        by_cases hz : j + 1 = i
        · exact Or.inr (fun z => n3 ⟨hz, z⟩)
        · exact Or.inl hz
  · exact h.elim
theorem s_lstore_n (C : em_Cx p s m args c D cl A nL tys cc own) {pc n : Nat} {i : Nat} {q : Fin 4} (hd : decode cc pc = .ok (.lstore_n q, 1)) (hn : pc + 1 = n) (hc : cnt n = cnt pc) (hi : (q : Nat) = i) (hb : i + 1 < nL) : em_Snd p l e R s m args below meth c D cl dA σ A nL cnt Pr Z Q pc (o_lstore i n) := by
  intro k hk ls st hp h ρ arr H locs hr hl hP hD hS
  subst hn
  unfold o_lstore at h
  split at h
  · rename_i x r
    rw [em_st2_eq] at h
    refine lv_lstore_n C.1 C.2.1 hd hi hl.2 hb rfl (fun arr' ha => ?_)
    have h9 := hk _ _ _ _ h ρ arr' H locs hr ⟨(em_s2_len ls i _).trans hl.1, ha.1, ha.2.1, fun q2 hq2 => ?_⟩ hP hD hS
    · rw [hc] at h9
      exact h9
    · obtain ⟨j, w, h1, rfl⟩ := em_al_to _ 0 q2 hq2
      refine ha.2.2 _ ?_
      rcases em_s2_nth ls i _ j w h1 with ⟨rfl, rfl⟩ | ⟨n1, n1', n2, n3⟩
      · rw [Nat.zero_add]; exact List.mem_cons_self
      · refine List.mem_cons_of_mem _ (List.mem_filter.mpr ⟨em_al_of ls 0 j w n2, ?_⟩)
        simp only [Nat.zero_add, em_v_cat, Bool.and_eq_true, Bool.not_eq_true', beq_eq_false_iff_ne, ne_eq, Bool.and_eq_false_iff]
        refine ⟨n1, n1', ?_⟩
        by_cases hz : j + 1 = i
        · exact Or.inr (fun z => n3 ⟨hz, z⟩)
        · exact Or.inl hz
  · exact h.elim
def o_astore (i : Nat) (n : Nat) : em_Op := fun _ k ls st hp => match st with | .ref x :: r => em_st1 ls i (.ref x) (fun ls' => k n ls' r hp) | _ => False
theorem s_astore (C : em_Cx p s m args c D cl A nL tys cc own) {pc n : Nat} {i : Nat} (hd : decode cc pc = .ok (.astore i, 2)) (hn : pc + 2 = n) (hc : cnt n = cnt pc) (hb : i < nL) : em_Snd p l e R s m args below meth c D cl dA σ A nL cnt Pr Z Q pc (o_astore i n) := by
  intro k hk ls st hp h ρ arr H locs hr hl hP hD hS
  subst hn
  unfold o_astore at h
  split at h
  · rename_i x r
    rw [em_st1_eq] at h
    refine lv_astore C.1 C.2.1 hd hl.2 hb rfl (fun arr' ha => ?_)
    have h9 := hk _ _ _ _ h ρ arr' H locs hr ⟨(em_s1_len ls i _).trans hl.1, ha.1, ha.2.1, fun q2 hq2 => ?_⟩ hP hD hS
    · rw [hc] at h9
      exact h9
    · obtain ⟨j, w, h1, rfl⟩ := em_al_to _ 0 q2 hq2
      refine ha.2.2 _ ?_
      rcases em_s1_nth ls i _ j w h1 with ⟨rfl, rfl⟩ | ⟨n1, n2, n3⟩
      · rw [Nat.zero_add]; exact List.mem_cons_self
      · refine List.mem_cons_of_mem _ (List.mem_filter.mpr ⟨em_al_of ls 0 j w n2, ?_⟩)
        simp only [Nat.zero_add, em_v_cat, Bool.and_eq_true, Bool.not_eq_true', beq_eq_false_iff_ne, ne_eq, Bool.and_eq_false_iff]
        refine ⟨n1, ?_⟩
        by_cases hz : j + 1 = i
        · exact Or.inr (fun z => n3 ⟨hz, z⟩)
        · exact Or.inl hz
  · exact h.elim
theorem s_astore_n (C : em_Cx p s m args c D cl A nL tys cc own) {pc n : Nat} {i : Nat} {q : Fin 4} (hd : decode cc pc = .ok (.astore_n q, 1)) (hn : pc + 1 = n) (hc : cnt n = cnt pc) (hi : (q : Nat) = i) (hb : i < nL) : em_Snd p l e R s m args below meth c D cl dA σ A nL cnt Pr Z Q pc (o_astore i n) := by
  intro k hk ls st hp h ρ arr H locs hr hl hP hD hS
  subst hn
  unfold o_astore at h
  split at h
  · rename_i x r
    rw [em_st1_eq] at h
    refine lv_astore_n C.1 C.2.1 hd hi hl.2 hb rfl (fun arr' ha => ?_)
    have h9 := hk _ _ _ _ h ρ arr' H locs hr ⟨(em_s1_len ls i _).trans hl.1, ha.1, ha.2.1, fun q2 hq2 => ?_⟩ hP hD hS
    · rw [hc] at h9
      exact h9
    · obtain ⟨j, w, h1, rfl⟩ := em_al_to _ 0 q2 hq2
      refine ha.2.2 _ ?_
      rcases em_s1_nth ls i _ j w h1 with ⟨rfl, rfl⟩ | ⟨n1, n2, n3⟩
      · rw [Nat.zero_add]; exact List.mem_cons_self
      · refine List.mem_cons_of_mem _ (List.mem_filter.mpr ⟨em_al_of ls 0 j w n2, ?_⟩)
        simp only [Nat.zero_add, em_v_cat, Bool.and_eq_true, Bool.not_eq_true', beq_eq_false_iff_ne, ne_eq, Bool.and_eq_false_iff]
        refine ⟨n1, ?_⟩
        by_cases hz : j + 1 = i
        · exact Or.inr (fun z => n3 ⟨hz, z⟩)
        · exact Or.inl hz
  · exact h.elim
def o_iinc (i : Nat) (d : Int32) (n : Nat) : em_Op := fun _ k ls st hp => match em_nth ls i with | some (.int x) => em_st1 ls i (.int (x + d)) (fun ls' => k n ls' st hp) | _ => False
theorem s_iinc (C : em_Cx p s m args c D cl A nL tys cc own) {pc n : Nat} {i : Nat} {d : Int32} {z : Int} (hd : decode cc pc = .ok (.iinc i z, 3)) (hn : pc + 3 = n) (hc : cnt n = cnt pc) (hv : Int32.ofInt z = d) (hb : i < nL) : em_Snd p l e R s m args below meth c D cl dA σ A nL cnt Pr Z Q pc (o_iinc i d n) := by
  intro k hk ls st hp h ρ arr H locs hr hl hP hD hS
  subst hn
  unfold o_iinc at h
  split at h
  · rename_i x he
    rw [em_st1_eq] at h
    have hm : (i, Value.int x) ∈ em_al (em_v σ ρ) 0 ls := by
      have := em_al_of (f := em_v σ ρ) ls 0 i _ he
      rw [Nat.zero_add] at this
      exact this
    obtain ⟨kk, hkk⟩ := List.getElem?_of_mem hm
    refine lv_iinc (v := x + d) C.1 C.2.1 hd hl.2 hkk (by rw [hv]) hb rfl (fun arr' ha => ?_)
    have h9 := hk _ _ _ _ h ρ arr' H locs hr ⟨(em_s1_len ls i _).trans hl.1, ha.1, ha.2.1, fun q2 hq2 => ?_⟩ hP hD hS
    · rw [hc] at h9
      exact h9
    · obtain ⟨j, w, h1, rfl⟩ := em_al_to _ 0 q2 hq2
      refine ha.2.2 _ ?_
      rcases em_s1_nth ls i _ j w h1 with ⟨rfl, rfl⟩ | ⟨n1, n2, n3⟩
      · rw [Nat.zero_add]; exact List.mem_cons_self
      · refine List.mem_cons_of_mem _ (List.mem_filter.mpr ⟨em_al_of ls 0 j w n2, ?_⟩)
        simp only [Nat.zero_add, em_v_cat, Bool.and_eq_true, Bool.not_eq_true', beq_eq_false_iff_ne, ne_eq, Bool.and_eq_false_iff]
        refine ⟨n1, ?_⟩
        by_cases hz : j + 1 = i
        · exact Or.inr (fun z => n3 ⟨hz, z⟩)
        · exact Or.inl hz
  · exact h.elim
def o_iadd (n : Nat) : em_Op := fun _ k ls st hp => match st with | .int y :: .int x :: r => k n ls (.int (x + y) :: r) hp | _ => False
theorem s_iadd (C : em_Cx p s m args c D cl A nL tys cc own) {pc n : Nat} (hd : decode cc pc = .ok (.iadd, 1)) (hn : pc + 1 = n) (hc : cnt n = cnt pc) : em_Snd p l e R s m args below meth c D cl dA σ A nL cnt Pr Z Q pc (o_iadd n) := by
  intro k hk ls st hp h ρ arr H locs hr hl hP hD hS
  subst hn
  unfold o_iadd at h
  split at h
  · have h9 := hk _ _ _ _ h ρ arr H locs hr hl hP hD hS
    rw [hc] at h9
    exact lv_iadd C.1 C.2.1 hd h9
  · exact h.elim
def o_isub (n : Nat) : em_Op := fun _ k ls st hp => match st with | .int y :: .int x :: r => k n ls (.int (x - y) :: r) hp | _ => False
theorem s_isub (C : em_Cx p s m args c D cl A nL tys cc own) {pc n : Nat} (hd : decode cc pc = .ok (.isub, 1)) (hn : pc + 1 = n) (hc : cnt n = cnt pc) : em_Snd p l e R s m args below meth c D cl dA σ A nL cnt Pr Z Q pc (o_isub n) := by
  intro k hk ls st hp h ρ arr H locs hr hl hP hD hS
  subst hn
  unfold o_isub at h
  split at h
  · have h9 := hk _ _ _ _ h ρ arr H locs hr hl hP hD hS
    rw [hc] at h9
    exact lv_isub C.1 C.2.1 hd h9
  · exact h.elim
def o_imul (n : Nat) : em_Op := fun _ k ls st hp => match st with | .int y :: .int x :: r => k n ls (.int (x * y) :: r) hp | _ => False
theorem s_imul (C : em_Cx p s m args c D cl A nL tys cc own) {pc n : Nat} (hd : decode cc pc = .ok (.imul, 1)) (hn : pc + 1 = n) (hc : cnt n = cnt pc) : em_Snd p l e R s m args below meth c D cl dA σ A nL cnt Pr Z Q pc (o_imul n) := by
  intro k hk ls st hp h ρ arr H locs hr hl hP hD hS
  subst hn
  unfold o_imul at h
  split at h
  · have h9 := hk _ _ _ _ h ρ arr H locs hr hl hP hD hS
    rw [hc] at h9
    exact lv_imul C.1 C.2.1 hd h9
  · exact h.elim
def o_iand (n : Nat) : em_Op := fun _ k ls st hp => match st with | .int y :: .int x :: r => k n ls (.int (x &&& y) :: r) hp | _ => False
theorem s_iand (C : em_Cx p s m args c D cl A nL tys cc own) {pc n : Nat} (hd : decode cc pc = .ok (.iand, 1)) (hn : pc + 1 = n) (hc : cnt n = cnt pc) : em_Snd p l e R s m args below meth c D cl dA σ A nL cnt Pr Z Q pc (o_iand n) := by
  intro k hk ls st hp h ρ arr H locs hr hl hP hD hS
  subst hn
  unfold o_iand at h
  split at h
  · have h9 := hk _ _ _ _ h ρ arr H locs hr hl hP hD hS
    rw [hc] at h9
    exact lv_iand C.1 C.2.1 hd h9
  · exact h.elim
def o_ior (n : Nat) : em_Op := fun _ k ls st hp => match st with | .int y :: .int x :: r => k n ls (.int (x ||| y) :: r) hp | _ => False
theorem s_ior (C : em_Cx p s m args c D cl A nL tys cc own) {pc n : Nat} (hd : decode cc pc = .ok (.ior, 1)) (hn : pc + 1 = n) (hc : cnt n = cnt pc) : em_Snd p l e R s m args below meth c D cl dA σ A nL cnt Pr Z Q pc (o_ior n) := by
  intro k hk ls st hp h ρ arr H locs hr hl hP hD hS
  subst hn
  unfold o_ior at h
  split at h
  · have h9 := hk _ _ _ _ h ρ arr H locs hr hl hP hD hS
    rw [hc] at h9
    exact lv_ior C.1 C.2.1 hd h9
  · exact h.elim
def o_ixor (n : Nat) : em_Op := fun _ k ls st hp => match st with | .int y :: .int x :: r => k n ls (.int (x ^^^ y) :: r) hp | _ => False
theorem s_ixor (C : em_Cx p s m args c D cl A nL tys cc own) {pc n : Nat} (hd : decode cc pc = .ok (.ixor, 1)) (hn : pc + 1 = n) (hc : cnt n = cnt pc) : em_Snd p l e R s m args below meth c D cl dA σ A nL cnt Pr Z Q pc (o_ixor n) := by
  intro k hk ls st hp h ρ arr H locs hr hl hP hD hS
  subst hn
  unfold o_ixor at h
  split at h
  · have h9 := hk _ _ _ _ h ρ arr H locs hr hl hP hD hS
    rw [hc] at h9
    exact lv_ixor C.1 C.2.1 hd h9
  · exact h.elim
def o_ishl (n : Nat) : em_Op := fun _ k ls st hp => match st with | .int y :: .int x :: r => k n ls (.int (x <<< (y &&& 31)) :: r) hp | _ => False
theorem s_ishl (C : em_Cx p s m args c D cl A nL tys cc own) {pc n : Nat} (hd : decode cc pc = .ok (.ishl, 1)) (hn : pc + 1 = n) (hc : cnt n = cnt pc) : em_Snd p l e R s m args below meth c D cl dA σ A nL cnt Pr Z Q pc (o_ishl n) := by
  intro k hk ls st hp h ρ arr H locs hr hl hP hD hS
  subst hn
  unfold o_ishl at h
  split at h
  · have h9 := hk _ _ _ _ h ρ arr H locs hr hl hP hD hS
    rw [hc] at h9
    exact lv_ishl C.1 C.2.1 hd h9
  · exact h.elim
def o_ishr (n : Nat) : em_Op := fun _ k ls st hp => match st with | .int y :: .int x :: r => k n ls (.int (x >>> (y &&& 31)) :: r) hp | _ => False
theorem s_ishr (C : em_Cx p s m args c D cl A nL tys cc own) {pc n : Nat} (hd : decode cc pc = .ok (.ishr, 1)) (hn : pc + 1 = n) (hc : cnt n = cnt pc) : em_Snd p l e R s m args below meth c D cl dA σ A nL cnt Pr Z Q pc (o_ishr n) := by
  intro k hk ls st hp h ρ arr H locs hr hl hP hD hS
  subst hn
  unfold o_ishr at h
  split at h
  · have h9 := hk _ _ _ _ h ρ arr H locs hr hl hP hD hS
    rw [hc] at h9
    exact lv_ishr C.1 C.2.1 hd h9
  · exact h.elim
def o_idiv (n : Nat) : em_Op := fun _ k ls st hp => match st with | .int y :: .int x :: r => ¬ y = 0 ∧ k n ls (.int (x / y) :: r) hp | _ => False
theorem s_idiv (C : em_Cx p s m args c D cl A nL tys cc own) {pc n : Nat} (hd : decode cc pc = .ok (.idiv, 1)) (hn : pc + 1 = n) (hc : cnt n = cnt pc) : em_Snd p l e R s m args below meth c D cl dA σ A nL cnt Pr Z Q pc (o_idiv n) := by
  intro k hk ls st hp h ρ arr H locs hr hl hP hD hS
  subst hn
  unfold o_idiv at h
  split at h
  · have h9 := hk _ _ _ _ h.2 ρ arr H locs hr hl hP hD hS
    rw [hc] at h9
    exact lv_idiv C.1 C.2.1 hd h.1 h9
  · exact h.elim
def o_irem (n : Nat) : em_Op := fun _ k ls st hp => match st with | .int y :: .int x :: r => ¬ y = 0 ∧ k n ls (.int (x - x / y * y) :: r) hp | _ => False
theorem s_irem (C : em_Cx p s m args c D cl A nL tys cc own) {pc n : Nat} (hd : decode cc pc = .ok (.irem, 1)) (hn : pc + 1 = n) (hc : cnt n = cnt pc) : em_Snd p l e R s m args below meth c D cl dA σ A nL cnt Pr Z Q pc (o_irem n) := by
  intro k hk ls st hp h ρ arr H locs hr hl hP hD hS
  subst hn
  unfold o_irem at h
  split at h
  · have h9 := hk _ _ _ _ h.2 ρ arr H locs hr hl hP hD hS
    rw [hc] at h9
    exact lv_irem C.1 C.2.1 hd h.1 h9
  · exact h.elim
def o_iushr (n : Nat) : em_Op := fun _ k ls st hp => match st with | .int y :: .int x :: r => k n ls (.int ((x.toUInt32 >>> (y.toUInt32 &&& Int32.toUInt32 31)).toInt32) :: r) hp | _ => False
theorem s_iushr (C : em_Cx p s m args c D cl A nL tys cc own) {pc n : Nat} (hd : decode cc pc = .ok (.iushr, 1)) (hn : pc + 1 = n) (hc : cnt n = cnt pc) : em_Snd p l e R s m args below meth c D cl dA σ A nL cnt Pr Z Q pc (o_iushr n) := by
  intro k hk ls st hp h ρ arr H locs hr hl hP hD hS
  subst hn
  unfold o_iushr at h
  split at h
  · have h9 := hk _ _ _ _ h ρ arr H locs hr hl hP hD hS
    rw [hc] at h9
    exact lv_iushr C.1 C.2.1 hd rfl h9
  · exact h.elim
def o_ineg (n : Nat) : em_Op := fun _ k ls st hp => match st with | .int x :: r => k n ls (.int (-x) :: r) hp | _ => False
theorem s_ineg (C : em_Cx p s m args c D cl A nL tys cc own) {pc n : Nat} (hd : decode cc pc = .ok (.ineg, 1)) (hn : pc + 1 = n) (hc : cnt n = cnt pc) : em_Snd p l e R s m args below meth c D cl dA σ A nL cnt Pr Z Q pc (o_ineg n) := by
  intro k hk ls st hp h ρ arr H locs hr hl hP hD hS
  subst hn
  unfold o_ineg at h
  split at h
  · have h9 := hk _ _ _ _ h ρ arr H locs hr hl hP hD hS
    rw [hc] at h9
    exact lv_ineg C.1 C.2.1 hd h9
  · exact h.elim
def o_ladd (n : Nat) : em_Op := fun _ k ls st hp => match st with | .long y :: .long x :: r => k n ls (.long (x + y) :: r) hp | _ => False
theorem s_ladd (C : em_Cx p s m args c D cl A nL tys cc own) {pc n : Nat} (hd : decode cc pc = .ok (.ladd, 1)) (hn : pc + 1 = n) (hc : cnt n = cnt pc) : em_Snd p l e R s m args below meth c D cl dA σ A nL cnt Pr Z Q pc (o_ladd n) := by
  intro k hk ls st hp h ρ arr H locs hr hl hP hD hS
  subst hn
  unfold o_ladd at h
  split at h
  · have h9 := hk _ _ _ _ h ρ arr H locs hr hl hP hD hS
    rw [hc] at h9
    exact lv_ladd C.1 C.2.1 hd h9
  · exact h.elim
def o_lsub (n : Nat) : em_Op := fun _ k ls st hp => match st with | .long y :: .long x :: r => k n ls (.long (x - y) :: r) hp | _ => False
theorem s_lsub (C : em_Cx p s m args c D cl A nL tys cc own) {pc n : Nat} (hd : decode cc pc = .ok (.lsub, 1)) (hn : pc + 1 = n) (hc : cnt n = cnt pc) : em_Snd p l e R s m args below meth c D cl dA σ A nL cnt Pr Z Q pc (o_lsub n) := by
  intro k hk ls st hp h ρ arr H locs hr hl hP hD hS
  subst hn
  unfold o_lsub at h
  split at h
  · have h9 := hk _ _ _ _ h ρ arr H locs hr hl hP hD hS
    rw [hc] at h9
    exact lv_lsub C.1 C.2.1 hd h9
  · exact h.elim
def o_lmul (n : Nat) : em_Op := fun _ k ls st hp => match st with | .long y :: .long x :: r => k n ls (.long (x * y) :: r) hp | _ => False
theorem s_lmul (C : em_Cx p s m args c D cl A nL tys cc own) {pc n : Nat} (hd : decode cc pc = .ok (.lmul, 1)) (hn : pc + 1 = n) (hc : cnt n = cnt pc) : em_Snd p l e R s m args below meth c D cl dA σ A nL cnt Pr Z Q pc (o_lmul n) := by
  intro k hk ls st hp h ρ arr H locs hr hl hP hD hS
  subst hn
  unfold o_lmul at h
  split at h
  · have h9 := hk _ _ _ _ h ρ arr H locs hr hl hP hD hS
    rw [hc] at h9
    exact lv_lmul C.1 C.2.1 hd h9
  · exact h.elim
def o_land (n : Nat) : em_Op := fun _ k ls st hp => match st with | .long y :: .long x :: r => k n ls (.long (x &&& y) :: r) hp | _ => False
theorem s_land (C : em_Cx p s m args c D cl A nL tys cc own) {pc n : Nat} (hd : decode cc pc = .ok (.land, 1)) (hn : pc + 1 = n) (hc : cnt n = cnt pc) : em_Snd p l e R s m args below meth c D cl dA σ A nL cnt Pr Z Q pc (o_land n) := by
  intro k hk ls st hp h ρ arr H locs hr hl hP hD hS
  subst hn
  unfold o_land at h
  split at h
  · have h9 := hk _ _ _ _ h ρ arr H locs hr hl hP hD hS
    rw [hc] at h9
    exact lv_land C.1 C.2.1 hd h9
  · exact h.elim
def o_lor (n : Nat) : em_Op := fun _ k ls st hp => match st with | .long y :: .long x :: r => k n ls (.long (x ||| y) :: r) hp | _ => False
theorem s_lor (C : em_Cx p s m args c D cl A nL tys cc own) {pc n : Nat} (hd : decode cc pc = .ok (.lor, 1)) (hn : pc + 1 = n) (hc : cnt n = cnt pc) : em_Snd p l e R s m args below meth c D cl dA σ A nL cnt Pr Z Q pc (o_lor n) := by
  intro k hk ls st hp h ρ arr H locs hr hl hP hD hS
  subst hn
  unfold o_lor at h
  split at h
  · have h9 := hk _ _ _ _ h ρ arr H locs hr hl hP hD hS
    rw [hc] at h9
    exact lv_lor C.1 C.2.1 hd h9
  · exact h.elim
def o_lxor (n : Nat) : em_Op := fun _ k ls st hp => match st with | .long y :: .long x :: r => k n ls (.long (x ^^^ y) :: r) hp | _ => False
theorem s_lxor (C : em_Cx p s m args c D cl A nL tys cc own) {pc n : Nat} (hd : decode cc pc = .ok (.lxor, 1)) (hn : pc + 1 = n) (hc : cnt n = cnt pc) : em_Snd p l e R s m args below meth c D cl dA σ A nL cnt Pr Z Q pc (o_lxor n) := by
  intro k hk ls st hp h ρ arr H locs hr hl hP hD hS
  subst hn
  unfold o_lxor at h
  split at h
  · have h9 := hk _ _ _ _ h ρ arr H locs hr hl hP hD hS
    rw [hc] at h9
    exact lv_lxor C.1 C.2.1 hd h9
  · exact h.elim
def o_ldiv (n : Nat) : em_Op := fun _ k ls st hp => match st with | .long y :: .long x :: r => ¬ y = 0 ∧ k n ls (.long (x / y) :: r) hp | _ => False
theorem s_ldiv (C : em_Cx p s m args c D cl A nL tys cc own) {pc n : Nat} (hd : decode cc pc = .ok (.ldiv, 1)) (hn : pc + 1 = n) (hc : cnt n = cnt pc) : em_Snd p l e R s m args below meth c D cl dA σ A nL cnt Pr Z Q pc (o_ldiv n) := by
  intro k hk ls st hp h ρ arr H locs hr hl hP hD hS
  subst hn
  unfold o_ldiv at h
  split at h
  · have h9 := hk _ _ _ _ h.2 ρ arr H locs hr hl hP hD hS
    rw [hc] at h9
    exact lv_ldiv C.1 C.2.1 hd h.1 h9
  · exact h.elim
def o_lrem (n : Nat) : em_Op := fun _ k ls st hp => match st with | .long y :: .long x :: r => ¬ y = 0 ∧ k n ls (.long (x - x / y * y) :: r) hp | _ => False
theorem s_lrem (C : em_Cx p s m args c D cl A nL tys cc own) {pc n : Nat} (hd : decode cc pc = .ok (.lrem, 1)) (hn : pc + 1 = n) (hc : cnt n = cnt pc) : em_Snd p l e R s m args below meth c D cl dA σ A nL cnt Pr Z Q pc (o_lrem n) := by
  intro k hk ls st hp h ρ arr H locs hr hl hP hD hS
  subst hn
  unfold o_lrem at h
  split at h
  · have h9 := hk _ _ _ _ h.2 ρ arr H locs hr hl hP hD hS
    rw [hc] at h9
    exact lv_lrem C.1 C.2.1 hd h.1 h9
  · exact h.elim
def o_lshl (n : Nat) : em_Op := fun _ k ls st hp => match st with | .int y :: .long x :: r => k n ls (.long (x <<< (y.toInt64 &&& 63)) :: r) hp | _ => False
theorem s_lshl (C : em_Cx p s m args c D cl A nL tys cc own) {pc n : Nat} (hd : decode cc pc = .ok (.lshl, 1)) (hn : pc + 1 = n) (hc : cnt n = cnt pc) : em_Snd p l e R s m args below meth c D cl dA σ A nL cnt Pr Z Q pc (o_lshl n) := by
  intro k hk ls st hp h ρ arr H locs hr hl hP hD hS
  subst hn
  unfold o_lshl at h
  split at h
  · have h9 := hk _ _ _ _ h ρ arr H locs hr hl hP hD hS
    rw [hc] at h9
    exact lv_lshl C.1 C.2.1 hd rfl h9
  · exact h.elim
def o_lshr (n : Nat) : em_Op := fun _ k ls st hp => match st with | .int y :: .long x :: r => k n ls (.long (x >>> (y.toInt64 &&& 63)) :: r) hp | _ => False
theorem s_lshr (C : em_Cx p s m args c D cl A nL tys cc own) {pc n : Nat} (hd : decode cc pc = .ok (.lshr, 1)) (hn : pc + 1 = n) (hc : cnt n = cnt pc) : em_Snd p l e R s m args below meth c D cl dA σ A nL cnt Pr Z Q pc (o_lshr n) := by
  intro k hk ls st hp h ρ arr H locs hr hl hP hD hS
  subst hn
  unfold o_lshr at h
  split at h
  · have h9 := hk _ _ _ _ h ρ arr H locs hr hl hP hD hS
    rw [hc] at h9
    exact lv_lshr C.1 C.2.1 hd rfl h9
  · exact h.elim
def o_i2l (n : Nat) : em_Op := fun _ k ls st hp => match st with | .int x :: r => k n ls (.long (x.toInt64) :: r) hp | _ => False
theorem s_i2l (C : em_Cx p s m args c D cl A nL tys cc own) {pc n : Nat} (hd : decode cc pc = .ok (.i2l, 1)) (hn : pc + 1 = n) (hc : cnt n = cnt pc) : em_Snd p l e R s m args below meth c D cl dA σ A nL cnt Pr Z Q pc (o_i2l n) := by
  intro k hk ls st hp h ρ arr H locs hr hl hP hD hS
  subst hn
  unfold o_i2l at h
  split at h
  · have h9 := hk _ _ _ _ h ρ arr H locs hr hl hP hD hS
    rw [hc] at h9
    exact lv_i2l C.1 C.2.1 hd rfl h9
  · exact h.elim
def o_l2i (n : Nat) : em_Op := fun _ k ls st hp => match st with | .long x :: r => k n ls (.int (x.toInt32) :: r) hp | _ => False
theorem s_l2i (C : em_Cx p s m args c D cl A nL tys cc own) {pc n : Nat} (hd : decode cc pc = .ok (.l2i, 1)) (hn : pc + 1 = n) (hc : cnt n = cnt pc) : em_Snd p l e R s m args below meth c D cl dA σ A nL cnt Pr Z Q pc (o_l2i n) := by
  intro k hk ls st hp h ρ arr H locs hr hl hP hD hS
  subst hn
  unfold o_l2i at h
  split at h
  · have h9 := hk _ _ _ _ h ρ arr H locs hr hl hP hD hS
    rw [hc] at h9
    exact lv_l2i C.1 C.2.1 hd rfl h9
  · exact h.elim
def o_i2b (n : Nat) : em_Op := fun _ k ls st hp => match st with | .int x :: r => k n ls (.int (x.toInt8.toInt32) :: r) hp | _ => False
theorem s_i2b (C : em_Cx p s m args c D cl A nL tys cc own) {pc n : Nat} (hd : decode cc pc = .ok (.i2b, 1)) (hn : pc + 1 = n) (hc : cnt n = cnt pc) : em_Snd p l e R s m args below meth c D cl dA σ A nL cnt Pr Z Q pc (o_i2b n) := by
  intro k hk ls st hp h ρ arr H locs hr hl hP hD hS
  subst hn
  unfold o_i2b at h
  split at h
  · have h9 := hk _ _ _ _ h ρ arr H locs hr hl hP hD hS
    rw [hc] at h9
    exact lv_i2b C.1 C.2.1 hd rfl h9
  · exact h.elim
def o_lcmp (n : Nat) : em_Op := fun _ k ls st hp => match st with | .long y :: .long x :: r => k n ls (.int (lg_cmp x y) :: r) hp | _ => False
theorem s_lcmp (C : em_Cx p s m args c D cl A nL tys cc own) {pc n : Nat} (hd : decode cc pc = .ok (.lcmp, 1)) (hn : pc + 1 = n) (hc : cnt n = cnt pc) : em_Snd p l e R s m args below meth c D cl dA σ A nL cnt Pr Z Q pc (o_lcmp n) := by
  intro k hk ls st hp h ρ arr H locs hr hl hP hD hS
  subst hn
  unfold o_lcmp at h
  split at h
  · have h9 := hk _ _ _ _ h ρ arr H locs hr hl hP hD hS
    rw [hc] at h9
    exact W.lcmp C.1 C.2.1 hd h9
  · exact h.elim
def o_pop (n : Nat) : em_Op := fun _ k ls st hp => match st with | .int _ :: r => k n ls r hp | _ => False
theorem s_pop (C : em_Cx p s m args c D cl A nL tys cc own) {pc n : Nat} (hd : decode cc pc = .ok (.pop, 1)) (hn : pc + 1 = n) (hc : cnt n = cnt pc) : em_Snd p l e R s m args below meth c D cl dA σ A nL cnt Pr Z Q pc (o_pop n) := by
  intro k hk ls st hp h ρ arr H locs hr hl hP hD hS
  subst hn
  unfold o_pop at h
  split at h
  · have h9 := hk _ _ _ _ h ρ arr H locs hr hl hP hD hS
    rw [hc] at h9
    exact lv_pop C.1 C.2.1 hd rfl h9
  · exact h.elim
def o_dup (n : Nat) : em_Op := fun _ k ls st hp => match st with | .ref a :: r => k n ls (.ref a :: .ref a :: r) hp | .int a :: r => k n ls (.int a :: .int a :: r) hp | _ => False
theorem s_dup (C : em_Cx p s m args c D cl A nL tys cc own) {pc n : Nat} (hd : decode cc pc = .ok (.dup, 1)) (hn : pc + 1 = n) (hc : cnt n = cnt pc) : em_Snd p l e R s m args below meth c D cl dA σ A nL cnt Pr Z Q pc (o_dup n) := by
  intro k hk ls st hp h ρ arr H locs hr hl hP hD hS
  subst hn
  unfold o_dup at h
  split at h
  · have h9 := hk _ _ _ _ h ρ arr H locs hr hl hP hD hS
    rw [hc] at h9
    exact lv_dup C.1 C.2.1 hd rfl h9
  · have h9 := hk _ _ _ _ h ρ arr H locs hr hl hP hD hS
    rw [hc] at h9
    exact lv_dup C.1 C.2.1 hd rfl h9
  · exact h.elim
def o_dup_x1 (n : Nat) : em_Op := fun _ k ls st hp => match st with | .int y :: .ref a :: r => k n ls (.int y :: .ref a :: .int y :: r) hp | _ => False
theorem s_dup_x1 (C : em_Cx p s m args c D cl A nL tys cc own) {pc n : Nat} (hd : decode cc pc = .ok (.dup_x1, 1)) (hn : pc + 1 = n) (hc : cnt n = cnt pc) : em_Snd p l e R s m args below meth c D cl dA σ A nL cnt Pr Z Q pc (o_dup_x1 n) := by
  intro k hk ls st hp h ρ arr H locs hr hl hP hD hS
  subst hn
  unfold o_dup_x1 at h
  split at h
  · have h9 := hk _ _ _ _ h ρ arr H locs hr hl hP hD hS
    rw [hc] at h9
    exact lv_dup_x1 C.1 C.2.1 hd rfl rfl h9
  · exact h.elim
def o_dup2 (n : Nat) : em_Op := fun _ k ls st hp => match st with | .int y :: .ref a :: r => k n ls (.int y :: .ref a :: .int y :: .ref a :: r) hp | _ => False
theorem s_dup2 (C : em_Cx p s m args c D cl A nL tys cc own) {pc n : Nat} (hd : decode cc pc = .ok (.dup2, 1)) (hn : pc + 1 = n) (hc : cnt n = cnt pc) : em_Snd p l e R s m args below meth c D cl dA σ A nL cnt Pr Z Q pc (o_dup2 n) := by
  intro k hk ls st hp h ρ arr H locs hr hl hP hD hS
  subst hn
  unfold o_dup2 at h
  split at h
  · have h9 := hk _ _ _ _ h ρ arr H locs hr hl hP hD hS
    rw [hc] at h9
    exact lv_dup2_11 C.1 C.2.1 hd rfl rfl h9
  · exact h.elim
def o_ifeq (t n : Nat) : em_Op := fun _ k ls st hp => match st with | .int x :: r => (x = 0 → k t ls r hp) ∧ (¬ x = 0 → k n ls r hp) | _ => False
theorem s_ifeq (C : em_Cx p s m args c D cl A nL tys cc own) {pc t n : Nat} {off : Int} (hd : decode cc pc = .ok (.ifCond .eq off, 3)) (ht : (pc : Int) + off = (t : Int)) (hn : pc + 3 = n) (hc : cnt n = cnt pc) (hc2 : cnt t = cnt pc) : em_Snd p l e R s m args below meth c D cl dA σ A nL cnt Pr Z Q pc (o_ifeq t n) := by
  intro k hk ls st hp h ρ arr H locs hr hl hP hD hS
  subst hn
  unfold o_ifeq at h
  split at h
  · refine lv_if_eq C.1 C.2.1 hd ht (fun z => ?_) (fun z => ?_)
    · have h9 := hk _ _ _ _ (h.1 z) ρ arr H locs hr hl hP hD hS
      rw [hc2] at h9
      exact h9
    · have h9 := hk _ _ _ _ (h.2 z) ρ arr H locs hr hl hP hD hS
      rw [hc] at h9
      exact h9
  · exact h.elim
def o_ifne (t n : Nat) : em_Op := fun _ k ls st hp => match st with | .int x :: r => (¬ x = 0 → k t ls r hp) ∧ (x = 0 → k n ls r hp) | _ => False
theorem s_ifne (C : em_Cx p s m args c D cl A nL tys cc own) {pc t n : Nat} {off : Int} (hd : decode cc pc = .ok (.ifCond .ne off, 3)) (ht : (pc : Int) + off = (t : Int)) (hn : pc + 3 = n) (hc : cnt n = cnt pc) (hc2 : cnt t = cnt pc) : em_Snd p l e R s m args below meth c D cl dA σ A nL cnt Pr Z Q pc (o_ifne t n) := by
  intro k hk ls st hp h ρ arr H locs hr hl hP hD hS
  subst hn
  unfold o_ifne at h
  split at h
  · refine lv_if_ne C.1 C.2.1 hd ht (fun z => ?_) (fun z => ?_)
    · have h9 := hk _ _ _ _ (h.1 z) ρ arr H locs hr hl hP hD hS
      rw [hc2] at h9
      exact h9
    · have h9 := hk _ _ _ _ (h.2 z) ρ arr H locs hr hl hP hD hS
      rw [hc] at h9
      exact h9
  · exact h.elim
def o_iflt (t n : Nat) : em_Op := fun _ k ls st hp => match st with | .int x :: r => (x < 0 → k t ls r hp) ∧ (¬ x < 0 → k n ls r hp) | _ => False
theorem s_iflt (C : em_Cx p s m args c D cl A nL tys cc own) {pc t n : Nat} {off : Int} (hd : decode cc pc = .ok (.ifCond .lt off, 3)) (ht : (pc : Int) + off = (t : Int)) (hn : pc + 3 = n) (hc : cnt n = cnt pc) (hc2 : cnt t = cnt pc) : em_Snd p l e R s m args below meth c D cl dA σ A nL cnt Pr Z Q pc (o_iflt t n) := by
  intro k hk ls st hp h ρ arr H locs hr hl hP hD hS
  subst hn
  unfold o_iflt at h
  split at h
  · refine lv_if_lt C.1 C.2.1 hd ht (fun z => ?_) (fun z => ?_)
    · have h9 := hk _ _ _ _ (h.1 z) ρ arr H locs hr hl hP hD hS
      rw [hc2] at h9
      exact h9
    · have h9 := hk _ _ _ _ (h.2 z) ρ arr H locs hr hl hP hD hS
      rw [hc] at h9
      exact h9
  · exact h.elim
def o_ifge (t n : Nat) : em_Op := fun _ k ls st hp => match st with | .int x :: r => (0 ≤ x → k t ls r hp) ∧ (¬ 0 ≤ x → k n ls r hp) | _ => False
theorem s_ifge (C : em_Cx p s m args c D cl A nL tys cc own) {pc t n : Nat} {off : Int} (hd : decode cc pc = .ok (.ifCond .ge off, 3)) (ht : (pc : Int) + off = (t : Int)) (hn : pc + 3 = n) (hc : cnt n = cnt pc) (hc2 : cnt t = cnt pc) : em_Snd p l e R s m args below meth c D cl dA σ A nL cnt Pr Z Q pc (o_ifge t n) := by
  intro k hk ls st hp h ρ arr H locs hr hl hP hD hS
  subst hn
  unfold o_ifge at h
  split at h
  · refine lv_if_ge C.1 C.2.1 hd ht (fun z => ?_) (fun z => ?_)
    · have h9 := hk _ _ _ _ (h.1 z) ρ arr H locs hr hl hP hD hS
      rw [hc2] at h9
      exact h9
    · have h9 := hk _ _ _ _ (h.2 z) ρ arr H locs hr hl hP hD hS
      rw [hc] at h9
      exact h9
  · exact h.elim
def o_ifgt (t n : Nat) : em_Op := fun _ k ls st hp => match st with | .int x :: r => (0 < x → k t ls r hp) ∧ (¬ 0 < x → k n ls r hp) | _ => False
theorem s_ifgt (C : em_Cx p s m args c D cl A nL tys cc own) {pc t n : Nat} {off : Int} (hd : decode cc pc = .ok (.ifCond .gt off, 3)) (ht : (pc : Int) + off = (t : Int)) (hn : pc + 3 = n) (hc : cnt n = cnt pc) (hc2 : cnt t = cnt pc) : em_Snd p l e R s m args below meth c D cl dA σ A nL cnt Pr Z Q pc (o_ifgt t n) := by
  intro k hk ls st hp h ρ arr H locs hr hl hP hD hS
  subst hn
  unfold o_ifgt at h
  split at h
  · refine lv_if_gt C.1 C.2.1 hd ht (fun z => ?_) (fun z => ?_)
    · have h9 := hk _ _ _ _ (h.1 z) ρ arr H locs hr hl hP hD hS
      rw [hc2] at h9
      exact h9
    · have h9 := hk _ _ _ _ (h.2 z) ρ arr H locs hr hl hP hD hS
      rw [hc] at h9
      exact h9
  · exact h.elim
def o_ifle (t n : Nat) : em_Op := fun _ k ls st hp => match st with | .int x :: r => (x ≤ 0 → k t ls r hp) ∧ (¬ x ≤ 0 → k n ls r hp) | _ => False
theorem s_ifle (C : em_Cx p s m args c D cl A nL tys cc own) {pc t n : Nat} {off : Int} (hd : decode cc pc = .ok (.ifCond .le off, 3)) (ht : (pc : Int) + off = (t : Int)) (hn : pc + 3 = n) (hc : cnt n = cnt pc) (hc2 : cnt t = cnt pc) : em_Snd p l e R s m args below meth c D cl dA σ A nL cnt Pr Z Q pc (o_ifle t n) := by
  intro k hk ls st hp h ρ arr H locs hr hl hP hD hS
  subst hn
  unfold o_ifle at h
  split at h
  · refine lv_if_le C.1 C.2.1 hd ht (fun z => ?_) (fun z => ?_)
    · have h9 := hk _ _ _ _ (h.1 z) ρ arr H locs hr hl hP hD hS
      rw [hc2] at h9
      exact h9
    · have h9 := hk _ _ _ _ (h.2 z) ρ arr H locs hr hl hP hD hS
      rw [hc] at h9
      exact h9
  · exact h.elim
def o_icmpeq (t n : Nat) : em_Op := fun _ k ls st hp => match st with | .int y :: .int x :: r => (x = y → k t ls r hp) ∧ (¬ x = y → k n ls r hp) | _ => False
theorem s_icmpeq (C : em_Cx p s m args c D cl A nL tys cc own) {pc t n : Nat} {off : Int} (hd : decode cc pc = .ok (.if_icmp .eq off, 3)) (ht : (pc : Int) + off = (t : Int)) (hn : pc + 3 = n) (hc : cnt n = cnt pc) (hc2 : cnt t = cnt pc) : em_Snd p l e R s m args below meth c D cl dA σ A nL cnt Pr Z Q pc (o_icmpeq t n) := by
  intro k hk ls st hp h ρ arr H locs hr hl hP hD hS
  subst hn
  unfold o_icmpeq at h
  split at h
  · refine lv_icmp_eq C.1 C.2.1 hd ht (fun z => ?_) (fun z => ?_)
    · have h9 := hk _ _ _ _ (h.1 z) ρ arr H locs hr hl hP hD hS
      rw [hc2] at h9
      exact h9
    · have h9 := hk _ _ _ _ (h.2 z) ρ arr H locs hr hl hP hD hS
      rw [hc] at h9
      exact h9
  · exact h.elim
def o_icmpne (t n : Nat) : em_Op := fun _ k ls st hp => match st with | .int y :: .int x :: r => (¬ x = y → k t ls r hp) ∧ (x = y → k n ls r hp) | _ => False
theorem s_icmpne (C : em_Cx p s m args c D cl A nL tys cc own) {pc t n : Nat} {off : Int} (hd : decode cc pc = .ok (.if_icmp .ne off, 3)) (ht : (pc : Int) + off = (t : Int)) (hn : pc + 3 = n) (hc : cnt n = cnt pc) (hc2 : cnt t = cnt pc) : em_Snd p l e R s m args below meth c D cl dA σ A nL cnt Pr Z Q pc (o_icmpne t n) := by
  intro k hk ls st hp h ρ arr H locs hr hl hP hD hS
  subst hn
  unfold o_icmpne at h
  split at h
  · refine lv_icmp_ne C.1 C.2.1 hd ht (fun z => ?_) (fun z => ?_)
    · have h9 := hk _ _ _ _ (h.1 z) ρ arr H locs hr hl hP hD hS
      rw [hc2] at h9
      exact h9
    · have h9 := hk _ _ _ _ (h.2 z) ρ arr H locs hr hl hP hD hS
      rw [hc] at h9
      exact h9
  · exact h.elim
def o_icmplt (t n : Nat) : em_Op := fun _ k ls st hp => match st with | .int y :: .int x :: r => (x < y → k t ls r hp) ∧ (¬ x < y → k n ls r hp) | _ => False
theorem s_icmplt (C : em_Cx p s m args c D cl A nL tys cc own) {pc t n : Nat} {off : Int} (hd : decode cc pc = .ok (.if_icmp .lt off, 3)) (ht : (pc : Int) + off = (t : Int)) (hn : pc + 3 = n) (hc : cnt n = cnt pc) (hc2 : cnt t = cnt pc) : em_Snd p l e R s m args below meth c D cl dA σ A nL cnt Pr Z Q pc (o_icmplt t n) := by
  intro k hk ls st hp h ρ arr H locs hr hl hP hD hS
  subst hn
  unfold o_icmplt at h
  split at h
  · refine lv_icmp_lt C.1 C.2.1 hd ht (fun z => ?_) (fun z => ?_)
    · have h9 := hk _ _ _ _ (h.1 z) ρ arr H locs hr hl hP hD hS
      rw [hc2] at h9
      exact h9
    · have h9 := hk _ _ _ _ (h.2 z) ρ arr H locs hr hl hP hD hS
      rw [hc] at h9
      exact h9
  · exact h.elim
def o_icmpge (t n : Nat) : em_Op := fun _ k ls st hp => match st with | .int y :: .int x :: r => (y ≤ x → k t ls r hp) ∧ (¬ y ≤ x → k n ls r hp) | _ => False
theorem s_icmpge (C : em_Cx p s m args c D cl A nL tys cc own) {pc t n : Nat} {off : Int} (hd : decode cc pc = .ok (.if_icmp .ge off, 3)) (ht : (pc : Int) + off = (t : Int)) (hn : pc + 3 = n) (hc : cnt n = cnt pc) (hc2 : cnt t = cnt pc) : em_Snd p l e R s m args below meth c D cl dA σ A nL cnt Pr Z Q pc (o_icmpge t n) := by
  intro k hk ls st hp h ρ arr H locs hr hl hP hD hS
  subst hn
  unfold o_icmpge at h
  split at h
  · refine lv_icmp_ge C.1 C.2.1 hd ht (fun z => ?_) (fun z => ?_)
    · have h9 := hk _ _ _ _ (h.1 z) ρ arr H locs hr hl hP hD hS
      rw [hc2] at h9
      exact h9
    · have h9 := hk _ _ _ _ (h.2 z) ρ arr H locs hr hl hP hD hS
      rw [hc] at h9
      exact h9
  · exact h.elim
def o_icmpgt (t n : Nat) : em_Op := fun _ k ls st hp => match st with | .int y :: .int x :: r => (y < x → k t ls r hp) ∧ (¬ y < x → k n ls r hp) | _ => False
theorem s_icmpgt (C : em_Cx p s m args c D cl A nL tys cc own) {pc t n : Nat} {off : Int} (hd : decode cc pc = .ok (.if_icmp .gt off, 3)) (ht : (pc : Int) + off = (t : Int)) (hn : pc + 3 = n) (hc : cnt n = cnt pc) (hc2 : cnt t = cnt pc) : em_Snd p l e R s m args below meth c D cl dA σ A nL cnt Pr Z Q pc (o_icmpgt t n) := by
  intro k hk ls st hp h ρ arr H locs hr hl hP hD hS
  subst hn
  unfold o_icmpgt at h
  split at h
  · refine lv_icmp_gt C.1 C.2.1 hd ht (fun z => ?_) (fun z => ?_)
    · have h9 := hk _ _ _ _ (h.1 z) ρ arr H locs hr hl hP hD hS
      rw [hc2] at h9
      exact h9
    · have h9 := hk _ _ _ _ (h.2 z) ρ arr H locs hr hl hP hD hS
      rw [hc] at h9
      exact h9
  · exact h.elim
def o_icmple (t n : Nat) : em_Op := fun _ k ls st hp => match st with | .int y :: .int x :: r => (x ≤ y → k t ls r hp) ∧ (¬ x ≤ y → k n ls r hp) | _ => False
theorem s_icmple (C : em_Cx p s m args c D cl A nL tys cc own) {pc t n : Nat} {off : Int} (hd : decode cc pc = .ok (.if_icmp .le off, 3)) (ht : (pc : Int) + off = (t : Int)) (hn : pc + 3 = n) (hc : cnt n = cnt pc) (hc2 : cnt t = cnt pc) : em_Snd p l e R s m args below meth c D cl dA σ A nL cnt Pr Z Q pc (o_icmple t n) := by
  intro k hk ls st hp h ρ arr H locs hr hl hP hD hS
  subst hn
  unfold o_icmple at h
  split at h
  · refine lv_icmp_le C.1 C.2.1 hd ht (fun z => ?_) (fun z => ?_)
    · have h9 := hk _ _ _ _ (h.1 z) ρ arr H locs hr hl hP hD hS
      rw [hc2] at h9
      exact h9
    · have h9 := hk _ _ _ _ (h.2 z) ρ arr H locs hr hl hP hD hS
      rw [hc] at h9
      exact h9
  · exact h.elim
def o_goto (t : Nat) : em_Op := fun _ k ls st hp => k t ls st hp
theorem s_goto (C : em_Cx p s m args c D cl A nL tys cc own) {pc t : Nat} {off : Int} (hd : decode cc pc = .ok (.goto off, 3)) (ht : (pc : Int) + off = (t : Int)) (hc : cnt t = cnt pc) : em_Snd p l e R s m args below meth c D cl dA σ A nL cnt Pr Z Q pc (o_goto t) := by
  intro k hk ls st hp h ρ arr H locs hr hl hP hD hS
  have h9 := hk _ _ _ _ h ρ arr H locs hr hl hP hD hS
  rw [hc] at h9
  exact lv_goto C.1 C.2.1 hd ht h9
def em_sw (k : Nat → Prop) (d : Nat) (x : Int32) : List (Int32 × Nat) → Prop
  | [] => k d
  | (v, t) :: r => (x = v → k t) ∧ (¬ x = v → em_sw k d x r)
theorem em_sw_to {k : Nat → Prop} {d : Nat} {x : Int32} : ∀ {L : List (Int32 × Nat)}, em_sw k d x L → (∃ (i : Nat) (q : Int32 × Nat), L[i]? = some q ∧ x = q.1 ∧ k q.2) ∨ ((∀ q ∈ L, x ≠ q.1) ∧ k d)
  | [], h => Or.inr ⟨fun q hq => (by cases hq), h⟩
  | (v, t) :: r, h => by
    by_cases hx : x = v
    · exact Or.inl ⟨0, (v, t), rfl, hx, h.1 hx⟩
    · rcases em_sw_to (h.2 hx) with ⟨i, q, h1, h2, h3⟩ | ⟨h1, h2⟩
      · exact Or.inl ⟨i + 1, q, h1, h2, h3⟩
      · refine Or.inr ⟨fun q hq => ?_, h2⟩
        rcases List.mem_cons.mp hq with rfl | hq
        · exact hx
        · exact h1 q hq
def o_sw (L : List (Int32 × Nat)) (d : Nat) : em_Op := fun _ k ls st hp => match st with | .int x :: r => em_sw (fun t => k t ls r hp) d x L | _ => False
theorem s_sw (C : em_Cx p s m args c D cl A nL tys cc own) {pc d len : Nat} {L : List (Int32 × Nat)} {dflt lo hi : Int} {offs : Array Int} (hd : decode cc pc = .ok (.tableswitch dflt lo hi offs, len)) (hL : L = offs.toList.mapIdx (fun i o => (Int32.ofInt (lo + i), ((pc : Int) + o).toNat))) (hz : hi = lo + offs.size - 1 ∧ -1000 ≤ lo ∧ hi ≤ 1000 ∧ (∀ o ∈ offs.toList, (0 : Int) ≤ (pc : Int) + o)) (ht : (pc : Int) + dflt = (d : Int)) (hc : ∀ t, cnt t = cnt pc) : em_Snd p l e R s m args below meth c D cl dA σ A nL cnt Pr Z Q pc (o_sw L d) := by
  intro k hk ls st hp h ρ arr H locs hr hl hP hD hS
  unfold o_sw at h
  split at h
  · rename_i x r
    rcases em_sw_to h with ⟨i, q, h1, h2, h3⟩ | ⟨h1, h2⟩
    · have h9 := hk _ _ _ _ h3 ρ arr H locs hr hl hP hD hS
      rw [hc] at h9
      rw [hL, List.getElem?_mapIdx] at h1
      have hlt : i < offs.toList.length := by
        rcases Nat.lt_or_ge i offs.toList.length with z | z
        · exact z
        · rw [List.getElem?_eq_none z] at h1; cases h1
      rw [List.getElem?_eq_getElem hlt] at h1
      cases h1
      have hsz : offs.toList.length = offs.size := by simp
      have hx : x.toInt = lo + i := by
        rw [h2]
        have a1 : (i : Int) < offs.size := by omega
        rw [Int32.toInt_ofInt_of_le (by omega) (by omega)]
      have e1 : (x.toInt - lo).toNat = i := by omega
      have hmem := hz.2.2.2 _ (List.getElem_mem hlt)
      refine lv_tableIn (off := offs.toList[i]) (tgt := ((pc : Int) + offs.toList[i]).toNat) C.1 C.2.1 hd (by omega) (by omega) ?_ (by omega) h9
      rw [e1]
      rw [← Array.getElem?_toList, List.getElem?_eq_getElem hlt]
    · have h9 := hk _ _ _ _ h2 ρ arr H locs hr hl hP hD hS
      rw [hc] at h9
      refine lv_tableOut C.1 C.2.1 hd ?_ ht h9
      rcases Int.lt_or_le x.toInt lo with z | z
      · exact Or.inl z
      · rcases Int.lt_or_le hi x.toInt with z2 | z2
        · exact Or.inr z2
        · exfalso
          have hsz : offs.toList.length = offs.size := by simp
          have hlt : (x.toInt - lo).toNat < offs.toList.length := by omega
          refine h1 (Int32.ofInt (lo + (x.toInt - lo).toNat), ((pc : Int) + offs.toList[(x.toInt - lo).toNat]).toNat) ?_ ?_
          · rw [hL]
            refine List.mem_of_getElem? (i := (x.toInt - lo).toNat) ?_
            rw [List.getElem?_mapIdx, List.getElem?_eq_getElem hlt]
            rfl
          · show x = Int32.ofInt (lo + (x.toInt - lo).toNat)
            rw [show lo + ((x.toInt - lo).toNat : Int) = x.toInt by omega]
            simp
  · exact h.elim
end EMA
end
section

/-- the classes of the arrays, by tag -/
abbrev em_tys (dA : Nat → ClassId) : List (ClassId × FieldType) := [(dA 0, .int), (dA 1, .long), (dA 2, .byte), (dA 3, .boolean), (dA 4, .object "WedApart$Town")]
/-- a class of the world: its place, its fields, the words that lay them out -/
def em_Cl (cl : List vw_C) (ci : Nat) (Cn : String) (T : u_T) (N : Nat) : Prop := cl[ci]? = some (Cn, T, N) ∧ (∀ w ∈ u_ws Cn T N, w ∈ em_tb) ∧ (∃ ty0 : Nat → FieldType, ∀ k, k < N → parseFieldDescriptor (T k).2.2.1 = some (ty0 k)) ∧ ∀ a, a < N → ∀ b, b < N → a ≠ b → (T a).2.1 ≠ (T b).2.1
section EMB
variable {p : Program} {l : Launch} {e : Env} {R : Room} {s : State} {m : MethodId} {args : Array Value} {below : List Frame} {meth : Method} {c : Code} {D : va_G} {cl : List vw_C} {dA : Nat → ClassId} {σ : Nat → Nat} {A : Nat → Prop} {nL : Nat} {cnt : Nat → Nat × Nat} {Pr : (Nat → Nat) → Prop} {Z : State → Prop}
variable {cc : ByteArray} {Q : em_Q} {own : String}

def o_getf (ci k : Nat) (n : Nat) : em_Op := fun _ K ls st hp => match st with | .ref a :: r => (match em_hn hp a with | some (.inr (c, fs)) => (match em_fn fs k with | some v => bif Nat.beq c ci then K n ls (v :: r) hp else False | none => False) | _ => False) | _ => False
theorem s_getf (C : em_Cx p s m args c D cl A nL (em_tys dA) cc own) {pc n : Nat} {Cn ref : String} {T : u_T} {N ci fk index : Nat} (hd : decode cc pc = .ok (.getfield index, 3)) (hn : pc + 3 = n) (hc : cnt n = cnt pc) (hcl : em_Cl cl ci Cn T N) (hk9 : fk < N) (hw : Cond.fieldLink own index ref (T fk).2.1 (T fk).2.2.1 ∈ em_tb) (href : (T fk).1 = ref) : em_Snd p l e R s m args below meth c D cl dA σ A nL cnt Pr Z Q pc (o_getf ci fk n) := by
  intro k hk ls st hp h ρ arr H locs hr hl hP hD hS
  subst hn
  unfold o_getf at h
  split at h
  · rename_i a r
    split at h
    · rename_i c0 fs he
      split at h
      · rename_i v hv
        cases hb : Nat.beq c0 ci with
        | false => rw [hb] at h; exact h.elim
        | true =>
          rw [hb] at h
          have hc0 := Nat.eq_of_beq_eq_true hb
          subst hc0
          have h9 := hk _ _ _ _ h ρ arr H locs hr hl hP hD hS
          rw [hc] at h9
          rw [em_fn_eq] at hv
          exact va_get C.1 C.2.1 C.2.2.2.2.1 hcl.2.1 C.2.2.2.1 C.2.2.2.2.2.1 hP a (em_w_get he) hcl.1 fk hk9 (C.2.2.2.2.1 _ hw) (fun x hx => by rw [← href]; exact hx) (by rw [List.getElem?_map, hv]; rfl) hd h9
      · exact h.elim
    · exact h.elim
  · exact h.elim
def o_putI (ci k : Nat) (n : Nat) : em_Op := fun _ K ls st hp => match st with | .int x :: .ref a :: r => (match em_hn hp a with | some (.inr (c, fs)) => (match em_fn fs k with | some _ => bif Nat.beq c ci then em_fs fs k (.int x) (fun fs' => em_hs hp a (.inr (c, fs')) (fun hp' => K n ls r hp')) else False | none => False) | _ => False) | _ => False
theorem s_putI (C : em_Cx p s m args c D cl A nL (em_tys dA) cc own) {pc n : Nat} {Cn ref : String} {T : u_T} {N ci fk index : Nat} (hd : decode cc pc = .ok (.putfield index, 3)) (hn : pc + 3 = n) (hc : cnt n = cnt pc) (hcl : em_Cl cl ci Cn T N) (hk9 : fk < N) (hw : Cond.fieldLink own index ref (T fk).2.1 (T fk).2.2.1 ∈ em_tb) (href : (T fk).1 = ref) (hfin : (T fk).2.2.2 = false) (hty : parseFieldDescriptor (T fk).2.2.1 = some .int) : em_Snd p l e R s m args below meth c D cl dA σ A nL cnt Pr Z Q pc (o_putI ci fk n) := by
  intro k hk ls st hp h ρ arr H locs hr hl hP hD hS
  subst hn
  unfold o_putI at h
  split at h
  · rename_i x a r
    split at h
    · rename_i c0 fs he
      split at h
      · rename_i v hv
        cases hb : Nat.beq c0 ci with
        | false => rw [hb] at h; exact h.elim
        | true =>
          rw [hb] at h
          have hc0 := Nat.eq_of_beq_eq_true hb
          subst hc0
          have h8 := h
          rw [em_fs_eq, em_hs_eq] at h8
          rw [em_fn_eq] at hv
          obtain ⟨ty0, hty0⟩ := hcl.2.2.1
          refine va_put C.1 C.2.1 C.2.2.2.2.1 hcl.2.1 ty0 hty0 hcl.2.2.2 C.2.2.2.1 C.2.2.2.2.2.1 hP hD hS a (em_w_get he) hcl.1 fk hk9 (C.2.2.2.2.1 _ hw) (fun x hx => by rw [← href]; exact hx) hfin hty (rfl) (rfl) (by rw [List.length_map]; exact (List.getElem?_eq_some_iff.mp hv).1) hd (fun H1 locs1 hP1 hD1 hS1 => ?_)
          have e9 : (em_w σ dA ρ hp).set a (ρ a, .inr (c0, (fs.map (em_v σ ρ)).set fk (em_v σ ρ (.int x)))) = em_w σ dA ρ (hp.set a (.inr (c0, fs.set fk (.int x)))) := by
            rw [← List.map_set]
            exact em_w_set (x := .inr (c0, fs.set fk (.int x)))
          have h9 := hk _ _ _ _ h8 ρ arr H1 locs1 hr hl (by rw [← e9]; exact hP1) (by rw [← e9]; exact hD1) hS1
          rw [hc] at h9
          exact h9
      · exact h.elim
    · exact h.elim
  · exact h.elim
theorem s_putIF (C : em_Cx p s m args c D cl A nL (em_tys dA) cc own) {pc n : Nat} {Cn ref : String} {T : u_T} {N ci fk index : Nat} (hd : decode cc pc = .ok (.putfield index, 3)) (hn : pc + 3 = n) (hc : cnt n = cnt pc) (hcl : em_Cl cl ci Cn T N) (hk9 : fk < N) (hw : Cond.fieldLink own index ref (T fk).2.1 (T fk).2.2.1 ∈ em_tb) (href : (T fk).1 = ref) (hfin : (T fk).2.2.2 = true) (hin2 : meth.name = "<init>") (hdecl : (T fk).1 = own) (hty : parseFieldDescriptor (T fk).2.2.1 = some .int) : em_Snd p l e R s m args below meth c D cl dA σ A nL cnt Pr Z Q pc (o_putI ci fk n) := by
  intro k hk ls st hp h ρ arr H locs hr hl hP hD hS
  subst hn
  unfold o_putI at h
  split at h
  · rename_i x a r
    split at h
    · rename_i c0 fs he
      split at h
      · rename_i v hv
        cases hb : Nat.beq c0 ci with
        | false => rw [hb] at h; exact h.elim
        | true =>
          rw [hb] at h
          have hc0 := Nat.eq_of_beq_eq_true hb
          subst hc0
          have h8 := h
          rw [em_fs_eq, em_hs_eq] at h8
          rw [em_fn_eq] at hv
          obtain ⟨ty0, hty0⟩ := hcl.2.2.1
          refine va_putF C.1 C.2.1 C.2.2.2.2.1 hcl.2.1 ty0 hty0 hcl.2.2.2 C.2.2.2.1 C.2.2.2.2.2.1 hP hD hS a (em_w_get he) hcl.1 fk hk9 (C.2.2.2.2.1 _ hw) (fun x hx => by rw [← href]; exact hx) hfin hin2 hdecl hty (rfl) (rfl) (by rw [List.length_map]; exact (List.getElem?_eq_some_iff.mp hv).1) hd (fun H1 locs1 hP1 hD1 hS1 => ?_)
          have e9 : (em_w σ dA ρ hp).set a (ρ a, .inr (c0, (fs.map (em_v σ ρ)).set fk (em_v σ ρ (.int x)))) = em_w σ dA ρ (hp.set a (.inr (c0, fs.set fk (.int x)))) := by
            rw [← List.map_set]
            exact em_w_set (x := .inr (c0, fs.set fk (.int x)))
          have h9 := hk _ _ _ _ h8 ρ arr H1 locs1 hr hl (by rw [← e9]; exact hP1) (by rw [← e9]; exact hD1) hS1
          rw [hc] at h9
          exact h9
      · exact h.elim
    · exact h.elim
  · exact h.elim
def o_putL (ci k : Nat) (n : Nat) : em_Op := fun _ K ls st hp => match st with | .long x :: .ref a :: r => (match em_hn hp a with | some (.inr (c, fs)) => (match em_fn fs k with | some _ => bif Nat.beq c ci then em_fs fs k (.long x) (fun fs' => em_hs hp a (.inr (c, fs')) (fun hp' => K n ls r hp')) else False | none => False) | _ => False) | _ => False
theorem s_putL (C : em_Cx p s m args c D cl A nL (em_tys dA) cc own) {pc n : Nat} {Cn ref : String} {T : u_T} {N ci fk index : Nat} (hd : decode cc pc = .ok (.putfield index, 3)) (hn : pc + 3 = n) (hc : cnt n = cnt pc) (hcl : em_Cl cl ci Cn T N) (hk9 : fk < N) (hw : Cond.fieldLink own index ref (T fk).2.1 (T fk).2.2.1 ∈ em_tb) (href : (T fk).1 = ref) (hfin : (T fk).2.2.2 = false) (hty : parseFieldDescriptor (T fk).2.2.1 = some .long) : em_Snd p l e R s m args below meth c D cl dA σ A nL cnt Pr Z Q pc (o_putL ci fk n) := by
  intro k hk ls st hp h ρ arr H locs hr hl hP hD hS
  subst hn
  unfold o_putL at h
  split at h
  · rename_i x a r
    split at h
    · rename_i c0 fs he
      split at h
      · rename_i v hv
        cases hb : Nat.beq c0 ci with
        | false => rw [hb] at h; exact h.elim
        | true =>
          rw [hb] at h
          have hc0 := Nat.eq_of_beq_eq_true hb
          subst hc0
          have h8 := h
          rw [em_fs_eq, em_hs_eq] at h8
          rw [em_fn_eq] at hv
          obtain ⟨ty0, hty0⟩ := hcl.2.2.1
          refine va_put C.1 C.2.1 C.2.2.2.2.1 hcl.2.1 ty0 hty0 hcl.2.2.2 C.2.2.2.1 C.2.2.2.2.2.1 hP hD hS a (em_w_get he) hcl.1 fk hk9 (C.2.2.2.2.1 _ hw) (fun x hx => by rw [← href]; exact hx) hfin hty (rfl) (rfl) (by rw [List.length_map]; exact (List.getElem?_eq_some_iff.mp hv).1) hd (fun H1 locs1 hP1 hD1 hS1 => ?_)
          have e9 : (em_w σ dA ρ hp).set a (ρ a, .inr (c0, (fs.map (em_v σ ρ)).set fk (em_v σ ρ (.long x)))) = em_w σ dA ρ (hp.set a (.inr (c0, fs.set fk (.long x)))) := by
            rw [← List.map_set]
            exact em_w_set (x := .inr (c0, fs.set fk (.long x)))
          have h9 := hk _ _ _ _ h8 ρ arr H1 locs1 hr hl (by rw [← e9]; exact hP1) (by rw [← e9]; exact hD1) hS1
          rw [hc] at h9
          exact h9
      · exact h.elim
    · exact h.elim
  · exact h.elim
theorem s_putLF (C : em_Cx p s m args c D cl A nL (em_tys dA) cc own) {pc n : Nat} {Cn ref : String} {T : u_T} {N ci fk index : Nat} (hd : decode cc pc = .ok (.putfield index, 3)) (hn : pc + 3 = n) (hc : cnt n = cnt pc) (hcl : em_Cl cl ci Cn T N) (hk9 : fk < N) (hw : Cond.fieldLink own index ref (T fk).2.1 (T fk).2.2.1 ∈ em_tb) (href : (T fk).1 = ref) (hfin : (T fk).2.2.2 = true) (hin2 : meth.name = "<init>") (hdecl : (T fk).1 = own) (hty : parseFieldDescriptor (T fk).2.2.1 = some .long) : em_Snd p l e R s m args below meth c D cl dA σ A nL cnt Pr Z Q pc (o_putL ci fk n) := by
  intro k hk ls st hp h ρ arr H locs hr hl hP hD hS
  subst hn
  unfold o_putL at h
  split at h
  · rename_i x a r
    split at h
    · rename_i c0 fs he
      split at h
      · rename_i v hv
        cases hb : Nat.beq c0 ci with
        | false => rw [hb] at h; exact h.elim
        | true =>
          rw [hb] at h
          have hc0 := Nat.eq_of_beq_eq_true hb
          subst hc0
          have h8 := h
          rw [em_fs_eq, em_hs_eq] at h8
          rw [em_fn_eq] at hv
          obtain ⟨ty0, hty0⟩ := hcl.2.2.1
          refine va_putF C.1 C.2.1 C.2.2.2.2.1 hcl.2.1 ty0 hty0 hcl.2.2.2 C.2.2.2.1 C.2.2.2.2.2.1 hP hD hS a (em_w_get he) hcl.1 fk hk9 (C.2.2.2.2.1 _ hw) (fun x hx => by rw [← href]; exact hx) hfin hin2 hdecl hty (rfl) (rfl) (by rw [List.length_map]; exact (List.getElem?_eq_some_iff.mp hv).1) hd (fun H1 locs1 hP1 hD1 hS1 => ?_)
          have e9 : (em_w σ dA ρ hp).set a (ρ a, .inr (c0, (fs.map (em_v σ ρ)).set fk (em_v σ ρ (.long x)))) = em_w σ dA ρ (hp.set a (.inr (c0, fs.set fk (.long x)))) := by
            rw [← List.map_set]
            exact em_w_set (x := .inr (c0, fs.set fk (.long x)))
          have h9 := hk _ _ _ _ h8 ρ arr H1 locs1 hr hl (by rw [← e9]; exact hP1) (by rw [← e9]; exact hD1) hS1
          rw [hc] at h9
          exact h9
      · exact h.elim
    · exact h.elim
  · exact h.elim
def o_putZ (ci k : Nat) (n : Nat) : em_Op := fun _ K ls st hp => match st with | .int x :: .ref a :: r => (match em_hn hp a with | some (.inr (c, fs)) => (match em_fn fs k with | some _ => bif Nat.beq c ci then (x = 0 ∨ x = 1) ∧ em_fs fs k (.int x) (fun fs' => em_hs hp a (.inr (c, fs')) (fun hp' => K n ls r hp')) else False | none => False) | _ => False) | _ => False
theorem s_putZ (C : em_Cx p s m args c D cl A nL (em_tys dA) cc own) {pc n : Nat} {Cn ref : String} {T : u_T} {N ci fk index : Nat} (hd : decode cc pc = .ok (.putfield index, 3)) (hn : pc + 3 = n) (hc : cnt n = cnt pc) (hcl : em_Cl cl ci Cn T N) (hk9 : fk < N) (hw : Cond.fieldLink own index ref (T fk).2.1 (T fk).2.2.1 ∈ em_tb) (href : (T fk).1 = ref) (hfin : (T fk).2.2.2 = false) (hty : parseFieldDescriptor (T fk).2.2.1 = some .boolean) : em_Snd p l e R s m args below meth c D cl dA σ A nL cnt Pr Z Q pc (o_putZ ci fk n) := by
  intro k hk ls st hp h ρ arr H locs hr hl hP hD hS
  subst hn
  unfold o_putZ at h
  split at h
  · rename_i x a r
    split at h
    · rename_i c0 fs he
      split at h
      · rename_i v hv
        cases hb : Nat.beq c0 ci with
        | false => rw [hb] at h; exact h.elim
        | true =>
          rw [hb] at h
          have hc0 := Nat.eq_of_beq_eq_true hb
          subst hc0
          have h8 := h.2
          rw [em_fs_eq, em_hs_eq] at h8
          rw [em_fn_eq] at hv
          obtain ⟨ty0, hty0⟩ := hcl.2.2.1
          refine va_put C.1 C.2.1 C.2.2.2.2.1 hcl.2.1 ty0 hty0 hcl.2.2.2 C.2.2.2.1 C.2.2.2.2.2.1 hP hD hS a (em_w_get he) hcl.1 fk hk9 (C.2.2.2.2.1 _ hw) (fun x hx => by rw [← href]; exact hx) hfin hty (by rcases h.1 with z | z <;> subst z <;> rfl) (by rcases h.1 with z | z <;> subst z <;> rfl) (by rw [List.length_map]; exact (List.getElem?_eq_some_iff.mp hv).1) hd (fun H1 locs1 hP1 hD1 hS1 => ?_)
          have e9 : (em_w σ dA ρ hp).set a (ρ a, .inr (c0, (fs.map (em_v σ ρ)).set fk (em_v σ ρ (.int x)))) = em_w σ dA ρ (hp.set a (.inr (c0, fs.set fk (.int x)))) := by
            rw [← List.map_set]
            exact em_w_set (x := .inr (c0, fs.set fk (.int x)))
          have h9 := hk _ _ _ _ h8 ρ arr H1 locs1 hr hl (by rw [← e9]; exact hP1) (by rw [← e9]; exact hD1) hS1
          rw [hc] at h9
          exact h9
      · exact h.elim
    · exact h.elim
  · exact h.elim
theorem s_putZF (C : em_Cx p s m args c D cl A nL (em_tys dA) cc own) {pc n : Nat} {Cn ref : String} {T : u_T} {N ci fk index : Nat} (hd : decode cc pc = .ok (.putfield index, 3)) (hn : pc + 3 = n) (hc : cnt n = cnt pc) (hcl : em_Cl cl ci Cn T N) (hk9 : fk < N) (hw : Cond.fieldLink own index ref (T fk).2.1 (T fk).2.2.1 ∈ em_tb) (href : (T fk).1 = ref) (hfin : (T fk).2.2.2 = true) (hin2 : meth.name = "<init>") (hdecl : (T fk).1 = own) (hty : parseFieldDescriptor (T fk).2.2.1 = some .boolean) : em_Snd p l e R s m args below meth c D cl dA σ A nL cnt Pr Z Q pc (o_putZ ci fk n) := by
  intro k hk ls st hp h ρ arr H locs hr hl hP hD hS
  subst hn
  unfold o_putZ at h
  split at h
  · rename_i x a r
    split at h
    · rename_i c0 fs he
      split at h
      · rename_i v hv
        cases hb : Nat.beq c0 ci with
        | false => rw [hb] at h; exact h.elim
        | true =>
          rw [hb] at h
          have hc0 := Nat.eq_of_beq_eq_true hb
          subst hc0
          have h8 := h.2
          rw [em_fs_eq, em_hs_eq] at h8
          rw [em_fn_eq] at hv
          obtain ⟨ty0, hty0⟩ := hcl.2.2.1
          refine va_putF C.1 C.2.1 C.2.2.2.2.1 hcl.2.1 ty0 hty0 hcl.2.2.2 C.2.2.2.1 C.2.2.2.2.2.1 hP hD hS a (em_w_get he) hcl.1 fk hk9 (C.2.2.2.2.1 _ hw) (fun x hx => by rw [← href]; exact hx) hfin hin2 hdecl hty (by rcases h.1 with z | z <;> subst z <;> rfl) (by rcases h.1 with z | z <;> subst z <;> rfl) (by rw [List.length_map]; exact (List.getElem?_eq_some_iff.mp hv).1) hd (fun H1 locs1 hP1 hD1 hS1 => ?_)
          have e9 : (em_w σ dA ρ hp).set a (ρ a, .inr (c0, (fs.map (em_v σ ρ)).set fk (em_v σ ρ (.int x)))) = em_w σ dA ρ (hp.set a (.inr (c0, fs.set fk (.int x)))) := by
            rw [← List.map_set]
            exact em_w_set (x := .inr (c0, fs.set fk (.int x)))
          have h9 := hk _ _ _ _ h8 ρ arr H1 locs1 hr hl (by rw [← e9]; exact hP1) (by rw [← e9]; exact hD1) hS1
          rw [hc] at h9
          exact h9
      · exact h.elim
    · exact h.elim
  · exact h.elim
def o_putR (ci k : Nat) (n : Nat) : em_Op := fun _ K ls st hp => match st with | .ref x :: .ref a :: r => (match em_hn hp a with | some (.inr (c, fs)) => (match em_fn fs k with | some _ => bif Nat.beq c ci then em_fs fs k (.ref x) (fun fs' => em_hs hp a (.inr (c, fs')) (fun hp' => K n ls r hp')) else False | none => False) | _ => False) | _ => False
theorem s_putR (C : em_Cx p s m args c D cl A nL (em_tys dA) cc own) {pc n : Nat} {Cn ref : String} {T : u_T} {N ci fk index : Nat} (hd : decode cc pc = .ok (.putfield index, 3)) (hn : pc + 3 = n) (hc : cnt n = cnt pc) (hcl : em_Cl cl ci Cn T N) (hk9 : fk < N) (hw : Cond.fieldLink own index ref (T fk).2.1 (T fk).2.2.1 ∈ em_tb) (href : (T fk).1 = ref) (hfin : (T fk).2.2.2 = false) {fty : FieldType} (hfty : (∃ q, fty = .object q) ∨ ∃ q, fty = .array q) (hty : parseFieldDescriptor (T fk).2.2.1 = some fty) : em_Snd p l e R s m args below meth c D cl dA σ A nL cnt Pr Z Q pc (o_putR ci fk n) := by
  intro k hk ls st hp h ρ arr H locs hr hl hP hD hS
  subst hn
  unfold o_putR at h
  split at h
  · rename_i x a r
    split at h
    · rename_i c0 fs he
      split at h
      · rename_i v hv
        cases hb : Nat.beq c0 ci with
        | false => rw [hb] at h; exact h.elim
        | true =>
          rw [hb] at h
          have hc0 := Nat.eq_of_beq_eq_true hb
          subst hc0
          have h8 := h
          rw [em_fs_eq, em_hs_eq] at h8
          rw [em_fn_eq] at hv
          obtain ⟨ty0, hty0⟩ := hcl.2.2.1
          refine va_put C.1 C.2.1 C.2.2.2.2.1 hcl.2.1 ty0 hty0 hcl.2.2.2 C.2.2.2.1 C.2.2.2.2.2.1 hP hD hS a (em_w_get he) hcl.1 fk hk9 (C.2.2.2.2.1 _ hw) (fun x hx => by rw [← href]; exact hx) hfin hty (by rcases hfty with ⟨q, rfl⟩ | ⟨q, rfl⟩ <;> rfl) (by rcases hfty with ⟨q, rfl⟩ | ⟨q, rfl⟩ <;> rfl) (by rw [List.length_map]; exact (List.getElem?_eq_some_iff.mp hv).1) hd (fun H1 locs1 hP1 hD1 hS1 => ?_)
          have e9 : (em_w σ dA ρ hp).set a (ρ a, .inr (c0, (fs.map (em_v σ ρ)).set fk (em_v σ ρ (.ref x)))) = em_w σ dA ρ (hp.set a (.inr (c0, fs.set fk (.ref x)))) := by
            rw [← List.map_set]
            exact em_w_set (x := .inr (c0, fs.set fk (.ref x)))
          have h9 := hk _ _ _ _ h8 ρ arr H1 locs1 hr hl (by rw [← e9]; exact hP1) (by rw [← e9]; exact hD1) hS1
          rw [hc] at h9
          exact h9
      · exact h.elim
    · exact h.elim
  · exact h.elim
theorem s_putRF (C : em_Cx p s m args c D cl A nL (em_tys dA) cc own) {pc n : Nat} {Cn ref : String} {T : u_T} {N ci fk index : Nat} (hd : decode cc pc = .ok (.putfield index, 3)) (hn : pc + 3 = n) (hc : cnt n = cnt pc) (hcl : em_Cl cl ci Cn T N) (hk9 : fk < N) (hw : Cond.fieldLink own index ref (T fk).2.1 (T fk).2.2.1 ∈ em_tb) (href : (T fk).1 = ref) (hfin : (T fk).2.2.2 = true) (hin2 : meth.name = "<init>") (hdecl : (T fk).1 = own) {fty : FieldType} (hfty : (∃ q, fty = .object q) ∨ ∃ q, fty = .array q) (hty : parseFieldDescriptor (T fk).2.2.1 = some fty) : em_Snd p l e R s m args below meth c D cl dA σ A nL cnt Pr Z Q pc (o_putR ci fk n) := by
  intro k hk ls st hp h ρ arr H locs hr hl hP hD hS
  subst hn
  unfold o_putR at h
  split at h
  · rename_i x a r
    split at h
    · rename_i c0 fs he
      split at h
      · rename_i v hv
        cases hb : Nat.beq c0 ci with
        | false => rw [hb] at h; exact h.elim
        | true =>
          rw [hb] at h
          have hc0 := Nat.eq_of_beq_eq_true hb
          subst hc0
          have h8 := h
          rw [em_fs_eq, em_hs_eq] at h8
          rw [em_fn_eq] at hv
          obtain ⟨ty0, hty0⟩ := hcl.2.2.1
          refine va_putF C.1 C.2.1 C.2.2.2.2.1 hcl.2.1 ty0 hty0 hcl.2.2.2 C.2.2.2.1 C.2.2.2.2.2.1 hP hD hS a (em_w_get he) hcl.1 fk hk9 (C.2.2.2.2.1 _ hw) (fun x hx => by rw [← href]; exact hx) hfin hin2 hdecl hty (by rcases hfty with ⟨q, rfl⟩ | ⟨q, rfl⟩ <;> rfl) (by rcases hfty with ⟨q, rfl⟩ | ⟨q, rfl⟩ <;> rfl) (by rw [List.length_map]; exact (List.getElem?_eq_some_iff.mp hv).1) hd (fun H1 locs1 hP1 hD1 hS1 => ?_)
          have e9 : (em_w σ dA ρ hp).set a (ρ a, .inr (c0, (fs.map (em_v σ ρ)).set fk (em_v σ ρ (.ref x)))) = em_w σ dA ρ (hp.set a (.inr (c0, fs.set fk (.ref x)))) := by
            rw [← List.map_set]
            exact em_w_set (x := .inr (c0, fs.set fk (.ref x)))
          have h9 := hk _ _ _ _ h8 ρ arr H1 locs1 hr hl (by rw [← e9]; exact hP1) (by rw [← e9]; exact hD1) hS1
          rw [hc] at h9
          exact h9
      · exact h.elim
    · exact h.elim
  · exact h.elim
def o_aldI (tg : Nat) (n : Nat) : em_Op := fun _ K ls st hp => match st with | .int i :: .ref a :: r => (match em_hn hp a with | some (.inl (t, N, .inl f)) => bif (Nat.beq t tg && Nat.ble N 2147483647) then (∃ j : Nat, i = nI j ∧ j < N ∧ K n ls (.int (f j) :: r) hp) else False | _ => False) | _ => False
def o_aldL (tg : Nat) (n : Nat) : em_Op := fun _ K ls st hp => match st with | .int i :: .ref a :: r => (match em_hn hp a with | some (.inl (t, N, .inr (.inl f))) => bif (Nat.beq t tg && Nat.ble N 2147483647) then (∃ j : Nat, i = nI j ∧ j < N ∧ K n ls (.long (f j) :: r) hp) else False | _ => False) | _ => False
theorem s_iald (C : em_Cx p s m args c D cl A nL (em_tys dA) cc own) {pc n : Nat} (hd : decode cc pc = .ok (.iaload, 1)) (hn : pc + 1 = n) (hc : cnt n = cnt pc) : em_Snd p l e R s m args below meth c D cl dA σ A nL cnt Pr Z Q pc (o_aldI 0 n) := by
  intro k hk ls st hp h ρ arr H locs hr hl hP hD hS
  subst hn
  unfold o_aldI at h
  split at h
  · rename_i i a r
    split at h
    · rename_i t N f he
      cases hb : (Nat.beq t 0 && Nat.ble N 2147483647) with
      | false => rw [hb] at h; exact h.elim
      | true =>
        rw [hb] at h
        rw [Bool.and_eq_true] at hb
        have hc0 := Nat.eq_of_beq_eq_true hb.1
        subst hc0
        obtain ⟨j, rfl, hj, h⟩ := h
        have hN := Nat.le_of_ble_eq_true hb.2
        have h9 := hk _ _ _ _ h ρ arr H locs hr hl hP hD hS
        rw [hc] at h9
        refine va_iald C.1 C.2.1 C.2.2.2.2.2.1 hP a 0 (em_w_get he) rfl (vp_in_nI hj (by omega)) hd ?_
        rw [nI_clamp (by omega)]
        exact h9
    · exact h.elim
  · exact h.elim
theorem s_bald (C : em_Cx p s m args c D cl A nL (em_tys dA) cc own) {pc n : Nat} (hd : decode cc pc = .ok (.baload, 1)) (hn : pc + 1 = n) (hc : cnt n = cnt pc) : em_Snd p l e R s m args below meth c D cl dA σ A nL cnt Pr Z Q pc (o_aldI 2 n) := by
  intro k hk ls st hp h ρ arr H locs hr hl hP hD hS
  subst hn
  unfold o_aldI at h
  split at h
  · rename_i i a r
    split at h
    · rename_i t N f he
      cases hb : (Nat.beq t 2 && Nat.ble N 2147483647) with
      | false => rw [hb] at h; exact h.elim
      | true =>
        rw [hb] at h
        rw [Bool.and_eq_true] at hb
        have hc0 := Nat.eq_of_beq_eq_true hb.1
        subst hc0
        obtain ⟨j, rfl, hj, h⟩ := h
        have hN := Nat.le_of_ble_eq_true hb.2
        have h9 := hk _ _ _ _ h ρ arr H locs hr hl hP hD hS
        rw [hc] at h9
        refine va_bald C.1 C.2.1 C.2.2.2.2.2.1 hP a 2 (em_w_get he) rfl (vp_in_nI hj (by omega)) hd ?_
        rw [nI_clamp (by omega)]
        exact h9
    · exact h.elim
  · exact h.elim
theorem s_zald (C : em_Cx p s m args c D cl A nL (em_tys dA) cc own) {pc n : Nat} (hd : decode cc pc = .ok (.baload, 1)) (hn : pc + 1 = n) (hc : cnt n = cnt pc) : em_Snd p l e R s m args below meth c D cl dA σ A nL cnt Pr Z Q pc (o_aldI 3 n) := by
  intro k hk ls st hp h ρ arr H locs hr hl hP hD hS
  subst hn
  unfold o_aldI at h
  split at h
  · rename_i i a r
    split at h
    · rename_i t N f he
      cases hb : (Nat.beq t 3 && Nat.ble N 2147483647) with
      | false => rw [hb] at h; exact h.elim
      | true =>
        rw [hb] at h
        rw [Bool.and_eq_true] at hb
        have hc0 := Nat.eq_of_beq_eq_true hb.1
        subst hc0
        obtain ⟨j, rfl, hj, h⟩ := h
        have hN := Nat.le_of_ble_eq_true hb.2
        have h9 := hk _ _ _ _ h ρ arr H locs hr hl hP hD hS
        rw [hc] at h9
        refine va_zald C.1 C.2.1 C.2.2.2.2.2.1 hP a 3 (em_w_get he) rfl (vp_in_nI hj (by omega)) hd ?_
        rw [nI_clamp (by omega)]
        exact h9
    · exact h.elim
  · exact h.elim
theorem s_lald (C : em_Cx p s m args c D cl A nL (em_tys dA) cc own) {pc n : Nat} (hd : decode cc pc = .ok (.laload, 1)) (hn : pc + 1 = n) (hc : cnt n = cnt pc) : em_Snd p l e R s m args below meth c D cl dA σ A nL cnt Pr Z Q pc (o_aldL 1 n) := by
  intro k hk ls st hp h ρ arr H locs hr hl hP hD hS
  subst hn
  unfold o_aldL at h
  split at h
  · rename_i i a r
    split at h
    · rename_i t N f he
      cases hb : (Nat.beq t 1 && Nat.ble N 2147483647) with
      | false => rw [hb] at h; exact h.elim
      | true =>
        rw [hb] at h
        rw [Bool.and_eq_true] at hb
        have hc0 := Nat.eq_of_beq_eq_true hb.1
        subst hc0
        obtain ⟨j, rfl, hj, h⟩ := h
        have hN := Nat.le_of_ble_eq_true hb.2
        have h9 := hk _ _ _ _ h ρ arr H locs hr hl hP hD hS
        rw [hc] at h9
        refine va_lald C.1 C.2.1 C.2.2.2.2.2.1 hP a 1 (em_w_get he) rfl (vp_in_nI hj (by omega)) hd ?_
        rw [nI_clamp (by omega)]
        exact h9
    · exact h.elim
  · exact h.elim
def o_iast (n : Nat) : em_Op := fun _ K ls st hp => match st with | .int x :: .int i :: .ref a :: r => (match em_hn hp a with | some (.inl (t, N, .inl f)) => bif (Nat.beq t 0 && Nat.ble N 2147483647) then (∃ j : Nat, i = nI j ∧ j < N ∧ em_hs hp a (.inl (t, N, .inl (upd f j x))) (fun hp' => K n ls r hp')) else False | _ => False) | _ => False
theorem s_iast (C : em_Cx p s m args c D cl A nL (em_tys dA) cc own) {pc n : Nat} (hd : decode cc pc = .ok (.iastore, 1)) (hn : pc + 1 = n) (hc : cnt n = cnt pc) : em_Snd p l e R s m args below meth c D cl dA σ A nL cnt Pr Z Q pc (o_iast n) := by
  intro k hk ls st hp h ρ arr H locs hr hl hP hD hS
  subst hn
  unfold o_iast at h
  split at h
  · rename_i x i a r
    split at h
    · rename_i t N f he
      cases hb : (Nat.beq t 0 && Nat.ble N 2147483647) with
      | false => rw [hb] at h; exact h.elim
      | true =>
        rw [hb] at h
        rw [Bool.and_eq_true] at hb
        have hc0 := Nat.eq_of_beq_eq_true hb.1
        subst hc0
        obtain ⟨j, rfl, hj, h⟩ := h
        have hN := Nat.le_of_ble_eq_true hb.2
        rw [em_hs_eq] at h
        refine va_iast C.1 C.2.1 C.2.2.2.2.2.1 hP hD hS a 0 (em_w_get he) rfl (vp_in_nI hj (by omega)) hd (fun H1 locs1 hP1 hD1 hS1 => ?_)
        rw [nI_clamp (by omega)] at hP1 hD1
        have e9 : (em_w σ dA ρ hp).set a (ρ a, .inl (dA 0, N, .inl (upd f j x))) = em_w σ dA ρ (hp.set a (.inl (0, N, .inl (upd f j x)))) := em_w_set (x := .inl (0, N, .inl (upd f j x)))
        have h9 := hk _ _ _ _ h ρ arr H1 locs1 hr hl (by rw [← e9]; exact hP1) (by rw [← e9]; exact hD1) hS1
        rw [hc] at h9
        exact h9
    · exact h.elim
  · exact h.elim
def o_bast (n : Nat) : em_Op := fun _ K ls st hp => match st with | .int x :: .int i :: .ref a :: r => (match em_hn hp a with | some (.inl (t, N, .inl f)) => bif (Nat.beq t 2 && Nat.ble N 2147483647) then (∃ j : Nat, i = nI j ∧ j < N ∧ em_hs hp a (.inl (t, N, .inl (upd f j (vp_nar .byte x)))) (fun hp' => K n ls r hp')) else False | _ => False) | _ => False
theorem s_bast (C : em_Cx p s m args c D cl A nL (em_tys dA) cc own) {pc n : Nat} (hd : decode cc pc = .ok (.bastore, 1)) (hn : pc + 1 = n) (hc : cnt n = cnt pc) : em_Snd p l e R s m args below meth c D cl dA σ A nL cnt Pr Z Q pc (o_bast n) := by
  intro k hk ls st hp h ρ arr H locs hr hl hP hD hS
  subst hn
  unfold o_bast at h
  split at h
  · rename_i x i a r
    split at h
    · rename_i t N f he
      cases hb : (Nat.beq t 2 && Nat.ble N 2147483647) with
      | false => rw [hb] at h; exact h.elim
      | true =>
        rw [hb] at h
        rw [Bool.and_eq_true] at hb
        have hc0 := Nat.eq_of_beq_eq_true hb.1
        subst hc0
        obtain ⟨j, rfl, hj, h⟩ := h
        have hN := Nat.le_of_ble_eq_true hb.2
        rw [em_hs_eq] at h
        refine va_bast C.1 C.2.1 C.2.2.2.2.2.1 hP hD hS a 2 (em_w_get he) rfl (vp_in_nI hj (by omega)) hd (fun H1 locs1 hP1 hD1 hS1 => ?_)
        rw [nI_clamp (by omega)] at hP1 hD1
        have e9 : (em_w σ dA ρ hp).set a (ρ a, .inl (dA 2, N, .inl (upd f j (vp_nar .byte x)))) = em_w σ dA ρ (hp.set a (.inl (2, N, .inl (upd f j (vp_nar .byte x))))) := em_w_set (x := .inl (2, N, .inl (upd f j (vp_nar .byte x))))
        have h9 := hk _ _ _ _ h ρ arr H1 locs1 hr hl (by rw [← e9]; exact hP1) (by rw [← e9]; exact hD1) hS1
        rw [hc] at h9
        exact h9
    · exact h.elim
  · exact h.elim
def o_zast (n : Nat) : em_Op := fun _ K ls st hp => match st with | .int x :: .int i :: .ref a :: r => (match em_hn hp a with | some (.inl (t, N, .inl f)) => bif (Nat.beq t 3 && Nat.ble N 2147483647) then (∃ j : Nat, i = nI j ∧ j < N ∧ em_hs hp a (.inl (t, N, .inl (upd f j (vp_nar .boolean x)))) (fun hp' => K n ls r hp')) else False | _ => False) | _ => False
theorem s_zast (C : em_Cx p s m args c D cl A nL (em_tys dA) cc own) {pc n : Nat} (hd : decode cc pc = .ok (.bastore, 1)) (hn : pc + 1 = n) (hc : cnt n = cnt pc) : em_Snd p l e R s m args below meth c D cl dA σ A nL cnt Pr Z Q pc (o_zast n) := by
  intro k hk ls st hp h ρ arr H locs hr hl hP hD hS
  subst hn
  unfold o_zast at h
  split at h
  · rename_i x i a r
    split at h
    · rename_i t N f he
      cases hb : (Nat.beq t 3 && Nat.ble N 2147483647) with
      | false => rw [hb] at h; exact h.elim
      | true =>
        rw [hb] at h
        rw [Bool.and_eq_true] at hb
        have hc0 := Nat.eq_of_beq_eq_true hb.1
        subst hc0
        obtain ⟨j, rfl, hj, h⟩ := h
        have hN := Nat.le_of_ble_eq_true hb.2
        rw [em_hs_eq] at h
        refine va_zast C.1 C.2.1 C.2.2.2.2.2.1 hP hD hS a 3 (em_w_get he) rfl (vp_in_nI hj (by omega)) hd (fun H1 locs1 hP1 hD1 hS1 => ?_)
        rw [nI_clamp (by omega)] at hP1 hD1
        have e9 : (em_w σ dA ρ hp).set a (ρ a, .inl (dA 3, N, .inl (upd f j (vp_nar .boolean x)))) = em_w σ dA ρ (hp.set a (.inl (3, N, .inl (upd f j (vp_nar .boolean x))))) := em_w_set (x := .inl (3, N, .inl (upd f j (vp_nar .boolean x))))
        have h9 := hk _ _ _ _ h ρ arr H1 locs1 hr hl (by rw [← e9]; exact hP1) (by rw [← e9]; exact hD1) hS1
        rw [hc] at h9
        exact h9
    · exact h.elim
  · exact h.elim
def o_last (n : Nat) : em_Op := fun _ K ls st hp => match st with | .long x :: .int i :: .ref a :: r => (match em_hn hp a with | some (.inl (t, N, .inr (.inl f))) => bif (Nat.beq t 1 && Nat.ble N 2147483647) then (∃ j : Nat, i = nI j ∧ j < N ∧ em_hs hp a (.inl (t, N, .inr (.inl (vp_updL f j x)))) (fun hp' => K n ls r hp')) else False | _ => False) | _ => False
theorem s_last (C : em_Cx p s m args c D cl A nL (em_tys dA) cc own) {pc n : Nat} (hd : decode cc pc = .ok (.lastore, 1)) (hn : pc + 1 = n) (hc : cnt n = cnt pc) : em_Snd p l e R s m args below meth c D cl dA σ A nL cnt Pr Z Q pc (o_last n) := by
  intro k hk ls st hp h ρ arr H locs hr hl hP hD hS
  subst hn
  unfold o_last at h
  split at h
  · rename_i x i a r
    split at h
    · rename_i t N f he
      cases hb : (Nat.beq t 1 && Nat.ble N 2147483647) with
      | false => rw [hb] at h; exact h.elim
      | true =>
        rw [hb] at h
        rw [Bool.and_eq_true] at hb
        have hc0 := Nat.eq_of_beq_eq_true hb.1
        subst hc0
        obtain ⟨j, rfl, hj, h⟩ := h
        have hN := Nat.le_of_ble_eq_true hb.2
        rw [em_hs_eq] at h
        refine va_last C.1 C.2.1 C.2.2.2.2.2.1 hP hD hS a 1 (em_w_get he) rfl (vp_in_nI hj (by omega)) hd (fun H1 locs1 hP1 hD1 hS1 => ?_)
        rw [nI_clamp (by omega)] at hP1 hD1
        have e9 : (em_w σ dA ρ hp).set a (ρ a, .inl (dA 1, N, .inr (.inl (vp_updL f j x)))) = em_w σ dA ρ (hp.set a (.inl (1, N, .inr (.inl (vp_updL f j x))))) := em_w_set (x := .inl (1, N, .inr (.inl (vp_updL f j x))))
        have h9 := hk _ _ _ _ h ρ arr H1 locs1 hr hl (by rw [← e9]; exact hP1) (by rw [← e9]; exact hD1) hS1
        rw [hc] at h9
        exact h9
    · exact h.elim
  · exact h.elim
def o_aaload (n : Nat) : em_Op := fun _ K ls st hp => match st with | .int i :: .ref a :: r => (match em_hn hp a with | some (.inl (t, N, .inr (.inr (.inr (.inr f))))) => bif (Nat.beq t 4 && Nat.ble N 2147483647) then (∃ j : Nat, i = nI j ∧ j < N ∧ (f j = none → K n ls (.null :: r) hp) ∧ (∀ q, f j = some q → K n ls (.ref q :: r) hp)) else False | _ => False) | _ => False
theorem s_aaload (C : em_Cx p s m args c D cl A nL (em_tys dA) cc own) {pc n : Nat} (hd : decode cc pc = .ok (.aaload, 1)) (hn : pc + 1 = n) (hc : cnt n = cnt pc) : em_Snd p l e R s m args below meth c D cl dA σ A nL cnt Pr Z Q pc (o_aaload n) := by
  intro k hk ls st hp h ρ arr H locs hr hl hP hD hS
  subst hn
  unfold o_aaload at h
  split at h
  · rename_i i a r
    split at h
    · rename_i t N f he
      cases hb : (Nat.beq t 4 && Nat.ble N 2147483647) with
      | false => rw [hb] at h; exact h.elim
      | true =>
        rw [hb] at h
        rw [Bool.and_eq_true] at hb
        have hc0 := Nat.eq_of_beq_eq_true hb.1
        subst hc0
        obtain ⟨j, rfl, hj, h1, h2⟩ := h
        have hN := Nat.le_of_ble_eq_true hb.2
        refine va_aldq C.1 C.2.1 C.2.2.2.2.2.1 hP a 4 (em_w_get he) rfl (vp_in_nI hj (by omega)) hd ?_
        rw [nI_clamp (by omega)]
        cases hf : f j with
        | none =>
          have h9 := hk _ _ _ _ (h1 hf) ρ arr H locs hr hl hP hD hS
          rw [hc] at h9
          exact h9
        | some q =>
          have h9 := hk _ _ _ _ (h2 q hf) ρ arr H locs hr hl hP hD hS
          rw [hc] at h9
          exact h9
    · exact h.elim
  · exact h.elim
def o_aastore (ci : Nat) (n : Nat) : em_Op := fun _ K ls st hp => match st with | .ref v :: .int i :: .ref a :: r => (match em_hn hp a with | some (.inl (t, N, .inr (.inr (.inr (.inr f))))) => (match em_hn hp v with | some (.inr (c, _)) => bif (Nat.beq t 4 && Nat.ble N 2147483647 && Nat.beq c ci) then (∃ j : Nat, i = nI j ∧ j < N ∧ em_hs hp a (.inl (t, N, .inr (.inr (.inr (.inr (va_up f j (some v))))))) (fun hp' => K n ls r hp')) else False | _ => False) | _ => False) | _ => False
theorem s_aastore (C : em_Cx p s m args c D cl A nL (em_tys dA) cc own) {pc n : Nat} {ci : Nat} {T : u_T} {N9 : Nat} (hd : decode cc pc = .ok (.aastore, 1)) (hn : pc + 1 = n) (hc : cnt n = cnt pc) (hcl : em_Cl cl ci "WedApart$Town" T N9) : em_Snd p l e R s m args below meth c D cl dA σ A nL cnt Pr Z Q pc (o_aastore ci n) := by
  intro k hk ls st hp h ρ arr H locs hr hl hP hD hS
  subst hn
  unfold o_aastore at h
  split at h
  · rename_i v i a r
    split at h
    · rename_i t N f he
      split at h
      · rename_i c0 vs hev
        cases hb : (Nat.beq t 4 && Nat.ble N 2147483647 && Nat.beq c0 ci) with
        | false => rw [hb] at h; exact h.elim
        | true =>
          rw [hb] at h
          rw [Bool.and_eq_true, Bool.and_eq_true] at hb
          have hc0 := Nat.eq_of_beq_eq_true hb.1.1
          have hc1 := Nat.eq_of_beq_eq_true hb.2
          subst hc0
          subst hc1
          obtain ⟨j, rfl, hj, h⟩ := h
          have hN := Nat.le_of_ble_eq_true hb.1.2
          rw [em_hs_eq] at h
          refine va_astq C.1 C.2.1 C.2.2.2.2.2.1 hP hD hS a 4 v c0 (r := ("WedApart$Town", T, N9)) (em_w_get he) rfl (em_w_get hev) hcl.1 (vp_in_nI hj (by omega)) hd (fun H1 locs1 hP1 hD1 hS1 => ?_)
          rw [nI_clamp (by omega)] at hP1 hD1
          have e8 : (va_up (fun i => (f i).map ρ) j (some (ρ v))) = fun i => (va_up f j (some v) i).map ρ := by
            funext q
            simp only [va_up]
            by_cases hq : q = j
            · rw [if_pos hq, if_pos hq]; rfl
            · rw [if_neg hq, if_neg hq]
          rw [e8] at hP1 hD1
          have e9 : (em_w σ dA ρ hp).set a (ρ a, .inl (dA 4, N, .inr (.inr (.inr (.inr (fun i => (va_up f j (some v) i).map ρ)))))) = em_w σ dA ρ (hp.set a (.inl (4, N, .inr (.inr (.inr (.inr (va_up f j (some v)))))))) := em_w_set (x := .inl (4, N, .inr (.inr (.inr (.inr (va_up f j (some v)))))))
          have h9 := hk _ _ _ _ h ρ arr H1 locs1 hr hl (by rw [← e9]; exact hP1) (by rw [← e9]; exact hD1) hS1
          rw [hc] at h9
          exact h9
      · exact h.elim
    · exact h.elim
  · exact h.elim
def o_ifnonnull (t n : Nat) : em_Op := fun _ k ls st hp => match st with | .ref _ :: r => k t ls r hp | .null :: r => k n ls r hp | _ => False
theorem s_ifnonnull (C : em_Cx p s m args c D cl A nL (em_tys dA) cc own) {pc t n : Nat} {off : Int} (hd : decode cc pc = .ok (.ifnonnull off, 3)) (ht : (pc : Int) + off = (t : Int)) (hn : pc + 3 = n) (hc : cnt n = cnt pc) (hc2 : cnt t = cnt pc) : em_Snd p l e R s m args below meth c D cl dA σ A nL cnt Pr Z Q pc (o_ifnonnull t n) := by
  intro k hk ls st hp h ρ arr H locs hr hl hP hD hS
  subst hn
  unfold o_ifnonnull at h
  split at h
  · have h9 := hk _ _ _ _ h ρ arr H locs hr hl hP hD hS
    rw [hc2] at h9
    exact lv_ifnonnull C.1 C.2.1 hd ht h9
  · have h9 := hk _ _ _ _ h ρ arr H locs hr hl hP hD hS
    rw [hc] at h9
    exact lv_ifnonnullN C.1 C.2.1 hd h9
  · exact h.elim
def o_astoreN (i n : Nat) : em_Op := fun Q k ls st hp => match st with | .null :: r => em_st1 ls i .null (fun ls' => k n ls' r hp) | _ => o_astore i n Q k ls st hp
def o_aloadN (i n : Nat) : em_Op := fun Q k ls st hp => match em_nth ls i with | some .null => k n ls (.null :: st) hp | _ => o_aload i n Q k ls st hp
end EMB

/-! ===== contracts ===== -/
def em_pv : Option Value → Prop
  | none => True
  | some (.int _) => True
  | some (.long _) => True
  | _ => False
theorem em_pv_v {v : Value} {σ ρ : Nat → Nat} (h : em_pv (some v)) : em_v σ ρ v = v := by cases v <;> first | rfl | exact h.elim
abbrev em_FT : Type := (Nat → Prop) → State → Heap → Prop
def em_Fok (F : em_FT) : Prop := ∀ (A B : Nat → Prop) (u U : State) (H H1 : Heap), u.WarmedH U.vm → (∀ a, a < H.size → ¬ A a → H1[a]? = H[a]?) → (∀ q, B q → A q) → F A u H → F B U H1
def em_B (F : em_FT) (D : va_G) (cl : List vw_C) (dA : Nat → ClassId) (σ : Nat → Nat) (ρ : Nat → Nat) (hp : em_H) (sz : Nat) : State → Prop := fun U => U.heap.size = sz ∧ va_P D cl (em_w σ dA ρ hp) U.heap ∧ va_K D cl (em_tys dA) U ∧ va_D (fun _ => True) (em_w σ dA ρ hp) ∧ F (va_A (em_w σ dA ρ hp) sz) U U.heap
def em_Qc (D : va_G) (cl : List vw_C) (dA : Nat → ClassId) (σ : Nat → Nat) (Pr : (Nat → Nat) → Prop) (Q : em_Q) (A : Nat → Prop) : Array Value → State → Outcome → State → Prop := fun _ st oc t =>
  (∃ (r : Option Value) (ρ' : Nat → Nat) (hp' : em_H), oc = .returned r ∧ em_pv r ∧ Q r hp' ∧ Pr ρ' ∧ va_P D cl (em_w σ dA ρ' hp') t.heap ∧ va_D A (em_w σ dA ρ' hp')) ∧ va_F A st t
/-- a method that makes no cell: its contract -/
def em_CT (l : Launch) (D : va_G) (cl : List vw_C) (dA : Nat → ClassId) (σ : Nat → Nat) (F : em_FT) (y : MethodName) (bytes : ByteArray) (maxL : Nat) (ret : Option FieldType) (rm : Room) (sp : em_Sp) : Prop :=
  ∀ (ρ : Nat → Nat) (hp : em_H) (sz : Nat) (av : List Value) (Q : em_Q), sp av hp Q → Met l y (Cond.code y bytes maxL ret :: em_tb) rm (va_Pc (av.map (em_v σ ρ)) (em_B F D cl dA σ ρ hp sz)) (em_Qc D cl dA σ (fun ρ' => ρ' = ρ) Q (va_A (em_w σ dA ρ hp) sz)) 0 0 (va_A (em_w σ dA ρ hp) sz)


/-- the locals of a call: the arguments in order, a long over two places -/
def em_args : List Value → em_L
  | [] => []
  | .long x :: vs => some (.long x) :: none :: em_args vs
  | .double x :: vs => some (.double x) :: none :: em_args vs
  | v :: vs => some v :: em_args vs
def em_pad : Nat → em_L → em_L
  | 0, _ => []
  | n + 1, [] => none :: em_pad n []
  | n + 1, x :: l => x :: em_pad n l
theorem em_pad_len : ∀ (n : Nat) (l : em_L), (em_pad n l).length = n
  | 0, _ => rfl
  | n + 1, [] => by show (em_pad n []).length + 1 = _; rw [em_pad_len n []]
  | n + 1, x :: l => by show (em_pad n l).length + 1 = _; rw [em_pad_len n l]
theorem em_pad_nth : ∀ (n : Nat) (l : em_L) (i : Nat) (v : Value), em_nth (em_pad n l) i = some v → em_nth l i = some v
  | 0, _, i, v, h => by cases h
  | n + 1, [], 0, v, h => by cases h
  | n + 1, [], i + 1, v, h => em_pad_nth n [] i v h
  | n + 1, x :: l, 0, v, h => h
  | n + 1, x :: l, i + 1, v, h => em_pad_nth n l i v h
theorem em_args_mem {σ ρ : Nat → Nat} : ∀ (vs : List Value) (o i : Nat) (v : Value), em_nth (em_args vs) i = some v → (o + i, em_v σ ρ v) ∈ lv_args o (vs.map (em_v σ ρ))
  | [], o, i, v, h => by cases h
  | u :: vs, o, i, v, h => by
    by_cases hc : u.category = 2
    · have hc' : (em_v σ ρ u).category = 2 := by rw [em_v_cat]; exact hc
      have e : em_args (u :: vs) = some u :: none :: em_args vs := by
        cases u <;> first | rfl | (simp [Value.category] at hc)
      rw [e] at h
      show (o + i, _) ∈ (o, em_v σ ρ u) :: lv_args (if (em_v σ ρ u).category = 2 then o + 2 else o + 1) (vs.map (em_v σ ρ))
      rw [if_pos hc']
      match i, h with
      | 0, h => cases h; exact List.mem_cons_self
      | 1, h => cases h
      | i + 2, h =>
        have := em_args_mem (σ := σ) (ρ := ρ) vs (o + 2) i v h
        rw [show o + 2 + i = o + (i + 2) by omega] at this
        exact List.mem_cons_of_mem _ this
    · have hc' : ¬ (em_v σ ρ u).category = 2 := by rw [em_v_cat]; exact hc
      have e : em_args (u :: vs) = some u :: em_args vs := by
        cases u <;> first | rfl | (simp [Value.category] at hc)
      rw [e] at h
      show (o + i, _) ∈ (o, em_v σ ρ u) :: lv_args (if (em_v σ ρ u).category = 2 then o + 2 else o + 1) (vs.map (em_v σ ρ))
      rw [if_neg hc']
      match i, h with
      | 0, h => cases h; exact List.mem_cons_self
      | i + 1, h =>
        have := em_args_mem (σ := σ) (ρ := ρ) vs (o + 1) i v h
        rw [show o + 1 + i = o + (i + 1) by omega] at this
        exact List.mem_cons_of_mem _ this
theorem em_sl_len {σ ρ : Nat → Nat} : ∀ (vs : List Value), (lg_sl (vs.map (em_v σ ρ))).length = (em_args vs).length
  | [] => rfl
  | u :: vs => by
    have ih := em_sl_len (σ := σ) (ρ := ρ) vs
    show (List.flatMap _ (em_v σ ρ u :: vs.map (em_v σ ρ))).length = _
    rw [List.flatMap_cons, List.length_append]
    have ih' : (List.flatMap (fun v : Value => if v.category = 2 then [Slot.val v, Slot.second] else [Slot.val v]) (vs.map (em_v σ ρ))).length = (em_args vs).length := ih
    rw [ih', em_v_cat]
    cases u <;> simp [Value.category, em_args] <;> omega
/-- what a method's ops owe: from its start, under any reading K of the places that is closed under them -/
def em_Me (T : List (Nat × em_Op)) (nL : Nat) (sp : em_Sp) : Prop :=
  ∀ (Q : em_Q) (K : em_K), (∀ a b pc ls st hp, em_wp Q K ((T.drop a).take b) pc ls st hp → K pc ls st hp) → (∀ pc ls ls' st hp, em_le ls' ls → K pc ls' st hp → K pc ls st hp) →
    ∀ av hp, sp av hp Q → (em_args av).length ≤ nL ∧ K 0 (em_pad nL (em_args av)) [] hp
theorem em_CT_of {l : Launch} {D : va_G} {cl : List vw_C} {dA : Nat → ClassId} {σ : Nat → Nat} {F : em_FT} {y : MethodName} {bytes : ByteArray} {maxL : Nat} {ret : Option FieldType} {rm : Room} {sp : em_Sp} {T : List (Nat × em_Op)} (hFok : em_Fok F) (hy : plainName y.cls = true)
    (hT : ∀ (p : Program) (e : Env) (s : State) (m : MethodId) (args : Array Value) (below : List Frame) (meth : Method) (c : Code) (A : Nat → Prop) (ρ : Nat → Nat) (Q : em_Q), em_Cx p s m args c D cl A maxL (em_tys dA) bytes y.cls → em_Fok F → F A s s.heap → meth.sig.returnType = ret → meth.locks = false → meth.name = y.name →
      ∀ q ∈ T, em_Snd p l e rm s m args below meth c D cl dA σ A maxL (fun _ => (0, 0)) (fun ρ' => ρ' = ρ) (MQ below (em_Qc D cl dA σ (fun ρ' => ρ' = ρ) Q A) args s 0 0 A) Q q.1 q.2)
    (hM : em_Me T maxL sp) : em_CT l D cl dA σ F y bytes maxL ret rm sp := by
  intro ρ hp sz av Q hsp
  refine Met.ofW (cc := bytes) (maxL := maxL) (ret := ret) hy rfl ?_
  intro p e s m args below meth c s₁ B hml hv
  obtain ⟨rfl, hsz, hP, hK, hD0, hF⟩ := hv
  have hts : ∀ w ∈ em_tb, w.before ((av.map (em_v σ ρ)).toArray) s = true := fun w hw => atoms_spec (ws := Cond.code y bytes maxL ret :: em_tb) B.pre w (List.mem_cons_of_mem _ hw)
  have hown : s.vm.findClass y.cls = some m.cls := findClass_of_methodNamed B.named
  subst hsz
  have hD := hD0.self (sz := s.heap.size)
  have hA : ∀ q : Nat, s.heap.size ≤ q → va_A (em_w σ dA ρ hp) s.heap.size q := fun q h => Or.inr h
  have hC : em_Cx p s m ((av.map (em_v σ ρ)).toArray) c D cl (va_A (em_w σ dA ρ hp) s.heap.size) maxL (em_tys dA) bytes y.cls := ⟨B.exec, B.bytes, hml, hown, hts, hK, hA⟩
  have hS := hT p e s m _ below meth c (va_A (em_w σ dA ρ hp) s.heap.size) ρ Q hC hFok hF B.returns B.notSynchronized (name_of_methodNamed B.named B.method).1
  obtain ⟨hlen, hK0⟩ := hM Q (em_Ok p l e rm s m ((av.map (em_v σ ρ)).toArray) below meth c D cl dA σ (va_A (em_w σ dA ρ hp) s.heap.size) maxL (fun _ => (0, 0)) (fun ρ' => ρ' = ρ) (MQ below (em_Qc D cl dA σ (fun ρ' => ρ' = ρ) Q (va_A (em_w σ dA ρ hp) s.heap.size)) ((av.map (em_v σ ρ)).toArray) s 0 0 (va_A (em_w σ dA ρ hp) s.heap.size)))
    (fun a b pc ls st hp2 h => em_wp_snd hS _ (fun q hq => List.mem_of_mem_drop (List.mem_of_mem_take hq)) pc ls st hp2 h) (fun pc ls ls' st hp2 h k => em_Ok_le h k) av hp hsp
  have hl := lv_entry (av.map (em_v σ ρ)) (n := maxL) (by rw [em_sl_len]; exact hlen)
  rw [lg_entry_eq]
  generalize (lg_sl (av.map (em_v σ ρ)) ++ List.replicate (maxL - (lg_sl (av.map (em_v σ ρ))).length) Slot.unset).toArray = arr at hl ⊢
  have hLH : em_LH σ ρ arr maxL (em_pad maxL (em_args av)) := by
    refine ⟨em_pad_len _ _, hl.1, hl.2.1, fun q hq => ?_⟩
    obtain ⟨i, v, h1, rfl⟩ := em_al_to _ 0 q hq
    exact hl.2.2 _ (em_args_mem av 0 i v (em_pad_nth _ _ _ _ h1))
  exact hK0 ρ arr s.heap [] rfl hLH hP hD va_S.rf
section EMC
variable {p : Program} {l : Launch} {e : Env} {R : Room} {s : State} {m : MethodId} {args : Array Value} {below : List Frame} {meth : Method} {c : Code} {D : va_G} {cl : List vw_C} {dA : Nat → ClassId} {σ : Nat → Nat} {A : Nat → Prop} {nL : Nat} {cnt : Nat → Nat × Nat} {Pr : (Nat → Nat) → Prop} {Z : State → Prop}
variable {cc : ByteArray} {Q : em_Q} {own : String}
def o_iret : em_Op := fun Q _ _ st hp => match st with | .int v :: [] => Q (some (.int v)) hp | _ => False
def o_zret : em_Op := fun Q _ _ st hp => match st with | .int v :: [] => (v = 0 ∨ v = 1) ∧ Q (some (.int v)) hp | _ => False
def o_lret : em_Op := fun Q _ _ st hp => match st with | .long v :: [] => Q (some (.long v)) hp | _ => False
def o_vret : em_Op := fun Q _ _ st hp => match st with | [] => Q none hp | _ => False

theorem s_iret (C : em_Cx p s m args c D cl A nL (em_tys dA) cc own) {pc mc ms : Nat} (hd : decode cc pc = .ok (.ireturn, 1)) (hr9 : meth.sig.returnType = some .int) (hlk : meth.locks = false) (hcm : (cnt pc).1 ≤ mc ∧ (cnt pc).2 ≤ ms) : em_Snd p l e R s m args below meth c D cl dA σ A nL cnt Pr (MQ below (em_Qc D cl dA σ Pr Q A) args s mc ms A) Q pc o_iret := by
  intro k hk ls st hp h ρ arr H locs hr hl hP hD hS
  unfold o_iret at h
  split at h
  · rename_i v
    refine W.widen hcm.1 hcm.2 ?_
    exact W.iret C.1 C.2.1 hr9 (fun t ht hW => ⟨⟨some (.int v), ρ, hp, rfl, trivial, h, hr, by rw [ht]; exact hP, hD⟩, hS.F ht⟩) hS.2.2 hd hlk
  · exact h.elim
theorem s_zret (C : em_Cx p s m args c D cl A nL (em_tys dA) cc own) {pc mc ms : Nat} (hd : decode cc pc = .ok (.ireturn, 1)) (hr9 : meth.sig.returnType = some .boolean) (hlk : meth.locks = false) (hcm : (cnt pc).1 ≤ mc ∧ (cnt pc).2 ≤ ms) : em_Snd p l e R s m args below meth c D cl dA σ A nL cnt Pr (MQ below (em_Qc D cl dA σ Pr Q A) args s mc ms A) Q pc o_zret := by
  intro k hk ls st hp h ρ arr H locs hr hl hP hD hS
  unfold o_zret at h
  split at h
  · rename_i v
    refine W.widen hcm.1 hcm.2 ?_
    exact W.zret C.1 C.2.1 hr9 (by rcases h.1 with z | z <;> subst z <;> rfl) (fun t ht hW => ⟨⟨some (.int v), ρ, hp, rfl, trivial, h.2, hr, by rw [ht]; exact hP, hD⟩, hS.F ht⟩) hS.2.2 hd hlk
  · exact h.elim
theorem s_lret (C : em_Cx p s m args c D cl A nL (em_tys dA) cc own) {pc mc ms : Nat} (hd : decode cc pc = .ok (.lreturn, 1)) (hr9 : meth.sig.returnType = some .long) (hlk : meth.locks = false) (hcm : (cnt pc).1 ≤ mc ∧ (cnt pc).2 ≤ ms) : em_Snd p l e R s m args below meth c D cl dA σ A nL cnt Pr (MQ below (em_Qc D cl dA σ Pr Q A) args s mc ms A) Q pc o_lret := by
  intro k hk ls st hp h ρ arr H locs hr hl hP hD hS
  unfold o_lret at h
  split at h
  · rename_i v
    refine W.widen hcm.1 hcm.2 ?_
    exact W.lret C.1 C.2.1 hr9 (fun t ht hW => ⟨⟨some (.long v), ρ, hp, rfl, trivial, h, hr, by rw [ht]; exact hP, hD⟩, hS.F ht⟩) hS.2.2 hd hlk
  · exact h.elim
theorem s_vret (C : em_Cx p s m args c D cl A nL (em_tys dA) cc own) {pc mc ms : Nat} (hd : decode cc pc = .ok (.return_, 1)) (hr9 : meth.sig.returnType = none) (hlk : meth.locks = false) (hcm : (cnt pc).1 ≤ mc ∧ (cnt pc).2 ≤ ms) : em_Snd p l e R s m args below meth c D cl dA σ A nL cnt Pr (MQ below (em_Qc D cl dA σ Pr Q A) args s mc ms A) Q pc o_vret := by
  intro k hk ls st hp h ρ arr H locs hr hl hP hD hS
  unfold o_vret at h
  split at h
  · skip
    refine W.widen hcm.1 hcm.2 ?_
    exact W.vret C.1 C.2.1 hr9 (fun t ht hW => ⟨⟨none, ρ, hp, rfl, trivial, h, hr, by rw [ht]; exact hP, hD⟩, hS.F ht⟩) hS.2.2 hd hlk
  · exact h.elim

/-! calls -/
def em_popn : Nat → List Value → List Value → (List Value → List Value → Prop) → Prop
  | 0, st, acc, k => k acc st
  | a + 1, v :: st, acc, k => em_popn a st (v :: acc) k
  | _ + 1, [], _, _ => False
theorem em_popn_to : ∀ (a : Nat) (st acc : List Value) (k : List Value → List Value → Prop), em_popn a st acc k → ∃ av r, st = av.reverse ++ r ∧ av.length = a ∧ k (av ++ acc) r
  | 0, st, acc, k, h => ⟨[], st, rfl, rfl, h⟩
  | a + 1, v :: st, acc, k, h => by
    obtain ⟨av, r, h1, h2, h3⟩ := em_popn_to a st (v :: acc) k h
    exact ⟨av ++ [v], r, by simp [h1], by simp [h2], by simpa using h3⟩
  | _ + 1, [], _, _, h => h.elim
def em_cat : List Value → Nat
  | [] => 0
  | .long _ :: r => em_cat r + 2
  | .double _ :: r => em_cat r + 2
  | _ :: r => em_cat r + 1
theorem em_cat_eq {σ ρ : Nat → Nat} : ∀ r : List Value, ((r.map (em_v σ ρ)).map fun v => v.category).sum = em_cat r
  | [] => rfl
  | v :: r => by
    have ih := em_cat_eq (σ := σ) (ρ := ρ) r
    simp only [List.map_cons, List.sum_cons, em_v_cat]
    rw [ih]
    cases v <;> simp [Value.category, em_cat] <;> omega
def em_rcv : Option Nat → List Value → em_H → Prop → Prop
  | none, _, _, k => k
  | some ci, .ref b :: _, hp, k => match em_hn hp b with
    | some (.inr (c, _)) => bif Nat.beq c ci then k else False
    | _ => False
  | some _, _, _, _ => False
def em_ret (K : em_K) (n : Nat) (ls : em_L) (r : List Value) : em_Q := fun v hp' => match v with | some x => K n ls (x :: r) hp' | none => K n ls r hp'
def o_call (a : Nat) (rc : Option Nat) (sp : em_Sp) (n : Nat) : em_Op := fun _ K ls st hp => em_popn a st [] (fun av r => bif Nat.ble (em_cat r) 8 then em_rcv rc av hp (sp av hp (em_ret K n ls r)) else False)
theorem em_rcv_to {rc : Option Nat} {av : List Value} {hp : em_H} {k : Prop} (h : em_rcv rc av hp k) : k ∧ ∀ ci, rc = some ci → ∃ b vs fs, av = .ref b :: vs ∧ em_hn hp b = some (.inr (ci, fs)) := by
  unfold em_rcv at h
  split at h
  · exact ⟨h, fun ci hc => by cases hc⟩
  · rename_i ci b vs
    split at h
    · rename_i c0 fs he
      cases hb : Nat.beq c0 ci with
      | false => rw [hb] at h; exact h.elim
      | true =>
        rw [hb] at h
        have hc0 := Nat.eq_of_beq_eq_true hb
        subst hc0
        exact ⟨h, fun ci hc => by cases hc; exact ⟨b, vs, fs, rfl, he⟩⟩
    · exact h.elim
  · exact h.elim
/-- the callee's start, out of the caller's standing -/
theorem em_pre {F : em_FT} {ρ : Nat → Nat} {hp : em_H} {H : Heap} {locs : List Loc} {av : List Value} (C : em_Cx p s m args c D cl A nL (em_tys dA) cc own) (hFok : em_Fok F) (hF : F A s s.heap) (hP : va_P D cl (em_w σ dA ρ hp) H) (hD : va_D A (em_w σ dA ρ hp)) (hS : va_S A s.heap H locs) :
    FrameBlind (va_Pc (av.map (em_v σ ρ)) (em_B F D cl dA σ ρ hp H.size)) ∧ (∀ U : State, U.heap = H → s.WarmedH U.vm → va_Pc (av.map (em_v σ ρ)) (em_B F D cl dA σ ρ hp H.size) (av.map (em_v σ ρ)).toArray U) ∧ ∀ q, va_A (em_w σ dA ρ hp) H.size q → A q := by
  have hFc : ∀ q, va_A (em_w σ dA ρ hp) H.size q → A q := fun q hq => by
    rcases hq with ⟨k, x, h⟩ | h
    · exact hD.2 k _ h
    · exact C.2.2.2.2.2.2 q (Nat.le_trans hS.1 h)
  refine ⟨fun a U g mk q => ?_, fun U hU hW => ⟨rfl, by rw [hU], by rw [hU]; exact hP, va_K.moved hW.alike C.2.2.2.2.2.1, hD.weaken (fun _ _ _ _ => trivial), ?_⟩, hFc⟩
  · obtain ⟨q0, q1, qP, qK, qD, qF⟩ := q
    exact ⟨q0, q1, qP, va_K.moved (u := U) (U := U.calling g mk a) (Vm.Alike.refl U.vm) qK, qD, hFok _ _ U _ _ _ (State.WarmedH.refl U) (fun _ _ _ => rfl) (fun _ h => h) qF⟩
  · rw [hU]
    exact hFok _ _ s _ _ _ hW hS.2.1 hFc hF
theorem em_back {ρ : Nat → Nat} {hp : em_H} {H : Heap} {locs : List Loc} {K : em_K} {n pc : Nat} {ls : em_L} {arr : Array Slot} {r st : List Value} {a : Array Value} (C : em_Cx p s m args c D cl A nL (em_tys dA) cc own) (hk : ∀ pc' ls st hp, K pc' ls st hp → em_Ok p l e R s m args below meth c D cl dA σ A nL cnt Pr Z pc' ls st hp) (hn : pc + 3 = n) (hc : cnt n = cnt pc) (hr : Pr ρ) (hl : em_LH σ ρ arr nL ls) (hS : va_S A s.heap H locs) (hFc : ∀ q, va_A (em_w σ dA ρ hp) H.size q → A q)
    (hrun : va_Run p l e R s m args below meth c H locs (cnt pc).1 (cnt pc).2 0 0 (F0 m pc arr st) (r.map (em_v σ ρ)) (em_Qc D cl dA σ (fun ρ' => ρ' = ρ) (em_ret K n ls r) (va_A (em_w σ dA ρ hp) H.size) a) (va_A (em_w σ dA ρ hp) H.size)) :
    W p l e R s m args below meth c H locs (cnt pc).1 (cnt pc).2 Z (F0 m pc arr st) := by
  intro T hT X
  obtain ⟨v, st₀, t, T', L, h0, X', hL, e1, e2, ⟨⟨v2, ρ', hp', hv, hpv, hQ, hρ, hP', hD'⟩, hz, hq9⟩, st⟩ := hrun T hT X
  cases hv
  subst hρ
  rw [h0] at hz hq9
  have hS' : va_S A s.heap T'.heap (locs ++ L) := ⟨Nat.le_trans hS.1 (by rw [e1]; exact hz), fun q h1 h2 => by rw [e1, hq9 q (Nat.lt_of_lt_of_le h1 hS.1) (fun z => h2 (hFc q z))]; exact hS.2.1 q h1 h2, fun q hq => by
      rcases List.mem_append.mp hq with h | h
      · exact hS.2.2 q h
      · exact hFc _ (hL q h)⟩
  have hP9 : va_P D cl (em_w σ dA ρ' hp') T'.heap := by rw [e1]; exact hP'
  have hD9 : va_D A (em_w σ dA ρ' hp') := hD'.weaken (fun k q _ h => hFc q.1 h)
  subst hn
  cases v with
  | none =>
    have h9 := hk _ _ _ _ hQ ρ' arr T'.heap (locs ++ L) hr hl hP9 hD9 hS'
    rw [hc] at h9
    obtain ⟨t2, a1, b1⟩ := h9 T' rfl X'
    exact ⟨t2, st t2 a1, b1⟩
  | some x =>
    have h9 := hk _ _ _ _ hQ ρ' arr T'.heap (locs ++ L) hr hl hP9 hD9 hS'
    rw [hc, List.map_cons, em_pv_v hpv] at h9
    obtain ⟨t2, a1, b1⟩ := h9 T' rfl X'
    exact ⟨t2, st t2 a1, b1⟩

theorem s_callS (C : em_Cx p s m args c D cl A nL (em_tys dA) cc own) {pc n index a maxL : Nat} {F : em_FT} {y : MethodName} {bytes : ByteArray} {ret : Option FieldType} {rm : Room} {sp : em_Sp} (hFok : em_Fok F) (hF : F A s s.heap) (hM : em_CT l D cl dA σ F y bytes maxL ret rm sp) (hrm : rm.cells = 0 ∧ rm.slots = 0) (hw1 : Cond.code y bytes maxL ret ∈ em_tb) (hwl : Cond.methodLink own index y ∈ em_tb) (hws : Cond.static y ∈ em_tb) (hwi : Cond.initialized y.cls ∈ em_tb) (hd2 : y.cls ≠ "java/lang/invoke/MethodHandle" ∧ y.cls ≠ "java/lang/invoke/VarHandle" ∧ (parseMethodDescriptor y.desc).map (fun d => d.parameters.length) = some a) (hR : rm.frames + 1 ≤ R.frames ∧ 8 + (maxL + 11) + rm.locals ≤ R.locals) (hd : decode cc pc = .ok (.invokestatic index, 3)) (hn : pc + 3 = n) (hc : cnt n = cnt pc) (hcr : (cnt pc).1 + 0 ≤ R.cells ∧ (cnt pc).2 + 0 ≤ R.slots) : em_Snd p l e R s m args below meth c D cl dA σ A nL cnt Pr Z Q pc (o_call a none sp n) := by
  intro k hk ls st hp h ρ arr H locs hr hl hP hD hS
  unfold o_call at h
  obtain ⟨av, r, hst, hav, h⟩ := em_popn_to _ _ _ _ h
  rw [List.append_nil] at h
  cases hb8 : Nat.ble (em_cat r) 8 with
  | false => rw [hb8] at h; exact h.elim
  | true =>
    rw [hb8] at h
    have h8 := Nat.le_of_ble_eq_true hb8
    have h : em_rcv none av hp (sp av hp (em_ret k n ls r)) := h
    obtain ⟨h, hrc⟩ := em_rcv_to h
    obtain ⟨hbl, hpr, hFc⟩ := em_pre (av := av) C hFok hF hP hD hS
    have hG : GoodIn em_tb (Cond.code y bytes maxL ret :: em_tb) := fun w hw => by
      rcases List.mem_cons.mp hw with rfl | hw
      · exact em_tb_good _ hw1
      · exact em_tb_good _ hw
    have cb := callB_of (R := R) (s := s) (args := args) (own := own) (index := index) (y := y) (bytes := bytes) (maxL := maxL) (ret := ret) (rm := rm) a C.2.2.2.2.1 hG rfl hrm.1 hrm.2 (C.2.2.2.2.1 _ hwi) (C.2.2.2.2.1 _ hwl) hd2 hR
    refine em_back C hk hn hc hr hl hS hFc (r := r) (a := ((av.map (em_v σ ρ)).toArray)) ?_
    exact va_runS (As := av.map (em_v σ ρ)) (rest := r.map (em_v σ ρ)) ⟨C.1, C.2.1, C.2.2.1, C.2.2.2.1, C.2.2.2.2.1⟩ (hM ρ hp H.size av _ h) ⟨cb, C.2.2.2.2.1 _ hws⟩ ⟨hbl, hpr⟩ rfl (by rw [List.length_map]; exact hav) hl.2.1 (by rw [hst, List.map_append, List.map_reverse]) (lv_room (by rw [em_cat_eq]; exact h8)) hd hcr
theorem s_callSN (C : em_Cx p s m args c D cl A nL (em_tys dA) cc own) {pc n index a maxL : Nat} {F : em_FT} {y : MethodName} {bytes : ByteArray} {ret : Option FieldType} {rm : Room} {sp : em_Sp} (hFok : em_Fok F) (hF : F A s s.heap) (hM : em_CT l D cl dA σ F y bytes maxL ret rm sp) (hrm : rm.cells = 0 ∧ rm.slots = 0) (hw1 : Cond.code y bytes maxL ret ∈ em_tb) {host : String} (hnl : va_Nw (.methodLinkNest own index y host) s) (hws : Cond.static y ∈ em_tb) (hwi : Cond.initialized y.cls ∈ em_tb) (hd2 : y.cls ≠ "java/lang/invoke/MethodHandle" ∧ y.cls ≠ "java/lang/invoke/VarHandle" ∧ (parseMethodDescriptor y.desc).map (fun d => d.parameters.length) = some a) (hR : rm.frames + 1 ≤ R.frames ∧ 8 + (maxL + 11) + rm.locals ≤ R.locals) (hd : decode cc pc = .ok (.invokestatic index, 3)) (hn : pc + 3 = n) (hc : cnt n = cnt pc) (hcr : (cnt pc).1 + 0 ≤ R.cells ∧ (cnt pc).2 + 0 ≤ R.slots) : em_Snd p l e R s m args below meth c D cl dA σ A nL cnt Pr Z Q pc (o_call a none sp n) := by
  intro k hk ls st hp h ρ arr H locs hr hl hP hD hS
  unfold o_call at h
  obtain ⟨av, r, hst, hav, h⟩ := em_popn_to _ _ _ _ h
  rw [List.append_nil] at h
  cases hb8 : Nat.ble (em_cat r) 8 with
  | false => rw [hb8] at h; exact h.elim
  | true =>
    rw [hb8] at h
    have h8 := Nat.le_of_ble_eq_true hb8
    have h : em_rcv none av hp (sp av hp (em_ret k n ls r)) := h
    obtain ⟨h, hrc⟩ := em_rcv_to h
    obtain ⟨hbl, hpr, hFc⟩ := em_pre (av := av) C hFok hF hP hD hS
    have hG : GoodIn em_tb (Cond.code y bytes maxL ret :: em_tb) := fun w hw => by
      rcases List.mem_cons.mp hw with rfl | hw
      · exact em_tb_good _ hw1
      · exact em_tb_good _ hw
    have cb := va_cnB (R := R) (own := own) (index := index) (y := y) (bytes := bytes) (maxL := maxL) (ret := ret) (rm := rm) a C.2.2.2.2.1 hG rfl hrm.1 hrm.2 hnl (C.2.2.2.2.1 _ hwi) hd2 hR
    refine em_back C hk hn hc hr hl hS hFc (r := r) (a := ((av.map (em_v σ ρ)).toArray)) ?_
    exact va_runSN (As := av.map (em_v σ ρ)) (rest := r.map (em_v σ ρ)) ⟨C.1, C.2.1, C.2.2.1, C.2.2.2.1, C.2.2.2.2.1⟩ (hM ρ hp H.size av _ h) ⟨cb, C.2.2.2.2.1 _ hws, trivial⟩ ⟨hbl, hpr⟩ rfl (by rw [List.length_map]; exact hav) hl.2.1 (by rw [hst, List.map_append, List.map_reverse]) (lv_room (by rw [em_cat_eq]; exact h8)) hd hcr
theorem s_callV (C : em_Cx p s m args c D cl A nL (em_tys dA) cc own) {pc n index a maxL : Nat} {F : em_FT} {y : MethodName} {bytes : ByteArray} {ret : Option FieldType} {rm : Room} {sp : em_Sp} (hFok : em_Fok F) (hF : F A s s.heap) (hM : em_CT l D cl dA σ F y bytes maxL ret rm sp) (hrm : rm.cells = 0 ∧ rm.slots = 0) (hw1 : Cond.code y bytes maxL ret ∈ em_tb) {ci : Nat} {T : u_T} {N : Nat} (hcl : em_Cl cl ci y.cls T N) (hwl : Cond.methodLink own index y ∈ em_tb) (hws : Cond.instanceMethod y ∈ em_tb) (hwe : Cond.selects y.cls y y ∈ em_tb) (hwi : Cond.initialized y.cls ∈ em_tb) (hd2 : y.cls ≠ "java/lang/invoke/MethodHandle" ∧ y.cls ≠ "java/lang/invoke/VarHandle" ∧ (parseMethodDescriptor y.desc).map (fun d => d.parameters.length) = some a) (hR : rm.frames + 1 ≤ R.frames ∧ 8 + (maxL + 11) + rm.locals ≤ R.locals) (hd : decode cc pc = .ok (.invokevirtual index, 3)) (hn : pc + 3 = n) (hc : cnt n = cnt pc) (hcr : (cnt pc).1 + 0 ≤ R.cells ∧ (cnt pc).2 + 0 ≤ R.slots) : em_Snd p l e R s m args below meth c D cl dA σ A nL cnt Pr Z Q pc (o_call (a + 1) (some ci) sp n) := by
  intro k hk ls st hp h ρ arr H locs hr hl hP hD hS
  unfold o_call at h
  obtain ⟨av, r, hst, hav, h⟩ := em_popn_to _ _ _ _ h
  rw [List.append_nil] at h
  cases hb8 : Nat.ble (em_cat r) 8 with
  | false => rw [hb8] at h; exact h.elim
  | true =>
    rw [hb8] at h
    have h8 := Nat.le_of_ble_eq_true hb8
    have h : em_rcv (some ci) av hp (sp av hp (em_ret k n ls r)) := h
    obtain ⟨h, hrc⟩ := em_rcv_to h
    obtain ⟨hbl, hpr, hFc⟩ := em_pre (av := av) C hFok hF hP hD hS
    have hG : GoodIn em_tb (Cond.code y bytes maxL ret :: em_tb) := fun w hw => by
      rcases List.mem_cons.mp hw with rfl | hw
      · exact em_tb_good _ hw1
      · exact em_tb_good _ hw
    obtain ⟨b, vs, fs, rfl, he⟩ := hrc ci rfl
    have cb := callB_of (R := R) (s := s) (args := args) (own := own) (index := index) (y := y) (bytes := bytes) (maxL := maxL) (ret := ret) (rm := rm) a C.2.2.2.2.1 hG rfl hrm.1 hrm.2 (C.2.2.2.2.1 _ hwi) (C.2.2.2.2.1 _ hwl) hd2 hR
    refine em_back C hk hn hc hr hl hS hFc (r := r) (a := (((Value.ref b :: vs).map (em_v σ ρ)).toArray)) ?_
    exact va_runV (C := y.cls) (b := ρ b) (As := vs.map (em_v σ ρ)) (rest := r.map (em_v σ ρ)) ⟨C.1, C.2.1, C.2.2.1, C.2.2.2.1, C.2.2.2.2.1⟩ (hM ρ hp H.size _ _ h) ⟨cb, C.2.2.2.2.1 _ hws, C.2.2.2.2.1 _ hwe⟩ ⟨hbl, va_recv C.2.2.2.2.2.1 hP hcl.1 (em_w_get he), hpr⟩ rfl (by rw [List.length_map]; simpa using hav) hl.2.1 (by rw [hst]; simp [em_v]) (lv_room (by rw [em_cat_eq]; exact h8)) hd hcr
end EMC
end
