section
-- ===== PART A: goes FIRST, ahead of the names: the tables' words, and 'selects' of the private methods out of them =====
/-- a private method of a class that the tables say can be made, by its rows of tables_1 -/
def lw_okq (q : MethodName × Nat) : Prop := (q.1.cls ≠ "java/lang/invoke/MethodHandle" ∧ q.1.cls ≠ "java/lang/invoke/VarHandle") ∧ Cond.instantiable q.1.cls q.2 ∈ tables_1 ∧ Cond.privateMethod q.1 ∈ tables_1 ∧ Cond.instanceMethod q.1 ∈ tables_1
theorem lw_p0 : lw_okq (⟨"WedApart", "counted", "(I)I"⟩, 7) := ⟨⟨by decide +kernel, by decide +kernel⟩, List.mem_of_getElem? (i := 20) (by decide +kernel), List.mem_of_getElem? (i := 194) (by decide +kernel), List.mem_of_getElem? (i := 195) (by decide +kernel)⟩
theorem lw_p1 : lw_okq (⟨"WedApart", "refuse", "(I)I"⟩, 7) := ⟨⟨by decide +kernel, by decide +kernel⟩, List.mem_of_getElem? (i := 20) (by decide +kernel), List.mem_of_getElem? (i := 198) (by decide +kernel), List.mem_of_getElem? (i := 199) (by decide +kernel)⟩
theorem lw_p2 : lw_okq (⟨"WedApart$TownText", "step", "()V"⟩, 4) := ⟨⟨by decide +kernel, by decide +kernel⟩, List.mem_of_getElem? (i := 28) (by decide +kernel), List.mem_of_getElem? (i := 281) (by decide +kernel), List.mem_of_getElem? (i := 282) (by decide +kernel)⟩
theorem lw_p3 : lw_okq (⟨"WedApart$TownText", "isLetter", "(I)Z"⟩, 4) := ⟨⟨by decide +kernel, by decide +kernel⟩, List.mem_of_getElem? (i := 28) (by decide +kernel), List.mem_of_getElem? (i := 285) (by decide +kernel), List.mem_of_getElem? (i := 286) (by decide +kernel)⟩
theorem lw_p4 : lw_okq (⟨"WedApart$TownText", "at", "(I)I"⟩, 4) := ⟨⟨by decide +kernel, by decide +kernel⟩, List.mem_of_getElem? (i := 28) (by decide +kernel), List.mem_of_getElem? (i := 289) (by decide +kernel), List.mem_of_getElem? (i := 290) (by decide +kernel)⟩
theorem lw_p5 : lw_okq (⟨"WedApart$TownText", "isFigure", "(I)Z"⟩, 4) := ⟨⟨by decide +kernel, by decide +kernel⟩, List.mem_of_getElem? (i := 28) (by decide +kernel), List.mem_of_getElem? (i := 293) (by decide +kernel), List.mem_of_getElem? (i := 294) (by decide +kernel)⟩
theorem lw_p6 : lw_okq (⟨"WedApart$TownText", "tellItem", "(LWedApart$Town;)I"⟩, 4) := ⟨⟨by decide +kernel, by decide +kernel⟩, List.mem_of_getElem? (i := 28) (by decide +kernel), List.mem_of_getElem? (i := 297) (by decide +kernel), List.mem_of_getElem? (i := 298) (by decide +kernel)⟩
theorem lw_p7 : lw_okq (⟨"WedApart$TownText", "isWord", "(Ljava/lang/String;)Z"⟩, 4) := ⟨⟨by decide +kernel, by decide +kernel⟩, List.mem_of_getElem? (i := 28) (by decide +kernel), List.mem_of_getElem? (i := 302) (by decide +kernel), List.mem_of_getElem? (i := 303) (by decide +kernel)⟩
theorem lw_p8 : lw_okq (⟨"WedApart$TownText", "takeNumber", "()I"⟩, 4) := ⟨⟨by decide +kernel, by decide +kernel⟩, List.mem_of_getElem? (i := 28) (by decide +kernel), List.mem_of_getElem? (i := 354) (by decide +kernel), List.mem_of_getElem? (i := 355) (by decide +kernel)⟩
theorem lw_p9 : lw_okq (⟨"WedApart$TownText", "takeMatters", "()I"⟩, 4) := ⟨⟨by decide +kernel, by decide +kernel⟩, List.mem_of_getElem? (i := 28) (by decide +kernel), List.mem_of_getElem? (i := 358) (by decide +kernel), List.mem_of_getElem? (i := 359) (by decide +kernel)⟩
theorem lw_p10 : lw_okq (⟨"WedApart$TownText", "isSign", "(C)Z"⟩, 4) := ⟨⟨by decide +kernel, by decide +kernel⟩, List.mem_of_getElem? (i := 28) (by decide +kernel), List.mem_of_getElem? (i := 370) (by decide +kernel), List.mem_of_getElem? (i := 371) (by decide +kernel)⟩
theorem lw_p11 : lw_okq (⟨"WedApart", "howMany", "(I)I"⟩, 7) := ⟨⟨by decide +kernel, by decide +kernel⟩, List.mem_of_getElem? (i := 20) (by decide +kernel), List.mem_of_getElem? (i := 673) (by decide +kernel), List.mem_of_getElem? (i := 674) (by decide +kernel)⟩
theorem lw_p12 : lw_okq (⟨"WedApartModel", "empties", "()V"⟩, 24) := ⟨⟨by decide +kernel, by decide +kernel⟩, List.mem_of_getElem? (i := 688) (by decide +kernel), List.mem_of_getElem? (i := 694) (by decide +kernel), List.mem_of_getElem? (i := 695) (by decide +kernel)⟩
theorem lw_p13 : lw_okq (⟨"WedApartModel", "bad", "()I"⟩, 24) := ⟨⟨by decide +kernel, by decide +kernel⟩, List.mem_of_getElem? (i := 688) (by decide +kernel), List.mem_of_getElem? (i := 783) (by decide +kernel), List.mem_of_getElem? (i := 784) (by decide +kernel)⟩
theorem lw_p14 : lw_okq (⟨"WedApartModel", "refuses", "(II)I"⟩, 24) := ⟨⟨by decide +kernel, by decide +kernel⟩, List.mem_of_getElem? (i := 688) (by decide +kernel), List.mem_of_getElem? (i := 787) (by decide +kernel), List.mem_of_getElem? (i := 788) (by decide +kernel)⟩
theorem lw_p15 : lw_okq (⟨"WedApartModel", "full", "()I"⟩, 24) := ⟨⟨by decide +kernel, by decide +kernel⟩, List.mem_of_getElem? (i := 688) (by decide +kernel), List.mem_of_getElem? (i := 791) (by decide +kernel), List.mem_of_getElem? (i := 792) (by decide +kernel)⟩
def lw_privs_1 : List (MethodName × Nat) := [(⟨"WedApart", "counted", "(I)I"⟩, 7), (⟨"WedApart", "refuse", "(I)I"⟩, 7), (⟨"WedApart$TownText", "step", "()V"⟩, 4), (⟨"WedApart$TownText", "isLetter", "(I)Z"⟩, 4), (⟨"WedApart$TownText", "at", "(I)I"⟩, 4), (⟨"WedApart$TownText", "isFigure", "(I)Z"⟩, 4), (⟨"WedApart$TownText", "tellItem", "(LWedApart$Town;)I"⟩, 4), (⟨"WedApart$TownText", "isWord", "(Ljava/lang/String;)Z"⟩, 4), (⟨"WedApart$TownText", "takeNumber", "()I"⟩, 4), (⟨"WedApart$TownText", "takeMatters", "()I"⟩, 4), (⟨"WedApart$TownText", "isSign", "(C)Z"⟩, 4), (⟨"WedApart", "howMany", "(I)I"⟩, 7), (⟨"WedApartModel", "empties", "()V"⟩, 24), (⟨"WedApartModel", "bad", "()I"⟩, 24), (⟨"WedApartModel", "refuses", "(II)I"⟩, 24), (⟨"WedApartModel", "full", "()I"⟩, 24)]
theorem lw_r1 : ∀ q ∈ lw_privs_1, lw_okq q := List.forall_mem_cons.mpr ⟨lw_p0, List.forall_mem_cons.mpr ⟨lw_p1, List.forall_mem_cons.mpr ⟨lw_p2, List.forall_mem_cons.mpr ⟨lw_p3, List.forall_mem_cons.mpr ⟨lw_p4, List.forall_mem_cons.mpr ⟨lw_p5, List.forall_mem_cons.mpr ⟨lw_p6, List.forall_mem_cons.mpr ⟨lw_p7, List.forall_mem_cons.mpr ⟨lw_p8, List.forall_mem_cons.mpr ⟨lw_p9, List.forall_mem_cons.mpr ⟨lw_p10, List.forall_mem_cons.mpr ⟨lw_p11, List.forall_mem_cons.mpr ⟨lw_p12, List.forall_mem_cons.mpr ⟨lw_p13, List.forall_mem_cons.mpr ⟨lw_p14, List.forall_mem_cons.mpr ⟨lw_p15, fun _ h => absurd h List.not_mem_nil⟩⟩⟩⟩⟩⟩⟩⟩⟩⟩⟩⟩⟩⟩⟩⟩
theorem lw_p16 : lw_okq (⟨"WedApartModel", "isPerson", "(I)Z"⟩, 24) := ⟨⟨by decide +kernel, by decide +kernel⟩, List.mem_of_getElem? (i := 688) (by decide +kernel), List.mem_of_getElem? (i := 799) (by decide +kernel), List.mem_of_getElem? (i := 800) (by decide +kernel)⟩
theorem lw_p17 : lw_okq (⟨"WedApartModel", "puts", "(II)I"⟩, 24) := ⟨⟨by decide +kernel, by decide +kernel⟩, List.mem_of_getElem? (i := 688) (by decide +kernel), List.mem_of_getElem? (i := 803) (by decide +kernel), List.mem_of_getElem? (i := 804) (by decide +kernel)⟩
theorem lw_p18 : lw_okq (⟨"WedApartModel", "areTwo", "(II)Z"⟩, 24) := ⟨⟨by decide +kernel, by decide +kernel⟩, List.mem_of_getElem? (i := 688) (by decide +kernel), List.mem_of_getElem? (i := 824) (by decide +kernel), List.mem_of_getElem? (i := 825) (by decide +kernel)⟩
theorem lw_p19 : lw_okq (⟨"WedApartModel", "reads", "()Z"⟩, 24) := ⟨⟨by decide +kernel, by decide +kernel⟩, List.mem_of_getElem? (i := 688) (by decide +kernel), List.mem_of_getElem? (i := 845) (by decide +kernel), List.mem_of_getElem? (i := 846) (by decide +kernel)⟩
theorem lw_p20 : lw_okq (⟨"WedApartModel", "scans", "()V"⟩, 24) := ⟨⟨by decide +kernel, by decide +kernel⟩, List.mem_of_getElem? (i := 688) (by decide +kernel), List.mem_of_getElem? (i := 849) (by decide +kernel), List.mem_of_getElem? (i := 850) (by decide +kernel)⟩
theorem lw_p21 : lw_okq (⟨"WedApartModel", "isAt", "(II)Z"⟩, 24) := ⟨⟨by decide +kernel, by decide +kernel⟩, List.mem_of_getElem? (i := 688) (by decide +kernel), List.mem_of_getElem? (i := 853) (by decide +kernel), List.mem_of_getElem? (i := 854) (by decide +kernel)⟩
theorem lw_p22 : lw_okq (⟨"WedApartModel", "takesLetters", "(I)Z"⟩, 24) := ⟨⟨by decide +kernel, by decide +kernel⟩, List.mem_of_getElem? (i := 688) (by decide +kernel), List.mem_of_getElem? (i := 867) (by decide +kernel), List.mem_of_getElem? (i := 868) (by decide +kernel)⟩
theorem lw_p23 : lw_okq (⟨"WedApartModel", "takesNumber", "(I)Z"⟩, 24) := ⟨⟨by decide +kernel, by decide +kernel⟩, List.mem_of_getElem? (i := 688) (by decide +kernel), List.mem_of_getElem? (i := 872) (by decide +kernel), List.mem_of_getElem? (i := 873) (by decide +kernel)⟩
theorem lw_p24 : lw_okq (⟨"WedApartModel", "tellsItem", "(I)Z"⟩, 24) := ⟨⟨by decide +kernel, by decide +kernel⟩, List.mem_of_getElem? (i := 688) (by decide +kernel), List.mem_of_getElem? (i := 876) (by decide +kernel), List.mem_of_getElem? (i := 877) (by decide +kernel)⟩
theorem lw_p25 : lw_okq (⟨"WedApartModel", "counted", "(I)I"⟩, 24) := ⟨⟨by decide +kernel, by decide +kernel⟩, List.mem_of_getElem? (i := 688) (by decide +kernel), List.mem_of_getElem? (i := 896) (by decide +kernel), List.mem_of_getElem? (i := 897) (by decide +kernel)⟩
theorem lw_p26 : lw_okq (⟨"WedApartModel", "asNow", "()V"⟩, 24) := ⟨⟨by decide +kernel, by decide +kernel⟩, List.mem_of_getElem? (i := 688) (by decide +kernel), List.mem_of_getElem? (i := 907) (by decide +kernel), List.mem_of_getElem? (i := 908) (by decide +kernel)⟩
theorem lw_p27 : lw_okq (⟨"WedApartModel", "isLawful", "(II)Z"⟩, 24) := ⟨⟨by decide +kernel, by decide +kernel⟩, List.mem_of_getElem? (i := 688) (by decide +kernel), List.mem_of_getElem? (i := 911) (by decide +kernel), List.mem_of_getElem? (i := 912) (by decide +kernel)⟩
theorem lw_p28 : lw_okq (⟨"WedApartModel", "remembers", "()V"⟩, 24) := ⟨⟨by decide +kernel, by decide +kernel⟩, List.mem_of_getElem? (i := 688) (by decide +kernel), List.mem_of_getElem? (i := 923) (by decide +kernel), List.mem_of_getElem? (i := 924) (by decide +kernel)⟩
theorem lw_p29 : lw_okq (⟨"WedApartModel", "goes", "(I)V"⟩, 24) := ⟨⟨by decide +kernel, by decide +kernel⟩, List.mem_of_getElem? (i := 688) (by decide +kernel), List.mem_of_getElem? (i := 927) (by decide +kernel), List.mem_of_getElem? (i := 928) (by decide +kernel)⟩
theorem lw_p30 : lw_okq (⟨"WedApartModel", "talks", "(II)V"⟩, 24) := ⟨⟨by decide +kernel, by decide +kernel⟩, List.mem_of_getElem? (i := 688) (by decide +kernel), List.mem_of_getElem? (i := 931) (by decide +kernel), List.mem_of_getElem? (i := 932) (by decide +kernel)⟩
theorem lw_p31 : lw_okq (⟨"WedApartModel", "swayedBy", "(IIIII)I"⟩, 24) := ⟨⟨by decide +kernel, by decide +kernel⟩, List.mem_of_getElem? (i := 688) (by decide +kernel), List.mem_of_getElem? (i := 935) (by decide +kernel), List.mem_of_getElem? (i := 936) (by decide +kernel)⟩
def lw_privs_2 : List (MethodName × Nat) := [(⟨"WedApartModel", "isPerson", "(I)Z"⟩, 24), (⟨"WedApartModel", "puts", "(II)I"⟩, 24), (⟨"WedApartModel", "areTwo", "(II)Z"⟩, 24), (⟨"WedApartModel", "reads", "()Z"⟩, 24), (⟨"WedApartModel", "scans", "()V"⟩, 24), (⟨"WedApartModel", "isAt", "(II)Z"⟩, 24), (⟨"WedApartModel", "takesLetters", "(I)Z"⟩, 24), (⟨"WedApartModel", "takesNumber", "(I)Z"⟩, 24), (⟨"WedApartModel", "tellsItem", "(I)Z"⟩, 24), (⟨"WedApartModel", "counted", "(I)I"⟩, 24), (⟨"WedApartModel", "asNow", "()V"⟩, 24), (⟨"WedApartModel", "isLawful", "(II)Z"⟩, 24), (⟨"WedApartModel", "remembers", "()V"⟩, 24), (⟨"WedApartModel", "goes", "(I)V"⟩, 24), (⟨"WedApartModel", "talks", "(II)V"⟩, 24), (⟨"WedApartModel", "swayedBy", "(IIIII)I"⟩, 24)]
theorem lw_r2 : ∀ q ∈ lw_privs_2, lw_okq q := List.forall_mem_cons.mpr ⟨lw_p16, List.forall_mem_cons.mpr ⟨lw_p17, List.forall_mem_cons.mpr ⟨lw_p18, List.forall_mem_cons.mpr ⟨lw_p19, List.forall_mem_cons.mpr ⟨lw_p20, List.forall_mem_cons.mpr ⟨lw_p21, List.forall_mem_cons.mpr ⟨lw_p22, List.forall_mem_cons.mpr ⟨lw_p23, List.forall_mem_cons.mpr ⟨lw_p24, List.forall_mem_cons.mpr ⟨lw_p25, List.forall_mem_cons.mpr ⟨lw_p26, List.forall_mem_cons.mpr ⟨lw_p27, List.forall_mem_cons.mpr ⟨lw_p28, List.forall_mem_cons.mpr ⟨lw_p29, List.forall_mem_cons.mpr ⟨lw_p30, List.forall_mem_cons.mpr ⟨lw_p31, fun _ h => absurd h List.not_mem_nil⟩⟩⟩⟩⟩⟩⟩⟩⟩⟩⟩⟩⟩⟩⟩⟩
theorem lw_p32 : lw_okq (⟨"WedApartModel", "keepsAll", "()I"⟩, 24) := ⟨⟨by decide +kernel, by decide +kernel⟩, List.mem_of_getElem? (i := 688) (by decide +kernel), List.mem_of_getElem? (i := 939) (by decide +kernel), List.mem_of_getElem? (i := 940) (by decide +kernel)⟩
theorem lw_p33 : lw_okq (⟨"WedApartModel", "no", "()I"⟩, 24) := ⟨⟨by decide +kernel, by decide +kernel⟩, List.mem_of_getElem? (i := 688) (by decide +kernel), List.mem_of_getElem? (i := 951) (by decide +kernel), List.mem_of_getElem? (i := 952) (by decide +kernel)⟩
theorem lw_p34 : lw_okq (⟨"WedApartModel", "lastsBy", "(I)V"⟩, 24) := ⟨⟨by decide +kernel, by decide +kernel⟩, List.mem_of_getElem? (i := 688) (by decide +kernel), List.mem_of_getElem? (i := 960) (by decide +kernel), List.mem_of_getElem? (i := 961) (by decide +kernel)⟩
theorem lw_p35 : lw_okq (⟨"WedApartModel", "isOne", "()Z"⟩, 24) := ⟨⟨by decide +kernel, by decide +kernel⟩, List.mem_of_getElem? (i := 688) (by decide +kernel), List.mem_of_getElem? (i := 977) (by decide +kernel), List.mem_of_getElem? (i := 978) (by decide +kernel)⟩
theorem lw_p36 : lw_okq (⟨"WedApartModel", "allows", "(I)V"⟩, 24) := ⟨⟨by decide +kernel, by decide +kernel⟩, List.mem_of_getElem? (i := 688) (by decide +kernel), List.mem_of_getElem? (i := 991) (by decide +kernel), List.mem_of_getElem? (i := 992) (by decide +kernel)⟩
theorem lw_p37 : lw_okq (⟨"WedApartModel", "dines", "(III)Z"⟩, 24) := ⟨⟨by decide +kernel, by decide +kernel⟩, List.mem_of_getElem? (i := 688) (by decide +kernel), List.mem_of_getElem? (i := 1000) (by decide +kernel), List.mem_of_getElem? (i := 1001) (by decide +kernel)⟩
theorem lw_p38 : lw_okq (⟨"WedApartModel", "lawfulPairs", "()I"⟩, 24) := ⟨⟨by decide +kernel, by decide +kernel⟩, List.mem_of_getElem? (i := 688) (by decide +kernel), List.mem_of_getElem? (i := 1020) (by decide +kernel), List.mem_of_getElem? (i := 1021) (by decide +kernel)⟩
theorem lw_p39 : lw_okq (⟨"WedApartModel", "countOf", "(I)I"⟩, 24) := ⟨⟨by decide +kernel, by decide +kernel⟩, List.mem_of_getElem? (i := 688) (by decide +kernel), List.mem_of_getElem? (i := 1073) (by decide +kernel), List.mem_of_getElem? (i := 1074) (by decide +kernel)⟩
theorem lw_p40 : lw_okq (⟨"WedApartModel", "mixed", "(JII)J"⟩, 24) := ⟨⟨by decide +kernel, by decide +kernel⟩, List.mem_of_getElem? (i := 688) (by decide +kernel), List.mem_of_getElem? (i := 1083) (by decide +kernel), List.mem_of_getElem? (i := 1084) (by decide +kernel)⟩
def lw_privs_3 : List (MethodName × Nat) := [(⟨"WedApartModel", "keepsAll", "()I"⟩, 24), (⟨"WedApartModel", "no", "()I"⟩, 24), (⟨"WedApartModel", "lastsBy", "(I)V"⟩, 24), (⟨"WedApartModel", "isOne", "()Z"⟩, 24), (⟨"WedApartModel", "allows", "(I)V"⟩, 24), (⟨"WedApartModel", "dines", "(III)Z"⟩, 24), (⟨"WedApartModel", "lawfulPairs", "()I"⟩, 24), (⟨"WedApartModel", "countOf", "(I)I"⟩, 24), (⟨"WedApartModel", "mixed", "(JII)J"⟩, 24)]
theorem lw_r3 : ∀ q ∈ lw_privs_3, lw_okq q := List.forall_mem_cons.mpr ⟨lw_p32, List.forall_mem_cons.mpr ⟨lw_p33, List.forall_mem_cons.mpr ⟨lw_p34, List.forall_mem_cons.mpr ⟨lw_p35, List.forall_mem_cons.mpr ⟨lw_p36, List.forall_mem_cons.mpr ⟨lw_p37, List.forall_mem_cons.mpr ⟨lw_p38, List.forall_mem_cons.mpr ⟨lw_p39, List.forall_mem_cons.mpr ⟨lw_p40, fun _ h => absurd h List.not_mem_nil⟩⟩⟩⟩⟩⟩⟩⟩⟩
def lw_privs : List (MethodName × Nat) := lw_privs_1 ++ (lw_privs_2 ++ (lw_privs_3))
def lw_tbl : List Cond := k2_sels lw_privs ++ tables_1
theorem lw_privs_ok : ∀ q ∈ lw_privs, lw_okq q := by
  show ∀ q ∈ lw_privs_1 ++ (lw_privs_2 ++ (lw_privs_3)), lw_okq q
  exact List.forall_mem_append.mpr ⟨lw_r1, List.forall_mem_append.mpr ⟨lw_r2, lw_r3⟩⟩

def RX0 : String := "WedApart$Course"
def RX1 : String := "WedApart$Dinners"
def RX2 : String := "WedApart$Fraction"
def RX3 : String := "WedApart$Kinds"
def RX4 : String := "WedApart$Marriages"
def RX5 : String := "WedApart$Minds"
def RX6 : String := "WedApart$Table"
def RX7 : String := "WedApart$Town"
def RX8 : String := "WedApart$TownText"
def RX9 : String := "WedApart"
def RX10 : String := "WedApartModel"
def RJ6 : String := "java/lang/Integer"
def RJ9 : String := "java/lang/Math"
def RJ0 : String := "java/lang/String"
def RJ1 : String := "java/lang/StringLatin1"
def RJ2 : String := "java/lang/StringUTF16"
def RJ10 : String := "java/lang/System"
def RJ3 : String := "jdk/internal/util/Preconditions"
def RL : String := "WedApartLaw"
/-- the tables' words that hold at every state of a run -/
def em_tb : List Cond := lw_tbl.filter goodWord
theorem em_tb_mem {w : Cond} (i : Nat) (h : lw_tbl[i]? = some w) (hg : goodWord w = true) : w ∈ em_tb := List.mem_filter.mpr ⟨List.mem_of_getElem? h, hg⟩
theorem em_tb_good : ∀ w ∈ em_tb, w ∈ em_tb ∧ ((w.onTables && w.keeps) = true ∨ ∃ ty, w = .arrayClass ty) := fun w h => ⟨h, good_of_word (List.mem_filter.mp h).2⟩
end
section

/-! ===== the engine: values, locals, heaps by number; ops as predicate transformers ===== -/
abbrev em_H : Type := List va_E
abbrev em_L : Type := List (Option Value)
abbrev em_K : Type := Nat → em_L → List Value → em_H → Prop
abbrev em_Q : Type := Option Value → em_H → Prop
abbrev em_Op : Type := em_Q → em_K → em_L → List Value → em_H → Prop
abbrev em_Sp : Type := List Value → em_H → em_Q → Prop
def em_nth : em_L → Nat → Option Value
  | [], _ => none
  | x :: _, 0 => x
  | _ :: r, i + 1 => em_nth r i
def em_cl1 : Option Value → Option Value
  | some (.long _) => none
  | some (.double _) => none
  | x => x
def em_s1 : em_L → Nat → Value → em_L
  | [], _, _ => []
  | _ :: r, 0, v => some v :: r
  | x :: r, 1, v => em_cl1 x :: em_s1 r 0 v
  | x :: r, i + 2, v => x :: em_s1 r (i + 1) v
def em_clK : Option Value → (Option Value → Prop) → Prop
  | some (.long _), k => k none
  | some (.double _), k => k none
  | x, k => k x
def em_st1 : em_L → Nat → Value → (em_L → Prop) → Prop
  | [], _, _, k => k []
  | _ :: r, 0, v, k => k (some v :: r)
  | x :: r, 1, v, k => em_st1 r 0 v (fun r' => em_clK x (fun x' => k (x' :: r')))
  | x :: r, i + 2, v, k => em_st1 r (i + 1) v (fun r' => k (x :: r'))
def em_kl : em_L → em_L
  | [] => []
  | _ :: r => none :: r
def em_klK : em_L → (em_L → Prop) → Prop
  | [], k => k []
  | _ :: r, k => k (none :: r)
theorem em_klK_eq (l : em_L) (k : em_L → Prop) : em_klK l k = k (em_kl l) := by cases l <;> rfl
theorem em_kl_len (l : em_L) : (em_kl l).length = l.length := by cases l <;> rfl
theorem em_kl_nth : ∀ (l : em_L) (j : Nat) (w : Value), em_nth (em_kl l) j = some w → j ≠ 0 ∧ em_nth l j = some w
  | [], j, w, h => by cases h
  | _ :: r, 0, w, h => by cases h
  | _ :: r, j + 1, w, h => ⟨by omega, h⟩
def em_s2 : em_L → Nat → Value → em_L
  | [], _, _ => []
  | _ :: r, 0, v => some v :: em_kl r
  | x :: r, 1, v => em_cl1 x :: em_s2 r 0 v
  | x :: r, i + 2, v => x :: em_s2 r (i + 1) v
def em_st2 : em_L → Nat → Value → (em_L → Prop) → Prop
  | [], _, _, k => k []
  | _ :: r, 0, v, k => em_klK r (fun r' => k (some v :: r'))
  | x :: r, 1, v, k => em_st2 r 0 v (fun r' => em_clK x (fun x' => k (x' :: r')))
  | x :: r, i + 2, v, k => em_st2 r (i + 1) v (fun r' => k (x :: r'))
theorem em_clK_eq (x : Option Value) (k : Option Value → Prop) : em_clK x k = k (em_cl1 x) := by
  cases x with
  | none => rfl
  | some v => cases v <;> rfl
theorem em_st1_eq : ∀ (l : em_L) (i : Nat) (v : Value) (k : em_L → Prop), em_st1 l i v k = k (em_s1 l i v)
  | [], i, v, k => by cases i <;> rfl
  | _ :: r, 0, v, k => rfl
  | x :: r, 1, v, k => by
    show em_st1 r 0 v _ = _
    rw [em_st1_eq r 0 v, em_clK_eq]; rfl
  | x :: r, i + 2, v, k => by
    show em_st1 r (i + 1) v _ = _
    rw [em_st1_eq r (i + 1) v]; rfl
theorem em_st2_eq : ∀ (l : em_L) (i : Nat) (v : Value) (k : em_L → Prop), em_st2 l i v k = k (em_s2 l i v)
  | [], i, v, k => by cases i <;> rfl
  | _ :: r, 0, v, k => by
    show em_klK r _ = _
    rw [em_klK_eq]; rfl
  | x :: r, 1, v, k => by
    show em_st2 r 0 v _ = _
    rw [em_st2_eq r 0 v, em_clK_eq]; rfl
  | x :: r, i + 2, v, k => by
    show em_st2 r (i + 1) v _ = _
    rw [em_st2_eq r (i + 1) v]; rfl
theorem em_s1_len : ∀ (l : em_L) (i : Nat) (v : Value), (em_s1 l i v).length = l.length
  | [], i, v => by cases i <;> rfl
  | _ :: r, 0, v => rfl
  | x :: r, 1, v => by show (em_s1 r 0 v).length + 1 = _; rw [em_s1_len r 0 v]; rfl
  | x :: r, i + 2, v => by show (em_s1 r (i + 1) v).length + 1 = _; rw [em_s1_len r (i + 1) v]; rfl
theorem em_s2_len : ∀ (l : em_L) (i : Nat) (v : Value), (em_s2 l i v).length = l.length
  | [], i, v => by cases i <;> rfl
  | _ :: r, 0, v => by show (em_kl r).length + 1 = _; rw [em_kl_len]; rfl
  | x :: r, 1, v => by show (em_s2 r 0 v).length + 1 = _; rw [em_s2_len r 0 v]; rfl
  | x :: r, i + 2, v => by show (em_s2 r (i + 1) v).length + 1 = _; rw [em_s2_len r (i + 1) v]; rfl
theorem em_cl1_some {x : Option Value} {w : Value} (h : em_cl1 x = some w) : x = some w ∧ w.category ≠ 2 := by
  cases x with
  | none => cases h
  | some v => cases v <;> first | (cases h; done) | (cases h; exact ⟨rfl, by decide⟩) | (simp only [em_cl1] at h; cases h; exact ⟨rfl, by simp [Value.category]⟩)
theorem em_s1_nth : ∀ (l : em_L) (i : Nat) (v : Value) (j : Nat) (w : Value), em_nth (em_s1 l i v) j = some w → (j = i ∧ w = v) ∨ (j ≠ i ∧ em_nth l j = some w ∧ ¬ (j + 1 = i ∧ w.category = 2))
  | [], i, v, j, w, h => by cases i <;> cases h
  | _ :: r, 0, v, 0, w, h => by cases h; exact Or.inl ⟨rfl, rfl⟩
  | _ :: r, 0, v, j + 1, w, h => Or.inr ⟨by omega, h, by omega⟩
  | x :: r, 1, v, 0, w, h => by
    obtain ⟨h1, h2⟩ := em_cl1_some h
    exact Or.inr ⟨by omega, h1, fun z => h2 z.2⟩
  | x :: r, 1, v, j + 1, w, h => by
    rcases em_s1_nth r 0 v j w h with ⟨a, b⟩ | ⟨a, b, d⟩
    · exact Or.inl ⟨by omega, b⟩
    · exact Or.inr ⟨by omega, b, by omega⟩
  | x :: r, i + 2, v, 0, w, h => Or.inr ⟨by omega, h, by omega⟩
  | x :: r, i + 2, v, j + 1, w, h => by
    rcases em_s1_nth r (i + 1) v j w h with ⟨a, b⟩ | ⟨a, b, d⟩
    · exact Or.inl ⟨by omega, b⟩
    · exact Or.inr ⟨by omega, b, fun z => d ⟨by omega, z.2⟩⟩
theorem em_s2_nth : ∀ (l : em_L) (i : Nat) (v : Value) (j : Nat) (w : Value), em_nth (em_s2 l i v) j = some w → (j = i ∧ w = v) ∨ (j ≠ i ∧ j ≠ i + 1 ∧ em_nth l j = some w ∧ ¬ (j + 1 = i ∧ w.category = 2))
  | [], i, v, j, w, h => by cases i <;> cases h
  | _ :: r, 0, v, 0, w, h => by cases h; exact Or.inl ⟨rfl, rfl⟩
  | _ :: r, 0, v, j + 1, w, h => by
    obtain ⟨h1, h2⟩ := em_kl_nth r j w h
    exact Or.inr ⟨by omega, by omega, h2, by omega⟩
  | x :: r, 1, v, 0, w, h => by
    obtain ⟨h1, h2⟩ := em_cl1_some h
    exact Or.inr ⟨by omega, by omega, h1, fun z => h2 z.2⟩
  | x :: r, 1, v, j + 1, w, h => by
    rcases em_s2_nth r 0 v j w h with ⟨a, b⟩ | ⟨a, a2, b, d⟩
    · exact Or.inl ⟨by omega, b⟩
    · exact Or.inr ⟨by omega, by omega, b, by omega⟩
  | x :: r, i + 2, v, 0, w, h => Or.inr ⟨by omega, by omega, h, by omega⟩
  | x :: r, i + 2, v, j + 1, w, h => by
    rcases em_s2_nth r (i + 1) v j w h with ⟨a, b⟩ | ⟨a, a2, b, d⟩
    · exact Or.inl ⟨by omega, b⟩
    · exact Or.inr ⟨by omega, by omega, b, fun z => d ⟨by omega, z.2⟩⟩
def em_hn : em_H → Nat → Option va_E
  | [], _ => none
  | x :: _, 0 => some x
  | _ :: r, i + 1 => em_hn r i
def em_hs : em_H → Nat → va_E → (em_H → Prop) → Prop
  | [], _, _, k => k []
  | _ :: r, 0, x, k => k (x :: r)
  | y :: r, i + 1, x, k => em_hs r i x (fun r' => k (y :: r'))
def em_fn : List Value → Nat → Option Value
  | [], _ => none
  | x :: _, 0 => some x
  | _ :: r, i + 1 => em_fn r i
def em_fs : List Value → Nat → Value → (List Value → Prop) → Prop
  | [], _, _, k => k []
  | _ :: r, 0, x, k => k (x :: r)
  | y :: r, i + 1, x, k => em_fs r i x (fun r' => k (y :: r'))
theorem em_hn_eq : ∀ (l : em_H) (i : Nat), em_hn l i = l[i]?
  | [], i => rfl
  | x :: r, 0 => rfl
  | x :: r, i + 1 => by rw [List.getElem?_cons_succ]; exact em_hn_eq r i
theorem em_hs_eq : ∀ (l : em_H) (i : Nat) (x : va_E) (k : em_H → Prop), em_hs l i x k = k (l.set i x)
  | [], i, x, k => rfl
  | y :: r, 0, x, k => rfl
  | y :: r, i + 1, x, k => by show em_hs r i x _ = _; rw [em_hs_eq r i x]; rfl
theorem em_fn_eq : ∀ (l : List Value) (i : Nat), em_fn l i = l[i]?
  | [], i => rfl
  | x :: r, 0 => rfl
  | x :: r, i + 1 => by rw [List.getElem?_cons_succ]; exact em_fn_eq r i
theorem em_fs_eq : ∀ (l : List Value) (i : Nat) (x : Value) (k : List Value → Prop), em_fs l i x k = k (l.set i x)
  | [], i, x, k => rfl
  | y :: r, 0, x, k => rfl
  | y :: r, i + 1, x, k => by show em_fs r i x _ = _; rw [em_fs_eq r i x]; rfl
/-! the meaning of numbered values and heaps on the machine -/
def em_v (σ ρ : Nat → Nat) : Value → Value
  | .ref a => .ref (ρ a)
  | .retAddr k => .ref (σ k)
  | v => v
theorem em_v_cat (σ ρ : Nat → Nat) (v : Value) : (em_v σ ρ v).category = v.category := by cases v <;> rfl
def em_e (σ : Nat → Nat) (dA : Nat → ClassId) (ρ : Nat → Nat) : va_E → va_E
  | .inl (t, n, .inl f) => .inl (dA t, n, .inl f)
  | .inl (t, n, .inr (.inl f)) => .inl (dA t, n, .inr (.inl f))
  | .inl (t, n, .inr (.inr (.inl f))) => .inl (dA t, n, .inr (.inr (.inl f)))
  | .inl (t, n, .inr (.inr (.inr (.inl f)))) => .inl (dA t, n, .inr (.inr (.inr (.inl f))))
  | .inl (t, n, .inr (.inr (.inr (.inr f)))) => .inl (dA t, n, .inr (.inr (.inr (.inr (fun i => (f i).map ρ)))))
  | .inr (c, fs) => .inr (c, fs.map (em_v σ ρ))
def em_w (σ : Nat → Nat) (dA : Nat → ClassId) (ρ : Nat → Nat) (hp : em_H) : va_W := hp.mapIdx (fun k x => (ρ k, em_e σ dA ρ x))
theorem em_w_get {σ : Nat → Nat} {dA : Nat → ClassId} {ρ : Nat → Nat} {hp : em_H} {a : Nat} {x : va_E} (h : em_hn hp a = some x) : (em_w σ dA ρ hp)[a]? = some (ρ a, em_e σ dA ρ x) := by
  rw [em_hn_eq] at h
  simp [em_w, List.getElem?_mapIdx, h]
theorem em_w_set {σ : Nat → Nat} {dA : Nat → ClassId} {ρ : Nat → Nat} {hp : em_H} {a : Nat} {x : va_E} : (em_w σ dA ρ hp).set a (ρ a, em_e σ dA ρ x) = em_w σ dA ρ (hp.set a x) := by
  apply List.ext_getElem?
  intro i
  by_cases hi : a = i
  · subst hi
    by_cases hl : a < hp.length
    · rw [List.getElem?_set_self (by simpa [em_w] using hl)]
      simp [em_w, List.getElem?_mapIdx, hl]
    · rw [List.getElem?_eq_none (by simp [em_w]; omega), List.getElem?_eq_none (by simp [em_w]; omega)]
  · rw [List.getElem?_set_ne hi]
    simp [em_w, List.getElem?_mapIdx, List.getElem?_set_ne hi]
theorem em_w_len {σ : Nat → Nat} {dA : Nat → ClassId} {ρ : Nat → Nat} {hp : em_H} : (em_w σ dA ρ hp).length = hp.length := by simp [em_w]
/-! locals -/
def em_al (f : Value → Value) : Nat → em_L → List (Nat × Value)
  | _, [] => []
  | o, none :: r => em_al f (o + 1) r
  | o, some v :: r => (o, f v) :: em_al f (o + 1) r
theorem em_al_of {f : Value → Value} : ∀ (l : em_L) (o i : Nat) (v : Value), em_nth l i = some v → (o + i, f v) ∈ em_al f o l
  | [], o, i, v, h => by cases h
  | none :: r, o, 0, v, h => by cases h
  | some x :: r, o, 0, v, h => by cases h; exact List.mem_cons_self
  | none :: r, o, i + 1, v, h => by
    have := em_al_of (f := f) r (o + 1) i v h
    rw [show o + 1 + i = o + (i + 1) by omega] at this
    exact this
  | some x :: r, o, i + 1, v, h => by
    have := em_al_of (f := f) r (o + 1) i v h
    rw [show o + 1 + i = o + (i + 1) by omega] at this
    exact List.mem_cons_of_mem _ this
theorem em_al_to {f : Value → Value} : ∀ (l : em_L) (o : Nat) (q : Nat × Value), q ∈ em_al f o l → ∃ (i : Nat) (v : Value), em_nth l i = some v ∧ q = (o + i, f v)
  | [], o, q, h => by cases h
  | none :: r, o, q, h => by
    obtain ⟨i, v, h1, h2⟩ := em_al_to r (o + 1) q h
    exact ⟨i + 1, v, h1, by rw [h2]; congr 1; omega⟩
  | some x :: r, o, q, h => by
    rcases List.mem_cons.mp h with rfl | h
    · exact ⟨0, x, rfl, rfl⟩
    · obtain ⟨i, v, h1, h2⟩ := em_al_to r (o + 1) q h
      exact ⟨i + 1, v, h1, by rw [h2]; congr 1; omega⟩
def em_LH (σ ρ : Nat → Nat) (arr : Array Slot) (nL : Nat) (ls : em_L) : Prop := ls.length = nL ∧ lv_has arr nL (em_al (em_v σ ρ) 0 ls)
theorem em_LH.at {σ ρ : Nat → Nat} {arr : Array Slot} {nL : Nat} {ls : em_L} (h : em_LH σ ρ arr nL ls) {i : Nat} {v : Value} (hi : em_nth ls i = some v) : arr[i]? = some (.val (em_v σ ρ v)) := by
  have := h.2.2.2 _ (em_al_of (f := em_v σ ρ) ls 0 i v hi)
  rw [Nat.zero_add] at this
  exact this
theorem em_LH.weak {σ ρ : Nat → Nat} {arr : Array Slot} {nL : Nat} {ls ls' : em_L} (h : em_LH σ ρ arr nL ls) (hl : ls'.length = ls.length) (hs : ∀ i v, em_nth ls' i = some v → em_nth ls i = some v) : em_LH σ ρ arr nL ls' := by
  refine ⟨hl.trans h.1, h.2.1, h.2.2.1, fun q hq => ?_⟩
  obtain ⟨i, v, h1, rfl⟩ := em_al_to ls' 0 q hq
  rw [Nat.zero_add]
  exact h.at (hs i v h1)
/-! the code as ops; what isn't in the list is left to K -/
def em_wp (Q : em_Q) (K : em_K) : List (Nat × em_Op) → em_K
  | [] => K
  | (p, o) :: r => fun pc ls st hp => bif Nat.beq p pc then o Q (em_wp Q K r) ls st hp else em_wp Q K r pc ls st hp
def em_le : em_L → em_L → Prop
  | [], [] => True
  | none :: a, _ :: b => em_le a b
  | some v :: a, w :: b => w = some v ∧ em_le a b
  | _, _ => False
theorem em_le_len : ∀ {a b : em_L}, em_le a b → a.length = b.length
  | [], [], _ => rfl
  | [], _ :: _, h => h.elim
  | none :: a, [], h => h.elim
  | some _ :: a, [], h => h.elim
  | none :: a, _ :: b, h => by show a.length + 1 = b.length + 1; rw [em_le_len (a := a) (b := b) h]
  | some v :: a, w :: b, h => by show a.length + 1 = b.length + 1; rw [em_le_len (a := a) (b := b) h.2]
theorem em_le_nth : ∀ {a b : em_L}, em_le a b → ∀ i v, em_nth a i = some v → em_nth b i = some v
  | [], [], _, i, v, h => by cases h
  | [], _ :: _, h, _, _, _ => h.elim
  | none :: a, [], h, _, _, _ => h.elim
  | some _ :: a, [], h, _, _, _ => h.elim
  | none :: a, y :: b, h, 0, v, hv => by cases hv
  | none :: a, y :: b, h, i + 1, v, hv => em_le_nth (a := a) (b := b) h i v hv
  | some x :: a, y :: b, h, 0, v, hv => by cases hv; exact h.1
  | some x :: a, y :: b, h, i + 1, v, hv => em_le_nth (a := a) (b := b) h.2 i v hv
def em_Ok (p : Program) (l : Launch) (e : Env) (R : Room) (s : State) (m : MethodId) (args : Array Value) (below : List Frame) (meth : Method) (c : Code) (D : va_G) (cl : List vw_C) (dA : Nat → ClassId) (σ : Nat → Nat) (A : Nat → Prop) (nL : Nat) (cnt : Nat → Nat × Nat) (Pr : (Nat → Nat) → Prop) (Z : State → Prop) : em_K :=
  fun pc ls st hp => ∀ (ρ : Nat → Nat) (arr : Array Slot) (H : Heap) (locs : List Loc), Pr ρ → em_LH σ ρ arr nL ls → va_P D cl (em_w σ dA ρ hp) H → va_D A (em_w σ dA ρ hp) → va_S A s.heap H locs → W p l e R s m args below meth c H locs (cnt pc).1 (cnt pc).2 Z (F0 m pc arr (st.map (em_v σ ρ)))
def em_Snd (p : Program) (l : Launch) (e : Env) (R : Room) (s : State) (m : MethodId) (args : Array Value) (below : List Frame) (meth : Method) (c : Code) (D : va_G) (cl : List vw_C) (dA : Nat → ClassId) (σ : Nat → Nat) (A : Nat → Prop) (nL : Nat) (cnt : Nat → Nat × Nat) (Pr : (Nat → Nat) → Prop) (Z : State → Prop) (Q : em_Q) (pc : Nat) (o : em_Op) : Prop :=
  ∀ k : em_K, (∀ pc' ls st hp, k pc' ls st hp → em_Ok p l e R s m args below meth c D cl dA σ A nL cnt Pr Z pc' ls st hp) → ∀ ls st hp, o Q k ls st hp → em_Ok p l e R s m args below meth c D cl dA σ A nL cnt Pr Z pc ls st hp
section EMA
variable {p : Program} {l : Launch} {e : Env} {R : Room} {s : State} {m : MethodId} {args : Array Value} {below : List Frame} {meth : Method} {c : Code} {D : va_G} {cl : List vw_C} {dA : Nat → ClassId} {σ : Nat → Nat} {A : Nat → Prop} {nL : Nat} {cnt : Nat → Nat × Nat} {Pr : (Nat → Nat) → Prop} {Z : State → Prop}
variable {tys : List (ClassId × FieldType)} {cc : ByteArray} {Q : em_Q} {own : String}
theorem em_wp_snd {T : List (Nat × em_Op)} (hT : ∀ q ∈ T, em_Snd p l e R s m args below meth c D cl dA σ A nL cnt Pr Z Q q.1 q.2) : ∀ L : List (Nat × em_Op), (∀ q ∈ L, q ∈ T) → ∀ pc ls st hp, em_wp Q (em_Ok p l e R s m args below meth c D cl dA σ A nL cnt Pr Z) L pc ls st hp → em_Ok p l e R s m args below meth c D cl dA σ A nL cnt Pr Z pc ls st hp
  | [], _, pc, ls, st, hp, h => h
  | (p0, o) :: r, hL, pc, ls, st, hp, h => by
    have ih := em_wp_snd hT r (fun q hq => hL q (List.mem_cons_of_mem _ hq))
    by_cases hpc : p0 = pc
    · subst hpc
      have h' : o Q (em_wp Q (em_Ok p l e R s m args below meth c D cl dA σ A nL cnt Pr Z) r) ls st hp := by
        unfold em_wp at h
        rw [show Nat.beq p0 p0 = true from Nat.beq_refl p0] at h
        exact h
      exact hT _ (hL _ List.mem_cons_self) _ ih ls st hp h'
    · have h' : em_wp Q (em_Ok p l e R s m args below meth c D cl dA σ A nL cnt Pr Z) r pc ls st hp := by
        unfold em_wp at h
        rw [show Nat.beq p0 pc = false from by
          cases hb : Nat.beq p0 pc with
          | false => rfl
          | true => exact absurd (Nat.eq_of_beq_eq_true hb) hpc] at h
        exact h
      exact ih pc ls st hp h'
theorem em_Ok_le {pc : Nat} {ls ls' : em_L} {st : List Value} {hp : em_H} (h : em_le ls' ls) (k : em_Ok p l e R s m args below meth c D cl dA σ A nL cnt Pr Z pc ls' st hp) : em_Ok p l e R s m args below meth c D cl dA σ A nL cnt Pr Z pc ls st hp :=
  fun ρ arr H locs hr hl hP hD hS => k ρ arr H locs hr (hl.weak (em_le_len h) (em_le_nth h)) hP hD hS
def em_Cx (p : Program) (s : State) (m : MethodId) (args : Array Value) (c : Code) (D : va_G) (cl : List vw_C) (A : Nat → Prop) (nL : Nat) (tys : List (ClassId × FieldType)) (cc : ByteArray) (own : String) : Prop :=
  p.tables.exec = Jvm.exec ∧ c.code = cc ∧ c.maxLocals = nL ∧ s.vm.findClass own = some m.cls ∧ (∀ w ∈ em_tb, w.before args s = true) ∧ va_K D cl tys s ∧ ∀ q, s.heap.size ≤ q → A q

def o_iconst (v : Int32) (n : Nat) : em_Op := fun _ k ls st hp => k n ls (.int v :: st) hp
def o_lconst (v : Int64) (n : Nat) : em_Op := fun _ k ls st hp => k n ls (.long v :: st) hp
theorem s_iconst (C : em_Cx p s m args c D cl A nL tys cc own) {pc n : Nat} {z : Int} {v : Int32} (hd : decode cc pc = .ok (.iconst z, 1)) (hn : pc + 1 = n) (hc : cnt n = cnt pc) (hv : Int32.ofInt z = v) : em_Snd p l e R s m args below meth c D cl dA σ A nL cnt Pr Z Q pc (o_iconst v n) := by
  intro k hk ls st hp h ρ arr H locs hr hl hP hD hS
  subst hn
  have h9 := hk _ _ _ _ h ρ arr H locs hr hl hP hD hS
  rw [hc] at h9
  exact lv_iconst C.1 C.2.1 hd hv h9
theorem s_bipush (C : em_Cx p s m args c D cl A nL tys cc own) {pc n : Nat} {z : Int} {v : Int32} (hd : decode cc pc = .ok (.bipush z, 2)) (hn : pc + 2 = n) (hc : cnt n = cnt pc) (hv : (Int8.ofInt z).toInt32 = v) : em_Snd p l e R s m args below meth c D cl dA σ A nL cnt Pr Z Q pc (o_iconst v n) := by
  intro k hk ls st hp h ρ arr H locs hr hl hP hD hS
  subst hn
  have h9 := hk _ _ _ _ h ρ arr H locs hr hl hP hD hS
  rw [hc] at h9
  exact lv_bipush C.1 C.2.1 hd hv h9
theorem s_sipush (C : em_Cx p s m args c D cl A nL tys cc own) {pc n : Nat} {z : Int} {v : Int32} (hd : decode cc pc = .ok (.sipush z, 3)) (hn : pc + 3 = n) (hc : cnt n = cnt pc) (hv : (Int16.ofInt z).toInt32 = v) : em_Snd p l e R s m args below meth c D cl dA σ A nL cnt Pr Z Q pc (o_iconst v n) := by
  intro k hk ls st hp h ρ arr H locs hr hl hP hD hS
  subst hn
  have h9 := hk _ _ _ _ h ρ arr H locs hr hl hP hD hS
  rw [hc] at h9
  exact lv_sipush C.1 C.2.1 hd hv h9
theorem s_lconst (C : em_Cx p s m args c D cl A nL tys cc own) {pc n : Nat} {z : Fin 2} {v : Int64} (hd : decode cc pc = .ok (.lconst z, 1)) (hn : pc + 1 = n) (hc : cnt n = cnt pc) (hv : Int64.ofNat (z : Nat) = v) : em_Snd p l e R s m args below meth c D cl dA σ A nL cnt Pr Z Q pc (o_lconst v n) := by
  intro k hk ls st hp h ρ arr H locs hr hl hP hD hS
  subst hn
  have h9 := hk _ _ _ _ h ρ arr H locs hr hl hP hD hS
  rw [hc] at h9
  exact lv_lconst C.1 C.2.1 hd hv h9
theorem s_ldc (C : em_Cx p s m args c D cl A nL tys cc own) {pc n : Nat} {index : Nat} {v : Int32} (hd : decode cc pc = .ok (.ldc index, 2)) (hn : pc + 2 = n) (hc : cnt n = cnt pc) (hw : Cond.constant own index v ∈ em_tb) : em_Snd p l e R s m args below meth c D cl dA σ A nL cnt Pr Z Q pc (o_iconst v n) := by
  intro k hk ls st hp h ρ arr H locs hr hl hP hD hS
  subst hn
  have h9 := hk _ _ _ _ h ρ arr H locs hr hl hP hD hS
  rw [hc] at h9
  exact lv_ldc C.1 C.2.1 C.2.2.2.1 (C.2.2.2.2.1 _ hw) hd h9
theorem s_ldcw (C : em_Cx p s m args c D cl A nL tys cc own) {pc n : Nat} {index : Nat} {v : Int32} (hd : decode cc pc = .ok (.ldc_w index, 3)) (hn : pc + 3 = n) (hc : cnt n = cnt pc) (hw : Cond.constant own index v ∈ em_tb) : em_Snd p l e R s m args below meth c D cl dA σ A nL cnt Pr Z Q pc (o_iconst v n) := by
  intro k hk ls st hp h ρ arr H locs hr hl hP hD hS
  subst hn
  have h9 := hk _ _ _ _ h ρ arr H locs hr hl hP hD hS
  rw [hc] at h9
  exact lv_ldcw C.1 C.2.1 C.2.2.2.1 (C.2.2.2.2.1 _ hw) hd h9
theorem s_ldc2 (C : em_Cx p s m args c D cl A nL tys cc own) {pc n : Nat} {index : Nat} {v : Int64} (hd : decode cc pc = .ok (.ldc2_w index, 3)) (hn : pc + 3 = n) (hc : cnt n = cnt pc) (hw : Cond.constantLong own index v ∈ em_tb) : em_Snd p l e R s m args below meth c D cl dA σ A nL cnt Pr Z Q pc (o_lconst v n) := by
  intro k hk ls st hp h ρ arr H locs hr hl hP hD hS
  subst hn
  have h9 := hk _ _ _ _ h ρ arr H locs hr hl hP hD hS
  rw [hc] at h9
  exact lv_ldc2 C.1 C.2.1 C.2.2.2.1 (C.2.2.2.2.1 _ hw) hd h9
def o_iload (i : Nat) (n : Nat) : em_Op := fun _ k ls st hp => match em_nth ls i with | some (.int x) => k n ls (.int x :: st) hp | _ => False
theorem s_iload (C : em_Cx p s m args c D cl A nL tys cc own) {pc n : Nat} {i : Nat} (hd : decode cc pc = .ok (.iload i, 2)) (hn : pc + 2 = n) (hc : cnt n = cnt pc) : em_Snd p l e R s m args below meth c D cl dA σ A nL cnt Pr Z Q pc (o_iload i n) := by
  intro k hk ls st hp h ρ arr H locs hr hl hP hD hS
  subst hn
  unfold o_iload at h
  split at h
  · rename_i x he
    have h9 := hk _ _ _ _ h ρ arr H locs hr hl hP hD hS
    rw [hc] at h9
    exact lv_iload C.1 C.2.1 hd (hl.at he) h9
  · exact h.elim
theorem s_iload_n (C : em_Cx p s m args c D cl A nL tys cc own) {pc n : Nat} {i : Nat} {q : Fin 4} (hd : decode cc pc = .ok (.iload_n q, 1)) (hn : pc + 1 = n) (hc : cnt n = cnt pc) (hi : (q : Nat) = i) : em_Snd p l e R s m args below meth c D cl dA σ A nL cnt Pr Z Q pc (o_iload i n) := by
  intro k hk ls st hp h ρ arr H locs hr hl hP hD hS
  subst hn
  unfold o_iload at h
  split at h
  · rename_i x he
    have h9 := hk _ _ _ _ h ρ arr H locs hr hl hP hD hS
    rw [hc] at h9
    exact lv_iload_n C.1 C.2.1 hd hi (hl.at he) h9
  · exact h.elim
def o_lload (i : Nat) (n : Nat) : em_Op := fun _ k ls st hp => match em_nth ls i with | some (.long x) => k n ls (.long x :: st) hp | _ => False
theorem s_lload (C : em_Cx p s m args c D cl A nL tys cc own) {pc n : Nat} {i : Nat} (hd : decode cc pc = .ok (.lload i, 2)) (hn : pc + 2 = n) (hc : cnt n = cnt pc) : em_Snd p l e R s m args below meth c D cl dA σ A nL cnt Pr Z Q pc (o_lload i n) := by
  intro k hk ls st hp h ρ arr H locs hr hl hP hD hS
  subst hn
  unfold o_lload at h
  split at h
  · rename_i x he
    have h9 := hk _ _ _ _ h ρ arr H locs hr hl hP hD hS
    rw [hc] at h9
    exact lv_lload C.1 C.2.1 hd (hl.at he) h9
  · exact h.elim
theorem s_lload_n (C : em_Cx p s m args c D cl A nL tys cc own) {pc n : Nat} {i : Nat} {q : Fin 4} (hd : decode cc pc = .ok (.lload_n q, 1)) (hn : pc + 1 = n) (hc : cnt n = cnt pc) (hi : (q : Nat) = i) : em_Snd p l e R s m args below meth c D cl dA σ A nL cnt Pr Z Q pc (o_lload i n) := by
  intro k hk ls st hp h ρ arr H locs hr hl hP hD hS
  subst hn
  unfold o_lload at h
  split at h
  · rename_i x he
    have h9 := hk _ _ _ _ h ρ arr H locs hr hl hP hD hS
    rw [hc] at h9
    exact lv_lload_n C.1 C.2.1 hd hi (hl.at he) h9
  · exact h.elim
def o_aload (i : Nat) (n : Nat) : em_Op := fun _ k ls st hp => match em_nth ls i with | some (.ref x) => k n ls (.ref x :: st) hp | _ => False
theorem s_aload (C : em_Cx p s m args c D cl A nL tys cc own) {pc n : Nat} {i : Nat} (hd : decode cc pc = .ok (.aload i, 2)) (hn : pc + 2 = n) (hc : cnt n = cnt pc) : em_Snd p l e R s m args below meth c D cl dA σ A nL cnt Pr Z Q pc (o_aload i n) := by
  intro k hk ls st hp h ρ arr H locs hr hl hP hD hS
  subst hn
  unfold o_aload at h
  split at h
  · rename_i x he
    have h9 := hk _ _ _ _ h ρ arr H locs hr hl hP hD hS
    rw [hc] at h9
    exact lv_aload C.1 C.2.1 hd (hl.at he) h9
  · exact h.elim
theorem s_aload_n (C : em_Cx p s m args c D cl A nL tys cc own) {pc n : Nat} {i : Nat} {q : Fin 4} (hd : decode cc pc = .ok (.aload_n q, 1)) (hn : pc + 1 = n) (hc : cnt n = cnt pc) (hi : (q : Nat) = i) : em_Snd p l e R s m args below meth c D cl dA σ A nL cnt Pr Z Q pc (o_aload i n) := by
  intro k hk ls st hp h ρ arr H locs hr hl hP hD hS
  subst hn
  unfold o_aload at h
  split at h
  · rename_i x he
    have h9 := hk _ _ _ _ h ρ arr H locs hr hl hP hD hS
    rw [hc] at h9
    exact lv_aload_n C.1 C.2.1 hd hi (hl.at he) h9
  · exact h.elim
def o_sload (i : Nat) (n : Nat) : em_Op := fun _ k ls st hp => match em_nth ls i with | some (.retAddr x) => k n ls (.retAddr x :: st) hp | _ => False
theorem s_sload (C : em_Cx p s m args c D cl A nL tys cc own) {pc n : Nat} {i : Nat} (hd : decode cc pc = .ok (.aload i, 2)) (hn : pc + 2 = n) (hc : cnt n = cnt pc) : em_Snd p l e R s m args below meth c D cl dA σ A nL cnt Pr Z Q pc (o_sload i n) := by
  intro k hk ls st hp h ρ arr H locs hr hl hP hD hS
  subst hn
  unfold o_sload at h
  split at h
  · rename_i x he
    have h9 := hk _ _ _ _ h ρ arr H locs hr hl hP hD hS
    rw [hc] at h9
    exact lv_aload C.1 C.2.1 hd (hl.at he) h9
  · exact h.elim
theorem s_sload_n (C : em_Cx p s m args c D cl A nL tys cc own) {pc n : Nat} {i : Nat} {q : Fin 4} (hd : decode cc pc = .ok (.aload_n q, 1)) (hn : pc + 1 = n) (hc : cnt n = cnt pc) (hi : (q : Nat) = i) : em_Snd p l e R s m args below meth c D cl dA σ A nL cnt Pr Z Q pc (o_sload i n) := by
  intro k hk ls st hp h ρ arr H locs hr hl hP hD hS
  subst hn
  unfold o_sload at h
  split at h
  · rename_i x he
    have h9 := hk _ _ _ _ h ρ arr H locs hr hl hP hD hS
    rw [hc] at h9
    exact lv_aload_n C.1 C.2.1 hd hi (hl.at he) h9
  · exact h.elim
def o_istore (i : Nat) (n : Nat) : em_Op := fun _ k ls st hp => match st with | .int x :: r => em_st1 ls i (.int x) (fun ls' => k n ls' r hp) | _ => False
theorem s_istore (C : em_Cx p s m args c D cl A nL tys cc own) {pc n : Nat} {i : Nat} (hd : decode cc pc = .ok (.istore i, 2)) (hn : pc + 2 = n) (hc : cnt n = cnt pc) (hb : i < nL) : em_Snd p l e R s m args below meth c D cl dA σ A nL cnt Pr Z Q pc (o_istore i n) := by
  intro k hk ls st hp h ρ arr H locs hr hl hP hD hS
  subst hn
  unfold o_istore at h
  split at h
  · rename_i x r
    rw [em_st1_eq] at h
    refine lv_istore C.1 C.2.1 hd hl.2 hb rfl (fun arr' ha => ?_)
    have h9 := hk _ _ _ _ h ρ arr' H locs hr ⟨(em_s1_len ls i _).trans hl.1, ha.1, ha.2.1, fun q2 hq2 => ?_⟩ hP hD hS
    · rw [hc] at h9
      exact h9
    · obtain ⟨j, w, h1, rfl⟩ := em_al_to _ 0 q2 hq2
      refine ha.2.2 _ ?_
      rcases em_s1_nth ls i _ j w h1 with ⟨rfl, rfl⟩ | ⟨n1, n2, n3⟩
      · rw [Nat.zero_add]; exact List.mem_cons_self
      · refine List.mem_cons_of_mem _ (List.mem_filter.mpr ⟨em_al_of ls 0 j w n2, ?_⟩)
        simp only [Nat.zero_add, em_v_cat, Bool.and_eq_true, Bool.not_eq_true', beq_eq_false_iff_ne, ne_eq, Bool.and_eq_false_iff]
        refine ⟨n1, ?_⟩
        by_cases hz : j + 1 = i
        · exact Or.inr (fun z => n3 ⟨hz, z⟩)
        · exact Or.inl hz
  · exact h.elim
theorem s_istore_n (C : em_Cx p s m args c D cl A nL tys cc own) {pc n : Nat} {i : Nat} {q : Fin 4} (hd : decode cc pc = .ok (.istore_n q, 1)) (hn : pc + 1 = n) (hc : cnt n = cnt pc) (hi : (q : Nat) = i) (hb : i < nL) : em_Snd p l e R s m args below meth c D cl dA σ A nL cnt Pr Z Q pc (o_istore i n) := by
  intro k hk ls st hp h ρ arr H locs hr hl hP hD hS
  subst hn
  unfold o_istore at h
  split at h
  · rename_i x r
    rw [em_st1_eq] at h
    refine lv_istore_n C.1 C.2.1 hd hi hl.2 hb rfl (fun arr' ha => ?_)
    have h9 := hk _ _ _ _ h ρ arr' H locs hr ⟨(em_s1_len ls i _).trans hl.1, ha.1, ha.2.1, fun q2 hq2 => ?_⟩ hP hD hS
    · rw [hc] at h9
      exact h9
    · obtain ⟨j, w, h1, rfl⟩ := em_al_to _ 0 q2 hq2
      refine ha.2.2 _ ?_
      rcases em_s1_nth ls i _ j w h1 with ⟨rfl, rfl⟩ | ⟨n1, n2, n3⟩
      · rw [Nat.zero_add]; exact List.mem_cons_self
      · refine List.mem_cons_of_mem _ (List.mem_filter.mpr ⟨em_al_of ls 0 j w n2, ?_⟩)
        simp only [Nat.zero_add, em_v_cat, Bool.and_eq_true, Bool.not_eq_true', beq_eq_false_iff_ne, ne_eq, Bool.and_eq_false_iff]
        refine ⟨n1, ?_⟩
        by_cases hz : j + 1 = i
        · exact Or.inr (fun z => n3 ⟨hz, z⟩)
        · exact Or.inl hz
  · exact h.elim
def o_lstore (i : Nat) (n : Nat) : em_Op := fun _ k ls st hp => match st with | .long x :: r => em_st2 ls i (.long x) (fun ls' => k n ls' r hp) | _ => False
theorem s_lstore (C : em_Cx p s m args c D cl A nL tys cc own) {pc n : Nat} {i : Nat} (hd : decode cc pc = .ok (.lstore i, 2)) (hn : pc + 2 = n) (hc : cnt n = cnt pc) (hb : i + 1 < nL) : em_Snd p l e R s m args below meth c D cl dA σ A nL cnt Pr Z Q pc (o_lstore i n) := by
  intro k hk ls st hp h ρ arr H locs hr hl hP hD hS
  subst hn
  unfold o_lstore at h
  split at h
  · rename_i x r
    rw [em_st2_eq] at h
    refine lv_lstore C.1 C.2.1 hd hl.2 hb rfl (fun arr' ha => ?_)
    have h9 := hk _ _ _ _ h ρ arr' H locs hr ⟨(em_s2_len ls i _).trans hl.1, ha.1, ha.2.1, fun q2 hq2 => ?_⟩ hP hD hS
    · rw [hc] at h9
      exact h9
    · obtain ⟨j, w, h1, rfl⟩ := em_al_to _ 0 q2 hq2
      refine ha.2.2 _ ?_
      rcases em_s2_nth ls i _ j w h1 with ⟨rfl, rfl⟩ | ⟨n1, n1', n2, n3⟩
      · rw [Nat.zero_add]; exact List.mem_cons_self
      · refine List.mem_cons_of_mem _ (List.mem_filter.mpr ⟨em_al_of ls 0 j w n2, ?_⟩)
        simp only [Nat.zero_add, em_v_cat, Bool.and_eq_true, Bool.not_eq_true', beq_eq_false_iff_ne, ne_eq, Bool.and_eq_false_iff]
        refine ⟨n1, n1', ?_⟩
        by_cases hz : j + 1 = i
        · exact Or.inr (fun z => n3 ⟨hz, z⟩)
        · exact Or.inl hz
  · exact h.elim
theorem s_lstore_n (C : em_Cx p s m args c D cl A nL tys cc own) {pc n : Nat} {i : Nat} {q : Fin 4} (hd : decode cc pc = .ok (.lstore_n q, 1)) (hn : pc + 1 = n) (hc : cnt n = cnt pc) (hi : (q : Nat) = i) (hb : i + 1 < nL) : em_Snd p l e R s m args below meth c D cl dA σ A nL cnt Pr Z Q pc (o_lstore i n) := by
  intro k hk ls st hp h ρ arr H locs hr hl hP hD hS
  subst hn
  unfold o_lstore at h
  split at h
  · rename_i x r
    rw [em_st2_eq] at h
    refine lv_lstore_n C.1 C.2.1 hd hi hl.2 hb rfl (fun arr' ha => ?_)
    have h9 := hk _ _ _ _ h ρ arr' H locs hr ⟨(em_s2_len ls i _).trans hl.1, ha.1, ha.2.1, fun q2 hq2 => ?_⟩ hP hD hS
    · rw [hc] at h9
      exact h9
    · obtain ⟨j, w, h1, rfl⟩ := em_al_to _ 0 q2 hq2
      refine ha.2.2 _ ?_
      rcases em_s2_nth ls i _ j w h1 with ⟨rfl, rfl⟩ | ⟨n1, n1', n2, n3⟩
      · rw [Nat.zero_add]; exact List.mem_cons_self
      · refine List.mem_cons_of_mem _ (List.mem_filter.mpr ⟨em_al_of ls 0 j w n2, ?_⟩)
        simp only [Nat.zero_add, em_v_cat, Bool.and_eq_true, Bool.not_eq_true', beq_eq_false_iff_ne, ne_eq, Bool.and_eq_false_iff]
        refine ⟨n1, n1', ?_⟩
        by_cases hz : j + 1 = i
        · exact Or.inr (fun z => n3 ⟨hz, z⟩)
        · exact Or.inl hz
  · exact h.elim
def o_astore (i : Nat) (n : Nat) : em_Op := fun _ k ls st hp => match st with | .ref x :: r => em_st1 ls i (.ref x) (fun ls' => k n ls' r hp) | _ => False
theorem s_astore (C : em_Cx p s m args c D cl A nL tys cc own) {pc n : Nat} {i : Nat} (hd : decode cc pc = .ok (.astore i, 2)) (hn : pc + 2 = n) (hc : cnt n = cnt pc) (hb : i < nL) : em_Snd p l e R s m args below meth c D cl dA σ A nL cnt Pr Z Q pc (o_astore i n) := by
  intro k hk ls st hp h ρ arr H locs hr hl hP hD hS
  subst hn
  unfold o_astore at h
  split at h
  · rename_i x r
    rw [em_st1_eq] at h
    refine lv_astore C.1 C.2.1 hd hl.2 hb rfl (fun arr' ha => ?_)
    have h9 := hk _ _ _ _ h ρ arr' H locs hr ⟨(em_s1_len ls i _).trans hl.1, ha.1, ha.2.1, fun q2 hq2 => ?_⟩ hP hD hS
    · rw [hc] at h9
      exact h9
    · obtain ⟨j, w, h1, rfl⟩ := em_al_to _ 0 q2 hq2
      refine ha.2.2 _ ?_
      rcases em_s1_nth ls i _ j w h1 with ⟨rfl, rfl⟩ | ⟨n1, n2, n3⟩
      · rw [Nat.zero_add]; exact List.mem_cons_self
      · refine List.mem_cons_of_mem _ (List.mem_filter.mpr ⟨em_al_of ls 0 j w n2, ?_⟩)
        simp only [Nat.zero_add, em_v_cat, Bool.and_eq_true, Bool.not_eq_true', beq_eq_false_iff_ne, ne_eq, Bool.and_eq_false_iff]
        refine ⟨n1, ?_⟩
        by_cases hz : j + 1 = i
        · exact Or.inr (fun z => n3 ⟨hz, z⟩)
        · exact Or.inl hz
  · exact h.elim
theorem s_astore_n (C : em_Cx p s m args c D cl A nL tys cc own) {pc n : Nat} {i : Nat} {q : Fin 4} (hd : decode cc pc = .ok (.astore_n q, 1)) (hn : pc + 1 = n) (hc : cnt n = cnt pc) (hi : (q : Nat) = i) (hb : i < nL) : em_Snd p l e R s m args below meth c D cl dA σ A nL cnt Pr Z Q pc (o_astore i n) := by
  intro k hk ls st hp h ρ arr H locs hr hl hP hD hS
  subst hn
  unfold o_astore at h
  split at h
  · rename_i x r
    rw [em_st1_eq] at h
    refine lv_astore_n C.1 C.2.1 hd hi hl.2 hb rfl (fun arr' ha => ?_)
    have h9 := hk _ _ _ _ h ρ arr' H locs hr ⟨(em_s1_len ls i _).trans hl.1, ha.1, ha.2.1, fun q2 hq2 => ?_⟩ hP hD hS
    · rw [hc] at h9
      exact h9
    · obtain ⟨j, w, h1, rfl⟩ := em_al_to _ 0 q2 hq2
      refine ha.2.2 _ ?_
      rcases em_s1_nth ls i _ j w h1 with ⟨rfl, rfl⟩ | ⟨n1, n2, n3⟩
      · rw [Nat.zero_add]; exact List.mem_cons_self
      · refine List.mem_cons_of_mem _ (List.mem_filter.mpr ⟨em_al_of ls 0 j w n2, ?_⟩)
        simp only [Nat.zero_add, em_v_cat, Bool.and_eq_true, Bool.not_eq_true', beq_eq_false_iff_ne, ne_eq, Bool.and_eq_false_iff]
        refine ⟨n1, ?_⟩
        by_cases hz : j + 1 = i
        · exact Or.inr (fun z => n3 ⟨hz, z⟩)
        · exact Or.inl hz
  · exact h.elim
def o_iinc (i : Nat) (d : Int32) (n : Nat) : em_Op := fun _ k ls st hp => match em_nth ls i with | some (.int x) => em_st1 ls i (.int (x + d)) (fun ls' => k n ls' st hp) | _ => False
theorem s_iinc (C : em_Cx p s m args c D cl A nL tys cc own) {pc n : Nat} {i : Nat} {d : Int32} {z : Int} (hd : decode cc pc = .ok (.iinc i z, 3)) (hn : pc + 3 = n) (hc : cnt n = cnt pc) (hv : Int32.ofInt z = d) (hb : i < nL) : em_Snd p l e R s m args below meth c D cl dA σ A nL cnt Pr Z Q pc (o_iinc i d n) := by
  intro k hk ls st hp h ρ arr H locs hr hl hP hD hS
  subst hn
  unfold o_iinc at h
  split at h
  · rename_i x he
    rw [em_st1_eq] at h
    have hm : (i, Value.int x) ∈ em_al (em_v σ ρ) 0 ls := by
      have := em_al_of (f := em_v σ ρ) ls 0 i _ he
      rw [Nat.zero_add] at this
      exact this
    obtain ⟨kk, hkk⟩ := List.getElem?_of_mem hm
    refine lv_iinc (v := x + d) C.1 C.2.1 hd hl.2 hkk (by rw [hv]) hb rfl (fun arr' ha => ?_)
    have h9 := hk _ _ _ _ h ρ arr' H locs hr ⟨(em_s1_len ls i _).trans hl.1, ha.1, ha.2.1, fun q2 hq2 => ?_⟩ hP hD hS
    · rw [hc] at h9
      exact h9
    · obtain ⟨j, w, h1, rfl⟩ := em_al_to _ 0 q2 hq2
      refine ha.2.2 _ ?_
      rcases em_s1_nth ls i _ j w h1 with ⟨rfl, rfl⟩ | ⟨n1, n2, n3⟩
      · rw [Nat.zero_add]; exact List.mem_cons_self
      · refine List.mem_cons_of_mem _ (List.mem_filter.mpr ⟨em_al_of ls 0 j w n2, ?_⟩)
        simp only [Nat.zero_add, em_v_cat, Bool.and_eq_true, Bool.not_eq_true', beq_eq_false_iff_ne, ne_eq, Bool.and_eq_false_iff]
        refine ⟨n1, ?_⟩
        by_cases hz : j + 1 = i
        · exact Or.inr (fun z => n3 ⟨hz, z⟩)
        · exact Or.inl hz
  · exact h.elim
def o_iadd (n : Nat) : em_Op := fun _ k ls st hp => match st with | .int y :: .int x :: r => k n ls (.int (x + y) :: r) hp | _ => False
theorem s_iadd (C : em_Cx p s m args c D cl A nL tys cc own) {pc n : Nat} (hd : decode cc pc = .ok (.iadd, 1)) (hn : pc + 1 = n) (hc : cnt n = cnt pc) : em_Snd p l e R s m args below meth c D cl dA σ A nL cnt Pr Z Q pc (o_iadd n) := by
  intro k hk ls st hp h ρ arr H locs hr hl hP hD hS
  subst hn
  unfold o_iadd at h
  split at h
  · have h9 := hk _ _ _ _ h ρ arr H locs hr hl hP hD hS
    rw [hc] at h9
    exact lv_iadd C.1 C.2.1 hd h9
  · exact h.elim
def o_isub (n : Nat) : em_Op := fun _ k ls st hp => match st with | .int y :: .int x :: r => k n ls (.int (x - y) :: r) hp | _ => False
theorem s_isub (C : em_Cx p s m args c D cl A nL tys cc own) {pc n : Nat} (hd : decode cc pc = .ok (.isub, 1)) (hn : pc + 1 = n) (hc : cnt n = cnt pc) : em_Snd p l e R s m args below meth c D cl dA σ A nL cnt Pr Z Q pc (o_isub n) := by
  intro k hk ls st hp h ρ arr H locs hr hl hP hD hS
  subst hn
  unfold o_isub at h
  split at h
  · have h9 := hk _ _ _ _ h ρ arr H locs hr hl hP hD hS
    rw [hc] at h9
    exact lv_isub C.1 C.2.1 hd h9
  · exact h.elim
def o_imul (n : Nat) : em_Op := fun _ k ls st hp => match st with | .int y :: .int x :: r => k n ls (.int (x * y) :: r) hp | _ => False
theorem s_imul (C : em_Cx p s m args c D cl A nL tys cc own) {pc n : Nat} (hd : decode cc pc = .ok (.imul, 1)) (hn : pc + 1 = n) (hc : cnt n = cnt pc) : em_Snd p l e R s m args below meth c D cl dA σ A nL cnt Pr Z Q pc (o_imul n) := by
  intro k hk ls st hp h ρ arr H locs hr hl hP hD hS
  subst hn
  unfold o_imul at h
  split at h
  · have h9 := hk _ _ _ _ h ρ arr H locs hr hl hP hD hS
    rw [hc] at h9
    exact lv_imul C.1 C.2.1 hd h9
  · exact h.elim
def o_iand (n : Nat) : em_Op := fun _ k ls st hp => match st with | .int y :: .int x :: r => k n ls (.int (x &&& y) :: r) hp | _ => False
theorem s_iand (C : em_Cx p s m args c D cl A nL tys cc own) {pc n : Nat} (hd : decode cc pc = .ok (.iand, 1)) (hn : pc + 1 = n) (hc : cnt n = cnt pc) : em_Snd p l e R s m args below meth c D cl dA σ A nL cnt Pr Z Q pc (o_iand n) := by
  intro k hk ls st hp h ρ arr H locs hr hl hP hD hS
  subst hn
  unfold o_iand at h
  split at h
  · have h9 := hk _ _ _ _ h ρ arr H locs hr hl hP hD hS
    rw [hc] at h9
    exact lv_iand C.1 C.2.1 hd h9
  · exact h.elim
def o_ior (n : Nat) : em_Op := fun _ k ls st hp => match st with | .int y :: .int x :: r => k n ls (.int (x ||| y) :: r) hp | _ => False
theorem s_ior (C : em_Cx p s m args c D cl A nL tys cc own) {pc n : Nat} (hd : decode cc pc = .ok (.ior, 1)) (hn : pc + 1 = n) (hc : cnt n = cnt pc) : em_Snd p l e R s m args below meth c D cl dA σ A nL cnt Pr Z Q pc (o_ior n) := by
  intro k hk ls st hp h ρ arr H locs hr hl hP hD hS
  subst hn
  unfold o_ior at h
  split at h
  · have h9 := hk _ _ _ _ h ρ arr H locs hr hl hP hD hS
    rw [hc] at h9
    exact lv_ior C.1 C.2.1 hd h9
  · exact h.elim
def o_ixor (n : Nat) : em_Op := fun _ k ls st hp => match st with | .int y :: .int x :: r => k n ls (.int (x ^^^ y) :: r) hp | _ => False
theorem s_ixor (C : em_Cx p s m args c D cl A nL tys cc own) {pc n : Nat} (hd : decode cc pc = .ok (.ixor, 1)) (hn : pc + 1 = n) (hc : cnt n = cnt pc) : em_Snd p l e R s m args below meth c D cl dA σ A nL cnt Pr Z Q pc (o_ixor n) := by
  intro k hk ls st hp h ρ arr H locs hr hl hP hD hS
  subst hn
  unfold o_ixor at h
  split at h
  · have h9 := hk _ _ _ _ h ρ arr H locs hr hl hP hD hS
    rw [hc] at h9
    exact lv_ixor C.1 C.2.1 hd h9
  · exact h.elim
def o_ishl (n : Nat) : em_Op := fun _ k ls st hp => match st with | .int y :: .int x :: r => k n ls (.int (x <<< (y &&& 31)) :: r) hp | _ => False
theorem s_ishl (C : em_Cx p s m args c D cl A nL tys cc own) {pc n : Nat} (hd : decode cc pc = .ok (.ishl, 1)) (hn : pc + 1 = n) (hc : cnt n = cnt pc) : em_Snd p l e R s m args below meth c D cl dA σ A nL cnt Pr Z Q pc (o_ishl n) := by
  intro k hk ls st hp h ρ arr H locs hr hl hP hD hS
  subst hn
  unfold o_ishl at h
  split at h
  · have h9 := hk _ _ _ _ h ρ arr H locs hr hl hP hD hS
    rw [hc] at h9
    exact lv_ishl C.1 C.2.1 hd h9
  · exact h.elim
def o_ishr (n : Nat) : em_Op := fun _ k ls st hp => match st with | .int y :: .int x :: r => k n ls (.int (x >>> (y &&& 31)) :: r) hp | _ => False
theorem s_ishr (C : em_Cx p s m args c D cl A nL tys cc own) {pc n : Nat} (hd : decode cc pc = .ok (.ishr, 1)) (hn : pc + 1 = n) (hc : cnt n = cnt pc) : em_Snd p l e R s m args below meth c D cl dA σ A nL cnt Pr Z Q pc (o_ishr n) := by
  intro k hk ls st hp h ρ arr H locs hr hl hP hD hS
  subst hn
  unfold o_ishr at h
  split at h
  · have h9 := hk _ _ _ _ h ρ arr H locs hr hl hP hD hS
    rw [hc] at h9
    exact lv_ishr C.1 C.2.1 hd h9
  · exact h.elim
def o_idiv (n : Nat) : em_Op := fun _ k ls st hp => match st with | .int y :: .int x :: r => ¬ y = 0 ∧ k n ls (.int (x / y) :: r) hp | _ => False
theorem s_idiv (C : em_Cx p s m args c D cl A nL tys cc own) {pc n : Nat} (hd : decode cc pc = .ok (.idiv, 1)) (hn : pc + 1 = n) (hc : cnt n = cnt pc) : em_Snd p l e R s m args below meth c D cl dA σ A nL cnt Pr Z Q pc (o_idiv n) := by
  intro k hk ls st hp h ρ arr H locs hr hl hP hD hS
  subst hn
  unfold o_idiv at h
  split at h
  · have h9 := hk _ _ _ _ h.2 ρ arr H locs hr hl hP hD hS
    rw [hc] at h9
    exact lv_idiv C.1 C.2.1 hd h.1 h9
  · exact h.elim
def o_irem (n : Nat) : em_Op := fun _ k ls st hp => match st with | .int y :: .int x :: r => ¬ y = 0 ∧ k n ls (.int (x - x / y * y) :: r) hp | _ => False
theorem s_irem (C : em_Cx p s m args c D cl A nL tys cc own) {pc n : Nat} (hd : decode cc pc = .ok (.irem, 1)) (hn : pc + 1 = n) (hc : cnt n = cnt pc) : em_Snd p l e R s m args below meth c D cl dA σ A nL cnt Pr Z Q pc (o_irem n) := by
  intro k hk ls st hp h ρ arr H locs hr hl hP hD hS
  subst hn
  unfold o_irem at h
  split at h
  · have h9 := hk _ _ _ _ h.2 ρ arr H locs hr hl hP hD hS
    rw [hc] at h9
    exact lv_irem C.1 C.2.1 hd h.1 h9
  · exact h.elim
def o_iushr (n : Nat) : em_Op := fun _ k ls st hp => match st with | .int y :: .int x :: r => k n ls (.int ((x.toUInt32 >>> (y.toUInt32 &&& Int32.toUInt32 31)).toInt32) :: r) hp | _ => False
theorem s_iushr (C : em_Cx p s m args c D cl A nL tys cc own) {pc n : Nat} (hd : decode cc pc = .ok (.iushr, 1)) (hn : pc + 1 = n) (hc : cnt n = cnt pc) : em_Snd p l e R s m args below meth c D cl dA σ A nL cnt Pr Z Q pc (o_iushr n) := by
  intro k hk ls st hp h ρ arr H locs hr hl hP hD hS
  subst hn
  unfold o_iushr at h
  split at h
  · have h9 := hk _ _ _ _ h ρ arr H locs hr hl hP hD hS
    rw [hc] at h9
    exact lv_iushr C.1 C.2.1 hd rfl h9
  · exact h.elim
def o_ineg (n : Nat) : em_Op := fun _ k ls st hp => match st with | .int x :: r => k n ls (.int (-x) :: r) hp | _ => False
theorem s_ineg (C : em_Cx p s m args c D cl A nL tys cc own) {pc n : Nat} (hd : decode cc pc = .ok (.ineg, 1)) (hn : pc + 1 = n) (hc : cnt n = cnt pc) : em_Snd p l e R s m args below meth c D cl dA σ A nL cnt Pr Z Q pc (o_ineg n) := by
  intro k hk ls st hp h ρ arr H locs hr hl hP hD hS
  subst hn
  unfold o_ineg at h
  split at h
  · have h9 := hk _ _ _ _ h ρ arr H locs hr hl hP hD hS
    rw [hc] at h9
    exact lv_ineg C.1 C.2.1 hd h9
  · exact h.elim
def o_ladd (n : Nat) : em_Op := fun _ k ls st hp => match st with | .long y :: .long x :: r => k n ls (.long (x + y) :: r) hp | _ => False
theorem s_ladd (C : em_Cx p s m args c D cl A nL tys cc own) {pc n : Nat} (hd : decode cc pc = .ok (.ladd, 1)) (hn : pc + 1 = n) (hc : cnt n = cnt pc) : em_Snd p l e R s m args below meth c D cl dA σ A nL cnt Pr Z Q pc (o_ladd n) := by
  intro k hk ls st hp h ρ arr H locs hr hl hP hD hS
  subst hn
  unfold o_ladd at h
  split at h
  · have h9 := hk _ _ _ _ h ρ arr H locs hr hl hP hD hS
    rw [hc] at h9
    exact lv_ladd C.1 C.2.1 hd h9
  · exact h.elim
def o_lsub (n : Nat) : em_Op := fun _ k ls st hp => match st with | .long y :: .long x :: r => k n ls (.long (x - y) :: r) hp | _ => False
theorem s_lsub (C : em_Cx p s m args c D cl A nL tys cc own) {pc n : Nat} (hd : decode cc pc = .ok (.lsub, 1)) (hn : pc + 1 = n) (hc : cnt n = cnt pc) : em_Snd p l e R s m args below meth c D cl dA σ A nL cnt Pr Z Q pc (o_lsub n) := by
  intro k hk ls st hp h ρ arr H locs hr hl hP hD hS
  subst hn
  unfold o_lsub at h
  split at h
  · have h9 := hk _ _ _ _ h ρ arr H locs hr hl hP hD hS
    rw [hc] at h9
    exact lv_lsub C.1 C.2.1 hd h9
  · exact h.elim
def o_lmul (n : Nat) : em_Op := fun _ k ls st hp => match st with | .long y :: .long x :: r => k n ls (.long (x * y) :: r) hp | _ => False
theorem s_lmul (C : em_Cx p s m args c D cl A nL tys cc own) {pc n : Nat} (hd : decode cc pc = .ok (.lmul, 1)) (hn : pc + 1 = n) (hc : cnt n = cnt pc) : em_Snd p l e R s m args below meth c D cl dA σ A nL cnt Pr Z Q pc (o_lmul n) := by
  intro k hk ls st hp h ρ arr H locs hr hl hP hD hS
  subst hn
  unfold o_lmul at h
  split at h
  · have h9 := hk _ _ _ _ h ρ arr H locs hr hl hP hD hS
    rw [hc] at h9
    exact lv_lmul C.1 C.2.1 hd h9
  · exact h.elim
def o_land (n : Nat) : em_Op := fun _ k ls st hp => match st with | .long y :: .long x :: r => k n ls (.long (x &&& y) :: r) hp | _ => False
theorem s_land (C : em_Cx p s m args c D cl A nL tys cc own) {pc n : Nat} (hd : decode cc pc = .ok (.land, 1)) (hn : pc + 1 = n) (hc : cnt n = cnt pc) : em_Snd p l e R s m args below meth c D cl dA σ A nL cnt Pr Z Q pc (o_land n) := by
  intro k hk ls st hp h ρ arr H locs hr hl hP hD hS
  subst hn
  unfold o_land at h
  split at h
  · have h9 := hk _ _ _ _ h ρ arr H locs hr hl hP hD hS
    rw [hc] at h9
    exact lv_land C.1 C.2.1 hd h9
  · exact h.elim
def o_lor (n : Nat) : em_Op := fun _ k ls st hp => match st with | .long y :: .long x :: r => k n ls (.long (x ||| y) :: r) hp | _ => False
theorem s_lor (C : em_Cx p s m args c D cl A nL tys cc own) {pc n : Nat} (hd : decode cc pc = .ok (.lor, 1)) (hn : pc + 1 = n) (hc : cnt n = cnt pc) : em_Snd p l e R s m args below meth c D cl dA σ A nL cnt Pr Z Q pc (o_lor n) := by
  intro k hk ls st hp h ρ arr H locs hr hl hP hD hS
  subst hn
  unfold o_lor at h
  split at h
  · have h9 := hk _ _ _ _ h ρ arr H locs hr hl hP hD hS
    rw [hc] at h9
    exact lv_lor C.1 C.2.1 hd h9
  · exact h.elim
def o_lxor (n : Nat) : em_Op := fun _ k ls st hp => match st with | .long y :: .long x :: r => k n ls (.long (x ^^^ y) :: r) hp | _ => False
theorem s_lxor (C : em_Cx p s m args c D cl A nL tys cc own) {pc n : Nat} (hd : decode cc pc = .ok (.lxor, 1)) (hn : pc + 1 = n) (hc : cnt n = cnt pc) : em_Snd p l e R s m args below meth c D cl dA σ A nL cnt Pr Z Q pc (o_lxor n) := by
  intro k hk ls st hp h ρ arr H locs hr hl hP hD hS
  subst hn
  unfold o_lxor at h
  split at h
  · have h9 := hk _ _ _ _ h ρ arr H locs hr hl hP hD hS
    rw [hc] at h9
    exact lv_lxor C.1 C.2.1 hd h9
  · exact h.elim
def o_ldiv (n : Nat) : em_Op := fun _ k ls st hp => match st with | .long y :: .long x :: r => ¬ y = 0 ∧ k n ls (.long (x / y) :: r) hp | _ => False
theorem s_ldiv (C : em_Cx p s m args c D cl A nL tys cc own) {pc n : Nat} (hd : decode cc pc = .ok (.ldiv, 1)) (hn : pc + 1 = n) (hc : cnt n = cnt pc) : em_Snd p l e R s m args below meth c D cl dA σ A nL cnt Pr Z Q pc (o_ldiv n) := by
  intro k hk ls st hp h ρ arr H locs hr hl hP hD hS
  subst hn
  unfold o_ldiv at h
  split at h
  · have h9 := hk _ _ _ _ h.2 ρ arr H locs hr hl hP hD hS
    rw [hc] at h9
    exact lv_ldiv C.1 C.2.1 hd h.1 h9
  · exact h.elim
def o_lrem (n : Nat) : em_Op := fun _ k ls st hp => match st with | .long y :: .long x :: r => ¬ y = 0 ∧ k n ls (.long (x - x / y * y) :: r) hp | _ => False
theorem s_lrem (C : em_Cx p s m args c D cl A nL tys cc own) {pc n : Nat} (hd : decode cc pc = .ok (.lrem, 1)) (hn : pc + 1 = n) (hc : cnt n = cnt pc) : em_Snd p l e R s m args below meth c D cl dA σ A nL cnt Pr Z Q pc (o_lrem n) := by
  intro k hk ls st hp h ρ arr H locs hr hl hP hD hS
  subst hn
  unfold o_lrem at h
  split at h
  · have h9 := hk _ _ _ _ h.2 ρ arr H locs hr hl hP hD hS
    rw [hc] at h9
    exact lv_lrem C.1 C.2.1 hd h.1 h9
  · exact h.elim
def o_lshl (n : Nat) : em_Op := fun _ k ls st hp => match st with | .int y :: .long x :: r => k n ls (.long (x <<< (y.toInt64 &&& 63)) :: r) hp | _ => False
theorem s_lshl (C : em_Cx p s m args c D cl A nL tys cc own) {pc n : Nat} (hd : decode cc pc = .ok (.lshl, 1)) (hn : pc + 1 = n) (hc : cnt n = cnt pc) : em_Snd p l e R s m args below meth c D cl dA σ A nL cnt Pr Z Q pc (o_lshl n) := by
  intro k hk ls st hp h ρ arr H locs hr hl hP hD hS
  subst hn
  unfold o_lshl at h
  split at h
  · have h9 := hk _ _ _ _ h ρ arr H locs hr hl hP hD hS
    rw [hc] at h9
    exact lv_lshl C.1 C.2.1 hd rfl h9
  · exact h.elim
def o_lshr (n : Nat) : em_Op := fun _ k ls st hp => match st with | .int y :: .long x :: r => k n ls (.long (x >>> (y.toInt64 &&& 63)) :: r) hp | _ => False
theorem s_lshr (C : em_Cx p s m args c D cl A nL tys cc own) {pc n : Nat} (hd : decode cc pc = .ok (.lshr, 1)) (hn : pc + 1 = n) (hc : cnt n = cnt pc) : em_Snd p l e R s m args below meth c D cl dA σ A nL cnt Pr Z Q pc (o_lshr n) := by
  intro k hk ls st hp h ρ arr H locs hr hl hP hD hS
  subst hn
  unfold o_lshr at h
  split at h
  · have h9 := hk _ _ _ _ h ρ arr H locs hr hl hP hD hS
    rw [hc] at h9
    exact lv_lshr C.1 C.2.1 hd rfl h9
  · exact h.elim
def o_i2l (n : Nat) : em_Op := fun _ k ls st hp => match st with | .int x :: r => k n ls (.long (x.toInt64) :: r) hp | _ => False
theorem s_i2l (C : em_Cx p s m args c D cl A nL tys cc own) {pc n : Nat} (hd : decode cc pc = .ok (.i2l, 1)) (hn : pc + 1 = n) (hc : cnt n = cnt pc) : em_Snd p l e R s m args below meth c D cl dA σ A nL cnt Pr Z Q pc (o_i2l n) := by
  intro k hk ls st hp h ρ arr H locs hr hl hP hD hS
  subst hn
  unfold o_i2l at h
  split at h
  · have h9 := hk _ _ _ _ h ρ arr H locs hr hl hP hD hS
    rw [hc] at h9
    exact lv_i2l C.1 C.2.1 hd rfl h9
  · exact h.elim
def o_l2i (n : Nat) : em_Op := fun _ k ls st hp => match st with | .long x :: r => k n ls (.int (x.toInt32) :: r) hp | _ => False
theorem s_l2i (C : em_Cx p s m args c D cl A nL tys cc own) {pc n : Nat} (hd : decode cc pc = .ok (.l2i, 1)) (hn : pc + 1 = n) (hc : cnt n = cnt pc) : em_Snd p l e R s m args below meth c D cl dA σ A nL cnt Pr Z Q pc (o_l2i n) := by
  intro k hk ls st hp h ρ arr H locs hr hl hP hD hS
  subst hn
  unfold o_l2i at h
  split at h
  · have h9 := hk _ _ _ _ h ρ arr H locs hr hl hP hD hS
    rw [hc] at h9
    exact lv_l2i C.1 C.2.1 hd rfl h9
  · exact h.elim
def o_i2b (n : Nat) : em_Op := fun _ k ls st hp => match st with | .int x :: r => k n ls (.int (x.toInt8.toInt32) :: r) hp | _ => False
theorem s_i2b (C : em_Cx p s m args c D cl A nL tys cc own) {pc n : Nat} (hd : decode cc pc = .ok (.i2b, 1)) (hn : pc + 1 = n) (hc : cnt n = cnt pc) : em_Snd p l e R s m args below meth c D cl dA σ A nL cnt Pr Z Q pc (o_i2b n) := by
  intro k hk ls st hp h ρ arr H locs hr hl hP hD hS
  subst hn
  unfold o_i2b at h
  split at h
  · have h9 := hk _ _ _ _ h ρ arr H locs hr hl hP hD hS
    rw [hc] at h9
    exact lv_i2b C.1 C.2.1 hd rfl h9
  · exact h.elim
def o_lcmp (n : Nat) : em_Op := fun _ k ls st hp => match st with | .long y :: .long x :: r => k n ls (.int (lg_cmp x y) :: r) hp | _ => False
theorem s_lcmp (C : em_Cx p s m args c D cl A nL tys cc own) {pc n : Nat} (hd : decode cc pc = .ok (.lcmp, 1)) (hn : pc + 1 = n) (hc : cnt n = cnt pc) : em_Snd p l e R s m args below meth c D cl dA σ A nL cnt Pr Z Q pc (o_lcmp n) := by
  intro k hk ls st hp h ρ arr H locs hr hl hP hD hS
  subst hn
  unfold o_lcmp at h
  split at h
  · have h9 := hk _ _ _ _ h ρ arr H locs hr hl hP hD hS
    rw [hc] at h9
    exact W.lcmp C.1 C.2.1 hd h9
  · exact h.elim
def o_pop (n : Nat) : em_Op := fun _ k ls st hp => match st with | .int _ :: r => k n ls r hp | _ => False
theorem s_pop (C : em_Cx p s m args c D cl A nL tys cc own) {pc n : Nat} (hd : decode cc pc = .ok (.pop, 1)) (hn : pc + 1 = n) (hc : cnt n = cnt pc) : em_Snd p l e R s m args below meth c D cl dA σ A nL cnt Pr Z Q pc (o_pop n) := by
  intro k hk ls st hp h ρ arr H locs hr hl hP hD hS
  subst hn
  unfold o_pop at h
  split at h
  · have h9 := hk _ _ _ _ h ρ arr H locs hr hl hP hD hS
    rw [hc] at h9
    exact lv_pop C.1 C.2.1 hd rfl h9
  · exact h.elim
def o_dup (n : Nat) : em_Op := fun _ k ls st hp => match st with | .ref a :: r => k n ls (.ref a :: .ref a :: r) hp | .int a :: r => k n ls (.int a :: .int a :: r) hp | _ => False
theorem s_dup (C : em_Cx p s m args c D cl A nL tys cc own) {pc n : Nat} (hd : decode cc pc = .ok (.dup, 1)) (hn : pc + 1 = n) (hc : cnt n = cnt pc) : em_Snd p l e R s m args below meth c D cl dA σ A nL cnt Pr Z Q pc (o_dup n) := by
  intro k hk ls st hp h ρ arr H locs hr hl hP hD hS
  subst hn
  unfold o_dup at h
  split at h
  · have h9 := hk _ _ _ _ h ρ arr H locs hr hl hP hD hS
    rw [hc] at h9
    exact lv_dup C.1 C.2.1 hd rfl h9
  · have h9 := hk _ _ _ _ h ρ arr H locs hr hl hP hD hS
    rw [hc] at h9
    exact lv_dup C.1 C.2.1 hd rfl h9
  · exact h.elim
def o_dup_x1 (n : Nat) : em_Op := fun _ k ls st hp => match st with | .int y :: .ref a :: r => k n ls (.int y :: .ref a :: .int y :: r) hp | _ => False
theorem s_dup_x1 (C : em_Cx p s m args c D cl A nL tys cc own) {pc n : Nat} (hd : decode cc pc = .ok (.dup_x1, 1)) (hn : pc + 1 = n) (hc : cnt n = cnt pc) : em_Snd p l e R s m args below meth c D cl dA σ A nL cnt Pr Z Q pc (o_dup_x1 n) := by
  intro k hk ls st hp h ρ arr H locs hr hl hP hD hS
  subst hn
  unfold o_dup_x1 at h
  split at h
  · have h9 := hk _ _ _ _ h ρ arr H locs hr hl hP hD hS
    rw [hc] at h9
    exact lv_dup_x1 C.1 C.2.1 hd rfl rfl h9
  · exact h.elim
def o_dup2 (n : Nat) : em_Op := fun _ k ls st hp => match st with | .int y :: .ref a :: r => k n ls (.int y :: .ref a :: .int y :: .ref a :: r) hp | _ => False
theorem s_dup2 (C : em_Cx p s m args c D cl A nL tys cc own) {pc n : Nat} (hd : decode cc pc = .ok (.dup2, 1)) (hn : pc + 1 = n) (hc : cnt n = cnt pc) : em_Snd p l e R s m args below meth c D cl dA σ A nL cnt Pr Z Q pc (o_dup2 n) := by
  intro k hk ls st hp h ρ arr H locs hr hl hP hD hS
  subst hn
  unfold o_dup2 at h
  split at h
  · have h9 := hk _ _ _ _ h ρ arr H locs hr hl hP hD hS
    rw [hc] at h9
    exact lv_dup2_11 C.1 C.2.1 hd rfl rfl h9
  · exact h.elim
def o_ifeq (t n : Nat) : em_Op := fun _ k ls st hp => match st with | .int x :: r => (x = 0 → k t ls r hp) ∧ (¬ x = 0 → k n ls r hp) | _ => False
theorem s_ifeq (C : em_Cx p s m args c D cl A nL tys cc own) {pc t n : Nat} {off : Int} (hd : decode cc pc = .ok (.ifCond .eq off, 3)) (ht : (pc : Int) + off = (t : Int)) (hn : pc + 3 = n) (hc : cnt n = cnt pc) (hc2 : cnt t = cnt pc) : em_Snd p l e R s m args below meth c D cl dA σ A nL cnt Pr Z Q pc (o_ifeq t n) := by
  intro k hk ls st hp h ρ arr H locs hr hl hP hD hS
  subst hn
  unfold o_ifeq at h
  split at h
  · refine lv_if_eq C.1 C.2.1 hd ht (fun z => ?_) (fun z => ?_)
    · have h9 := hk _ _ _ _ (h.1 z) ρ arr H locs hr hl hP hD hS
      rw [hc2] at h9
      exact h9
    · have h9 := hk _ _ _ _ (h.2 z) ρ arr H locs hr hl hP hD hS
      rw [hc] at h9
      exact h9
  · exact h.elim
def o_ifne (t n : Nat) : em_Op := fun _ k ls st hp => match st with | .int x :: r => (¬ x = 0 → k t ls r hp) ∧ (x = 0 → k n ls r hp) | _ => False
theorem s_ifne (C : em_Cx p s m args c D cl A nL tys cc own) {pc t n : Nat} {off : Int} (hd : decode cc pc = .ok (.ifCond .ne off, 3)) (ht : (pc : Int) + off = (t : Int)) (hn : pc + 3 = n) (hc : cnt n = cnt pc) (hc2 : cnt t = cnt pc) : em_Snd p l e R s m args below meth c D cl dA σ A nL cnt Pr Z Q pc (o_ifne t n) := by
  intro k hk ls st hp h ρ arr H locs hr hl hP hD hS
  subst hn
  unfold o_ifne at h
  split at h
  · refine lv_if_ne C.1 C.2.1 hd ht (fun z => ?_) (fun z => ?_)
    · have h9 := hk _ _ _ _ (h.1 z) ρ arr H locs hr hl hP hD hS
      rw [hc2] at h9
      exact h9
    · have h9 := hk _ _ _ _ (h.2 z) ρ arr H locs hr hl hP hD hS
      rw [hc] at h9
      exact h9
  · exact h.elim
def o_iflt (t n : Nat) : em_Op := fun _ k ls st hp => match st with | .int x :: r => (x < 0 → k t ls r hp) ∧ (¬ x < 0 → k n ls r hp) | _ => False
theorem s_iflt (C : em_Cx p s m args c D cl A nL tys cc own) {pc t n : Nat} {off : Int} (hd : decode cc pc = .ok (.ifCond .lt off, 3)) (ht : (pc : Int) + off = (t : Int)) (hn : pc + 3 = n) (hc : cnt n = cnt pc) (hc2 : cnt t = cnt pc) : em_Snd p l e R s m args below meth c D cl dA σ A nL cnt Pr Z Q pc (o_iflt t n) := by
  intro k hk ls st hp h ρ arr H locs hr hl hP hD hS
  subst hn
  unfold o_iflt at h
  split at h
  · refine lv_if_lt C.1 C.2.1 hd ht (fun z => ?_) (fun z => ?_)
    · have h9 := hk _ _ _ _ (h.1 z) ρ arr H locs hr hl hP hD hS
      rw [hc2] at h9
      exact h9
    · have h9 := hk _ _ _ _ (h.2 z) ρ arr H locs hr hl hP hD hS
      rw [hc] at h9
      exact h9
  · exact h.elim
def o_ifge (t n : Nat) : em_Op := fun _ k ls st hp => match st with | .int x :: r => (0 ≤ x → k t ls r hp) ∧ (¬ 0 ≤ x → k n ls r hp) | _ => False
theorem s_ifge (C : em_Cx p s m args c D cl A nL tys cc own) {pc t n : Nat} {off : Int} (hd : decode cc pc = .ok (.ifCond .ge off, 3)) (ht : (pc : Int) + off = (t : Int)) (hn : pc + 3 = n) (hc : cnt n = cnt pc) (hc2 : cnt t = cnt pc) : em_Snd p l e R s m args below meth c D cl dA σ A nL cnt Pr Z Q pc (o_ifge t n) := by
  intro k hk ls st hp h ρ arr H locs hr hl hP hD hS
  subst hn
  unfold o_ifge at h
  split at h
  · refine lv_if_ge C.1 C.2.1 hd ht (fun z => ?_) (fun z => ?_)
    · have h9 := hk _ _ _ _ (h.1 z) ρ arr H locs hr hl hP hD hS
      rw [hc2] at h9
      exact h9
    · have h9 := hk _ _ _ _ (h.2 z) ρ arr H locs hr hl hP hD hS
      rw [hc] at h9
      exact h9
  · exact h.elim
def o_ifgt (t n : Nat) : em_Op := fun _ k ls st hp => match st with | .int x :: r => (0 < x → k t ls r hp) ∧ (¬ 0 < x → k n ls r hp) | _ => False
theorem s_ifgt (C : em_Cx p s m args c D cl A nL tys cc own) {pc t n : Nat} {off : Int} (hd : decode cc pc = .ok (.ifCond .gt off, 3)) (ht : (pc : Int) + off = (t : Int)) (hn : pc + 3 = n) (hc : cnt n = cnt pc) (hc2 : cnt t = cnt pc) : em_Snd p l e R s m args below meth c D cl dA σ A nL cnt Pr Z Q pc (o_ifgt t n) := by
  intro k hk ls st hp h ρ arr H locs hr hl hP hD hS
  subst hn
  unfold o_ifgt at h
  split at h
  · refine lv_if_gt C.1 C.2.1 hd ht (fun z => ?_) (fun z => ?_)
    · have h9 := hk _ _ _ _ (h.1 z) ρ arr H locs hr hl hP hD hS
      rw [hc2] at h9
      exact h9
    · have h9 := hk _ _ _ _ (h.2 z) ρ arr H locs hr hl hP hD hS
      rw [hc] at h9
      exact h9
  · exact h.elim
def o_ifle (t n : Nat) : em_Op := fun _ k ls st hp => match st with | .int x :: r => (x ≤ 0 → k t ls r hp) ∧ (¬ x ≤ 0 → k n ls r hp) | _ => False
theorem s_ifle (C : em_Cx p s m args c D cl A nL tys cc own) {pc t n : Nat} {off : Int} (hd : decode cc pc = .ok (.ifCond .le off, 3)) (ht : (pc : Int) + off = (t : Int)) (hn : pc + 3 = n) (hc : cnt n = cnt pc) (hc2 : cnt t = cnt pc) : em_Snd p l e R s m args below meth c D cl dA σ A nL cnt Pr Z Q pc (o_ifle t n) := by
  intro k hk ls st hp h ρ arr H locs hr hl hP hD hS
  subst hn
  unfold o_ifle at h
  split at h
  · refine lv_if_le C.1 C.2.1 hd ht (fun z => ?_) (fun z => ?_)
    · have h9 := hk _ _ _ _ (h.1 z) ρ arr H locs hr hl hP hD hS
      rw [hc2] at h9
      exact h9
    · have h9 := hk _ _ _ _ (h.2 z) ρ arr H locs hr hl hP hD hS
      rw [hc] at h9
      exact h9
  · exact h.elim
def o_icmpeq (t n : Nat) : em_Op := fun _ k ls st hp => match st with | .int y :: .int x :: r => (x = y → k t ls r hp) ∧ (¬ x = y → k n ls r hp) | _ => False
theorem s_icmpeq (C : em_Cx p s m args c D cl A nL tys cc own) {pc t n : Nat} {off : Int} (hd : decode cc pc = .ok (.if_icmp .eq off, 3)) (ht : (pc : Int) + off = (t : Int)) (hn : pc + 3 = n) (hc : cnt n = cnt pc) (hc2 : cnt t = cnt pc) : em_Snd p l e R s m args below meth c D cl dA σ A nL cnt Pr Z Q pc (o_icmpeq t n) := by
  intro k hk ls st hp h ρ arr H locs hr hl hP hD hS
  subst hn
  unfold o_icmpeq at h
  split at h
  · refine lv_icmp_eq C.1 C.2.1 hd ht (fun z => ?_) (fun z => ?_)
    · have h9 := hk _ _ _ _ (h.1 z) ρ arr H locs hr hl hP hD hS
      rw [hc2] at h9
      exact h9
    · have h9 := hk _ _ _ _ (h.2 z) ρ arr H locs hr hl hP hD hS
      rw [hc] at h9
      exact h9
  · exact h.elim
def o_icmpne (t n : Nat) : em_Op := fun _ k ls st hp => match st with | .int y :: .int x :: r => (¬ x = y → k t ls r hp) ∧ (x = y → k n ls r hp) | _ => False
theorem s_icmpne (C : em_Cx p s m args c D cl A nL tys cc own) {pc t n : Nat} {off : Int} (hd : decode cc pc = .ok (.if_icmp .ne off, 3)) (ht : (pc : Int) + off = (t : Int)) (hn : pc + 3 = n) (hc : cnt n = cnt pc) (hc2 : cnt t = cnt pc) : em_Snd p l e R s m args below meth c D cl dA σ A nL cnt Pr Z Q pc (o_icmpne t n) := by
  intro k hk ls st hp h ρ arr H locs hr hl hP hD hS
  subst hn
  unfold o_icmpne at h
  split at h
  · refine lv_icmp_ne C.1 C.2.1 hd ht (fun z => ?_) (fun z => ?_)
    · have h9 := hk _ _ _ _ (h.1 z) ρ arr H locs hr hl hP hD hS
      rw [hc2] at h9
      exact h9
    · have h9 := hk _ _ _ _ (h.2 z) ρ arr H locs hr hl hP hD hS
      rw [hc] at h9
      exact h9
  · exact h.elim
def o_icmplt (t n : Nat) : em_Op := fun _ k ls st hp => match st with | .int y :: .int x :: r => (x < y → k t ls r hp) ∧ (¬ x < y → k n ls r hp) | _ => False
theorem s_icmplt (C : em_Cx p s m args c D cl A nL tys cc own) {pc t n : Nat} {off : Int} (hd : decode cc pc = .ok (.if_icmp .lt off, 3)) (ht : (pc : Int) + off = (t : Int)) (hn : pc + 3 = n) (hc : cnt n = cnt pc) (hc2 : cnt t = cnt pc) : em_Snd p l e R s m args below meth c D cl dA σ A nL cnt Pr Z Q pc (o_icmplt t n) := by
  intro k hk ls st hp h ρ arr H locs hr hl hP hD hS
  subst hn
  unfold o_icmplt at h
  split at h
  · refine lv_icmp_lt C.1 C.2.1 hd ht (fun z => ?_) (fun z => ?_)
    · have h9 := hk _ _ _ _ (h.1 z) ρ arr H locs hr hl hP hD hS
      rw [hc2] at h9
      exact h9
    · have h9 := hk _ _ _ _ (h.2 z) ρ arr H locs hr hl hP hD hS
      rw [hc] at h9
      exact h9
  · exact h.elim
def o_icmpge (t n : Nat) : em_Op := fun _ k ls st hp => match st with | .int y :: .int x :: r => (y ≤ x → k t ls r hp) ∧ (¬ y ≤ x → k n ls r hp) | _ => False
theorem s_icmpge (C : em_Cx p s m args c D cl A nL tys cc own) {pc t n : Nat} {off : Int} (hd : decode cc pc = .ok (.if_icmp .ge off, 3)) (ht : (pc : Int) + off = (t : Int)) (hn : pc + 3 = n) (hc : cnt n = cnt pc) (hc2 : cnt t = cnt pc) : em_Snd p l e R s m args below meth c D cl dA σ A nL cnt Pr Z Q pc (o_icmpge t n) := by
  intro k hk ls st hp h ρ arr H locs hr hl hP hD hS
  subst hn
  unfold o_icmpge at h
  split at h
  · refine lv_icmp_ge C.1 C.2.1 hd ht (fun z => ?_) (fun z => ?_)
    · have h9 := hk _ _ _ _ (h.1 z) ρ arr H locs hr hl hP hD hS
      rw [hc2] at h9
      exact h9
    · have h9 := hk _ _ _ _ (h.2 z) ρ arr H locs hr hl hP hD hS
      rw [hc] at h9
      exact h9
  · exact h.elim
def o_icmpgt (t n : Nat) : em_Op := fun _ k ls st hp => match st with | .int y :: .int x :: r => (y < x → k t ls r hp) ∧ (¬ y < x → k n ls r hp) | _ => False
theorem s_icmpgt (C : em_Cx p s m args c D cl A nL tys cc own) {pc t n : Nat} {off : Int} (hd : decode cc pc = .ok (.if_icmp .gt off, 3)) (ht : (pc : Int) + off = (t : Int)) (hn : pc + 3 = n) (hc : cnt n = cnt pc) (hc2 : cnt t = cnt pc) : em_Snd p l e R s m args below meth c D cl dA σ A nL cnt Pr Z Q pc (o_icmpgt t n) := by
  intro k hk ls st hp h ρ arr H locs hr hl hP hD hS
  subst hn
  unfold o_icmpgt at h
  split at h
  · refine lv_icmp_gt C.1 C.2.1 hd ht (fun z => ?_) (fun z => ?_)
    · have h9 := hk _ _ _ _ (h.1 z) ρ arr H locs hr hl hP hD hS
      rw [hc2] at h9
      exact h9
    · have h9 := hk _ _ _ _ (h.2 z) ρ arr H locs hr hl hP hD hS
      rw [hc] at h9
      exact h9
  · exact h.elim
def o_icmple (t n : Nat) : em_Op := fun _ k ls st hp => match st with | .int y :: .int x :: r => (x ≤ y → k t ls r hp) ∧ (¬ x ≤ y → k n ls r hp) | _ => False
theorem s_icmple (C : em_Cx p s m args c D cl A nL tys cc own) {pc t n : Nat} {off : Int} (hd : decode cc pc = .ok (.if_icmp .le off, 3)) (ht : (pc : Int) + off = (t : Int)) (hn : pc + 3 = n) (hc : cnt n = cnt pc) (hc2 : cnt t = cnt pc) : em_Snd p l e R s m args below meth c D cl dA σ A nL cnt Pr Z Q pc (o_icmple t n) := by
  intro k hk ls st hp h ρ arr H locs hr hl hP hD hS
  subst hn
  unfold o_icmple at h
  split at h
  · refine lv_icmp_le C.1 C.2.1 hd ht (fun z => ?_) (fun z => ?_)
    · have h9 := hk _ _ _ _ (h.1 z) ρ arr H locs hr hl hP hD hS
      rw [hc2] at h9
      exact h9
    · have h9 := hk _ _ _ _ (h.2 z) ρ arr H locs hr hl hP hD hS
      rw [hc] at h9
      exact h9
  · exact h.elim
def o_goto (t : Nat) : em_Op := fun _ k ls st hp => k t ls st hp
theorem s_goto (C : em_Cx p s m args c D cl A nL tys cc own) {pc t : Nat} {off : Int} (hd : decode cc pc = .ok (.goto off, 3)) (ht : (pc : Int) + off = (t : Int)) (hc : cnt t = cnt pc) : em_Snd p l e R s m args below meth c D cl dA σ A nL cnt Pr Z Q pc (o_goto t) := by
  intro k hk ls st hp h ρ arr H locs hr hl hP hD hS
  have h9 := hk _ _ _ _ h ρ arr H locs hr hl hP hD hS
  rw [hc] at h9
  exact lv_goto C.1 C.2.1 hd ht h9
def em_sw (k : Nat → Prop) (d : Nat) (x : Int32) : List (Int32 × Nat) → Prop
  | [] => k d
  | (v, t) :: r => (x = v → k t) ∧ (¬ x = v → em_sw k d x r)
theorem em_sw_to {k : Nat → Prop} {d : Nat} {x : Int32} : ∀ {L : List (Int32 × Nat)}, em_sw k d x L → (∃ (i : Nat) (q : Int32 × Nat), L[i]? = some q ∧ x = q.1 ∧ k q.2) ∨ ((∀ q ∈ L, x ≠ q.1) ∧ k d)
  | [], h => Or.inr ⟨fun q hq => (by cases hq), h⟩
  | (v, t) :: r, h => by
    by_cases hx : x = v
    · exact Or.inl ⟨0, (v, t), rfl, hx, h.1 hx⟩
    · rcases em_sw_to (h.2 hx) with ⟨i, q, h1, h2, h3⟩ | ⟨h1, h2⟩
      · exact Or.inl ⟨i + 1, q, h1, h2, h3⟩
      · refine Or.inr ⟨fun q hq => ?_, h2⟩
        rcases List.mem_cons.mp hq with rfl | hq
        · exact hx
        · exact h1 q hq
def o_sw (L : List (Int32 × Nat)) (d : Nat) : em_Op := fun _ k ls st hp => match st with | .int x :: r => em_sw (fun t => k t ls r hp) d x L | _ => False
theorem s_sw (C : em_Cx p s m args c D cl A nL tys cc own) {pc d len : Nat} {L : List (Int32 × Nat)} {dflt lo hi : Int} {offs : Array Int} (hd : decode cc pc = .ok (.tableswitch dflt lo hi offs, len)) (hL : L = offs.toList.mapIdx (fun i o => (Int32.ofInt (lo + i), ((pc : Int) + o).toNat))) (hz : hi = lo + offs.size - 1 ∧ -1000 ≤ lo ∧ hi ≤ 1000 ∧ (∀ o ∈ offs.toList, (0 : Int) ≤ (pc : Int) + o)) (ht : (pc : Int) + dflt = (d : Int)) (hc : ∀ t, cnt t = cnt pc) : em_Snd p l e R s m args below meth c D cl dA σ A nL cnt Pr Z Q pc (o_sw L d) := by
  intro k hk ls st hp h ρ arr H locs hr hl hP hD hS
  unfold o_sw at h
  split at h
  · rename_i x r
    rcases em_sw_to h with ⟨i, q, h1, h2, h3⟩ | ⟨h1, h2⟩
    · have h9 := hk _ _ _ _ h3 ρ arr H locs hr hl hP hD hS
      rw [hc] at h9
      rw [hL, List.getElem?_mapIdx] at h1
      have hlt : i < offs.toList.length := by
        rcases Nat.lt_or_ge i offs.toList.length with z | z
        · exact z
        · rw [List.getElem?_eq_none z] at h1; cases h1
      rw [List.getElem?_eq_getElem hlt] at h1
      cases h1
      have hsz : offs.toList.length = offs.size := by simp
      have hx : x.toInt = lo + i := by
        rw [h2]
        have a1 : (i : Int) < offs.size := by omega
        rw [Int32.toInt_ofInt_of_le (by omega) (by omega)]
      have e1 : (x.toInt - lo).toNat = i := by omega
      have hmem := hz.2.2.2 _ (List.getElem_mem hlt)
      refine lv_tableIn (off := offs.toList[i]) (tgt := ((pc : Int) + offs.toList[i]).toNat) C.1 C.2.1 hd (by omega) (by omega) ?_ (by omega) h9
      rw [e1]
      rw [← Array.getElem?_toList, List.getElem?_eq_getElem hlt]
    · have h9 := hk _ _ _ _ h2 ρ arr H locs hr hl hP hD hS
      rw [hc] at h9
      refine lv_tableOut C.1 C.2.1 hd ?_ ht h9
      rcases Int.lt_or_le x.toInt lo with z | z
      · exact Or.inl z
      · rcases Int.lt_or_le hi x.toInt with z2 | z2
        · exact Or.inr z2
        · exfalso
          have hsz : offs.toList.length = offs.size := by simp
          have hlt : (x.toInt - lo).toNat < offs.toList.length := by omega
          refine h1 (Int32.ofInt (lo + (x.toInt - lo).toNat), ((pc : Int) + offs.toList[(x.toInt - lo).toNat]).toNat) ?_ ?_
          · rw [hL]
            refine List.mem_of_getElem? (i := (x.toInt - lo).toNat) ?_
            rw [List.getElem?_mapIdx, List.getElem?_eq_getElem hlt]
            rfl
          · show x = Int32.ofInt (lo + (x.toInt - lo).toNat)
            rw [show lo + ((x.toInt - lo).toNat : Int) = x.toInt by omega]
            simp
  · exact h.elim
end EMA
end
section

/-- the classes of the arrays, by tag -/
abbrev em_tys (dA : Nat → ClassId) : List (ClassId × FieldType) := [(dA 0, .int), (dA 1, .long), (dA 2, .byte), (dA 3, .boolean), (dA 4, .object "WedApart$Town")]
/-- a class of the world: its place, its fields, the words that lay them out -/
def em_Cl (cl : List vw_C) (ci : Nat) (Cn : String) (T : u_T) (N : Nat) : Prop := cl[ci]? = some (Cn, T, N) ∧ (∀ w ∈ u_ws Cn T N, w ∈ em_tb) ∧ (∃ ty0 : Nat → FieldType, ∀ k, k < N → parseFieldDescriptor (T k).2.2.1 = some (ty0 k)) ∧ ∀ a, a < N → ∀ b, b < N → a ≠ b → (T a).2.1 ≠ (T b).2.1
section EMB
variable {p : Program} {l : Launch} {e : Env} {R : Room} {s : State} {m : MethodId} {args : Array Value} {below : List Frame} {meth : Method} {c : Code} {D : va_G} {cl : List vw_C} {dA : Nat → ClassId} {σ : Nat → Nat} {A : Nat → Prop} {nL : Nat} {cnt : Nat → Nat × Nat} {Pr : (Nat → Nat) → Prop} {Z : State → Prop}
variable {cc : ByteArray} {Q : em_Q} {own : String}

def o_getf (ci k : Nat) (n : Nat) : em_Op := fun _ K ls st hp => match st with | .ref a :: r => (match em_hn hp a with | some (.inr (c, fs)) => (match em_fn fs k with | some v => bif Nat.beq c ci then K n ls (v :: r) hp else False | none => False) | _ => False) | _ => False
theorem s_getf (C : em_Cx p s m args c D cl A nL (em_tys dA) cc own) {pc n : Nat} {Cn ref : String} {T : u_T} {N ci fk index : Nat} (hd : decode cc pc = .ok (.getfield index, 3)) (hn : pc + 3 = n) (hc : cnt n = cnt pc) (hcl : em_Cl cl ci Cn T N) (hk9 : fk < N) (hw : Cond.fieldLink own index ref (T fk).2.1 (T fk).2.2.1 ∈ em_tb) (href : (T fk).1 = ref) : em_Snd p l e R s m args below meth c D cl dA σ A nL cnt Pr Z Q pc (o_getf ci fk n) := by
  intro k hk ls st hp h ρ arr H locs hr hl hP hD hS
  subst hn
  unfold o_getf at h
  split at h
  · rename_i a r
    split at h
    · rename_i c0 fs he
      split at h
      · rename_i v hv
        cases hb : Nat.beq c0 ci with
        | false => rw [hb] at h; exact h.elim
        | true =>
          rw [hb] at h
          have hc0 := Nat.eq_of_beq_eq_true hb
          subst hc0
          have h9 := hk _ _ _ _ h ρ arr H locs hr hl hP hD hS
          rw [hc] at h9
          rw [em_fn_eq] at hv
          exact va_get C.1 C.2.1 C.2.2.2.2.1 hcl.2.1 C.2.2.2.1 C.2.2.2.2.2.1 hP a (em_w_get he) hcl.1 fk hk9 (C.2.2.2.2.1 _ hw) (fun x hx => by rw [← href]; exact hx) (by rw [List.getElem?_map, hv]; rfl) hd h9
      · exact h.elim
    · exact h.elim
  · exact h.elim
def o_putI (ci k : Nat) (n : Nat) : em_Op := fun _ K ls st hp => match st with | .int x :: .ref a :: r => (match em_hn hp a with | some (.inr (c, fs)) => (match em_fn fs k with | some _ => bif Nat.beq c ci then em_fs fs k (.int x) (fun fs' => em_hs hp a (.inr (c, fs')) (fun hp' => K n ls r hp')) else False | none => False) | _ => False) | _ => False
theorem s_putI (C : em_Cx p s m args c D cl A nL (em_tys dA) cc own) {pc n : Nat} {Cn ref : String} {T : u_T} {N ci fk index : Nat} (hd : decode cc pc = .ok (.putfield index, 3)) (hn : pc + 3 = n) (hc : cnt n = cnt pc) (hcl : em_Cl cl ci Cn T N) (hk9 : fk < N) (hw : Cond.fieldLink own index ref (T fk).2.1 (T fk).2.2.1 ∈ em_tb) (href : (T fk).1 = ref) (hfin : (T fk).2.2.2 = false) (hty : parseFieldDescriptor (T fk).2.2.1 = some .int) : em_Snd p l e R s m args below meth c D cl dA σ A nL cnt Pr Z Q pc (o_putI ci fk n) := by
  intro k hk ls st hp h ρ arr H locs hr hl hP hD hS
  subst hn
  unfold o_putI at h
  split at h
  · rename_i x a r
    split at h
    · rename_i c0 fs he
      split at h
      · rename_i v hv
        cases hb : Nat.beq c0 ci with
        | false => rw [hb] at h; exact h.elim
        | true =>
          rw [hb] at h
          have hc0 := Nat.eq_of_beq_eq_true hb
          subst hc0
          have h8 := h
          rw [em_fs_eq, em_hs_eq] at h8
          rw [em_fn_eq] at hv
          obtain ⟨ty0, hty0⟩ := hcl.2.2.1
          refine va_put C.1 C.2.1 C.2.2.2.2.1 hcl.2.1 ty0 hty0 hcl.2.2.2 C.2.2.2.1 C.2.2.2.2.2.1 hP hD hS a (em_w_get he) hcl.1 fk hk9 (C.2.2.2.2.1 _ hw) (fun x hx => by rw [← href]; exact hx) hfin hty (rfl) (rfl) (by rw [List.length_map]; exact (List.getElem?_eq_some_iff.mp hv).1) hd (fun H1 locs1 hP1 hD1 hS1 => ?_)
          have e9 : (em_w σ dA ρ hp).set a (ρ a, .inr (c0, (fs.map (em_v σ ρ)).set fk (em_v σ ρ (.int x)))) = em_w σ dA ρ (hp.set a (.inr (c0, fs.set fk (.int x)))) := by
            rw [← List.map_set]
            exact em_w_set (x := .inr (c0, fs.set fk (.int x)))
          have h9 := hk _ _ _ _ h8 ρ arr H1 locs1 hr hl (by rw [← e9]; exact hP1) (by rw [← e9]; exact hD1) hS1
          rw [hc] at h9
          exact h9
      · exact h.elim
    · exact h.elim
  · exact h.elim
theorem s_putIF (C : em_Cx p s m args c D cl A nL (em_tys dA) cc own) {pc n : Nat} {Cn ref : String} {T : u_T} {N ci fk index : Nat} (hd : decode cc pc = .ok (.putfield index, 3)) (hn : pc + 3 = n) (hc : cnt n = cnt pc) (hcl : em_Cl cl ci Cn T N) (hk9 : fk < N) (hw : Cond.fieldLink own index ref (T fk).2.1 (T fk).2.2.1 ∈ em_tb) (href : (T fk).1 = ref) (hfin : (T fk).2.2.2 = true) (hin2 : meth.name = "<init>") (hdecl : (T fk).1 = own) (hty : parseFieldDescriptor (T fk).2.2.1 = some .int) : em_Snd p l e R s m args below meth c D cl dA σ A nL cnt Pr Z Q pc (o_putI ci fk n) := by
  intro k hk ls st hp h ρ arr H locs hr hl hP hD hS
  subst hn
  unfold o_putI at h
  split at h
  · rename_i x a r
    split at h
    · rename_i c0 fs he
      split at h
      · rename_i v hv
        cases hb : Nat.beq c0 ci with
        | false => rw [hb] at h; exact h.elim
        | true =>
          rw [hb] at h
          have hc0 := Nat.eq_of_beq_eq_true hb
          subst hc0
          have h8 := h
          rw [em_fs_eq, em_hs_eq] at h8
          rw [em_fn_eq] at hv
          obtain ⟨ty0, hty0⟩ := hcl.2.2.1
          refine va_putF C.1 C.2.1 C.2.2.2.2.1 hcl.2.1 ty0 hty0 hcl.2.2.2 C.2.2.2.1 C.2.2.2.2.2.1 hP hD hS a (em_w_get he) hcl.1 fk hk9 (C.2.2.2.2.1 _ hw) (fun x hx => by rw [← href]; exact hx) hfin hin2 hdecl hty (rfl) (rfl) (by rw [List.length_map]; exact (List.getElem?_eq_some_iff.mp hv).1) hd (fun H1 locs1 hP1 hD1 hS1 => ?_)
          have e9 : (em_w σ dA ρ hp).set a (ρ a, .inr (c0, (fs.map (em_v σ ρ)).set fk (em_v σ ρ (.int x)))) = em_w σ dA ρ (hp.set a (.inr (c0, fs.set fk (.int x)))) := by
            rw [← List.map_set]
            exact em_w_set (x := .inr (c0, fs.set fk (.int x)))
          have h9 := hk _ _ _ _ h8 ρ arr H1 locs1 hr hl (by rw [← e9]; exact hP1) (by rw [← e9]; exact hD1) hS1
          rw [hc] at h9
          exact h9
      · exact h.elim
    · exact h.elim
  · exact h.elim
def o_putL (ci k : Nat) (n : Nat) : em_Op := fun _ K ls st hp => match st with | .long x :: .ref a :: r => (match em_hn hp a with | some (.inr (c, fs)) => (match em_fn fs k with | some _ => bif Nat.beq c ci then em_fs fs k (.long x) (fun fs' => em_hs hp a (.inr (c, fs')) (fun hp' => K n ls r hp')) else False | none => False) | _ => False) | _ => False
theorem s_putL (C : em_Cx p s m args c D cl A nL (em_tys dA) cc own) {pc n : Nat} {Cn ref : String} {T : u_T} {N ci fk index : Nat} (hd : decode cc pc = .ok (.putfield index, 3)) (hn : pc + 3 = n) (hc : cnt n = cnt pc) (hcl : em_Cl cl ci Cn T N) (hk9 : fk < N) (hw : Cond.fieldLink own index ref (T fk).2.1 (T fk).2.2.1 ∈ em_tb) (href : (T fk).1 = ref) (hfin : (T fk).2.2.2 = false) (hty : parseFieldDescriptor (T fk).2.2.1 = some .long) : em_Snd p l e R s m args below meth c D cl dA σ A nL cnt Pr Z Q pc (o_putL ci fk n) := by
  intro k hk ls st hp h ρ arr H locs hr hl hP hD hS
  subst hn
  unfold o_putL at h
  split at h
  · rename_i x a r
    split at h
    · rename_i c0 fs he
      split at h
      · rename_i v hv
        cases hb : Nat.beq c0 ci with
        | false => rw [hb] at h; exact h.elim
        | true =>
          rw [hb] at h
          have hc0 := Nat.eq_of_beq_eq_true hb
          subst hc0
          have h8 := h
          rw [em_fs_eq, em_hs_eq] at h8
          rw [em_fn_eq] at hv
          obtain ⟨ty0, hty0⟩ := hcl.2.2.1
          refine va_put C.1 C.2.1 C.2.2.2.2.1 hcl.2.1 ty0 hty0 hcl.2.2.2 C.2.2.2.1 C.2.2.2.2.2.1 hP hD hS a (em_w_get he) hcl.1 fk hk9 (C.2.2.2.2.1 _ hw) (fun x hx => by rw [← href]; exact hx) hfin hty (rfl) (rfl) (by rw [List.length_map]; exact (List.getElem?_eq_some_iff.mp hv).1) hd (fun H1 locs1 hP1 hD1 hS1 => ?_)
          have e9 : (em_w σ dA ρ hp).set a (ρ a, .inr (c0, (fs.map (em_v σ ρ)).set fk (em_v σ ρ (.long x)))) = em_w σ dA ρ (hp.set a (.inr (c0, fs.set fk (.long x)))) := by
            rw [← List.map_set]
            exact em_w_set (x := .inr (c0, fs.set fk (.long x)))
          have h9 := hk _ _ _ _ h8 ρ arr H1 locs1 hr hl (by rw [← e9]; exact hP1) (by rw [← e9]; exact hD1) hS1
          rw [hc] at h9
          exact h9
      · exact h.elim
    · exact h.elim
  · exact h.elim
theorem s_putLF (C : em_Cx p s m args c D cl A nL (em_tys dA) cc own) {pc n : Nat} {Cn ref : String} {T : u_T} {N ci fk index : Nat} (hd : decode cc pc = .ok (.putfield index, 3)) (hn : pc + 3 = n) (hc : cnt n = cnt pc) (hcl : em_Cl cl ci Cn T N) (hk9 : fk < N) (hw : Cond.fieldLink own index ref (T fk).2.1 (T fk).2.2.1 ∈ em_tb) (href : (T fk).1 = ref) (hfin : (T fk).2.2.2 = true) (hin2 : meth.name = "<init>") (hdecl : (T fk).1 = own) (hty : parseFieldDescriptor (T fk).2.2.1 = some .long) : em_Snd p l e R s m args below meth c D cl dA σ A nL cnt Pr Z Q pc (o_putL ci fk n) := by
  intro k hk ls st hp h ρ arr H locs hr hl hP hD hS
  subst hn
  unfold o_putL at h
  split at h
  · rename_i x a r
    split at h
    · rename_i c0 fs he
      split at h
      · rename_i v hv
        cases hb : Nat.beq c0 ci with
        | false => rw [hb] at h; exact h.elim
        | true =>
          rw [hb] at h
          have hc0 := Nat.eq_of_beq_eq_true hb
          subst hc0
          have h8 := h
          rw [em_fs_eq, em_hs_eq] at h8
          rw [em_fn_eq] at hv
          obtain ⟨ty0, hty0⟩ := hcl.2.2.1
          refine va_putF C.1 C.2.1 C.2.2.2.2.1 hcl.2.1 ty0 hty0 hcl.2.2.2 C.2.2.2.1 C.2.2.2.2.2.1 hP hD hS a (em_w_get he) hcl.1 fk hk9 (C.2.2.2.2.1 _ hw) (fun x hx => by rw [← href]; exact hx) hfin hin2 hdecl hty (rfl) (rfl) (by rw [List.length_map]; exact (List.getElem?_eq_some_iff.mp hv).1) hd (fun H1 locs1 hP1 hD1 hS1 => ?_)
          have e9 : (em_w σ dA ρ hp).set a (ρ a, .inr (c0, (fs.map (em_v σ ρ)).set fk (em_v σ ρ (.long x)))) = em_w σ dA ρ (hp.set a (.inr (c0, fs.set fk (.long x)))) := by
            rw [← List.map_set]
            exact em_w_set (x := .inr (c0, fs.set fk (.long x)))
          have h9 := hk _ _ _ _ h8 ρ arr H1 locs1 hr hl (by rw [← e9]; exact hP1) (by rw [← e9]; exact hD1) hS1
          rw [hc] at h9
          exact h9
      · exact h.elim
    · exact h.elim
  · exact h.elim
def o_putZ (ci k : Nat) (n : Nat) : em_Op := fun _ K ls st hp => match st with | .int x :: .ref a :: r => (match em_hn hp a with | some (.inr (c, fs)) => (match em_fn fs k with | some _ => bif Nat.beq c ci then (x = 0 ∨ x = 1) ∧ em_fs fs k (.int x) (fun fs' => em_hs hp a (.inr (c, fs')) (fun hp' => K n ls r hp')) else False | none => False) | _ => False) | _ => False
theorem s_putZ (C : em_Cx p s m args c D cl A nL (em_tys dA) cc own) {pc n : Nat} {Cn ref : String} {T : u_T} {N ci fk index : Nat} (hd : decode cc pc = .ok (.putfield index, 3)) (hn : pc + 3 = n) (hc : cnt n = cnt pc) (hcl : em_Cl cl ci Cn T N) (hk9 : fk < N) (hw : Cond.fieldLink own index ref (T fk).2.1 (T fk).2.2.1 ∈ em_tb) (href : (T fk).1 = ref) (hfin : (T fk).2.2.2 = false) (hty : parseFieldDescriptor (T fk).2.2.1 = some .boolean) : em_Snd p l e R s m args below meth c D cl dA σ A nL cnt Pr Z Q pc (o_putZ ci fk n) := by
  intro k hk ls st hp h ρ arr H locs hr hl hP hD hS
  subst hn
  unfold o_putZ at h
  split at h
  · rename_i x a r
    split at h
    · rename_i c0 fs he
      split at h
      · rename_i v hv
        cases hb : Nat.beq c0 ci with
        | false => rw [hb] at h; exact h.elim
        | true =>
          rw [hb] at h
          have hc0 := Nat.eq_of_beq_eq_true hb
          subst hc0
          have h8 := h.2
          rw [em_fs_eq, em_hs_eq] at h8
          rw [em_fn_eq] at hv
          obtain ⟨ty0, hty0⟩ := hcl.2.2.1
          refine va_put C.1 C.2.1 C.2.2.2.2.1 hcl.2.1 ty0 hty0 hcl.2.2.2 C.2.2.2.1 C.2.2.2.2.2.1 hP hD hS a (em_w_get he) hcl.1 fk hk9 (C.2.2.2.2.1 _ hw) (fun x hx => by rw [← href]; exact hx) hfin hty (by rcases h.1 with z | z <;> subst z <;> rfl) (by rcases h.1 with z | z <;> subst z <;> rfl) (by rw [List.length_map]; exact (List.getElem?_eq_some_iff.mp hv).1) hd (fun H1 locs1 hP1 hD1 hS1 => ?_)
          have e9 : (em_w σ dA ρ hp).set a (ρ a, .inr (c0, (fs.map (em_v σ ρ)).set fk (em_v σ ρ (.int x)))) = em_w σ dA ρ (hp.set a (.inr (c0, fs.set fk (.int x)))) := by
            rw [← List.map_set]
            exact em_w_set (x := .inr (c0, fs.set fk (.int x)))
          have h9 := hk _ _ _ _ h8 ρ arr H1 locs1 hr hl (by rw [← e9]; exact hP1) (by rw [← e9]; exact hD1) hS1
          rw [hc] at h9
          exact h9
      · exact h.elim
    · exact h.elim
  · exact h.elim
theorem s_putZF (C : em_Cx p s m args c D cl A nL (em_tys dA) cc own) {pc n : Nat} {Cn ref : String} {T : u_T} {N ci fk index : Nat} (hd : decode cc pc = .ok (.putfield index, 3)) (hn : pc + 3 = n) (hc : cnt n = cnt pc) (hcl : em_Cl cl ci Cn T N) (hk9 : fk < N) (hw : Cond.fieldLink own index ref (T fk).2.1 (T fk).2.2.1 ∈ em_tb) (href : (T fk).1 = ref) (hfin : (T fk).2.2.2 = true) (hin2 : meth.name = "<init>") (hdecl : (T fk).1 = own) (hty : parseFieldDescriptor (T fk).2.2.1 = some .boolean) : em_Snd p l e R s m args below meth c D cl dA σ A nL cnt Pr Z Q pc (o_putZ ci fk n) := by
  intro k hk ls st hp h ρ arr H locs hr hl hP hD hS
  subst hn
  unfold o_putZ at h
  split at h
  · rename_i x a r
    split at h
    · rename_i c0 fs he
      split at h
      · rename_i v hv
        cases hb : Nat.beq c0 ci with
        | false => rw [hb] at h; exact h.elim
        | true =>
          rw [hb] at h
          have hc0 := Nat.eq_of_beq_eq_true hb
          subst hc0
          have h8 := h.2
          rw [em_fs_eq, em_hs_eq] at h8
          rw [em_fn_eq] at hv
          obtain ⟨ty0, hty0⟩ := hcl.2.2.1
          refine va_putF C.1 C.2.1 C.2.2.2.2.1 hcl.2.1 ty0 hty0 hcl.2.2.2 C.2.2.2.1 C.2.2.2.2.2.1 hP hD hS a (em_w_get he) hcl.1 fk hk9 (C.2.2.2.2.1 _ hw) (fun x hx => by rw [← href]; exact hx) hfin hin2 hdecl hty (by rcases h.1 with z | z <;> subst z <;> rfl) (by rcases h.1 with z | z <;> subst z <;> rfl) (by rw [List.length_map]; exact (List.getElem?_eq_some_iff.mp hv).1) hd (fun H1 locs1 hP1 hD1 hS1 => ?_)
          have e9 : (em_w σ dA ρ hp).set a (ρ a, .inr (c0, (fs.map (em_v σ ρ)).set fk (em_v σ ρ (.int x)))) = em_w σ dA ρ (hp.set a (.inr (c0, fs.set fk (.int x)))) := by
            rw [← List.map_set]
            exact em_w_set (x := .inr (c0, fs.set fk (.int x)))
          have h9 := hk _ _ _ _ h8 ρ arr H1 locs1 hr hl (by rw [← e9]; exact hP1) (by rw [← e9]; exact hD1) hS1
          rw [hc] at h9
          exact h9
      · exact h.elim
    · exact h.elim
  · exact h.elim
def o_putR (ci k : Nat) (n : Nat) : em_Op := fun _ K ls st hp => match st with | .ref x :: .ref a :: r => (match em_hn hp a with | some (.inr (c, fs)) => (match em_fn fs k with | some _ => bif Nat.beq c ci then em_fs fs k (.ref x) (fun fs' => em_hs hp a (.inr (c, fs')) (fun hp' => K n ls r hp')) else False | none => False) | _ => False) | _ => False
theorem s_putR (C : em_Cx p s m args c D cl A nL (em_tys dA) cc own) {pc n : Nat} {Cn ref : String} {T : u_T} {N ci fk index : Nat} (hd : decode cc pc = .ok (.putfield index, 3)) (hn : pc + 3 = n) (hc : cnt n = cnt pc) (hcl : em_Cl cl ci Cn T N) (hk9 : fk < N) (hw : Cond.fieldLink own index ref (T fk).2.1 (T fk).2.2.1 ∈ em_tb) (href : (T fk).1 = ref) (hfin : (T fk).2.2.2 = false) {fty : FieldType} (hfty : (∃ q, fty = .object q) ∨ ∃ q, fty = .array q) (hty : parseFieldDescriptor (T fk).2.2.1 = some fty) : em_Snd p l e R s m args below meth c D cl dA σ A nL cnt Pr Z Q pc (o_putR ci fk n) := by
  intro k hk ls st hp h ρ arr H locs hr hl hP hD hS
  subst hn
  unfold o_putR at h
  split at h
  · rename_i x a r
    split at h
    · rename_i c0 fs he
      split at h
      · rename_i v hv
        cases hb : Nat.beq c0 ci with
        | false => rw [hb] at h; exact h.elim
        | true =>
          rw [hb] at h
          have hc0 := Nat.eq_of_beq_eq_true hb
          subst hc0
          have h8 := h
          rw [em_fs_eq, em_hs_eq] at h8
          rw [em_fn_eq] at hv
          obtain ⟨ty0, hty0⟩ := hcl.2.2.1
          refine va_put C.1 C.2.1 C.2.2.2.2.1 hcl.2.1 ty0 hty0 hcl.2.2.2 C.2.2.2.1 C.2.2.2.2.2.1 hP hD hS a (em_w_get he) hcl.1 fk hk9 (C.2.2.2.2.1 _ hw) (fun x hx => by rw [← href]; exact hx) hfin hty (by rcases hfty with ⟨q, rfl⟩ | ⟨q, rfl⟩ <;> rfl) (by rcases hfty with ⟨q, rfl⟩ | ⟨q, rfl⟩ <;> rfl) (by rw [List.length_map]; exact (List.getElem?_eq_some_iff.mp hv).1) hd (fun H1 locs1 hP1 hD1 hS1 => ?_)
          have e9 : (em_w σ dA ρ hp).set a (ρ a, .inr (c0, (fs.map (em_v σ ρ)).set fk (em_v σ ρ (.ref x)))) = em_w σ dA ρ (hp.set a (.inr (c0, fs.set fk (.ref x)))) := by
            rw [← List.map_set]
            exact em_w_set (x := .inr (c0, fs.set fk (.ref x)))
          have h9 := hk _ _ _ _ h8 ρ arr H1 locs1 hr hl (by rw [← e9]; exact hP1) (by rw [← e9]; exact hD1) hS1
          rw [hc] at h9
          exact h9
      · exact h.elim
    · exact h.elim
  · exact h.elim
theorem s_putRF (C : em_Cx p s m args c D cl A nL (em_tys dA) cc own) {pc n : Nat} {Cn ref : String} {T : u_T} {N ci fk index : Nat} (hd : decode cc pc = .ok (.putfield index, 3)) (hn : pc + 3 = n) (hc : cnt n = cnt pc) (hcl : em_Cl cl ci Cn T N) (hk9 : fk < N) (hw : Cond.fieldLink own index ref (T fk).2.1 (T fk).2.2.1 ∈ em_tb) (href : (T fk).1 = ref) (hfin : (T fk).2.2.2 = true) (hin2 : meth.name = "<init>") (hdecl : (T fk).1 = own) {fty : FieldType} (hfty : (∃ q, fty = .object q) ∨ ∃ q, fty = .array q) (hty : parseFieldDescriptor (T fk).2.2.1 = some fty) : em_Snd p l e R s m args below meth c D cl dA σ A nL cnt Pr Z Q pc (o_putR ci fk n) := by
  intro k hk ls st hp h ρ arr H locs hr hl hP hD hS
  subst hn
  unfold o_putR at h
  split at h
  · rename_i x a r
    split at h
    · rename_i c0 fs he
      split at h
      · rename_i v hv
        cases hb : Nat.beq c0 ci with
        | false => rw [hb] at h; exact h.elim
        | true =>
          rw [hb] at h
          have hc0 := Nat.eq_of_beq_eq_true hb
          subst hc0
          have h8 := h
          rw [em_fs_eq, em_hs_eq] at h8
          rw [em_fn_eq] at hv
          obtain ⟨ty0, hty0⟩ := hcl.2.2.1
          refine va_putF C.1 C.2.1 C.2.2.2.2.1 hcl.2.1 ty0 hty0 hcl.2.2.2 C.2.2.2.1 C.2.2.2.2.2.1 hP hD hS a (em_w_get he) hcl.1 fk hk9 (C.2.2.2.2.1 _ hw) (fun x hx => by rw [← href]; exact hx) hfin hin2 hdecl hty (by rcases hfty with ⟨q, rfl⟩ | ⟨q, rfl⟩ <;> rfl) (by rcases hfty with ⟨q, rfl⟩ | ⟨q, rfl⟩ <;> rfl) (by rw [List.length_map]; exact (List.getElem?_eq_some_iff.mp hv).1) hd (fun H1 locs1 hP1 hD1 hS1 => ?_)
          have e9 : (em_w σ dA ρ hp).set a (ρ a, .inr (c0, (fs.map (em_v σ ρ)).set fk (em_v σ ρ (.ref x)))) = em_w σ dA ρ (hp.set a (.inr (c0, fs.set fk (.ref x)))) := by
            rw [← List.map_set]
            exact em_w_set (x := .inr (c0, fs.set fk (.ref x)))
          have h9 := hk _ _ _ _ h8 ρ arr H1 locs1 hr hl (by rw [← e9]; exact hP1) (by rw [← e9]; exact hD1) hS1
          rw [hc] at h9
          exact h9
      · exact h.elim
    · exact h.elim
  · exact h.elim
def o_aldI (tg : Nat) (n : Nat) : em_Op := fun _ K ls st hp => match st with | .int i :: .ref a :: r => (match em_hn hp a with | some (.inl (t, N, .inl f)) => bif (Nat.beq t tg && Nat.ble N 2147483647) then (∃ j : Nat, i = nI j ∧ j < N ∧ K n ls (.int (f j) :: r) hp) else False | _ => False) | _ => False
def o_aldL (tg : Nat) (n : Nat) : em_Op := fun _ K ls st hp => match st with | .int i :: .ref a :: r => (match em_hn hp a with | some (.inl (t, N, .inr (.inl f))) => bif (Nat.beq t tg && Nat.ble N 2147483647) then (∃ j : Nat, i = nI j ∧ j < N ∧ K n ls (.long (f j) :: r) hp) else False | _ => False) | _ => False
theorem s_iald (C : em_Cx p s m args c D cl A nL (em_tys dA) cc own) {pc n : Nat} (hd : decode cc pc = .ok (.iaload, 1)) (hn : pc + 1 = n) (hc : cnt n = cnt pc) : em_Snd p l e R s m args below meth c D cl dA σ A nL cnt Pr Z Q pc (o_aldI 0 n) := by
  intro k hk ls st hp h ρ arr H locs hr hl hP hD hS
  subst hn
  unfold o_aldI at h
  split at h
  · rename_i i a r
    split at h
    · rename_i t N f he
      cases hb : (Nat.beq t 0 && Nat.ble N 2147483647) with
      | false => rw [hb] at h; exact h.elim
      | true =>
        rw [hb] at h
        rw [Bool.and_eq_true] at hb
        have hc0 := Nat.eq_of_beq_eq_true hb.1
        subst hc0
        obtain ⟨j, rfl, hj, h⟩ := h
        have hN := Nat.le_of_ble_eq_true hb.2
        have h9 := hk _ _ _ _ h ρ arr H locs hr hl hP hD hS
        rw [hc] at h9
        refine va_iald C.1 C.2.1 C.2.2.2.2.2.1 hP a 0 (em_w_get he) rfl (vp_in_nI hj (by omega)) hd ?_
        rw [nI_clamp (by omega)]
        exact h9
    · exact h.elim
  · exact h.elim
theorem s_bald (C : em_Cx p s m args c D cl A nL (em_tys dA) cc own) {pc n : Nat} (hd : decode cc pc = .ok (.baload, 1)) (hn : pc + 1 = n) (hc : cnt n = cnt pc) : em_Snd p l e R s m args below meth c D cl dA σ A nL cnt Pr Z Q pc (o_aldI 2 n) := by
  intro k hk ls st hp h ρ arr H locs hr hl hP hD hS
  subst hn
  unfold o_aldI at h
  split at h
  · rename_i i a r
    split at h
    · rename_i t N f he
      cases hb : (Nat.beq t 2 && Nat.ble N 2147483647) with
      | false => rw [hb] at h; exact h.elim
      | true =>
        rw [hb] at h
        rw [Bool.and_eq_true] at hb
        have hc0 := Nat.eq_of_beq_eq_true hb.1
        subst hc0
        obtain ⟨j, rfl, hj, h⟩ := h
        have hN := Nat.le_of_ble_eq_true hb.2
        have h9 := hk _ _ _ _ h ρ arr H locs hr hl hP hD hS
        rw [hc] at h9
        refine va_bald C.1 C.2.1 C.2.2.2.2.2.1 hP a 2 (em_w_get he) rfl (vp_in_nI hj (by omega)) hd ?_
        rw [nI_clamp (by omega)]
        exact h9
    · exact h.elim
  · exact h.elim
theorem s_zald (C : em_Cx p s m args c D cl A nL (em_tys dA) cc own) {pc n : Nat} (hd : decode cc pc = .ok (.baload, 1)) (hn : pc + 1 = n) (hc : cnt n = cnt pc) : em_Snd p l e R s m args below meth c D cl dA σ A nL cnt Pr Z Q pc (o_aldI 3 n) := by
  intro k hk ls st hp h ρ arr H locs hr hl hP hD hS
  subst hn
  unfold o_aldI at h
  split at h
  · rename_i i a r
    split at h
    · rename_i t N f he
      cases hb : (Nat.beq t 3 && Nat.ble N 2147483647) with
      | false => rw [hb] at h; exact h.elim
      | true =>
        rw [hb] at h
        rw [Bool.and_eq_true] at hb
        have hc0 := Nat.eq_of_beq_eq_true hb.1
        subst hc0
        obtain ⟨j, rfl, hj, h⟩ := h
        have hN := Nat.le_of_ble_eq_true hb.2
        have h9 := hk _ _ _ _ h ρ arr H locs hr hl hP hD hS
        rw [hc] at h9
        refine va_zald C.1 C.2.1 C.2.2.2.2.2.1 hP a 3 (em_w_get he) rfl (vp_in_nI hj (by omega)) hd ?_
        rw [nI_clamp (by omega)]
        exact h9
    · exact h.elim
  · exact h.elim
theorem s_lald (C : em_Cx p s m args c D cl A nL (em_tys dA) cc own) {pc n : Nat} (hd : decode cc pc = .ok (.laload, 1)) (hn : pc + 1 = n) (hc : cnt n = cnt pc) : em_Snd p l e R s m args below meth c D cl dA σ A nL cnt Pr Z Q pc (o_aldL 1 n) := by
  intro k hk ls st hp h ρ arr H locs hr hl hP hD hS
  subst hn
  unfold o_aldL at h
  split at h
  · rename_i i a r
    split at h
    · rename_i t N f he
      cases hb : (Nat.beq t 1 && Nat.ble N 2147483647) with
      | false => rw [hb] at h; exact h.elim
      | true =>
        rw [hb] at h
        rw [Bool.and_eq_true] at hb
        have hc0 := Nat.eq_of_beq_eq_true hb.1
        subst hc0
        obtain ⟨j, rfl, hj, h⟩ := h
        have hN := Nat.le_of_ble_eq_true hb.2
        have h9 := hk _ _ _ _ h ρ arr H locs hr hl hP hD hS
        rw [hc] at h9
        refine va_lald C.1 C.2.1 C.2.2.2.2.2.1 hP a 1 (em_w_get he) rfl (vp_in_nI hj (by omega)) hd ?_
        rw [nI_clamp (by omega)]
        exact h9
    · exact h.elim
  · exact h.elim
def o_iast (n : Nat) : em_Op := fun _ K ls st hp => match st with | .int x :: .int i :: .ref a :: r => (match em_hn hp a with | some (.inl (t, N, .inl f)) => bif (Nat.beq t 0 && Nat.ble N 2147483647) then (∃ j : Nat, i = nI j ∧ j < N ∧ em_hs hp a (.inl (t, N, .inl (upd f j x))) (fun hp' => K n ls r hp')) else False | _ => False) | _ => False
theorem s_iast (C : em_Cx p s m args c D cl A nL (em_tys dA) cc own) {pc n : Nat} (hd : decode cc pc = .ok (.iastore, 1)) (hn : pc + 1 = n) (hc : cnt n = cnt pc) : em_Snd p l e R s m args below meth c D cl dA σ A nL cnt Pr Z Q pc (o_iast n) := by
  intro k hk ls st hp h ρ arr H locs hr hl hP hD hS
  subst hn
  unfold o_iast at h
  split at h
  · rename_i x i a r
    split at h
    · rename_i t N f he
      cases hb : (Nat.beq t 0 && Nat.ble N 2147483647) with
      | false => rw [hb] at h; exact h.elim
      | true =>
        rw [hb] at h
        rw [Bool.and_eq_true] at hb
        have hc0 := Nat.eq_of_beq_eq_true hb.1
        subst hc0
        obtain ⟨j, rfl, hj, h⟩ := h
        have hN := Nat.le_of_ble_eq_true hb.2
        rw [em_hs_eq] at h
        refine va_iast C.1 C.2.1 C.2.2.2.2.2.1 hP hD hS a 0 (em_w_get he) rfl (vp_in_nI hj (by omega)) hd (fun H1 locs1 hP1 hD1 hS1 => ?_)
        rw [nI_clamp (by omega)] at hP1 hD1
        have e9 : (em_w σ dA ρ hp).set a (ρ a, .inl (dA 0, N, .inl (upd f j x))) = em_w σ dA ρ (hp.set a (.inl (0, N, .inl (upd f j x)))) := em_w_set (x := .inl (0, N, .inl (upd f j x)))
        have h9 := hk _ _ _ _ h ρ arr H1 locs1 hr hl (by rw [← e9]; exact hP1) (by rw [← e9]; exact hD1) hS1
        rw [hc] at h9
        exact h9
    · exact h.elim
  · exact h.elim
def o_bast (n : Nat) : em_Op := fun _ K ls st hp => match st with | .int x :: .int i :: .ref a :: r => (match em_hn hp a with | some (.inl (t, N, .inl f)) => bif (Nat.beq t 2 && Nat.ble N 2147483647) then (∃ j : Nat, i = nI j ∧ j < N ∧ em_hs hp a (.inl (t, N, .inl (upd f j (vp_nar .byte x)))) (fun hp' => K n ls r hp')) else False | _ => False) | _ => False
theorem s_bast (C : em_Cx p s m args c D cl A nL (em_tys dA) cc own) {pc n : Nat} (hd : decode cc pc = .ok (.bastore, 1)) (hn : pc + 1 = n) (hc : cnt n = cnt pc) : em_Snd p l e R s m args below meth c D cl dA σ A nL cnt Pr Z Q pc (o_bast n) := by
  intro k hk ls st hp h ρ arr H locs hr hl hP hD hS
  subst hn
  unfold o_bast at h
  split at h
  · rename_i x i a r
    split at h
    · rename_i t N f he
      cases hb : (Nat.beq t 2 && Nat.ble N 2147483647) with
      | false => rw [hb] at h; exact h.elim
      | true =>
        rw [hb] at h
        rw [Bool.and_eq_true] at hb
        have hc0 := Nat.eq_of_beq_eq_true hb.1
        subst hc0
        obtain ⟨j, rfl, hj, h⟩ := h
        have hN := Nat.le_of_ble_eq_true hb.2
        rw [em_hs_eq] at h
        refine va_bast C.1 C.2.1 C.2.2.2.2.2.1 hP hD hS a 2 (em_w_get he) rfl (vp_in_nI hj (by omega)) hd (fun H1 locs1 hP1 hD1 hS1 => ?_)
        rw [nI_clamp (by omega)] at hP1 hD1
        have e9 : (em_w σ dA ρ hp).set a (ρ a, .inl (dA 2, N, .inl (upd f j (vp_nar .byte x)))) = em_w σ dA ρ (hp.set a (.inl (2, N, .inl (upd f j (vp_nar .byte x))))) := em_w_set (x := .inl (2, N, .inl (upd f j (vp_nar .byte x))))
        have h9 := hk _ _ _ _ h ρ arr H1 locs1 hr hl (by rw [← e9]; exact hP1) (by rw [← e9]; exact hD1) hS1
        rw [hc] at h9
        exact h9
    · exact h.elim
  · exact h.elim
def o_zast (n : Nat) : em_Op := fun _ K ls st hp => match st with | .int x :: .int i :: .ref a :: r => (match em_hn hp a with | some (.inl (t, N, .inl f)) => bif (Nat.beq t 3 && Nat.ble N 2147483647) then (∃ j : Nat, i = nI j ∧ j < N ∧ em_hs hp a (.inl (t, N, .inl (upd f j (vp_nar .boolean x)))) (fun hp' => K n ls r hp')) else False | _ => False) | _ => False
theorem s_zast (C : em_Cx p s m args c D cl A nL (em_tys dA) cc own) {pc n : Nat} (hd : decode cc pc = .ok (.bastore, 1)) (hn : pc + 1 = n) (hc : cnt n = cnt pc) : em_Snd p l e R s m args below meth c D cl dA σ A nL cnt Pr Z Q pc (o_zast n) := by
  intro k hk ls st hp h ρ arr H locs hr hl hP hD hS
  subst hn
  unfold o_zast at h
  split at h
  · rename_i x i a r
    split at h
    · rename_i t N f he
      cases hb : (Nat.beq t 3 && Nat.ble N 2147483647) with
      | false => rw [hb] at h; exact h.elim
      | true =>
        rw [hb] at h
        rw [Bool.and_eq_true] at hb
        have hc0 := Nat.eq_of_beq_eq_true hb.1
        subst hc0
        obtain ⟨j, rfl, hj, h⟩ := h
        have hN := Nat.le_of_ble_eq_true hb.2
        rw [em_hs_eq] at h
        refine va_zast C.1 C.2.1 C.2.2.2.2.2.1 hP hD hS a 3 (em_w_get he) rfl (vp_in_nI hj (by omega)) hd (fun H1 locs1 hP1 hD1 hS1 => ?_)
        rw [nI_clamp (by omega)] at hP1 hD1
        have e9 : (em_w σ dA ρ hp).set a (ρ a, .inl (dA 3, N, .inl (upd f j (vp_nar .boolean x)))) = em_w σ dA ρ (hp.set a (.inl (3, N, .inl (upd f j (vp_nar .boolean x))))) := em_w_set (x := .inl (3, N, .inl (upd f j (vp_nar .boolean x))))
        have h9 := hk _ _ _ _ h ρ arr H1 locs1 hr hl (by rw [← e9]; exact hP1) (by rw [← e9]; exact hD1) hS1
        rw [hc] at h9
        exact h9
    · exact h.elim
  · exact h.elim
def o_last (n : Nat) : em_Op := fun _ K ls st hp => match st with | .long x :: .int i :: .ref a :: r => (match em_hn hp a with | some (.inl (t, N, .inr (.inl f))) => bif (Nat.beq t 1 && Nat.ble N 2147483647) then (∃ j : Nat, i = nI j ∧ j < N ∧ em_hs hp a (.inl (t, N, .inr (.inl (vp_updL f j x)))) (fun hp' => K n ls r hp')) else False | _ => False) | _ => False
theorem s_last (C : em_Cx p s m args c D cl A nL (em_tys dA) cc own) {pc n : Nat} (hd : decode cc pc = .ok (.lastore, 1)) (hn : pc + 1 = n) (hc : cnt n = cnt pc) : em_Snd p l e R s m args below meth c D cl dA σ A nL cnt Pr Z Q pc (o_last n) := by
  intro k hk ls st hp h ρ arr H locs hr hl hP hD hS
  subst hn
  unfold o_last at h
  split at h
  · rename_i x i a r
    split at h
    · rename_i t N f he
      cases hb : (Nat.beq t 1 && Nat.ble N 2147483647) with
      | false => rw [hb] at h; exact h.elim
      | true =>
        rw [hb] at h
        rw [Bool.and_eq_true] at hb
        have hc0 := Nat.eq_of_beq_eq_true hb.1
        subst hc0
        obtain ⟨j, rfl, hj, h⟩ := h
        have hN := Nat.le_of_ble_eq_true hb.2
        rw [em_hs_eq] at h
        refine va_last C.1 C.2.1 C.2.2.2.2.2.1 hP hD hS a 1 (em_w_get he) rfl (vp_in_nI hj (by omega)) hd (fun H1 locs1 hP1 hD1 hS1 => ?_)
        rw [nI_clamp (by omega)] at hP1 hD1
        have e9 : (em_w σ dA ρ hp).set a (ρ a, .inl (dA 1, N, .inr (.inl (vp_updL f j x)))) = em_w σ dA ρ (hp.set a (.inl (1, N, .inr (.inl (vp_updL f j x))))) := em_w_set (x := .inl (1, N, .inr (.inl (vp_updL f j x))))
        have h9 := hk _ _ _ _ h ρ arr H1 locs1 hr hl (by rw [← e9]; exact hP1) (by rw [← e9]; exact hD1) hS1
        rw [hc] at h9
        exact h9
    · exact h.elim
  · exact h.elim
def o_aaload (n : Nat) : em_Op := fun _ K ls st hp => match st with | .int i :: .ref a :: r => (match em_hn hp a with | some (.inl (t, N, .inr (.inr (.inr (.inr f))))) => bif (Nat.beq t 4 && Nat.ble N 2147483647) then (∃ j : Nat, i = nI j ∧ j < N ∧ (f j = none → K n ls (.null :: r) hp) ∧ (∀ q, f j = some q → K n ls (.ref q :: r) hp)) else False | _ => False) | _ => False
theorem s_aaload (C : em_Cx p s m args c D cl A nL (em_tys dA) cc own) {pc n : Nat} (hd : decode cc pc = .ok (.aaload, 1)) (hn : pc + 1 = n) (hc : cnt n = cnt pc) : em_Snd p l e R s m args below meth c D cl dA σ A nL cnt Pr Z Q pc (o_aaload n) := by
  intro k hk ls st hp h ρ arr H locs hr hl hP hD hS
  subst hn
  unfold o_aaload at h
  split at h
  · rename_i i a r
    split at h
    · rename_i t N f he
      cases hb : (Nat.beq t 4 && Nat.ble N 2147483647) with
      | false => rw [hb] at h; exact h.elim
      | true =>
        rw [hb] at h
        rw [Bool.and_eq_true] at hb
        have hc0 := Nat.eq_of_beq_eq_true hb.1
        subst hc0
        obtain ⟨j, rfl, hj, h1, h2⟩ := h
        have hN := Nat.le_of_ble_eq_true hb.2
        refine va_aldq C.1 C.2.1 C.2.2.2.2.2.1 hP a 4 (em_w_get he) rfl (vp_in_nI hj (by omega)) hd ?_
        rw [nI_clamp (by omega)]
        cases hf : f j with
        | none =>
          have h9 := hk _ _ _ _ (h1 hf) ρ arr H locs hr hl hP hD hS
          rw [hc] at h9
          exact h9
        | some q =>
          have h9 := hk _ _ _ _ (h2 q hf) ρ arr H locs hr hl hP hD hS
          rw [hc] at h9
          exact h9
    · exact h.elim
  · exact h.elim
def o_aastore (ci : Nat) (n : Nat) : em_Op := fun _ K ls st hp => match st with | .ref v :: .int i :: .ref a :: r => (match em_hn hp a with | some (.inl (t, N, .inr (.inr (.inr (.inr f))))) => (match em_hn hp v with | some (.inr (c, _)) => bif (Nat.beq t 4 && Nat.ble N 2147483647 && Nat.beq c ci) then (∃ j : Nat, i = nI j ∧ j < N ∧ em_hs hp a (.inl (t, N, .inr (.inr (.inr (.inr (va_up f j (some v))))))) (fun hp' => K n ls r hp')) else False | _ => False) | _ => False) | _ => False
theorem s_aastore (C : em_Cx p s m args c D cl A nL (em_tys dA) cc own) {pc n : Nat} {ci : Nat} {T : u_T} {N9 : Nat} (hd : decode cc pc = .ok (.aastore, 1)) (hn : pc + 1 = n) (hc : cnt n = cnt pc) (hcl : em_Cl cl ci "WedApart$Town" T N9) : em_Snd p l e R s m args below meth c D cl dA σ A nL cnt Pr Z Q pc (o_aastore ci n) := by
  intro k hk ls st hp h ρ arr H locs hr hl hP hD hS
  subst hn
  unfold o_aastore at h
  split at h
  · rename_i v i a r
    split at h
    · rename_i t N f he
      split at h
      · rename_i c0 vs hev
        cases hb : (Nat.beq t 4 && Nat.ble N 2147483647 && Nat.beq c0 ci) with
        | false => rw [hb] at h; exact h.elim
        | true =>
          rw [hb] at h
          rw [Bool.and_eq_true, Bool.and_eq_true] at hb
          have hc0 := Nat.eq_of_beq_eq_true hb.1.1
          have hc1 := Nat.eq_of_beq_eq_true hb.2
          subst hc0
          subst hc1
          obtain ⟨j, rfl, hj, h⟩ := h
          have hN := Nat.le_of_ble_eq_true hb.1.2
          rw [em_hs_eq] at h
          refine va_astq C.1 C.2.1 C.2.2.2.2.2.1 hP hD hS a 4 v c0 (r := ("WedApart$Town", T, N9)) (em_w_get he) rfl (em_w_get hev) hcl.1 (vp_in_nI hj (by omega)) hd (fun H1 locs1 hP1 hD1 hS1 => ?_)
          rw [nI_clamp (by omega)] at hP1 hD1
          have e8 : (va_up (fun i => (f i).map ρ) j (some (ρ v))) = fun i => (va_up f j (some v) i).map ρ := by
            funext q
            simp only [va_up]
            by_cases hq : q = j
            · rw [if_pos hq, if_pos hq]; rfl
            · rw [if_neg hq, if_neg hq]
          rw [e8] at hP1 hD1
          have e9 : (em_w σ dA ρ hp).set a (ρ a, .inl (dA 4, N, .inr (.inr (.inr (.inr (fun i => (va_up f j (some v) i).map ρ)))))) = em_w σ dA ρ (hp.set a (.inl (4, N, .inr (.inr (.inr (.inr (va_up f j (some v)))))))) := em_w_set (x := .inl (4, N, .inr (.inr (.inr (.inr (va_up f j (some v)))))))
          have h9 := hk _ _ _ _ h ρ arr H1 locs1 hr hl (by rw [← e9]; exact hP1) (by rw [← e9]; exact hD1) hS1
          rw [hc] at h9
          exact h9
      · exact h.elim
    · exact h.elim
  · exact h.elim
def o_ifnonnull (t n : Nat) : em_Op := fun _ k ls st hp => match st with | .ref _ :: r => k t ls r hp | .null :: r => k n ls r hp | _ => False
theorem s_ifnonnull (C : em_Cx p s m args c D cl A nL (em_tys dA) cc own) {pc t n : Nat} {off : Int} (hd : decode cc pc = .ok (.ifnonnull off, 3)) (ht : (pc : Int) + off = (t : Int)) (hn : pc + 3 = n) (hc : cnt n = cnt pc) (hc2 : cnt t = cnt pc) : em_Snd p l e R s m args below meth c D cl dA σ A nL cnt Pr Z Q pc (o_ifnonnull t n) := by
  intro k hk ls st hp h ρ arr H locs hr hl hP hD hS
  subst hn
  unfold o_ifnonnull at h
  split at h
  · have h9 := hk _ _ _ _ h ρ arr H locs hr hl hP hD hS
    rw [hc2] at h9
    exact lv_ifnonnull C.1 C.2.1 hd ht h9
  · have h9 := hk _ _ _ _ h ρ arr H locs hr hl hP hD hS
    rw [hc] at h9
    exact lv_ifnonnullN C.1 C.2.1 hd h9
  · exact h.elim
def o_astoreN (i n : Nat) : em_Op := fun Q k ls st hp => match st with | .null :: r => em_st1 ls i .null (fun ls' => k n ls' r hp) | _ => o_astore i n Q k ls st hp
def o_aloadN (i n : Nat) : em_Op := fun Q k ls st hp => match em_nth ls i with | some .null => k n ls (.null :: st) hp | _ => o_aload i n Q k ls st hp
end EMB

/-! ===== contracts ===== -/
def em_pv : Option Value → Prop
  | none => True
  | some (.int _) => True
  | some (.long _) => True
  | _ => False
theorem em_pv_v {v : Value} {σ ρ : Nat → Nat} (h : em_pv (some v)) : em_v σ ρ v = v := by cases v <;> first | rfl | exact h.elim
abbrev em_FT : Type := (Nat → Prop) → State → Heap → Prop
def em_Fok (F : em_FT) : Prop := ∀ (A B : Nat → Prop) (u U : State) (H H1 : Heap), u.WarmedH U.vm → (∀ a, a < H.size → ¬ A a → H1[a]? = H[a]?) → (∀ q, B q → A q) → F A u H → F B U H1
def em_B (F : em_FT) (D : va_G) (cl : List vw_C) (dA : Nat → ClassId) (σ : Nat → Nat) (ρ : Nat → Nat) (hp : em_H) (sz : Nat) : State → Prop := fun U => U.heap.size = sz ∧ va_P D cl (em_w σ dA ρ hp) U.heap ∧ va_K D cl (em_tys dA) U ∧ va_D (fun _ => True) (em_w σ dA ρ hp) ∧ F (va_A (em_w σ dA ρ hp) sz) U U.heap
def em_Qc (D : va_G) (cl : List vw_C) (dA : Nat → ClassId) (σ : Nat → Nat) (Pr : (Nat → Nat) → Prop) (Q : em_Q) (A : Nat → Prop) : Array Value → State → Outcome → State → Prop := fun _ st oc t =>
  (∃ (r : Option Value) (ρ' : Nat → Nat) (hp' : em_H), oc = .returned r ∧ em_pv r ∧ Q r hp' ∧ Pr ρ' ∧ va_P D cl (em_w σ dA ρ' hp') t.heap ∧ va_D A (em_w σ dA ρ' hp')) ∧ va_F A st t
/-- a method that makes no cell: its contract -/
def em_CT (l : Launch) (D : va_G) (cl : List vw_C) (dA : Nat → ClassId) (σ : Nat → Nat) (F : em_FT) (y : MethodName) (bytes : ByteArray) (maxL : Nat) (ret : Option FieldType) (rm : Room) (sp : em_Sp) : Prop :=
  ∀ (ρ : Nat → Nat) (hp : em_H) (sz : Nat) (av : List Value) (Q : em_Q), sp av hp Q → Met l y (Cond.code y bytes maxL ret :: em_tb) rm (va_Pc (av.map (em_v σ ρ)) (em_B F D cl dA σ ρ hp sz)) (em_Qc D cl dA σ (fun ρ' => ρ' = ρ) Q (va_A (em_w σ dA ρ hp) sz)) 0 0 (va_A (em_w σ dA ρ hp) sz)


/-- the locals of a call: the arguments in order, a long over two places -/
def em_args : List Value → em_L
  | [] => []
  | .long x :: vs => some (.long x) :: none :: em_args vs
  | .double x :: vs => some (.double x) :: none :: em_args vs
  | v :: vs => some v :: em_args vs
def em_pad : Nat → em_L → em_L
  | 0, _ => []
  | n + 1, [] => none :: em_pad n []
  | n + 1, x :: l => x :: em_pad n l
theorem em_pad_len : ∀ (n : Nat) (l : em_L), (em_pad n l).length = n
  | 0, _ => rfl
  | n + 1, [] => by show (em_pad n []).length + 1 = _; rw [em_pad_len n []]
  | n + 1, x :: l => by show (em_pad n l).length + 1 = _; rw [em_pad_len n l]
theorem em_pad_nth : ∀ (n : Nat) (l : em_L) (i : Nat) (v : Value), em_nth (em_pad n l) i = some v → em_nth l i = some v
  | 0, _, i, v, h => by cases h
  | n + 1, [], 0, v, h => by cases h
  | n + 1, [], i + 1, v, h => em_pad_nth n [] i v h
  | n + 1, x :: l, 0, v, h => h
  | n + 1, x :: l, i + 1, v, h => em_pad_nth n l i v h
theorem em_args_mem {σ ρ : Nat → Nat} : ∀ (vs : List Value) (o i : Nat) (v : Value), em_nth (em_args vs) i = some v → (o + i, em_v σ ρ v) ∈ lv_args o (vs.map (em_v σ ρ))
  | [], o, i, v, h => by cases h
  | u :: vs, o, i, v, h => by
    by_cases hc : u.category = 2
    · have hc' : (em_v σ ρ u).category = 2 := by rw [em_v_cat]; exact hc
      have e : em_args (u :: vs) = some u :: none :: em_args vs := by
        cases u <;> first | rfl | (simp [Value.category] at hc)
      rw [e] at h
      show (o + i, _) ∈ (o, em_v σ ρ u) :: lv_args (if (em_v σ ρ u).category = 2 then o + 2 else o + 1) (vs.map (em_v σ ρ))
      rw [if_pos hc']
      match i, h with
      | 0, h => cases h; exact List.mem_cons_self
      | 1, h => cases h
      | i + 2, h =>
        have := em_args_mem (σ := σ) (ρ := ρ) vs (o + 2) i v h
        rw [show o + 2 + i = o + (i + 2) by omega] at this
        exact List.mem_cons_of_mem _ this
    · have hc' : ¬ (em_v σ ρ u).category = 2 := by rw [em_v_cat]; exact hc
      have e : em_args (u :: vs) = some u :: em_args vs := by
        cases u <;> first | rfl | (simp [Value.category] at hc)
      rw [e] at h
      show (o + i, _) ∈ (o, em_v σ ρ u) :: lv_args (if (em_v σ ρ u).category = 2 then o + 2 else o + 1) (vs.map (em_v σ ρ))
      rw [if_neg hc']
      match i, h with
      | 0, h => cases h; exact List.mem_cons_self
      | i + 1, h =>
        have := em_args_mem (σ := σ) (ρ := ρ) vs (o + 1) i v h
        rw [show o + 1 + i = o + (i + 1) by omega] at this
        exact List.mem_cons_of_mem _ this
theorem em_sl_len {σ ρ : Nat → Nat} : ∀ (vs : List Value), (lg_sl (vs.map (em_v σ ρ))).length = (em_args vs).length
  | [] => rfl
  | u :: vs => by
    have ih := em_sl_len (σ := σ) (ρ := ρ) vs
    show (List.flatMap _ (em_v σ ρ u :: vs.map (em_v σ ρ))).length = _
    rw [List.flatMap_cons, List.length_append]
    have ih' : (List.flatMap (fun v : Value => if v.category = 2 then [Slot.val v, Slot.second] else [Slot.val v]) (vs.map (em_v σ ρ))).length = (em_args vs).length := ih
    rw [ih', em_v_cat]
    cases u <;> simp [Value.category, em_args] <;> omega
/-- what a method's ops owe: from its start, under any reading K of the places that is closed under them -/
def em_Me (T : List (Nat × em_Op)) (nL : Nat) (sp : em_Sp) : Prop :=
  ∀ (Q : em_Q) (K : em_K), (∀ a b pc ls st hp, em_wp Q K ((T.drop a).take b) pc ls st hp → K pc ls st hp) → (∀ pc ls ls' st hp, em_le ls' ls → K pc ls' st hp → K pc ls st hp) →
    ∀ av hp, sp av hp Q → (em_args av).length ≤ nL ∧ K 0 (em_pad nL (em_args av)) [] hp
theorem em_CT_of {l : Launch} {D : va_G} {cl : List vw_C} {dA : Nat → ClassId} {σ : Nat → Nat} {F : em_FT} {y : MethodName} {bytes : ByteArray} {maxL : Nat} {ret : Option FieldType} {rm : Room} {sp : em_Sp} {T : List (Nat × em_Op)} (hFok : em_Fok F) (hy : plainName y.cls = true)
    (hT : ∀ (p : Program) (e : Env) (s : State) (m : MethodId) (args : Array Value) (below : List Frame) (meth : Method) (c : Code) (A : Nat → Prop) (ρ : Nat → Nat) (Q : em_Q), em_Cx p s m args c D cl A maxL (em_tys dA) bytes y.cls → em_Fok F → F A s s.heap → meth.sig.returnType = ret → meth.locks = false → meth.name = y.name →
      ∀ q ∈ T, em_Snd p l e rm s m args below meth c D cl dA σ A maxL (fun _ => (0, 0)) (fun ρ' => ρ' = ρ) (MQ below (em_Qc D cl dA σ (fun ρ' => ρ' = ρ) Q A) args s 0 0 A) Q q.1 q.2)
    (hM : em_Me T maxL sp) : em_CT l D cl dA σ F y bytes maxL ret rm sp := by
  intro ρ hp sz av Q hsp
  refine Met.ofW (cc := bytes) (maxL := maxL) (ret := ret) hy rfl ?_
  intro p e s m args below meth c s₁ B hml hv
  obtain ⟨rfl, hsz, hP, hK, hD0, hF⟩ := hv
  have hts : ∀ w ∈ em_tb, w.before ((av.map (em_v σ ρ)).toArray) s = true := fun w hw => atoms_spec (ws := Cond.code y bytes maxL ret :: em_tb) B.pre w (List.mem_cons_of_mem _ hw)
  have hown : s.vm.findClass y.cls = some m.cls := findClass_of_methodNamed B.named
  subst hsz
  have hD := hD0.self (sz := s.heap.size)
  have hA : ∀ q : Nat, s.heap.size ≤ q → va_A (em_w σ dA ρ hp) s.heap.size q := fun q h => Or.inr h
  have hC : em_Cx p s m ((av.map (em_v σ ρ)).toArray) c D cl (va_A (em_w σ dA ρ hp) s.heap.size) maxL (em_tys dA) bytes y.cls := ⟨B.exec, B.bytes, hml, hown, hts, hK, hA⟩
  have hS := hT p e s m _ below meth c (va_A (em_w σ dA ρ hp) s.heap.size) ρ Q hC hFok hF B.returns B.notSynchronized (name_of_methodNamed B.named B.method).1
  obtain ⟨hlen, hK0⟩ := hM Q (em_Ok p l e rm s m ((av.map (em_v σ ρ)).toArray) below meth c D cl dA σ (va_A (em_w σ dA ρ hp) s.heap.size) maxL (fun _ => (0, 0)) (fun ρ' => ρ' = ρ) (MQ below (em_Qc D cl dA σ (fun ρ' => ρ' = ρ) Q (va_A (em_w σ dA ρ hp) s.heap.size)) ((av.map (em_v σ ρ)).toArray) s 0 0 (va_A (em_w σ dA ρ hp) s.heap.size)))
    (fun a b pc ls st hp2 h => em_wp_snd hS _ (fun q hq => List.mem_of_mem_drop (List.mem_of_mem_take hq)) pc ls st hp2 h) (fun pc ls ls' st hp2 h k => em_Ok_le h k) av hp hsp
  have hl := lv_entry (av.map (em_v σ ρ)) (n := maxL) (by rw [em_sl_len]; exact hlen)
  rw [lg_entry_eq]
  generalize (lg_sl (av.map (em_v σ ρ)) ++ List.replicate (maxL - (lg_sl (av.map (em_v σ ρ))).length) Slot.unset).toArray = arr at hl ⊢
  have hLH : em_LH σ ρ arr maxL (em_pad maxL (em_args av)) := by
    refine ⟨em_pad_len _ _, hl.1, hl.2.1, fun q hq => ?_⟩
    obtain ⟨i, v, h1, rfl⟩ := em_al_to _ 0 q hq
    exact hl.2.2 _ (em_args_mem av 0 i v (em_pad_nth _ _ _ _ h1))
  exact hK0 ρ arr s.heap [] rfl hLH hP hD va_S.rf
section EMC
variable {p : Program} {l : Launch} {e : Env} {R : Room} {s : State} {m : MethodId} {args : Array Value} {below : List Frame} {meth : Method} {c : Code} {D : va_G} {cl : List vw_C} {dA : Nat → ClassId} {σ : Nat → Nat} {A : Nat → Prop} {nL : Nat} {cnt : Nat → Nat × Nat} {Pr : (Nat → Nat) → Prop} {Z : State → Prop}
variable {cc : ByteArray} {Q : em_Q} {own : String}
def o_iret : em_Op := fun Q _ _ st hp => match st with | .int v :: [] => Q (some (.int v)) hp | _ => False
def o_zret : em_Op := fun Q _ _ st hp => match st with | .int v :: [] => (v = 0 ∨ v = 1) ∧ Q (some (.int v)) hp | _ => False
def o_lret : em_Op := fun Q _ _ st hp => match st with | .long v :: [] => Q (some (.long v)) hp | _ => False
def o_vret : em_Op := fun Q _ _ st hp => match st with | [] => Q none hp | _ => False

theorem s_iret (C : em_Cx p s m args c D cl A nL (em_tys dA) cc own) {pc mc ms : Nat} (hd : decode cc pc = .ok (.ireturn, 1)) (hr9 : meth.sig.returnType = some .int) (hlk : meth.locks = false) (hcm : (cnt pc).1 ≤ mc ∧ (cnt pc).2 ≤ ms) : em_Snd p l e R s m args below meth c D cl dA σ A nL cnt Pr (MQ below (em_Qc D cl dA σ Pr Q A) args s mc ms A) Q pc o_iret := by
  intro k hk ls st hp h ρ arr H locs hr hl hP hD hS
  unfold o_iret at h
  split at h
  · rename_i v
    refine W.widen hcm.1 hcm.2 ?_
    exact W.iret C.1 C.2.1 hr9 (fun t ht hW => ⟨⟨some (.int v), ρ, hp, rfl, trivial, h, hr, by rw [ht]; exact hP, hD⟩, hS.F ht⟩) hS.2.2 hd hlk
  · exact h.elim
theorem s_zret (C : em_Cx p s m args c D cl A nL (em_tys dA) cc own) {pc mc ms : Nat} (hd : decode cc pc = .ok (.ireturn, 1)) (hr9 : meth.sig.returnType = some .boolean) (hlk : meth.locks = false) (hcm : (cnt pc).1 ≤ mc ∧ (cnt pc).2 ≤ ms) : em_Snd p l e R s m args below meth c D cl dA σ A nL cnt Pr (MQ below (em_Qc D cl dA σ Pr Q A) args s mc ms A) Q pc o_zret := by
  intro k hk ls st hp h ρ arr H locs hr hl hP hD hS
  unfold o_zret at h
  split at h
  · rename_i v
    refine W.widen hcm.1 hcm.2 ?_
    exact W.zret C.1 C.2.1 hr9 (by rcases h.1 with z | z <;> subst z <;> rfl) (fun t ht hW => ⟨⟨some (.int v), ρ, hp, rfl, trivial, h.2, hr, by rw [ht]; exact hP, hD⟩, hS.F ht⟩) hS.2.2 hd hlk
  · exact h.elim
theorem s_lret (C : em_Cx p s m args c D cl A nL (em_tys dA) cc own) {pc mc ms : Nat} (hd : decode cc pc = .ok (.lreturn, 1)) (hr9 : meth.sig.returnType = some .long) (hlk : meth.locks = false) (hcm : (cnt pc).1 ≤ mc ∧ (cnt pc).2 ≤ ms) : em_Snd p l e R s m args below meth c D cl dA σ A nL cnt Pr (MQ below (em_Qc D cl dA σ Pr Q A) args s mc ms A) Q pc o_lret := by
  intro k hk ls st hp h ρ arr H locs hr hl hP hD hS
  unfold o_lret at h
  split at h
  · rename_i v
    refine W.widen hcm.1 hcm.2 ?_
    exact W.lret C.1 C.2.1 hr9 (fun t ht hW => ⟨⟨some (.long v), ρ, hp, rfl, trivial, h, hr, by rw [ht]; exact hP, hD⟩, hS.F ht⟩) hS.2.2 hd hlk
  · exact h.elim
theorem s_vret (C : em_Cx p s m args c D cl A nL (em_tys dA) cc own) {pc mc ms : Nat} (hd : decode cc pc = .ok (.return_, 1)) (hr9 : meth.sig.returnType = none) (hlk : meth.locks = false) (hcm : (cnt pc).1 ≤ mc ∧ (cnt pc).2 ≤ ms) : em_Snd p l e R s m args below meth c D cl dA σ A nL cnt Pr (MQ below (em_Qc D cl dA σ Pr Q A) args s mc ms A) Q pc o_vret := by
  intro k hk ls st hp h ρ arr H locs hr hl hP hD hS
  unfold o_vret at h
  split at h
  · skip
    refine W.widen hcm.1 hcm.2 ?_
    exact W.vret C.1 C.2.1 hr9 (fun t ht hW => ⟨⟨none, ρ, hp, rfl, trivial, h, hr, by rw [ht]; exact hP, hD⟩, hS.F ht⟩) hS.2.2 hd hlk
  · exact h.elim

/-! calls -/
def em_popn : Nat → List Value → List Value → (List Value → List Value → Prop) → Prop
  | 0, st, acc, k => k acc st
  | a + 1, v :: st, acc, k => em_popn a st (v :: acc) k
  | _ + 1, [], _, _ => False
theorem em_popn_to : ∀ (a : Nat) (st acc : List Value) (k : List Value → List Value → Prop), em_popn a st acc k → ∃ av r, st = av.reverse ++ r ∧ av.length = a ∧ k (av ++ acc) r
  | 0, st, acc, k, h => ⟨[], st, rfl, rfl, h⟩
  | a + 1, v :: st, acc, k, h => by
    obtain ⟨av, r, h1, h2, h3⟩ := em_popn_to a st (v :: acc) k h
    exact ⟨av ++ [v], r, by simp [h1], by simp [h2], by simpa using h3⟩
  | _ + 1, [], _, _, h => h.elim
def em_cat : List Value → Nat
  | [] => 0
  | .long _ :: r => em_cat r + 2
  | .double _ :: r => em_cat r + 2
  | _ :: r => em_cat r + 1
theorem em_cat_eq {σ ρ : Nat → Nat} : ∀ r : List Value, ((r.map (em_v σ ρ)).map fun v => v.category).sum = em_cat r
  | [] => rfl
  | v :: r => by
    have ih := em_cat_eq (σ := σ) (ρ := ρ) r
    simp only [List.map_cons, List.sum_cons, em_v_cat]
    rw [ih]
    cases v <;> simp [Value.category, em_cat] <;> omega
def em_rcv : Option Nat → List Value → em_H → Prop → Prop
  | none, _, _, k => k
  | some ci, .ref b :: _, hp, k => match em_hn hp b with
    | some (.inr (c, _)) => bif Nat.beq c ci then k else False
    | _ => False
  | some _, _, _, _ => False
def em_ret (K : em_K) (n : Nat) (ls : em_L) (r : List Value) : em_Q := fun v hp' => match v with | some x => K n ls (x :: r) hp' | none => K n ls r hp'
def o_call (a : Nat) (rc : Option Nat) (sp : em_Sp) (n : Nat) : em_Op := fun _ K ls st hp => em_popn a st [] (fun av r => bif Nat.ble (em_cat r) 8 then em_rcv rc av hp (sp av hp (em_ret K n ls r)) else False)
theorem em_rcv_to {rc : Option Nat} {av : List Value} {hp : em_H} {k : Prop} (h : em_rcv rc av hp k) : k ∧ ∀ ci, rc = some ci → ∃ b vs fs, av = .ref b :: vs ∧ em_hn hp b = some (.inr (ci, fs)) := by
  unfold em_rcv at h
  split at h
  · exact ⟨h, fun ci hc => by cases hc⟩
  · rename_i ci b vs
    split at h
    · rename_i c0 fs he
      cases hb : Nat.beq c0 ci with
      | false => rw [hb] at h; exact h.elim
      | true =>
        rw [hb] at h
        have hc0 := Nat.eq_of_beq_eq_true hb
        subst hc0
        exact ⟨h, fun ci hc => by cases hc; exact ⟨b, vs, fs, rfl, he⟩⟩
    · exact h.elim
  · exact h.elim
/-- the callee's start, out of the caller's standing -/
theorem em_pre {F : em_FT} {ρ : Nat → Nat} {hp : em_H} {H : Heap} {locs : List Loc} {av : List Value} (C : em_Cx p s m args c D cl A nL (em_tys dA) cc own) (hFok : em_Fok F) (hF : F A s s.heap) (hP : va_P D cl (em_w σ dA ρ hp) H) (hD : va_D A (em_w σ dA ρ hp)) (hS : va_S A s.heap H locs) :
    FrameBlind (va_Pc (av.map (em_v σ ρ)) (em_B F D cl dA σ ρ hp H.size)) ∧ (∀ U : State, U.heap = H → s.WarmedH U.vm → va_Pc (av.map (em_v σ ρ)) (em_B F D cl dA σ ρ hp H.size) (av.map (em_v σ ρ)).toArray U) ∧ ∀ q, va_A (em_w σ dA ρ hp) H.size q → A q := by
  have hFc : ∀ q, va_A (em_w σ dA ρ hp) H.size q → A q := fun q hq => by
    rcases hq with ⟨k, x, h⟩ | h
    · exact hD.2 k _ h
    · exact C.2.2.2.2.2.2 q (Nat.le_trans hS.1 h)
  refine ⟨fun a U g mk q => ?_, fun U hU hW => ⟨rfl, by rw [hU], by rw [hU]; exact hP, va_K.moved hW.alike C.2.2.2.2.2.1, hD.weaken (fun _ _ _ _ => trivial), ?_⟩, hFc⟩
  · obtain ⟨q0, q1, qP, qK, qD, qF⟩ := q
    exact ⟨q0, q1, qP, va_K.moved (u := U) (U := U.calling g mk a) (Vm.Alike.refl U.vm) qK, qD, hFok _ _ U _ _ _ (State.WarmedH.refl U) (fun _ _ _ => rfl) (fun _ h => h) qF⟩
  · rw [hU]
    exact hFok _ _ s _ _ _ hW hS.2.1 hFc hF
theorem em_back {ρ : Nat → Nat} {hp : em_H} {H : Heap} {locs : List Loc} {K : em_K} {n pc : Nat} {ls : em_L} {arr : Array Slot} {r st : List Value} {a : Array Value} (C : em_Cx p s m args c D cl A nL (em_tys dA) cc own) (hk : ∀ pc' ls st hp, K pc' ls st hp → em_Ok p l e R s m args below meth c D cl dA σ A nL cnt Pr Z pc' ls st hp) (hn : pc + 3 = n) (hc : cnt n = cnt pc) (hr : Pr ρ) (hl : em_LH σ ρ arr nL ls) (hS : va_S A s.heap H locs) (hFc : ∀ q, va_A (em_w σ dA ρ hp) H.size q → A q)
    (hrun : va_Run p l e R s m args below meth c H locs (cnt pc).1 (cnt pc).2 0 0 (F0 m pc arr st) (r.map (em_v σ ρ)) (em_Qc D cl dA σ (fun ρ' => ρ' = ρ) (em_ret K n ls r) (va_A (em_w σ dA ρ hp) H.size) a) (va_A (em_w σ dA ρ hp) H.size)) :
    W p l e R s m args below meth c H locs (cnt pc).1 (cnt pc).2 Z (F0 m pc arr st) := by
  intro T hT X
  obtain ⟨v, st₀, t, T', L, h0, X', hL, e1, e2, ⟨⟨v2, ρ', hp', hv, hpv, hQ, hρ, hP', hD'⟩, hz, hq9⟩, st⟩ := hrun T hT X
  cases hv
  subst hρ
  rw [h0] at hz hq9
  have hS' : va_S A s.heap T'.heap (locs ++ L) := ⟨Nat.le_trans hS.1 (by rw [e1]; exact hz), fun q h1 h2 => by rw [e1, hq9 q (Nat.lt_of_lt_of_le h1 hS.1) (fun z => h2 (hFc q z))]; exact hS.2.1 q h1 h2, fun q hq => by
      rcases List.mem_append.mp hq with h | h
      · exact hS.2.2 q h
      · exact hFc _ (hL q h)⟩
  have hP9 : va_P D cl (em_w σ dA ρ' hp') T'.heap := by rw [e1]; exact hP'
  have hD9 : va_D A (em_w σ dA ρ' hp') := hD'.weaken (fun k q _ h => hFc q.1 h)
  subst hn
  cases v with
  | none =>
    have h9 := hk _ _ _ _ hQ ρ' arr T'.heap (locs ++ L) hr hl hP9 hD9 hS'
    rw [hc] at h9
    obtain ⟨t2, a1, b1⟩ := h9 T' rfl X'
    exact ⟨t2, st t2 a1, b1⟩
  | some x =>
    have h9 := hk _ _ _ _ hQ ρ' arr T'.heap (locs ++ L) hr hl hP9 hD9 hS'
    rw [hc, List.map_cons, em_pv_v hpv] at h9
    obtain ⟨t2, a1, b1⟩ := h9 T' rfl X'
    exact ⟨t2, st t2 a1, b1⟩

theorem s_callS (C : em_Cx p s m args c D cl A nL (em_tys dA) cc own) {pc n index a maxL : Nat} {F : em_FT} {y : MethodName} {bytes : ByteArray} {ret : Option FieldType} {rm : Room} {sp : em_Sp} (hFok : em_Fok F) (hF : F A s s.heap) (hM : em_CT l D cl dA σ F y bytes maxL ret rm sp) (hrm : rm.cells = 0 ∧ rm.slots = 0) (hw1 : Cond.code y bytes maxL ret ∈ em_tb) (hwl : Cond.methodLink own index y ∈ em_tb) (hws : Cond.static y ∈ em_tb) (hwi : Cond.initialized y.cls ∈ em_tb) (hd2 : y.cls ≠ "java/lang/invoke/MethodHandle" ∧ y.cls ≠ "java/lang/invoke/VarHandle" ∧ (parseMethodDescriptor y.desc).map (fun d => d.parameters.length) = some a) (hR : rm.frames + 1 ≤ R.frames ∧ 8 + (maxL + 11) + rm.locals ≤ R.locals) (hd : decode cc pc = .ok (.invokestatic index, 3)) (hn : pc + 3 = n) (hc : cnt n = cnt pc) (hcr : (cnt pc).1 + 0 ≤ R.cells ∧ (cnt pc).2 + 0 ≤ R.slots) : em_Snd p l e R s m args below meth c D cl dA σ A nL cnt Pr Z Q pc (o_call a none sp n) := by
  intro k hk ls st hp h ρ arr H locs hr hl hP hD hS
  unfold o_call at h
  obtain ⟨av, r, hst, hav, h⟩ := em_popn_to _ _ _ _ h
  rw [List.append_nil] at h
  cases hb8 : Nat.ble (em_cat r) 8 with
  | false => rw [hb8] at h; exact h.elim
  | true =>
    rw [hb8] at h
    have h8 := Nat.le_of_ble_eq_true hb8
    have h : em_rcv none av hp (sp av hp (em_ret k n ls r)) := h
    obtain ⟨h, hrc⟩ := em_rcv_to h
    obtain ⟨hbl, hpr, hFc⟩ := em_pre (av := av) C hFok hF hP hD hS
    have hG : GoodIn em_tb (Cond.code y bytes maxL ret :: em_tb) := fun w hw => by
      rcases List.mem_cons.mp hw with rfl | hw
      · exact em_tb_good _ hw1
      · exact em_tb_good _ hw
    have cb := callB_of (R := R) (s := s) (args := args) (own := own) (index := index) (y := y) (bytes := bytes) (maxL := maxL) (ret := ret) (rm := rm) a C.2.2.2.2.1 hG rfl hrm.1 hrm.2 (C.2.2.2.2.1 _ hwi) (C.2.2.2.2.1 _ hwl) hd2 hR
    refine em_back C hk hn hc hr hl hS hFc (r := r) (a := ((av.map (em_v σ ρ)).toArray)) ?_
    exact va_runS (As := av.map (em_v σ ρ)) (rest := r.map (em_v σ ρ)) ⟨C.1, C.2.1, C.2.2.1, C.2.2.2.1, C.2.2.2.2.1⟩ (hM ρ hp H.size av _ h) ⟨cb, C.2.2.2.2.1 _ hws⟩ ⟨hbl, hpr⟩ rfl (by rw [List.length_map]; exact hav) hl.2.1 (by rw [hst, List.map_append, List.map_reverse]) (lv_room (by rw [em_cat_eq]; exact h8)) hd hcr
theorem s_callSN (C : em_Cx p s m args c D cl A nL (em_tys dA) cc own) {pc n index a maxL : Nat} {F : em_FT} {y : MethodName} {bytes : ByteArray} {ret : Option FieldType} {rm : Room} {sp : em_Sp} (hFok : em_Fok F) (hF : F A s s.heap) (hM : em_CT l D cl dA σ F y bytes maxL ret rm sp) (hrm : rm.cells = 0 ∧ rm.slots = 0) (hw1 : Cond.code y bytes maxL ret ∈ em_tb) {host : String} (hnl : va_Nw (.methodLinkNest own index y host) s) (hws : Cond.static y ∈ em_tb) (hwi : Cond.initialized y.cls ∈ em_tb) (hd2 : y.cls ≠ "java/lang/invoke/MethodHandle" ∧ y.cls ≠ "java/lang/invoke/VarHandle" ∧ (parseMethodDescriptor y.desc).map (fun d => d.parameters.length) = some a) (hR : rm.frames + 1 ≤ R.frames ∧ 8 + (maxL + 11) + rm.locals ≤ R.locals) (hd : decode cc pc = .ok (.invokestatic index, 3)) (hn : pc + 3 = n) (hc : cnt n = cnt pc) (hcr : (cnt pc).1 + 0 ≤ R.cells ∧ (cnt pc).2 + 0 ≤ R.slots) : em_Snd p l e R s m args below meth c D cl dA σ A nL cnt Pr Z Q pc (o_call a none sp n) := by
  intro k hk ls st hp h ρ arr H locs hr hl hP hD hS
  unfold o_call at h
  obtain ⟨av, r, hst, hav, h⟩ := em_popn_to _ _ _ _ h
  rw [List.append_nil] at h
  cases hb8 : Nat.ble (em_cat r) 8 with
  | false => rw [hb8] at h; exact h.elim
  | true =>
    rw [hb8] at h
    have h8 := Nat.le_of_ble_eq_true hb8
    have h : em_rcv none av hp (sp av hp (em_ret k n ls r)) := h
    obtain ⟨h, hrc⟩ := em_rcv_to h
    obtain ⟨hbl, hpr, hFc⟩ := em_pre (av := av) C hFok hF hP hD hS
    have hG : GoodIn em_tb (Cond.code y bytes maxL ret :: em_tb) := fun w hw => by
      rcases List.mem_cons.mp hw with rfl | hw
      · exact em_tb_good _ hw1
      · exact em_tb_good _ hw
    have cb := va_cnB (R := R) (own := own) (index := index) (y := y) (bytes := bytes) (maxL := maxL) (ret := ret) (rm := rm) a C.2.2.2.2.1 hG rfl hrm.1 hrm.2 hnl (C.2.2.2.2.1 _ hwi) hd2 hR
    refine em_back C hk hn hc hr hl hS hFc (r := r) (a := ((av.map (em_v σ ρ)).toArray)) ?_
    exact va_runSN (As := av.map (em_v σ ρ)) (rest := r.map (em_v σ ρ)) ⟨C.1, C.2.1, C.2.2.1, C.2.2.2.1, C.2.2.2.2.1⟩ (hM ρ hp H.size av _ h) ⟨cb, C.2.2.2.2.1 _ hws, trivial⟩ ⟨hbl, hpr⟩ rfl (by rw [List.length_map]; exact hav) hl.2.1 (by rw [hst, List.map_append, List.map_reverse]) (lv_room (by rw [em_cat_eq]; exact h8)) hd hcr
theorem s_callV (C : em_Cx p s m args c D cl A nL (em_tys dA) cc own) {pc n index a maxL : Nat} {F : em_FT} {y : MethodName} {bytes : ByteArray} {ret : Option FieldType} {rm : Room} {sp : em_Sp} (hFok : em_Fok F) (hF : F A s s.heap) (hM : em_CT l D cl dA σ F y bytes maxL ret rm sp) (hrm : rm.cells = 0 ∧ rm.slots = 0) (hw1 : Cond.code y bytes maxL ret ∈ em_tb) {ci : Nat} {T : u_T} {N : Nat} (hcl : em_Cl cl ci y.cls T N) (hwl : Cond.methodLink own index y ∈ em_tb) (hws : Cond.instanceMethod y ∈ em_tb) (hwe : Cond.selects y.cls y y ∈ em_tb) (hwi : Cond.initialized y.cls ∈ em_tb) (hd2 : y.cls ≠ "java/lang/invoke/MethodHandle" ∧ y.cls ≠ "java/lang/invoke/VarHandle" ∧ (parseMethodDescriptor y.desc).map (fun d => d.parameters.length) = some a) (hR : rm.frames + 1 ≤ R.frames ∧ 8 + (maxL + 11) + rm.locals ≤ R.locals) (hd : decode cc pc = .ok (.invokevirtual index, 3)) (hn : pc + 3 = n) (hc : cnt n = cnt pc) (hcr : (cnt pc).1 + 0 ≤ R.cells ∧ (cnt pc).2 + 0 ≤ R.slots) : em_Snd p l e R s m args below meth c D cl dA σ A nL cnt Pr Z Q pc (o_call (a + 1) (some ci) sp n) := by
  intro k hk ls st hp h ρ arr H locs hr hl hP hD hS
  unfold o_call at h
  obtain ⟨av, r, hst, hav, h⟩ := em_popn_to _ _ _ _ h
  rw [List.append_nil] at h
  cases hb8 : Nat.ble (em_cat r) 8 with
  | false => rw [hb8] at h; exact h.elim
  | true =>
    rw [hb8] at h
    have h8 := Nat.le_of_ble_eq_true hb8
    have h : em_rcv (some ci) av hp (sp av hp (em_ret k n ls r)) := h
    obtain ⟨h, hrc⟩ := em_rcv_to h
    obtain ⟨hbl, hpr, hFc⟩ := em_pre (av := av) C hFok hF hP hD hS
    have hG : GoodIn em_tb (Cond.code y bytes maxL ret :: em_tb) := fun w hw => by
      rcases List.mem_cons.mp hw with rfl | hw
      · exact em_tb_good _ hw1
      · exact em_tb_good _ hw
    obtain ⟨b, vs, fs, rfl, he⟩ := hrc ci rfl
    have cb := callB_of (R := R) (s := s) (args := args) (own := own) (index := index) (y := y) (bytes := bytes) (maxL := maxL) (ret := ret) (rm := rm) a C.2.2.2.2.1 hG rfl hrm.1 hrm.2 (C.2.2.2.2.1 _ hwi) (C.2.2.2.2.1 _ hwl) hd2 hR
    refine em_back C hk hn hc hr hl hS hFc (r := r) (a := (((Value.ref b :: vs).map (em_v σ ρ)).toArray)) ?_
    exact va_runV (C := y.cls) (b := ρ b) (As := vs.map (em_v σ ρ)) (rest := r.map (em_v σ ρ)) ⟨C.1, C.2.1, C.2.2.1, C.2.2.2.1, C.2.2.2.2.1⟩ (hM ρ hp H.size _ _ h) ⟨cb, C.2.2.2.2.1 _ hws, C.2.2.2.2.1 _ hwe⟩ ⟨hbl, va_recv C.2.2.2.2.2.1 hP hcl.1 (em_w_get he), hpr⟩ rfl (by rw [List.length_map]; simpa using hav) hl.2.1 (by rw [hst]; simp [em_v]) (lv_room (by rw [em_cat_eq]; exact h8)) hd hcr
def o_max (n : Nat) : em_Op := fun _ k ls st hp => match st with | .int y :: .int x :: r => bif Nat.ble (em_cat r) 8 then k n ls (.int (if x < y then y else x) :: r) hp else False | _ => False
theorem s_max (C : em_Cx p s m args c D cl A nL (em_tys dA) cc own) {pc n index : Nat} (hwl : Cond.methodLink own index Lib.Math.max.name ∈ em_tb) (hws : Cond.static Lib.Math.max.name ∈ em_tb) (hwi : Cond.initialized "java/lang/Math" ∈ em_tb) (hwc : Cond.code Lib.Math.max.name Lib.Math.max.code 2 (some .int) ∈ em_tb) (hR : 1 ≤ R.frames ∧ 21 ≤ R.locals) (hcr : (cnt pc).1 + 0 ≤ R.cells ∧ (cnt pc).2 + 0 ≤ R.slots) (hd : decode cc pc = .ok (.invokestatic index, 3)) (hn : pc + 3 = n) (hc : cnt n = cnt pc) : em_Snd p l e R s m args below meth c D cl dA σ A nL cnt Pr Z Q pc (o_max n) := by
  intro k hk ls st hp h ρ arr H locs hr hl hP hD hS
  subst hn
  unfold o_max at h
  split at h
  · rename_i y x r
    cases hb8 : Nat.ble (em_cat r) 8 with
    | false => rw [hb8] at h; exact h.elim
    | true =>
      rw [hb8] at h
      have h8 := Nat.le_of_ble_eq_true hb8
      have h9 := hk _ _ _ _ h ρ arr H locs hr hl hP hD hS
      rw [hc] at h9
      exact va_mmax C.1 C.2.1 (C.2.2.1.trans hl.2.1.symm) C.2.2.2.1 (C.2.2.2.2.1 _ hwl) (C.2.2.2.2.1 _ hws) (C.2.2.2.2.1 _ hwi) (C.2.2.2.2.1 _ hwc) hR.1 (by rw [em_cat_eq]; omega) hcr.1 hcr.2 hd h9
  · exact h.elim
def o_acopyI (n : Nat) : em_Op := fun _ K ls st hp => match st with | .int z :: .int dp :: .ref a :: .int sp :: .ref a0 :: r => (match em_hn hp a0, em_hn hp a with | some (.inl (t0, n0, .inl f)), some (.inl (t1, n1, .inl g)) => bif (Nat.beq t0 0 && Nat.beq t1 0 && Nat.ble n0 2147483647 && Nat.ble n1 2147483647 && Nat.ble (em_cat r) 8) then (∃ sp' dp' n' : Nat, sp = nI sp' ∧ dp = nI dp' ∧ z = nI n' ∧ sp' + n' ≤ n0 ∧ dp' + n' ≤ n1 ∧ em_hs hp a (.inl (t1, n1, .inl (va_cpy f g sp' dp' n'))) (fun hp' => K n ls r hp')) else False | _, _ => False) | _ => False
theorem s_acopyI (C : em_Cx p s m args c D cl A nL (em_tys dA) cc own) {pc n index : Nat} (hwl : Cond.methodLink own index arraycopyName ∈ em_tb) (hwn : Cond.native arraycopyName ∈ em_tb) (hws : Cond.static arraycopyName ∈ em_tb) (hwi : Cond.initialized "java/lang/System" ∈ em_tb) (hR : 1 ≤ R.frames ∧ 8 + (nativeFrameWords "java/lang/System" "arraycopy" 5 + 11) ≤ R.locals) (hd : decode cc pc = .ok (.invokestatic index, 3)) (hn : pc + 3 = n) (hc : cnt n = cnt pc) : em_Snd p l e R s m args below meth c D cl dA σ A nL cnt Pr Z Q pc (o_acopyI n) := by
  intro k hk ls st hp h ρ arr H locs hr hl hP hD hS
  subst hn
  unfold o_acopyI at h
  split at h
  · rename_i z dp a sp a0 r
    split at h
    · rename_i t0 n0 f t1 n1 g he0 he1
      cases hb : (Nat.beq t0 0 && Nat.beq t1 0 && Nat.ble n0 2147483647 && Nat.ble n1 2147483647 && Nat.ble (em_cat r) 8) with
      | false => rw [hb] at h; exact h.elim
      | true =>
        rw [hb] at h
        simp only [Bool.and_eq_true] at hb
        have hc0 := Nat.eq_of_beq_eq_true hb.1.1.1.1
        have hc1 := Nat.eq_of_beq_eq_true hb.1.1.1.2
        subst hc0
        subst hc1
        obtain ⟨sp', dp', n', rfl, rfl, rfl, h1, h2, h⟩ := h
        have hn0 := Nat.le_of_ble_eq_true hb.1.1.2
        have hn1 := Nat.le_of_ble_eq_true hb.1.2
        have h8 := Nat.le_of_ble_eq_true hb.2
        have k1 := nI_clamp (n := sp') (by omega)
        have k2 := nI_clamp (n := dp') (by omega)
        have k3 := nI_clamp (n := n') (by omega)
        skip
        rw [em_hs_eq] at h
        refine va_copyi C.1 C.2.1 (C.2.2.1.trans hl.2.1.symm) C.2.2.2.1 (C.2.2.2.2.1 _ hwl) (C.2.2.2.2.1 _ hwn) (C.2.2.2.2.1 _ hws) (C.2.2.2.2.1 _ hwi) C.2.2.2.2.2.1 hP hD hS a0 a 0 0 (em_w_get he0) (em_w_get he1) rfl rfl rfl (nI_pos (by omega)) (nI_pos (by omega)) (nI_pos (by omega)) (by rw [k1, k3]; exact h1) (by rw [k2, k3]; exact h2) (fun i hi => ?_) hR.1 (by rw [em_cat_eq]; omega) hd (fun H1 locs1 hP1 hD1 hS1 => ?_)
        · rfl
        · rw [k1, k2, k3] at hP1 hD1
          have e9 : (em_w σ dA ρ hp).set a (ρ a, .inl (dA 0, n1, .inl (va_cpy f g sp' dp' n'))) = em_w σ dA ρ (hp.set a (.inl (0, n1, .inl (va_cpy f g sp' dp' n')))) := em_w_set (x := .inl (0, n1, .inl (va_cpy f g sp' dp' n')))
          have h9 := hk _ _ _ _ h ρ arr H1 locs1 hr hl (by rw [← e9]; exact hP1) (by rw [← e9]; exact hD1) hS1
          rw [hc] at h9
          exact h9
    · exact h.elim
  · exact h.elim
def o_acopyZ (n : Nat) : em_Op := fun _ K ls st hp => match st with | .int z :: .int dp :: .ref a :: .int sp :: .ref a0 :: r => (match em_hn hp a0, em_hn hp a with | some (.inl (t0, n0, .inl f)), some (.inl (t1, n1, .inl g)) => bif (Nat.beq t0 3 && Nat.beq t1 3 && Nat.ble n0 2147483647 && Nat.ble n1 2147483647 && Nat.ble (em_cat r) 8) then (∃ sp' dp' n' : Nat, sp = nI sp' ∧ dp = nI dp' ∧ z = nI n' ∧ sp' + n' ≤ n0 ∧ dp' + n' ≤ n1 ∧ (∀ i, i < n' → fits .boolean (.int (f (sp' + i))) = true) ∧ em_hs hp a (.inl (t1, n1, .inl (va_cpy f g sp' dp' n'))) (fun hp' => K n ls r hp')) else False | _, _ => False) | _ => False
theorem s_acopyZ (C : em_Cx p s m args c D cl A nL (em_tys dA) cc own) {pc n index : Nat} (hwl : Cond.methodLink own index arraycopyName ∈ em_tb) (hwn : Cond.native arraycopyName ∈ em_tb) (hws : Cond.static arraycopyName ∈ em_tb) (hwi : Cond.initialized "java/lang/System" ∈ em_tb) (hR : 1 ≤ R.frames ∧ 8 + (nativeFrameWords "java/lang/System" "arraycopy" 5 + 11) ≤ R.locals) (hd : decode cc pc = .ok (.invokestatic index, 3)) (hn : pc + 3 = n) (hc : cnt n = cnt pc) : em_Snd p l e R s m args below meth c D cl dA σ A nL cnt Pr Z Q pc (o_acopyZ n) := by
  intro k hk ls st hp h ρ arr H locs hr hl hP hD hS
  subst hn
  unfold o_acopyZ at h
  split at h
  · rename_i z dp a sp a0 r
    split at h
    · rename_i t0 n0 f t1 n1 g he0 he1
      cases hb : (Nat.beq t0 3 && Nat.beq t1 3 && Nat.ble n0 2147483647 && Nat.ble n1 2147483647 && Nat.ble (em_cat r) 8) with
      | false => rw [hb] at h; exact h.elim
      | true =>
        rw [hb] at h
        simp only [Bool.and_eq_true] at hb
        have hc0 := Nat.eq_of_beq_eq_true hb.1.1.1.1
        have hc1 := Nat.eq_of_beq_eq_true hb.1.1.1.2
        subst hc0
        subst hc1
        obtain ⟨sp', dp', n', rfl, rfl, rfl, h1, h2, h⟩ := h
        have hn0 := Nat.le_of_ble_eq_true hb.1.1.2
        have hn1 := Nat.le_of_ble_eq_true hb.1.2
        have h8 := Nat.le_of_ble_eq_true hb.2
        have k1 := nI_clamp (n := sp') (by omega)
        have k2 := nI_clamp (n := dp') (by omega)
        have k3 := nI_clamp (n := n') (by omega)
        obtain ⟨hfit, h⟩ := h
        rw [em_hs_eq] at h
        refine va_copyi C.1 C.2.1 (C.2.2.1.trans hl.2.1.symm) C.2.2.2.1 (C.2.2.2.2.1 _ hwl) (C.2.2.2.2.1 _ hwn) (C.2.2.2.2.1 _ hws) (C.2.2.2.2.1 _ hwi) C.2.2.2.2.2.1 hP hD hS a0 a 3 3 (em_w_get he0) (em_w_get he1) rfl rfl rfl (nI_pos (by omega)) (nI_pos (by omega)) (nI_pos (by omega)) (by rw [k1, k3]; exact h1) (by rw [k2, k3]; exact h2) (fun i hi => ?_) hR.1 (by rw [em_cat_eq]; omega) hd (fun H1 locs1 hP1 hD1 hS1 => ?_)
        · rw [k3] at hi; rw [k1]; exact hfit i hi
        · rw [k1, k2, k3] at hP1 hD1
          have e9 : (em_w σ dA ρ hp).set a (ρ a, .inl (dA 3, n1, .inl (va_cpy f g sp' dp' n'))) = em_w σ dA ρ (hp.set a (.inl (3, n1, .inl (va_cpy f g sp' dp' n')))) := em_w_set (x := .inl (3, n1, .inl (va_cpy f g sp' dp' n')))
          have h9 := hk _ _ _ _ h ρ arr H1 locs1 hr hl (by rw [← e9]; exact hP1) (by rw [← e9]; exact hD1) hS1
          rw [hc] at h9
          exact h9
    · exact h.elim
  · exact h.elim
def o_acopyL (n : Nat) : em_Op := fun _ K ls st hp => match st with | .int z :: .int dp :: .ref a :: .int sp :: .ref a0 :: r => (match em_hn hp a0, em_hn hp a with | some (.inl (t0, n0, .inr (.inl f))), some (.inl (t1, n1, .inr (.inl g))) => bif (Nat.beq t0 1 && Nat.beq t1 1 && Nat.ble n0 2147483647 && Nat.ble n1 2147483647 && Nat.ble (em_cat r) 8) then (∃ sp' dp' n' : Nat, sp = nI sp' ∧ dp = nI dp' ∧ z = nI n' ∧ sp' + n' ≤ n0 ∧ dp' + n' ≤ n1 ∧ em_hs hp a (.inl (t1, n1, .inr (.inl (va_cpy f g sp' dp' n')))) (fun hp' => K n ls r hp')) else False | _, _ => False) | _ => False
theorem s_acopyL (C : em_Cx p s m args c D cl A nL (em_tys dA) cc own) {pc n index : Nat} (hwl : Cond.methodLink own index arraycopyName ∈ em_tb) (hwn : Cond.native arraycopyName ∈ em_tb) (hws : Cond.static arraycopyName ∈ em_tb) (hwi : Cond.initialized "java/lang/System" ∈ em_tb) (hR : 1 ≤ R.frames ∧ 8 + (nativeFrameWords "java/lang/System" "arraycopy" 5 + 11) ≤ R.locals) (hd : decode cc pc = .ok (.invokestatic index, 3)) (hn : pc + 3 = n) (hc : cnt n = cnt pc) : em_Snd p l e R s m args below meth c D cl dA σ A nL cnt Pr Z Q pc (o_acopyL n) := by
  intro k hk ls st hp h ρ arr H locs hr hl hP hD hS
  subst hn
  unfold o_acopyL at h
  split at h
  · rename_i z dp a sp a0 r
    split at h
    · rename_i t0 n0 f t1 n1 g he0 he1
      cases hb : (Nat.beq t0 1 && Nat.beq t1 1 && Nat.ble n0 2147483647 && Nat.ble n1 2147483647 && Nat.ble (em_cat r) 8) with
      | false => rw [hb] at h; exact h.elim
      | true =>
        rw [hb] at h
        simp only [Bool.and_eq_true] at hb
        have hc0 := Nat.eq_of_beq_eq_true hb.1.1.1.1
        have hc1 := Nat.eq_of_beq_eq_true hb.1.1.1.2
        subst hc0
        subst hc1
        obtain ⟨sp', dp', n', rfl, rfl, rfl, h1, h2, h⟩ := h
        have hn0 := Nat.le_of_ble_eq_true hb.1.1.2
        have hn1 := Nat.le_of_ble_eq_true hb.1.2
        have h8 := Nat.le_of_ble_eq_true hb.2
        have k1 := nI_clamp (n := sp') (by omega)
        have k2 := nI_clamp (n := dp') (by omega)
        have k3 := nI_clamp (n := n') (by omega)
        skip
        rw [em_hs_eq] at h
        refine va_copyl C.1 C.2.1 (C.2.2.1.trans hl.2.1.symm) C.2.2.2.1 (C.2.2.2.2.1 _ hwl) (C.2.2.2.2.1 _ hwn) (C.2.2.2.2.1 _ hws) (C.2.2.2.2.1 _ hwi) C.2.2.2.2.2.1 hP hD hS a0 a 1 1 (em_w_get he0) (em_w_get he1) rfl rfl rfl (nI_pos (by omega)) (nI_pos (by omega)) (nI_pos (by omega)) (by rw [k1, k3]; exact h1) (by rw [k2, k3]; exact h2) (fun i hi => ?_) hR.1 (by rw [em_cat_eq]; omega) hd (fun H1 locs1 hP1 hD1 hS1 => ?_)
        · rfl
        · rw [k1, k2, k3] at hP1 hD1
          have e9 : (em_w σ dA ρ hp).set a (ρ a, .inl (dA 1, n1, .inr (.inl (va_cpy f g sp' dp' n')))) = em_w σ dA ρ (hp.set a (.inl (1, n1, .inr (.inl (va_cpy f g sp' dp' n'))))) := em_w_set (x := .inl (1, n1, .inr (.inl (va_cpy f g sp' dp' n'))))
          have h9 := hk _ _ _ _ h ρ arr H1 locs1 hr hl (by rw [← e9]; exact hP1) (by rw [← e9]; exact hD1) hS1
          rw [hc] at h9
          exact h9
    · exact h.elim
  · exact h.elim
end EMC
end
section

/-! ===== a part of the world, by places ===== -/
def em_idx (g : Nat) : List Nat → Nat → Option Nat
  | [], _ => none
  | x :: r, i => bif Nat.beq x g then some i else em_idx g r (i + 1)
def em_iv (pk : List Nat) : Value → Option Value
  | .ref g => match em_idx g pk 0 with
    | some i => some (.ref i)
    | none => none
  | v => some v
def em_ivs (pk : List Nat) : List Value → Option (List Value)
  | [] => some []
  | v :: r => match em_iv pk v with
    | some v' => (match em_ivs pk r with
      | some r' => some (v' :: r')
      | none => none)
    | none => none
def em_iE (pk : List Nat) : va_E → Option va_E
  | .inr (c, fs) => match em_ivs pk fs with
    | some fs' => some (.inr (c, fs'))
    | none => none
  | .inl (t, n, .inl f) => some (.inl (t, n, .inl f))
  | .inl (t, n, .inr (.inl f)) => some (.inl (t, n, .inr (.inl f)))
  | _ => none
def em_iW (pk : List Nat) (hp : em_H) : List Nat → Option em_H
  | [] => some []
  | i :: r => match em_hn hp i with
    | some x => (match em_iE pk x with
      | some y => (match em_iW pk hp r with
        | some l => some (y :: l)
        | none => none)
      | none => none)
    | none => none
def em_at : List Nat → Nat → Nat
  | [], _ => 0
  | x :: _, 0 => x
  | _ :: r, i + 1 => em_at r i
def em_atK : List Nat → Nat → (Nat → Prop) → Prop
  | [], _, k => k 0
  | x :: _, 0, k => k x
  | _ :: r, i + 1, k => em_atK r i k
theorem em_atK_eq : ∀ (l : List Nat) (i : Nat) (k : Nat → Prop), em_atK l i k = k (em_at l i)
  | [], i, k => by cases i <;> rfl
  | x :: _, 0, k => rfl
  | _ :: r, i + 1, k => em_atK_eq r i k
def em_rv (pk : List Nat) : Value → Value
  | .ref i => .ref (em_at pk i)
  | v => v
def em_rvsK (pk : List Nat) : List Value → (List Value → Prop) → Prop
  | [], k => k []
  | .ref i :: r, k => em_atK pk i (fun j => em_rvsK pk r (fun r' => k (.ref j :: r')))
  | v :: r, k => em_rvsK pk r (fun r' => k (v :: r'))
theorem em_rvsK_eq (pk : List Nat) : ∀ (l : List Value) (k : List Value → Prop), em_rvsK pk l k = k (l.map (em_rv pk))
  | [], k => rfl
  | v :: r, k => by
    cases v <;> first
      | (show em_atK pk _ _ = _; rw [em_atK_eq]; show em_rvsK pk r _ = _; rw [em_rvsK_eq pk r]; rfl)
      | (show em_rvsK pk r _ = _; rw [em_rvsK_eq pk r]; rfl)
def em_rE (pk : List Nat) : va_E → va_E
  | .inr (c, fs) => .inr (c, fs.map (em_rv pk))
  | .inl (t, n, .inr (.inr (.inr (.inr f)))) => .inl (t, n, .inr (.inr (.inr (.inr (fun i => (f i).map (em_at pk))))))
  | x => x
def em_rEK (pk : List Nat) : va_E → (va_E → Prop) → Prop
  | .inr (c, fs), k => em_rvsK pk fs (fun fs' => k (.inr (c, fs')))
  | .inl (t, n, .inr (.inr (.inr (.inr f)))), k => k (.inl (t, n, .inr (.inr (.inr (.inr (fun i => (f i).map (em_at pk)))))))
  | x, k => k x
theorem em_rEK_eq (pk : List Nat) (x : va_E) (k : va_E → Prop) : em_rEK pk x k = k (em_rE pk x) := by
  match x with
  | .inr (c, fs) => show em_rvsK pk fs _ = _; rw [em_rvsK_eq]; rfl
  | .inl (t, n, .inl f) => rfl
  | .inl (t, n, .inr (.inl f)) => rfl
  | .inl (t, n, .inr (.inr (.inl f))) => rfl
  | .inl (t, n, .inr (.inr (.inr (.inl f)))) => rfl
  | .inl (t, n, .inr (.inr (.inr (.inr f)))) => rfl
def em_putK (pk0 : List Nat) : em_H → List Nat → em_H → (em_H → Prop) → Prop
  | hp, [], _, k => k hp
  | hp, i :: is, x :: xs, k => em_rEK pk0 x (fun y => em_hs hp i y (fun hp2 => em_putK pk0 hp2 is xs k))
  | _, _ :: _, [], _ => False
theorem em_putK_to (pk0 : List Nat) : ∀ (is : List Nat) (hp xs : em_H) (k : em_H → Prop), va_nd is = true → em_putK pk0 hp is xs k →
    ∃ hp2 : em_H, k hp2 ∧ hp2.length = hp.length ∧ (∀ j, j ∉ is → hp2[j]? = hp[j]?) ∧ ∀ (i g : Nat), is[i]? = some g → g < hp.length → ∃ x, xs[i]? = some x ∧ hp2[g]? = some (em_rE pk0 x)
  | [], hp, xs, k, _, h => ⟨hp, (by cases xs <;> exact h), rfl, fun _ _ => rfl, fun i g hi => by cases hi⟩
  | g0 :: is, hp, [], k, _, h => h.elim
  | g0 :: is, hp, x :: xs, k, hn, h => by
    have h : em_rEK pk0 x (fun y => em_hs hp g0 y (fun hp2 => em_putK pk0 hp2 is xs k)) := h
    rw [em_rEK_eq, em_hs_eq] at h
    simp only [va_nd, Bool.and_eq_true, decide_eq_true_eq] at hn
    obtain ⟨hp2, h1, h2, h3, h4⟩ := em_putK_to pk0 is _ xs k hn.2 h
    rw [List.length_set] at h2
    refine ⟨hp2, h1, h2, fun j hj => ?_, fun i g hi hg => ?_⟩
    · rw [h3 j (fun z => hj (List.mem_cons_of_mem _ z)), List.getElem?_set_ne (fun z => hj (by rw [z]; exact List.mem_cons_self))]
    · cases i with
      | zero =>
        rw [List.getElem?_cons_zero] at hi
        cases hi
        refine ⟨x, rfl, ?_⟩
        rw [h3 _ hn.1, List.getElem?_set_self hg]
      | succ i =>
        rw [List.getElem?_cons_succ] at hi
        obtain ⟨y, hy1, hy2⟩ := h4 i g hi (by rw [List.length_set]; exact hg)
        exact ⟨y, by rw [List.getElem?_cons_succ]; exact hy1, hy2⟩
theorem em_idx_at {g : Nat} : ∀ {pk : List Nat} {o i : Nat}, em_idx g pk o = some i → o ≤ i ∧ em_at pk (i - o) = g
  | [], o, i, h => by cases h
  | x :: r, o, i, h => by
    unfold em_idx at h
    cases hb : Nat.beq x g with
    | true =>
      rw [hb] at h
      cases h
      have := Nat.eq_of_beq_eq_true hb
      subst this
      exact ⟨Nat.le_refl _, by rw [Nat.sub_self]; rfl⟩
    | false =>
      rw [hb] at h
      obtain ⟨h1, h2⟩ := em_idx_at (pk := r) h
      refine ⟨by omega, ?_⟩
      rw [show i - o = (i - (o + 1)) + 1 by omega]
      exact h2
theorem em_iv_v {σ ρ : Nat → Nat} {pk : List Nat} {v v' : Value} (h : em_iv pk v = some v') : em_v σ (fun i => ρ (em_at pk i)) v' = em_v σ ρ v := by
  cases v with
  | ref g =>
    simp only [em_iv] at h
    split at h
    · rename_i i hi
      cases h
      obtain ⟨-, h2⟩ := em_idx_at hi
      rw [Nat.sub_zero] at h2
      show Value.ref (ρ (em_at pk i)) = Value.ref (ρ g)
      rw [h2]
    · cases h
  | _ => cases h; rfl
theorem em_ivs_v {σ ρ : Nat → Nat} {pk : List Nat} : ∀ {l l' : List Value}, em_ivs pk l = some l' → l'.map (em_v σ (fun i => ρ (em_at pk i))) = l.map (em_v σ ρ)
  | [], l', h => by cases h; rfl
  | v :: r, l', h => by
    simp only [em_ivs] at h
    split at h
    · rename_i v' hv
      split at h
      · rename_i r' hr
        cases h
        rw [List.map_cons, List.map_cons, em_iv_v hv, em_ivs_v hr]
      · cases h
    · cases h
theorem em_iE_e {σ ρ : Nat → Nat} {dA : Nat → ClassId} {pk : List Nat} {x y : va_E} (h : em_iE pk x = some y) : em_e σ dA (fun i => ρ (em_at pk i)) y = em_e σ dA ρ x := by
  match x, h with
  | .inr (c, fs), h =>
    simp only [em_iE] at h
    split at h
    · rename_i fs' hf
      cases h
      show Sum.inr (c, _) = Sum.inr (c, _)
      rw [em_ivs_v hf]
    · cases h
  | .inl (t, n, .inl f), h => cases h; rfl
  | .inl (t, n, .inr (.inl f)), h => cases h; rfl
theorem em_iW_get {pk : List Nat} {hp : em_H} : ∀ {is : List Nat} {lw : em_H}, em_iW pk hp is = some lw → lw.length = is.length ∧ ∀ (i : Nat) (y : va_E), lw[i]? = some y → ∃ g x, is[i]? = some g ∧ em_hn hp g = some x ∧ em_iE pk x = some y
  | [], lw, h => by cases h; exact ⟨rfl, fun i y hy => by cases hy⟩
  | g :: r, lw, h => by
    simp only [em_iW] at h
    split at h
    · rename_i x hx
      split at h
      · rename_i y hy
        split at h
        · rename_i l hl
          cases h
          obtain ⟨h1, h2⟩ := em_iW_get hl
          refine ⟨by simp [h1], fun i z hz => ?_⟩
          cases i with
          | zero => cases hz; exact ⟨g, x, rfl, hx, hy⟩
          | succ i =>
            rw [List.getElem?_cons_succ] at hz
            obtain ⟨g', x', e1, e2, e3⟩ := h2 i z hz
            exact ⟨g', x', by rw [List.getElem?_cons_succ]; exact e1, e2, e3⟩
        · cases h
      · cases h
    · cases h
theorem em_at_get : ∀ {pk : List Nat} {i g : Nat}, pk[i]? = some g → em_at pk i = g
  | [], i, g, h => by cases h
  | x :: r, 0, g, h => by cases h; rfl
  | x :: r, i + 1, g, h => by rw [List.getElem?_cons_succ] at h; exact em_at_get (pk := r) h
theorem em_rv_v {σ ρ : Nat → Nat} {pk : List Nat} (v : Value) : em_v σ ρ (em_rv pk v) = em_v σ (fun i => ρ (em_at pk i)) v := by cases v <;> rfl
theorem em_rE_e {σ ρ : Nat → Nat} {dA : Nat → ClassId} {pk : List Nat} (x : va_E) : em_e σ dA ρ (em_rE pk x) = em_e σ dA (fun i => ρ (em_at pk i)) x := by
  match x with
  | .inr (c, fs) =>
    show Sum.inr (c, _) = Sum.inr (c, _)
    rw [List.map_map]
    congr 2
    exact List.map_congr_left (fun v _ => em_rv_v v)
  | .inl (t, n, .inl f) => rfl
  | .inl (t, n, .inr (.inl f)) => rfl
  | .inl (t, n, .inr (.inr (.inl f))) => rfl
  | .inl (t, n, .inr (.inr (.inr (.inl f)))) => rfl
  | .inl (t, n, .inr (.inr (.inr (.inr f)))) =>
    show Sum.inl (dA t, n, _) = Sum.inl (dA t, n, _)
    congr 7
    funext i
    show Option.map ρ (Option.map (em_at pk) (f i)) = _
    cases f i <;> rfl
theorem em_iW_w {σ ρ : Nat → Nat} {dA : Nat → ClassId} {pk : List Nat} {hp lw : em_H} (h : em_iW pk hp pk = some lw) : pk.map (fun i => (em_w σ dA ρ hp)[i]?) = (em_w σ dA (fun i => ρ (em_at pk i)) lw).map some := by
  obtain ⟨h1, h2⟩ := em_iW_get h
  apply List.ext_getElem?
  intro i
  rw [List.getElem?_map, List.getElem?_map]
  by_cases hi : i < lw.length
  · obtain ⟨g, x, e1, e2, e3⟩ := h2 i lw[i] (List.getElem?_eq_getElem hi)
    rw [e1]
    have e4 : em_hn lw i = some lw[i] := by rw [em_hn_eq]; exact List.getElem?_eq_getElem hi
    rw [Option.map_some, em_w_get e2, em_w_get e4, Option.map_some, em_at_get e1, em_iE_e e3]
  · rw [List.getElem?_eq_none (by omega), List.getElem?_eq_none (by rw [em_w_len]; omega)]
    rfl
theorem em_D_addr {A : Nat → Prop} {w1 w2 : va_W} (h : va_D A w1) (hk : ∀ (k : Nat) (q : Nat × va_E), w2[k]? = some q → ∃ q0, w1[k]? = some q0 ∧ q0.1 = q.1) : va_D A w2 := by
  refine ⟨fun i j x y hi hj hxy => ?_, fun k q hq => ?_⟩
  · obtain ⟨x0, a1, a2⟩ := hk i x hi
    obtain ⟨y0, b1, b2⟩ := hk j y hj
    exact h.1 i j x0 y0 a1 b1 (a2.trans (hxy.trans b2.symm))
  · obtain ⟨q0, a1, a2⟩ := hk k q hq
    rw [← a2]
    exact h.2 k q0 a1
theorem em_w_at {σ ρ : Nat → Nat} {dA : Nat → ClassId} {hp : em_H} {k : Nat} {q : Nat × va_E} (h : (em_w σ dA ρ hp)[k]? = some q) : ∃ x, em_hn hp k = some x ∧ q = (ρ k, em_e σ dA ρ x) := by
  rw [em_w, List.getElem?_mapIdx] at h
  rw [em_hn_eq]
  cases hx : hp[k]? with
  | none => rw [hx] at h; cases h
  | some x => rw [hx] at h; cases h; exact ⟨x, rfl, rfl⟩
/-- the whole world behind a call over a part of it -/
theorem em_joinP {σ ρ : Nat → Nat} {dA : Nat → ClassId} {D : va_G} {cl : List vw_C} {A : Nat → Prop} {pk : List Nat} {hp lw hp' hp2 : em_H} {H H1 : Heap} (hlw : em_iW pk hp pk = some lw) (hP : va_P D cl (em_w σ dA ρ hp) H) (hD : va_D A (em_w σ dA ρ hp))
    (hk : ∀ q : Nat, q < H.size → ¬ va_A (em_w σ dA (fun i => ρ (em_at pk i)) lw) H.size q → H1[q]? = H[q]?) (hP1 : va_P D cl (em_w σ dA (fun i => ρ (em_at pk i)) hp') H1)
    (hlen : hp2.length = hp.length) (h3 : ∀ j, j ∉ pk → hp2[j]? = hp[j]?) (h4 : ∀ (i g : Nat), pk[i]? = some g → g < hp.length → ∃ x, hp'[i]? = some x ∧ hp2[g]? = some (em_rE pk x)) :
    va_P D cl (em_w σ dA ρ hp2) H1 ∧ va_D A (em_w σ dA ρ hp2) := by
  obtain ⟨hl1, hl2⟩ := em_iW_get hlw
  refine ⟨fun k q hq => ?_, em_D_addr hD (fun k q hq => ?_)⟩
  · obtain ⟨x2, hx2, rfl⟩ := em_w_at hq
    have hkl : k < hp.length := by
      rw [em_hn_eq] at hx2
      rw [← hlen]
      exact (List.getElem?_eq_some_iff.mp hx2).1
    by_cases hm : k ∈ pk
    · obtain ⟨i, hi⟩ := List.getElem?_of_mem hm
      obtain ⟨x, e1, e2⟩ := h4 i k hi hkl
      rw [em_hn_eq, e2] at hx2
      cases hx2
      have hx' : em_hn hp' i = some x := by rw [em_hn_eq]; exact e1
      have := hP1 i _ (em_w_get hx')
      rw [em_at_get hi] at this
      rw [em_rE_e]
      exact this
    · rw [em_hn_eq, h3 k hm, ← em_hn_eq] at hx2
      have h0 := em_w_get (σ := σ) (dA := dA) (ρ := ρ) hx2
      have hat := hP k _ h0
      refine hat.kept (hk _ hat.lt ?_)
      rintro (⟨i, e, hi⟩ | hge)
      · obtain ⟨y, hy, heq⟩ := em_w_at hi
        rw [em_hn_eq] at hy
        obtain ⟨g, x, e1, e2, e3⟩ := hl2 i y hy
        have h5 := em_w_get (σ := σ) (dA := dA) (ρ := ρ) e2
        have hkg : k = g := hD.1 k g _ _ h0 h5 (by
          have := congrArg Prod.fst heq
          show ρ k = ρ g
          rw [← em_at_get e1]
          exact this)
        subst hkg
        exact hm (List.mem_of_getElem? e1)
      · have := hat.lt
        exact absurd hge (Nat.not_le.mpr this)
  · obtain ⟨x2, hx2, rfl⟩ := em_w_at hq
    have hkl : k < hp.length := by
      rw [em_hn_eq] at hx2
      rw [← hlen]
      exact (List.getElem?_eq_some_iff.mp hx2).1
    have e4 : em_hn hp k = some hp[k] := by rw [em_hn_eq]; exact List.getElem?_eq_getElem hkl
    exact ⟨_, em_w_get e4, rfl⟩
def o_callP (a : Nat) (rc : Option Nat) (pk : List Nat) (sp : em_Sp) (n : Nat) : em_Op := fun _ K ls st hp => em_popn a st [] (fun av r => bif Nat.ble (em_cat r) 8 then (match em_ivs pk av, em_iW pk hp pk with
  | some av', some lw => em_rcv rc av' lw (sp av' lw (fun v hp' => em_putK pk hp pk hp' (em_ret K n ls r v)))
  | _, _ => False) else False)
section EMD
variable {p : Program} {l : Launch} {e : Env} {R : Room} {s : State} {m : MethodId} {args : Array Value} {below : List Frame} {meth : Method} {c : Code} {D : va_G} {cl : List vw_C} {dA : Nat → ClassId} {σ : Nat → Nat} {A : Nat → Prop} {nL : Nat} {cnt : Nat → Nat × Nat} {Pr : (Nat → Nat) → Prop} {Z : State → Prop}
variable {cc : ByteArray} {Q : em_Q} {own : String}
theorem em_backP {ρ : Nat → Nat} {pk : List Nat} {hp lw : em_H} {H : Heap} {locs : List Loc} {K : em_K} {n pc : Nat} {ls : em_L} {arr : Array Slot} {r st : List Value} {a : Array Value} (hk : ∀ pc' ls st hp, K pc' ls st hp → em_Ok p l e R s m args below meth c D cl dA σ A nL cnt Pr Z pc' ls st hp) (hn : pc + 3 = n) (hc : cnt n = cnt pc) (hr : Pr ρ) (hl : em_LH σ ρ arr nL ls) (hS : va_S A s.heap H locs) (hP : va_P D cl (em_w σ dA ρ hp) H) (hD : va_D A (em_w σ dA ρ hp)) (hnd : va_nd pk = true) (hlw : em_iW pk hp pk = some lw)
    (hFc : ∀ q, va_A (em_w σ dA (fun i => ρ (em_at pk i)) lw) H.size q → A q)
    (hrun : va_Run p l e R s m args below meth c H locs (cnt pc).1 (cnt pc).2 0 0 (F0 m pc arr st) (r.map (em_v σ ρ)) (em_Qc D cl dA σ (fun ρ' => ρ' = (fun i => ρ (em_at pk i))) (fun v hp' => em_putK pk hp pk hp' (em_ret K n ls r v)) (va_A (em_w σ dA (fun i => ρ (em_at pk i)) lw) H.size) a) (va_A (em_w σ dA (fun i => ρ (em_at pk i)) lw) H.size)) :
    W p l e R s m args below meth c H locs (cnt pc).1 (cnt pc).2 Z (F0 m pc arr st) := by
  intro T hT X
  obtain ⟨v, st₀, t, T', L, h0, X', hL, e1, e2, ⟨⟨v2, ρ', hp', hv, hpv, hQ, hρ, hP', hD'⟩, hz, hq9⟩, st⟩ := hrun T hT X
  cases hv
  subst hρ
  rw [h0] at hz hq9
  obtain ⟨hp2, hQ2, hlen, h3, h4⟩ := em_putK_to pk pk hp hp' _ hnd hQ
  have hS' : va_S A s.heap T'.heap (locs ++ L) := ⟨Nat.le_trans hS.1 (by rw [e1]; exact hz), fun q h1 h2 => by rw [e1, hq9 q (Nat.lt_of_lt_of_le h1 hS.1) (fun z => h2 (hFc q z))]; exact hS.2.1 q h1 h2, fun q hq => by
      rcases List.mem_append.mp hq with h | h
      · exact hS.2.2 q h
      · exact hFc _ (hL q h)⟩
  obtain ⟨hP9, hD9⟩ := em_joinP (H1 := T'.heap) hlw hP hD (fun q h1 h2 => by rw [e1]; exact hq9 q h1 h2) (by rw [e1]; exact hP') hlen h3 h4
  subst hn
  cases v with
  | none =>
    have h9 := hk _ _ _ _ hQ2 ρ arr T'.heap (locs ++ L) hr hl hP9 hD9 hS'
    rw [hc] at h9
    obtain ⟨t2, a1, b1⟩ := h9 T' rfl X'
    exact ⟨t2, st t2 a1, b1⟩
  | some x =>
    have h9 := hk _ _ _ _ hQ2 ρ arr T'.heap (locs ++ L) hr hl hP9 hD9 hS'
    rw [hc, List.map_cons, em_pv_v hpv] at h9
    obtain ⟨t2, a1, b1⟩ := h9 T' rfl X'
    exact ⟨t2, st t2 a1, b1⟩

theorem s_callPS (C : em_Cx p s m args c D cl A nL (em_tys dA) cc own) {pc n index a maxL : Nat} {F : em_FT} {y : MethodName} {bytes : ByteArray} {ret : Option FieldType} {rm : Room} {sp : em_Sp} {pk : List Nat} (hFok : em_Fok F) (hF : F A s s.heap) (hM : em_CT l D cl dA σ F y bytes maxL ret rm sp) (hrm : rm.cells = 0 ∧ rm.slots = 0) (hw1 : Cond.code y bytes maxL ret ∈ em_tb) (hwl : Cond.methodLink own index y ∈ em_tb) (hws : Cond.static y ∈ em_tb) (hwi : Cond.initialized y.cls ∈ em_tb) (hd2 : y.cls ≠ "java/lang/invoke/MethodHandle" ∧ y.cls ≠ "java/lang/invoke/VarHandle" ∧ (parseMethodDescriptor y.desc).map (fun d => d.parameters.length) = some a) (hR : rm.frames + 1 ≤ R.frames ∧ 8 + (maxL + 11) + rm.locals ≤ R.locals) (hd : decode cc pc = .ok (.invokestatic index, 3)) (hn : pc + 3 = n) (hc : cnt n = cnt pc) (hcr : (cnt pc).1 + 0 ≤ R.cells ∧ (cnt pc).2 + 0 ≤ R.slots) (hnd : va_nd pk = true) : em_Snd p l e R s m args below meth c D cl dA σ A nL cnt Pr Z Q pc (o_callP a none pk sp n) := by
  intro k hk ls st hp h ρ arr H locs hr hl hP hD hS
  unfold o_callP at h
  obtain ⟨av, r, hst, hav, h⟩ := em_popn_to _ _ _ _ h
  rw [List.append_nil] at h
  cases hb8 : Nat.ble (em_cat r) 8 with
  | false => rw [hb8] at h; exact h.elim
  | true =>
    rw [hb8] at h
    have h8 := Nat.le_of_ble_eq_true hb8
    cases hav2 : em_ivs pk av with
    | none => rw [hav2] at h; exact h.elim
    | some av' =>
      cases hlw : em_iW pk hp pk with
      | none => rw [hav2, hlw] at h; exact h.elim
      | some lw =>
        rw [hav2, hlw] at h
        have h : em_rcv none av' lw (sp av' lw (fun v hp' => em_putK pk hp pk hp' (em_ret k n ls r v))) := h
        obtain ⟨h, hrc⟩ := em_rcv_to h
        have hmap := em_ivs_v (σ := σ) (ρ := ρ) hav2
        have hCw := em_iW_w (σ := σ) (dA := dA) (ρ := ρ) hlw
        have hPl : va_P D cl (em_w σ dA (fun i => ρ (em_at pk i)) lw) H := by
          refine hP.sub pk ?_
          have e : (pk.map (fun i => (em_w σ dA ρ hp)[i]?)).filterMap id = ((em_w σ dA (fun i => ρ (em_at pk i)) lw).map some).filterMap id := by rw [hCw]
          simpa [List.filterMap_map] using e
        have hDl : va_D A (em_w σ dA (fun i => ρ (em_at pk i)) lw) := hD.sub pk hnd hCw
        obtain ⟨hbl, hpr, hFc⟩ := em_pre (av := av') C hFok hF hPl hDl hS
        have hG : GoodIn em_tb (Cond.code y bytes maxL ret :: em_tb) := fun w hw => by
          rcases List.mem_cons.mp hw with rfl | hw
          · exact em_tb_good _ hw1
          · exact em_tb_good _ hw
        have hlen' : av'.length = av.length := by
          have := congrArg List.length hmap
          simpa using this
        have hstk : st.map (em_v σ ρ) = (av'.map (em_v σ (fun i => ρ (em_at pk i)))).reverse ++ r.map (em_v σ ρ) := by rw [hst, List.map_append, List.map_reverse, hmap]
        have cb := callB_of (R := R) (s := s) (args := args) (own := own) (index := index) (y := y) (bytes := bytes) (maxL := maxL) (ret := ret) (rm := rm) a C.2.2.2.2.1 hG rfl hrm.1 hrm.2 (C.2.2.2.2.1 _ hwi) (C.2.2.2.2.1 _ hwl) hd2 hR
        refine em_backP hk hn hc hr hl hS hP hD hnd hlw hFc (r := r) (a := ((av'.map (em_v σ (fun i => ρ (em_at pk i)))).toArray)) ?_
        exact va_runS (As := av'.map (em_v σ (fun i => ρ (em_at pk i)))) (rest := r.map (em_v σ ρ)) ⟨C.1, C.2.1, C.2.2.1, C.2.2.2.1, C.2.2.2.2.1⟩ (hM _ lw H.size av' _ h) ⟨cb, C.2.2.2.2.1 _ hws⟩ ⟨hbl, hpr⟩ rfl (by rw [List.length_map, hlen']; exact hav) hl.2.1 hstk (lv_room (by rw [em_cat_eq]; exact h8)) hd hcr
theorem s_callPSN (C : em_Cx p s m args c D cl A nL (em_tys dA) cc own) {pc n index a maxL : Nat} {F : em_FT} {y : MethodName} {bytes : ByteArray} {ret : Option FieldType} {rm : Room} {sp : em_Sp} {pk : List Nat} (hFok : em_Fok F) (hF : F A s s.heap) (hM : em_CT l D cl dA σ F y bytes maxL ret rm sp) (hrm : rm.cells = 0 ∧ rm.slots = 0) (hw1 : Cond.code y bytes maxL ret ∈ em_tb) {host : String} (hnl : va_Nw (.methodLinkNest own index y host) s) (hws : Cond.static y ∈ em_tb) (hwi : Cond.initialized y.cls ∈ em_tb) (hd2 : y.cls ≠ "java/lang/invoke/MethodHandle" ∧ y.cls ≠ "java/lang/invoke/VarHandle" ∧ (parseMethodDescriptor y.desc).map (fun d => d.parameters.length) = some a) (hR : rm.frames + 1 ≤ R.frames ∧ 8 + (maxL + 11) + rm.locals ≤ R.locals) (hd : decode cc pc = .ok (.invokestatic index, 3)) (hn : pc + 3 = n) (hc : cnt n = cnt pc) (hcr : (cnt pc).1 + 0 ≤ R.cells ∧ (cnt pc).2 + 0 ≤ R.slots) (hnd : va_nd pk = true) : em_Snd p l e R s m args below meth c D cl dA σ A nL cnt Pr Z Q pc (o_callP a none pk sp n) := by
  intro k hk ls st hp h ρ arr H locs hr hl hP hD hS
  unfold o_callP at h
  obtain ⟨av, r, hst, hav, h⟩ := em_popn_to _ _ _ _ h
  rw [List.append_nil] at h
  cases hb8 : Nat.ble (em_cat r) 8 with
  | false => rw [hb8] at h; exact h.elim
  | true =>
    rw [hb8] at h
    have h8 := Nat.le_of_ble_eq_true hb8
    cases hav2 : em_ivs pk av with
    | none => rw [hav2] at h; exact h.elim
    | some av' =>
      cases hlw : em_iW pk hp pk with
      | none => rw [hav2, hlw] at h; exact h.elim
      | some lw =>
        rw [hav2, hlw] at h
        have h : em_rcv none av' lw (sp av' lw (fun v hp' => em_putK pk hp pk hp' (em_ret k n ls r v))) := h
        obtain ⟨h, hrc⟩ := em_rcv_to h
        have hmap := em_ivs_v (σ := σ) (ρ := ρ) hav2
        have hCw := em_iW_w (σ := σ) (dA := dA) (ρ := ρ) hlw
        have hPl : va_P D cl (em_w σ dA (fun i => ρ (em_at pk i)) lw) H := by
          refine hP.sub pk ?_
          have e : (pk.map (fun i => (em_w σ dA ρ hp)[i]?)).filterMap id = ((em_w σ dA (fun i => ρ (em_at pk i)) lw).map some).filterMap id := by rw [hCw]
          simpa [List.filterMap_map] using e
        have hDl : va_D A (em_w σ dA (fun i => ρ (em_at pk i)) lw) := hD.sub pk hnd hCw
        obtain ⟨hbl, hpr, hFc⟩ := em_pre (av := av') C hFok hF hPl hDl hS
        have hG : GoodIn em_tb (Cond.code y bytes maxL ret :: em_tb) := fun w hw => by
          rcases List.mem_cons.mp hw with rfl | hw
          · exact em_tb_good _ hw1
          · exact em_tb_good _ hw
        have hlen' : av'.length = av.length := by
          have := congrArg List.length hmap
          simpa using this
        have hstk : st.map (em_v σ ρ) = (av'.map (em_v σ (fun i => ρ (em_at pk i)))).reverse ++ r.map (em_v σ ρ) := by rw [hst, List.map_append, List.map_reverse, hmap]
        have cb := va_cnB (R := R) (own := own) (index := index) (y := y) (bytes := bytes) (maxL := maxL) (ret := ret) (rm := rm) a C.2.2.2.2.1 hG rfl hrm.1 hrm.2 hnl (C.2.2.2.2.1 _ hwi) hd2 hR
        refine em_backP hk hn hc hr hl hS hP hD hnd hlw hFc (r := r) (a := ((av'.map (em_v σ (fun i => ρ (em_at pk i)))).toArray)) ?_
        exact va_runSN (As := av'.map (em_v σ (fun i => ρ (em_at pk i)))) (rest := r.map (em_v σ ρ)) ⟨C.1, C.2.1, C.2.2.1, C.2.2.2.1, C.2.2.2.2.1⟩ (hM _ lw H.size av' _ h) ⟨cb, C.2.2.2.2.1 _ hws, trivial⟩ ⟨hbl, hpr⟩ rfl (by rw [List.length_map, hlen']; exact hav) hl.2.1 hstk (lv_room (by rw [em_cat_eq]; exact h8)) hd hcr
theorem s_callPV (C : em_Cx p s m args c D cl A nL (em_tys dA) cc own) {pc n index a maxL : Nat} {F : em_FT} {y : MethodName} {bytes : ByteArray} {ret : Option FieldType} {rm : Room} {sp : em_Sp} {pk : List Nat} (hFok : em_Fok F) (hF : F A s s.heap) (hM : em_CT l D cl dA σ F y bytes maxL ret rm sp) (hrm : rm.cells = 0 ∧ rm.slots = 0) (hw1 : Cond.code y bytes maxL ret ∈ em_tb) {ci : Nat} {T : u_T} {N : Nat} (hcl : em_Cl cl ci y.cls T N) (hwl : Cond.methodLink own index y ∈ em_tb) (hws : Cond.instanceMethod y ∈ em_tb) (hwe : Cond.selects y.cls y y ∈ em_tb) (hwi : Cond.initialized y.cls ∈ em_tb) (hd2 : y.cls ≠ "java/lang/invoke/MethodHandle" ∧ y.cls ≠ "java/lang/invoke/VarHandle" ∧ (parseMethodDescriptor y.desc).map (fun d => d.parameters.length) = some a) (hR : rm.frames + 1 ≤ R.frames ∧ 8 + (maxL + 11) + rm.locals ≤ R.locals) (hd : decode cc pc = .ok (.invokevirtual index, 3)) (hn : pc + 3 = n) (hc : cnt n = cnt pc) (hcr : (cnt pc).1 + 0 ≤ R.cells ∧ (cnt pc).2 + 0 ≤ R.slots) (hnd : va_nd pk = true) : em_Snd p l e R s m args below meth c D cl dA σ A nL cnt Pr Z Q pc (o_callP (a + 1) (some ci) pk sp n) := by
  intro k hk ls st hp h ρ arr H locs hr hl hP hD hS
  unfold o_callP at h
  obtain ⟨av, r, hst, hav, h⟩ := em_popn_to _ _ _ _ h
  rw [List.append_nil] at h
  cases hb8 : Nat.ble (em_cat r) 8 with
  | false => rw [hb8] at h; exact h.elim
  | true =>
    rw [hb8] at h
    have h8 := Nat.le_of_ble_eq_true hb8
    cases hav2 : em_ivs pk av with
    | none => rw [hav2] at h; exact h.elim
    | some av' =>
      cases hlw : em_iW pk hp pk with
      | none => rw [hav2, hlw] at h; exact h.elim
      | some lw =>
        rw [hav2, hlw] at h
        have h : em_rcv (some ci) av' lw (sp av' lw (fun v hp' => em_putK pk hp pk hp' (em_ret k n ls r v))) := h
        obtain ⟨h, hrc⟩ := em_rcv_to h
        have hmap := em_ivs_v (σ := σ) (ρ := ρ) hav2
        have hCw := em_iW_w (σ := σ) (dA := dA) (ρ := ρ) hlw
        have hPl : va_P D cl (em_w σ dA (fun i => ρ (em_at pk i)) lw) H := by
          refine hP.sub pk ?_
          have e : (pk.map (fun i => (em_w σ dA ρ hp)[i]?)).filterMap id = ((em_w σ dA (fun i => ρ (em_at pk i)) lw).map some).filterMap id := by rw [hCw]
          simpa [List.filterMap_map] using e
        have hDl : va_D A (em_w σ dA (fun i => ρ (em_at pk i)) lw) := hD.sub pk hnd hCw
        obtain ⟨hbl, hpr, hFc⟩ := em_pre (av := av') C hFok hF hPl hDl hS
        have hG : GoodIn em_tb (Cond.code y bytes maxL ret :: em_tb) := fun w hw => by
          rcases List.mem_cons.mp hw with rfl | hw
          · exact em_tb_good _ hw1
          · exact em_tb_good _ hw
        have hlen' : av'.length = av.length := by
          have := congrArg List.length hmap
          simpa using this
        have hstk : st.map (em_v σ ρ) = (av'.map (em_v σ (fun i => ρ (em_at pk i)))).reverse ++ r.map (em_v σ ρ) := by rw [hst, List.map_append, List.map_reverse, hmap]
        obtain ⟨b, vs, fs, rfl, he⟩ := hrc ci rfl
        have cb := callB_of (R := R) (s := s) (args := args) (own := own) (index := index) (y := y) (bytes := bytes) (maxL := maxL) (ret := ret) (rm := rm) a C.2.2.2.2.1 hG rfl hrm.1 hrm.2 (C.2.2.2.2.1 _ hwi) (C.2.2.2.2.1 _ hwl) hd2 hR
        refine em_backP hk hn hc hr hl hS hP hD hnd hlw hFc (r := r) (a := (((Value.ref b :: vs).map (em_v σ (fun i => ρ (em_at pk i)))).toArray)) ?_
        exact va_runV (C := y.cls) (b := ρ (em_at pk b)) (As := vs.map (em_v σ (fun i => ρ (em_at pk i)))) (rest := r.map (em_v σ ρ)) ⟨C.1, C.2.1, C.2.2.1, C.2.2.2.1, C.2.2.2.2.1⟩ (hM _ lw H.size _ _ h) ⟨cb, C.2.2.2.2.1 _ hws, C.2.2.2.2.1 _ hwe⟩ ⟨hbl, va_recv C.2.2.2.2.2.1 hPl hcl.1 (em_w_get he), hpr⟩ rfl (by rw [List.length_map]; simp only [List.length_cons] at hlen'; omega) hl.2.1 (by rw [hstk]; simp [em_v]) (lv_room (by rw [em_cat_eq]; exact h8)) hd hcr
end EMD
end
section
abbrev c_X0_init : ByteArray := prog_2_method_1_code
abbrev y_X0_init : MethodName := ⟨"WedApart$Course", "<init>", "()V"⟩
abbrev c_X0_follow : ByteArray := prog_2_method_2_code
abbrev y_X0_follow : MethodName := ⟨"WedApart$Course", "follow", "(LWedApart$Town;)V"⟩
abbrev c_X0_mindsBehind : ByteArray := prog_2_method_3_code
abbrev y_X0_mindsBehind : MethodName := ⟨"WedApart$Course", "mindsBehind", "(I)J"⟩
abbrev c_X0_parted : ByteArray := prog_2_method_4_code
abbrev y_X0_parted : MethodName := ⟨"WedApart$Course", "parted", "(LWedApart$Town;II)I"⟩
abbrev c_X0_likeAhead : ByteArray := prog_2_method_5_code
abbrev y_X0_likeAhead : MethodName := ⟨"WedApart$Course", "likeAhead", "(II)I"⟩
abbrev c_X0_oneMind : ByteArray := prog_2_method_6_code
abbrev y_X0_oneMind : MethodName := ⟨"WedApart$Course", "oneMind", "(I)I"⟩
abbrev c_X0_lastingPairs : ByteArray := prog_2_method_7_code
abbrev y_X0_lastingPairs : MethodName := ⟨"WedApart$Course", "lastingPairs", "(LWedApart$Town;I)J"⟩
abbrev c_X1_rows : ByteArray := prog_3_method_2_code
abbrev y_X1_rows : MethodName := ⟨"WedApart$Dinners", "rows", "(LWedApart$Town;JIII)I"⟩
abbrev c_X1_ofFirstRow : ByteArray := prog_3_method_3_code
abbrev y_X1_ofFirstRow : MethodName := ⟨"WedApart$Dinners", "ofFirstRow", "(LWedApart$Town;IIII)I"⟩
abbrev c_X1_first : ByteArray := prog_3_method_4_code
abbrev y_X1_first : MethodName := ⟨"WedApart$Dinners", "first", "(LWedApart$Town;JIII)I"⟩
abbrev c_X1_canBe : ByteArray := prog_3_method_5_code
abbrev y_X1_canBe : MethodName := ⟨"WedApart$Dinners", "canBe", "(LWedApart$Town;III)Z"⟩
abbrev c_X1_behindDinner : ByteArray := prog_3_method_6_code
abbrev y_X1_behindDinner : MethodName := ⟨"WedApart$Dinners", "behindDinner", "(LWedApart$Town;JIII)J"⟩
abbrev c_X1_third : ByteArray := prog_3_method_7_code
abbrev y_X1_third : MethodName := ⟨"WedApart$Dinners", "third", "(I)I"⟩
abbrev c_X2_init : ByteArray := prog_4_method_1_code
abbrev y_X2_init : MethodName := ⟨"WedApart$Fraction", "<init>", "()V"⟩
abbrev c_X2_becomeHalves : ByteArray := prog_4_method_2_code
abbrev y_X2_becomeHalves : MethodName := ⟨"WedApart$Fraction", "becomeHalves", "(II)V"⟩
abbrev c_X3_isKind : ByteArray := prog_5_method_2_code
abbrev y_X3_isKind : MethodName := ⟨"WedApart$Kinds", "isKind", "(I)Z"⟩
abbrev c_X3_heard : ByteArray := prog_5_method_3_code
abbrev y_X3_heard : MethodName := ⟨"WedApart$Kinds", "heard", "(IIIZIZ)I"⟩
abbrev c_X3_plain : ByteArray := prog_5_method_4_code
abbrev y_X3_plain : MethodName := ⟨"WedApart$Kinds", "plain", "(IIZI)I"⟩
abbrev c_X3_proud : ByteArray := prog_5_method_5_code
abbrev y_X3_proud : MethodName := ⟨"WedApart$Kinds", "proud", "(IIZIZ)I"⟩
abbrev c_X3_taken : ByteArray := prog_5_method_6_code
abbrev y_X3_taken : MethodName := ⟨"WedApart$Kinds", "taken", "(III)I"⟩
abbrev c_X3_matterBehind : ByteArray := prog_5_method_7_code
abbrev y_X3_matterBehind : MethodName := ⟨"WedApart$Kinds", "matterBehind", "(I)I"⟩
abbrev c_X4_bit : ByteArray := prog_6_method_2_code
abbrev y_X4_bit : MethodName := ⟨"WedApart$Marriages", "bit", "(II)J"⟩
abbrev c_X4_most : ByteArray := prog_6_method_3_code
abbrev y_X4_most : MethodName := ⟨"WedApart$Marriages", "most", "(JII)I"⟩
abbrev c_X4_spouse : ByteArray := prog_6_method_4_code
abbrev y_X4_spouse : MethodName := ⟨"WedApart$Marriages", "spouse", "(JI)I"⟩
abbrev c_X4_firstChoice : ByteArray := prog_6_method_5_code
abbrev y_X4_firstChoice : MethodName := ⟨"WedApart$Marriages", "firstChoice", "(JII)I"⟩
abbrev c_X4_isFree : ByteArray := prog_6_method_6_code
abbrev y_X4_isFree : MethodName := ⟨"WedApart$Marriages", "isFree", "(JIII)Z"⟩
abbrev c_X5_of : ByteArray := prog_7_method_2_code
abbrev y_X5_of : MethodName := ⟨"WedApart$Minds", "of", "(JI)I"⟩
abbrev c_X5_with : ByteArray := prog_7_method_3_code
abbrev y_X5_with : MethodName := ⟨"WedApart$Minds", "with", "(JII)J"⟩
abbrev c_X5_unlike : ByteArray := prog_7_method_4_code
abbrev y_X5_unlike : MethodName := ⟨"WedApart$Minds", "unlike", "(JJ)I"⟩
abbrev c_X5_alike : ByteArray := prog_7_method_5_code
abbrev y_X5_alike : MethodName := ⟨"WedApart$Minds", "alike", "(JI)Z"⟩
abbrev c_X6_most : ByteArray := prog_8_method_2_code
abbrev y_X6_most : MethodName := ⟨"WedApart$Table", "most", "(LWedApart$Town;JIII)I"⟩
abbrev c_X6_sitter : ByteArray := prog_8_method_3_code
abbrev y_X6_sitter : MethodName := ⟨"WedApart$Table", "sitter", "(LWedApart$Town;I)I"⟩
abbrev c_X6_firstChoice : ByteArray := prog_8_method_4_code
abbrev y_X6_firstChoice : MethodName := ⟨"WedApart$Table", "firstChoice", "(LWedApart$Town;JIII)I"⟩
abbrev c_X7_init : ByteArray := prog_9_method_1_code
abbrev y_X7_init : MethodName := ⟨"WedApart$Town", "<init>", "()V"⟩
abbrev c_X7_begin : ByteArray := prog_9_method_2_code
abbrev y_X7_begin : MethodName := ⟨"WedApart$Town", "begin", "()V"⟩
abbrev c_X7_becomeLike : ByteArray := prog_9_method_3_code
abbrev y_X7_becomeLike : MethodName := ⟨"WedApart$Town", "becomeLike", "(LWedApart$Town;)V"⟩
abbrev c_X7_has : ByteArray := prog_9_method_4_code
abbrev y_X7_has : MethodName := ⟨"WedApart$Town", "has", "(I)Z"⟩
abbrev c_X7_hasTwo : ByteArray := prog_9_method_5_code
abbrev y_X7_hasTwo : MethodName := ⟨"WedApart$Town", "hasTwo", "(II)Z"⟩
abbrev c_X7_welcome : ByteArray := prog_9_method_6_code
abbrev y_X7_welcome : MethodName := ⟨"WedApart$Town", "welcome", "(II)I"⟩
abbrev c_X7_tell : ByteArray := prog_9_method_7_code
abbrev y_X7_tell : MethodName := ⟨"WedApart$Town", "tell", "(II)I"⟩
abbrev c_X7_turn : ByteArray := prog_9_method_8_code
abbrev y_X7_turn : MethodName := ⟨"WedApart$Town", "turn", "(II)I"⟩
abbrev c_X7_weigh : ByteArray := prog_9_method_9_code
abbrev y_X7_weigh : MethodName := ⟨"WedApart$Town", "weigh", "(I)I"⟩
abbrev c_X7_permit : ByteArray := prog_9_method_10_code
abbrev y_X7_permit : MethodName := ⟨"WedApart$Town", "permit", "(II)I"⟩
abbrev c_X7_arrange : ByteArray := prog_9_method_11_code
abbrev y_X7_arrange : MethodName := ⟨"WedApart$Town", "arrange", "(II)I"⟩
abbrev c_X7_note : ByteArray := prog_9_method_12_code
abbrev y_X7_note : MethodName := ⟨"WedApart$Town", "note", "(IZ)I"⟩
abbrev c_X7_couplesFit : ByteArray := prog_9_method_13_code
abbrev y_X7_couplesFit : MethodName := ⟨"WedApart$Town", "couplesFit", "(II)Z"⟩
abbrev c_X7_distance : ByteArray := prog_9_method_14_code
abbrev y_X7_distance : MethodName := ⟨"WedApart$Town", "distance", "(II)I"⟩
abbrev c_X7_isLicensed : ByteArray := prog_9_method_15_code
abbrev y_X7_isLicensed : MethodName := ⟨"WedApart$Town", "isLicensed", "(I)Z"⟩
abbrev c_X7_mayWed : ByteArray := prog_9_method_16_code
abbrev y_X7_mayWed : MethodName := ⟨"WedApart$Town", "mayWed", "(JII)Z"⟩
abbrev c_X7_lawfulPairs : ByteArray := prog_9_method_17_code
abbrev y_X7_lawfulPairs : MethodName := ⟨"WedApart$Town", "lawfulPairs", "(J)I"⟩
abbrev c_X7_mayAllWed : ByteArray := prog_9_method_18_code
abbrev y_X7_mayAllWed : MethodName := ⟨"WedApart$Town", "mayAllWed", "(I)Z"⟩
abbrev c_X7_behindTalk : ByteArray := prog_9_method_19_code
abbrev y_X7_behindTalk : MethodName := ⟨"WedApart$Town", "behindTalk", "(JII)J"⟩
abbrev c_X7_behindEvening : ByteArray := prog_9_method_20_code
abbrev y_X7_behindEvening : MethodName := ⟨"WedApart$Town", "behindEvening", "(JI)J"⟩
abbrev c_X7_remember : ByteArray := prog_9_method_21_code
abbrev y_X7_remember : MethodName := ⟨"WedApart$Town", "remember", "()V"⟩
abbrev c_X7_takeBack : ByteArray := prog_9_method_22_code
abbrev y_X7_takeBack : MethodName := ⟨"WedApart$Town", "takeBack", "()Z"⟩
abbrev c_X7_addTo : ByteArray := prog_9_method_23_code
abbrev y_X7_addTo : MethodName := ⟨"WedApart$Town", "addTo", "(J)J"⟩
abbrev c_X8_init : ByteArray := prog_10_method_1_code
abbrev y_X8_init : MethodName := ⟨"WedApart$TownText", "<init>", "()V"⟩
abbrev c_X8_append : ByteArray := prog_10_method_2_code
abbrev y_X8_append : MethodName := ⟨"WedApart$TownText", "append", "(I)I"⟩
abbrev c_X8_tellTo : ByteArray := prog_10_method_3_code
abbrev y_X8_tellTo : MethodName := ⟨"WedApart$TownText", "tellTo", "(LWedApart$Town;)I"⟩
abbrev c_X8_tellItem : ByteArray := prog_10_method_4_code
abbrev y_X8_tellItem : MethodName := ⟨"WedApart$TownText", "tellItem", "(LWedApart$Town;)I"⟩
abbrev c_X8_step : ByteArray := prog_10_method_5_code
abbrev y_X8_step : MethodName := ⟨"WedApart$TownText", "step", "()V"⟩
abbrev c_X8_takeNumber : ByteArray := prog_10_method_6_code
abbrev y_X8_takeNumber : MethodName := ⟨"WedApart$TownText", "takeNumber", "()I"⟩
abbrev c_X8_takeMatters : ByteArray := prog_10_method_7_code
abbrev y_X8_takeMatters : MethodName := ⟨"WedApart$TownText", "takeMatters", "()I"⟩
abbrev c_X8_isWord : ByteArray := prog_10_method_8_code
abbrev y_X8_isWord : MethodName := ⟨"WedApart$TownText", "isWord", "(Ljava/lang/String;)Z"⟩
abbrev c_X8_isSign : ByteArray := prog_10_method_9_code
abbrev y_X8_isSign : MethodName := ⟨"WedApart$TownText", "isSign", "(C)Z"⟩
abbrev c_X8_isLetter : ByteArray := prog_10_method_10_code
abbrev y_X8_isLetter : MethodName := ⟨"WedApart$TownText", "isLetter", "(I)Z"⟩
abbrev c_X8_isFigure : ByteArray := prog_10_method_11_code
abbrev y_X8_isFigure : MethodName := ⟨"WedApart$TownText", "isFigure", "(I)Z"⟩
abbrev c_X8_at : ByteArray := prog_10_method_12_code
abbrev y_X8_at : MethodName := ⟨"WedApart$TownText", "at", "(I)I"⟩
abbrev c_X9_init : ByteArray := prog_1_method_1_code
abbrev y_X9_init : MethodName := ⟨"WedApart", "<init>", "()V"⟩
abbrev c_X9_person : ByteArray := prog_1_method_2_code
abbrev y_X9_person : MethodName := ⟨"WedApart", "person", "(II)I"⟩
abbrev c_X9_thinks : ByteArray := prog_1_method_3_code
abbrev y_X9_thinks : MethodName := ⟨"WedApart", "thinks", "(II)I"⟩
abbrev c_X9_become : ByteArray := prog_1_method_4_code
abbrev y_X9_become : MethodName := ⟨"WedApart", "become", "(II)I"⟩
abbrev c_X9_weighty : ByteArray := prog_1_method_5_code
abbrev y_X9_weighty : MethodName := ⟨"WedApart", "weighty", "(I)I"⟩
abbrev c_X9_licence : ByteArray := prog_1_method_6_code
abbrev y_X9_licence : MethodName := ⟨"WedApart", "licence", "(II)I"⟩
abbrev c_X9_talk : ByteArray := prog_1_method_7_code
abbrev y_X9_talk : MethodName := ⟨"WedApart", "talk", "(II)I"⟩
abbrev c_X9_clean : ByteArray := prog_1_method_8_code
abbrev y_X9_clean : MethodName := ⟨"WedApart", "clean", "()I"⟩
abbrev c_X9_type : ByteArray := prog_1_method_9_code
abbrev y_X9_type : MethodName := ⟨"WedApart", "type", "(I)I"⟩
abbrev c_X9_clear : ByteArray := prog_1_method_10_code
abbrev y_X9_clear : MethodName := ⟨"WedApart", "clear", "()I"⟩
abbrev c_X9_read : ByteArray := prog_1_method_11_code
abbrev y_X9_read : MethodName := ⟨"WedApart", "read", "()I"⟩
abbrev c_X9_opinions : ByteArray := prog_1_method_12_code
abbrev y_X9_opinions : MethodName := ⟨"WedApart", "opinions", "(I)I"⟩
abbrev c_X9_differ : ByteArray := prog_1_method_13_code
abbrev y_X9_differ : MethodName := ⟨"WedApart", "differ", "(II)I"⟩
abbrev c_X9_apart : ByteArray := prog_1_method_14_code
abbrev y_X9_apart : MethodName := ⟨"WedApart", "apart", "(II)I"⟩
abbrev c_X9_lawful : ByteArray := prog_1_method_15_code
abbrev y_X9_lawful : MethodName := ⟨"WedApart", "lawful", "(I)I"⟩
abbrev c_X9_three : ByteArray := prog_1_method_16_code
abbrev y_X9_three : MethodName := ⟨"WedApart", "three", "(I)I"⟩
abbrev c_X9_evening : ByteArray := prog_1_method_17_code
abbrev y_X9_evening : MethodName := ⟨"WedApart", "evening", "()I"⟩
abbrev c_X9_meet : ByteArray := prog_1_method_18_code
abbrev y_X9_meet : MethodName := ⟨"WedApart", "meet", "(II)I"⟩
abbrev c_X9_undo : ByteArray := prog_1_method_19_code
abbrev y_X9_undo : MethodName := ⟨"WedApart", "undo", "()I"⟩
abbrev c_X9_behind : ByteArray := prog_1_method_20_code
abbrev y_X9_behind : MethodName := ⟨"WedApart", "behind", "(II)I"⟩
abbrev c_X9_lasts : ByteArray := prog_1_method_21_code
abbrev y_X9_lasts : MethodName := ⟨"WedApart", "lasts", "(II)I"⟩
abbrev c_X9_again : ByteArray := prog_1_method_22_code
abbrev y_X9_again : MethodName := ⟨"WedApart", "again", "(I)I"⟩
abbrev c_X9_mind : ByteArray := prog_1_method_23_code
abbrev y_X9_mind : MethodName := ⟨"WedApart", "mind", "()I"⟩
abbrev c_X9_stops : ByteArray := prog_1_method_24_code
abbrev y_X9_stops : MethodName := ⟨"WedApart", "stops", "()I"⟩
abbrev c_X9_wed : ByteArray := prog_1_method_25_code
abbrev y_X9_wed : MethodName := ⟨"WedApart", "wed", "(II)I"⟩
abbrev c_X9_dinners : ByteArray := prog_1_method_26_code
abbrev y_X9_dinners : MethodName := ⟨"WedApart", "dinners", "(IIII)I"⟩
abbrev c_X9_feigned : ByteArray := prog_1_method_27_code
abbrev y_X9_feigned : MethodName := ⟨"WedApart", "feigned", "(II)I"⟩
abbrev c_X9_seen : ByteArray := prog_1_method_28_code
abbrev y_X9_seen : MethodName := ⟨"WedApart", "seen", "(II)I"⟩
abbrev c_X9_swayed : ByteArray := prog_1_method_29_code
abbrev y_X9_swayed : MethodName := ⟨"WedApart", "swayed", "(I)I"⟩
abbrev c_X9_seats : ByteArray := prog_1_method_30_code
abbrev y_X9_seats : MethodName := ⟨"WedApart", "seats", "(I)I"⟩
abbrev c_X9_couple : ByteArray := prog_1_method_31_code
abbrev y_X9_couple : MethodName := ⟨"WedApart", "couple", "(IZ)I"⟩
abbrev c_X9_burn : ByteArray := prog_1_method_32_code
abbrev y_X9_burn : MethodName := ⟨"WedApart", "burn", "()I"⟩
abbrev c_X9_law : ByteArray := prog_1_method_33_code
abbrev y_X9_law : MethodName := ⟨"WedApart", "law", "(I)I"⟩
abbrev c_X9_child : ByteArray := prog_1_method_34_code
abbrev y_X9_child : MethodName := ⟨"WedApart", "child", "(IIII)I"⟩
abbrev c_X9_born : ByteArray := prog_1_method_35_code
abbrev y_X9_born : MethodName := ⟨"WedApart", "born", "(III)I"⟩
abbrev c_X9_part : ByteArray := prog_1_method_36_code
abbrev y_X9_part : MethodName := ⟨"WedApart", "part", "(I)J"⟩
abbrev c_X9_image : ByteArray := prog_1_method_37_code
abbrev y_X9_image : MethodName := ⟨"WedApart", "image", "(I)I"⟩
abbrev c_X9_from : ByteArray := prog_1_method_38_code
abbrev y_X9_from : MethodName := ⟨"WedApart", "from", "(I)I"⟩
abbrev c_X9_status : ByteArray := prog_1_method_39_code
abbrev y_X9_status : MethodName := ⟨"WedApart", "status", "(I)I"⟩
abbrev c_X9_count : ByteArray := prog_1_method_40_code
abbrev y_X9_count : MethodName := ⟨"WedApart", "count", "(I)I"⟩
abbrev c_X9_digest : ByteArray := prog_1_method_41_code
abbrev y_X9_digest : MethodName := ⟨"WedApart", "digest", "()J"⟩
abbrev c_X9_howMany : ByteArray := prog_1_method_42_code
abbrev y_X9_howMany : MethodName := ⟨"WedApart", "howMany", "(I)I"⟩
abbrev c_X9_isSet : ByteArray := prog_1_method_43_code
abbrev y_X9_isSet : MethodName := ⟨"WedApart", "isSet", "(I)Z"⟩
abbrev c_X9_counted : ByteArray := prog_1_method_44_code
abbrev y_X9_counted : MethodName := ⟨"WedApart", "counted", "(I)I"⟩
abbrev c_X9_refuse : ByteArray := prog_1_method_45_code
abbrev y_X9_refuse : MethodName := ⟨"WedApart", "refuse", "(I)I"⟩
abbrev c_X10_in : ByteArray := prog_12_method_2_code
abbrev y_X10_in : MethodName := ⟨"WedApartModel", "in", "(JJJ)Z"⟩
abbrev c_X10_init : ByteArray := prog_12_method_3_code
abbrev y_X10_init : MethodName := ⟨"WedApartModel", "<init>", "()V"⟩
abbrev c_X10_empties : ByteArray := prog_12_method_4_code
abbrev y_X10_empties : MethodName := ⟨"WedApartModel", "empties", "()V"⟩
abbrev c_X10_refuses : ByteArray := prog_12_method_5_code
abbrev y_X10_refuses : MethodName := ⟨"WedApartModel", "refuses", "(II)I"⟩
abbrev c_X10_bad : ByteArray := prog_12_method_6_code
abbrev y_X10_bad : MethodName := ⟨"WedApartModel", "bad", "()I"⟩
abbrev c_X10_no : ByteArray := prog_12_method_7_code
abbrev y_X10_no : MethodName := ⟨"WedApartModel", "no", "()I"⟩
abbrev c_X10_full : ByteArray := prog_12_method_8_code
abbrev y_X10_full : MethodName := ⟨"WedApartModel", "full", "()I"⟩
abbrev c_X10_isPerson : ByteArray := prog_12_method_9_code
abbrev y_X10_isPerson : MethodName := ⟨"WedApartModel", "isPerson", "(I)Z"⟩
abbrev c_X10_areTwo : ByteArray := prog_12_method_10_code
abbrev y_X10_areTwo : MethodName := ⟨"WedApartModel", "areTwo", "(II)Z"⟩
abbrev c_X10_isSet : ByteArray := prog_12_method_11_code
abbrev y_X10_isSet : MethodName := ⟨"WedApartModel", "isSet", "(I)Z"⟩
abbrev c_X10_puts : ByteArray := prog_12_method_12_code
abbrev y_X10_puts : MethodName := ⟨"WedApartModel", "puts", "(II)I"⟩
abbrev c_X10_person : ByteArray := prog_12_method_13_code
abbrev y_X10_person : MethodName := ⟨"WedApartModel", "person", "(II)I"⟩
abbrev c_X10_thinks : ByteArray := prog_12_method_14_code
abbrev y_X10_thinks : MethodName := ⟨"WedApartModel", "thinks", "(II)I"⟩
abbrev c_X10_become : ByteArray := prog_12_method_15_code
abbrev y_X10_become : MethodName := ⟨"WedApartModel", "become", "(II)I"⟩
abbrev c_X10_weighty : ByteArray := prog_12_method_16_code
abbrev y_X10_weighty : MethodName := ⟨"WedApartModel", "weighty", "(I)I"⟩
abbrev c_X10_licence : ByteArray := prog_12_method_17_code
abbrev y_X10_licence : MethodName := ⟨"WedApartModel", "licence", "(II)I"⟩
abbrev c_X10_talk : ByteArray := prog_12_method_18_code
abbrev y_X10_talk : MethodName := ⟨"WedApartModel", "talk", "(II)I"⟩
abbrev c_X10_clean : ByteArray := prog_12_method_19_code
abbrev y_X10_clean : MethodName := ⟨"WedApartModel", "clean", "()I"⟩
abbrev c_X10_type : ByteArray := prog_12_method_20_code
abbrev y_X10_type : MethodName := ⟨"WedApartModel", "type", "(I)I"⟩
abbrev c_X10_clear : ByteArray := prog_12_method_21_code
abbrev y_X10_clear : MethodName := ⟨"WedApartModel", "clear", "()I"⟩
abbrev c_X10_isAt : ByteArray := prog_12_method_22_code
abbrev y_X10_isAt : MethodName := ⟨"WedApartModel", "isAt", "(II)Z"⟩
abbrev c_X10_scans : ByteArray := prog_12_method_23_code
abbrev y_X10_scans : MethodName := ⟨"WedApartModel", "scans", "()V"⟩
abbrev c_X10_verbOf : ByteArray := prog_12_method_24_code
abbrev y_X10_verbOf : MethodName := ⟨"WedApartModel", "verbOf", "(J)I"⟩
abbrev c_X10_takesLetters : ByteArray := prog_12_method_25_code
abbrev y_X10_takesLetters : MethodName := ⟨"WedApartModel", "takesLetters", "(I)Z"⟩
abbrev c_X10_takesNumber : ByteArray := prog_12_method_26_code
abbrev y_X10_takesNumber : MethodName := ⟨"WedApartModel", "takesNumber", "(I)Z"⟩
abbrev c_X10_reads : ByteArray := prog_12_method_27_code
abbrev y_X10_reads : MethodName := ⟨"WedApartModel", "reads", "()Z"⟩
abbrev c_X10_tellsItem : ByteArray := prog_12_method_28_code
abbrev y_X10_tellsItem : MethodName := ⟨"WedApartModel", "tellsItem", "(I)Z"⟩
abbrev c_X10_read : ByteArray := prog_12_method_29_code
abbrev y_X10_read : MethodName := ⟨"WedApartModel", "read", "()I"⟩
abbrev c_X10_asNow : ByteArray := prog_12_method_30_code
abbrev y_X10_asNow : MethodName := ⟨"WedApartModel", "asNow", "()V"⟩
abbrev c_X10_bits : ByteArray := prog_12_method_31_code
abbrev y_X10_bits : MethodName := ⟨"WedApartModel", "bits", "(I)I"⟩
abbrev c_X10_counted : ByteArray := prog_12_method_32_code
abbrev y_X10_counted : MethodName := ⟨"WedApartModel", "counted", "(I)I"⟩
abbrev c_X10_isLawful : ByteArray := prog_12_method_33_code
abbrev y_X10_isLawful : MethodName := ⟨"WedApartModel", "isLawful", "(II)Z"⟩
abbrev c_X10_opinions : ByteArray := prog_12_method_34_code
abbrev y_X10_opinions : MethodName := ⟨"WedApartModel", "opinions", "(I)I"⟩
abbrev c_X10_differ : ByteArray := prog_12_method_35_code
abbrev y_X10_differ : MethodName := ⟨"WedApartModel", "differ", "(II)I"⟩
abbrev c_X10_apart : ByteArray := prog_12_method_36_code
abbrev y_X10_apart : MethodName := ⟨"WedApartModel", "apart", "(II)I"⟩
abbrev c_X10_lawful : ByteArray := prog_12_method_37_code
abbrev y_X10_lawful : MethodName := ⟨"WedApartModel", "lawful", "(I)I"⟩
abbrev c_X10_three : ByteArray := prog_12_method_38_code
abbrev y_X10_three : MethodName := ⟨"WedApartModel", "three", "(I)I"⟩
abbrev c_X10_swayedBy : ByteArray := prog_12_method_39_code
abbrev y_X10_swayedBy : MethodName := ⟨"WedApartModel", "swayedBy", "(IIIII)I"⟩
abbrev c_X10_talks : ByteArray := prog_12_method_40_code
abbrev y_X10_talks : MethodName := ⟨"WedApartModel", "talks", "(II)V"⟩
abbrev c_X10_goes : ByteArray := prog_12_method_41_code
abbrev y_X10_goes : MethodName := ⟨"WedApartModel", "goes", "(I)V"⟩
abbrev c_X10_remembers : ByteArray := prog_12_method_42_code
abbrev y_X10_remembers : MethodName := ⟨"WedApartModel", "remembers", "()V"⟩
abbrev c_X10_keepsAll : ByteArray := prog_12_method_43_code
abbrev y_X10_keepsAll : MethodName := ⟨"WedApartModel", "keepsAll", "()I"⟩
abbrev c_X10_evening : ByteArray := prog_12_method_44_code
abbrev y_X10_evening : MethodName := ⟨"WedApartModel", "evening", "()I"⟩
abbrev c_X10_meet : ByteArray := prog_12_method_45_code
abbrev y_X10_meet : MethodName := ⟨"WedApartModel", "meet", "(II)I"⟩
abbrev c_X10_undo : ByteArray := prog_12_method_46_code
abbrev y_X10_undo : MethodName := ⟨"WedApartModel", "undo", "()I"⟩
abbrev c_X10_lastsBy : ByteArray := prog_12_method_47_code
abbrev y_X10_lastsBy : MethodName := ⟨"WedApartModel", "lastsBy", "(I)V"⟩
abbrev c_X10_behind : ByteArray := prog_12_method_48_code
abbrev y_X10_behind : MethodName := ⟨"WedApartModel", "behind", "(II)I"⟩
abbrev c_X10_lasts : ByteArray := prog_12_method_49_code
abbrev y_X10_lasts : MethodName := ⟨"WedApartModel", "lasts", "(II)I"⟩
abbrev c_X10_again : ByteArray := prog_12_method_50_code
abbrev y_X10_again : MethodName := ⟨"WedApartModel", "again", "(I)I"⟩
abbrev c_X10_isOne : ByteArray := prog_12_method_51_code
abbrev y_X10_isOne : MethodName := ⟨"WedApartModel", "isOne", "()Z"⟩
abbrev c_X10_mind : ByteArray := prog_12_method_52_code
abbrev y_X10_mind : MethodName := ⟨"WedApartModel", "mind", "()I"⟩
abbrev c_X10_stops : ByteArray := prog_12_method_53_code
abbrev y_X10_stops : MethodName := ⟨"WedApartModel", "stops", "()I"⟩
abbrev c_X10_allows : ByteArray := prog_12_method_54_code
abbrev y_X10_allows : MethodName := ⟨"WedApartModel", "allows", "(I)V"⟩
abbrev c_X10_wed : ByteArray := prog_12_method_55_code
abbrev y_X10_wed : MethodName := ⟨"WedApartModel", "wed", "(II)I"⟩
abbrev c_X10_dines : ByteArray := prog_12_method_56_code
abbrev y_X10_dines : MethodName := ⟨"WedApartModel", "dines", "(III)Z"⟩
abbrev c_X10_dinners : ByteArray := prog_12_method_57_code
abbrev y_X10_dinners : MethodName := ⟨"WedApartModel", "dinners", "(IIII)I"⟩
abbrev c_X10_feigned : ByteArray := prog_12_method_58_code
abbrev y_X10_feigned : MethodName := ⟨"WedApartModel", "feigned", "(II)I"⟩
abbrev c_X10_seen : ByteArray := prog_12_method_59_code
abbrev y_X10_seen : MethodName := ⟨"WedApartModel", "seen", "(II)I"⟩
abbrev c_X10_swayed : ByteArray := prog_12_method_60_code
abbrev y_X10_swayed : MethodName := ⟨"WedApartModel", "swayed", "(I)I"⟩
abbrev c_X10_lawfulPairs : ByteArray := prog_12_method_61_code
abbrev y_X10_lawfulPairs : MethodName := ⟨"WedApartModel", "lawfulPairs", "()I"⟩
abbrev c_X10_seats : ByteArray := prog_12_method_62_code
abbrev y_X10_seats : MethodName := ⟨"WedApartModel", "seats", "(I)I"⟩
abbrev c_X10_couple : ByteArray := prog_12_method_63_code
abbrev y_X10_couple : MethodName := ⟨"WedApartModel", "couple", "(IZ)I"⟩
abbrev c_X10_burn : ByteArray := prog_12_method_64_code
abbrev y_X10_burn : MethodName := ⟨"WedApartModel", "burn", "()I"⟩
abbrev c_X10_law : ByteArray := prog_12_method_65_code
abbrev y_X10_law : MethodName := ⟨"WedApartModel", "law", "(I)I"⟩
abbrev c_X10_divisor : ByteArray := prog_12_method_66_code
abbrev y_X10_divisor : MethodName := ⟨"WedApartModel", "divisor", "(JJ)J"⟩
abbrev c_X10_child : ByteArray := prog_12_method_67_code
abbrev y_X10_child : MethodName := ⟨"WedApartModel", "child", "(IIII)I"⟩
abbrev c_X10_born : ByteArray := prog_12_method_68_code
abbrev y_X10_born : MethodName := ⟨"WedApartModel", "born", "(III)I"⟩
abbrev c_X10_part : ByteArray := prog_12_method_69_code
abbrev y_X10_part : MethodName := ⟨"WedApartModel", "part", "(I)J"⟩
abbrev c_X10_image : ByteArray := prog_12_method_70_code
abbrev y_X10_image : MethodName := ⟨"WedApartModel", "image", "(I)I"⟩
abbrev c_X10_from : ByteArray := prog_12_method_71_code
abbrev y_X10_from : MethodName := ⟨"WedApartModel", "from", "(I)I"⟩
abbrev c_X10_status : ByteArray := prog_12_method_72_code
abbrev y_X10_status : MethodName := ⟨"WedApartModel", "status", "(I)I"⟩
abbrev c_X10_countOf : ByteArray := prog_12_method_73_code
abbrev y_X10_countOf : MethodName := ⟨"WedApartModel", "countOf", "(I)I"⟩
abbrev c_X10_count : ByteArray := prog_12_method_74_code
abbrev y_X10_count : MethodName := ⟨"WedApartModel", "count", "(I)I"⟩
abbrev c_X10_mixed : ByteArray := prog_12_method_75_code
abbrev y_X10_mixed : MethodName := ⟨"WedApartModel", "mixed", "(JII)J"⟩
abbrev c_X10_digest : ByteArray := prog_12_method_76_code
abbrev y_X10_digest : MethodName := ⟨"WedApartModel", "digest", "()J"⟩
abbrev c_J6_lowestOneBit_0f7a4 : ByteArray := prog_13_method_46_code
abbrev y_J6_lowestOneBit_0f7a4 : MethodName := ⟨"java/lang/Integer", "lowestOneBit", "(I)I"⟩
abbrev c_J6_bitCount_0f7a4 : ByteArray := prog_13_method_49_code
abbrev y_J6_bitCount_0f7a4 : MethodName := ⟨"java/lang/Integer", "bitCount", "(I)I"⟩
abbrev c_J9_max_7cf53 : ByteArray := prog_14_method_65_code
abbrev y_J9_max_7cf53 : MethodName := ⟨"java/lang/Math", "max", "(II)I"⟩
abbrev c_J0_length_8abf5 : ByteArray := prog_15_method_54_code
abbrev y_J0_length_8abf5 : MethodName := ⟨"java/lang/String", "length", "()I"⟩
abbrev c_J0_charAt_5068e : ByteArray := prog_15_method_56_code
abbrev y_J0_charAt_5068e : MethodName := ⟨"java/lang/String", "charAt", "(I)C"⟩
abbrev c_J0_coder_7d493 : ByteArray := prog_15_method_152_code
abbrev y_J0_coder_7d493 : MethodName := ⟨"java/lang/String", "coder", "()B"⟩
abbrev c_J0_isLatin1_aae02 : ByteArray := prog_15_method_154_code
abbrev y_J0_isLatin1_aae02 : MethodName := ⟨"java/lang/String", "isLatin1", "()Z"⟩
abbrev c_J0_checkIndex_df160 : ByteArray := prog_15_method_155_code
abbrev y_J0_checkIndex_df160 : MethodName := ⟨"java/lang/String", "checkIndex", "(II)V"⟩
abbrev c_J1_charAt_3b067 : ByteArray := prog_16_method_2_code
abbrev y_J1_charAt_3b067 : MethodName := ⟨"java/lang/StringLatin1", "charAt", "([BI)C"⟩
abbrev c_J2_getChar_3b067 : ByteArray := prog_17_method_5_code
abbrev y_J2_getChar_3b067 : MethodName := ⟨"java/lang/StringUTF16", "getChar", "([BI)C"⟩
abbrev c_J2_length_9d52b : ByteArray := prog_17_method_6_code
abbrev y_J2_length_9d52b : MethodName := ⟨"java/lang/StringUTF16", "length", "([B)I"⟩
abbrev c_J2_charAt_3b067 : ByteArray := prog_17_method_83_code
abbrev y_J2_charAt_3b067 : MethodName := ⟨"java/lang/StringUTF16", "charAt", "([BI)C"⟩
abbrev c_J2_checkIndex_2214a : ByteArray := prog_17_method_91_code
abbrev y_J2_checkIndex_2214a : MethodName := ⟨"java/lang/StringUTF16", "checkIndex", "(I[B)V"⟩
abbrev c_J3_checkIndex_8e157 : ByteArray := prog_19_method_11_code
abbrev y_J3_checkIndex_8e157 : MethodName := ⟨"jdk/internal/util/Preconditions", "checkIndex", "(IILjava/util/function/BiFunction;)I"⟩
theorem em_tm1 {w : Cond} (i : Nat) (h0 : tables_1_1[i]? = some w) (hg : goodWord w = true) : w ∈ em_tb := by
  have h : w ∈ tables_1_1 := List.mem_of_getElem? h0
  refine List.mem_filter.mpr ⟨List.mem_append.mpr (Or.inr ?_), hg⟩
  show w ∈ tables_1_1 ++ (tables_1_2 ++ (tables_1_3 ++ (tables_1_4 ++ tables_1_5)))
  simp only [List.mem_append]
  simp only [h, true_or, or_true]
theorem em_tm2 {w : Cond} (i : Nat) (h0 : tables_1_2[i]? = some w) (hg : goodWord w = true) : w ∈ em_tb := by
  have h : w ∈ tables_1_2 := List.mem_of_getElem? h0
  refine List.mem_filter.mpr ⟨List.mem_append.mpr (Or.inr ?_), hg⟩
  show w ∈ tables_1_1 ++ (tables_1_2 ++ (tables_1_3 ++ (tables_1_4 ++ tables_1_5)))
  simp only [List.mem_append]
  simp only [h, true_or, or_true]
theorem em_tm3 {w : Cond} (i : Nat) (h0 : tables_1_3[i]? = some w) (hg : goodWord w = true) : w ∈ em_tb := by
  have h : w ∈ tables_1_3 := List.mem_of_getElem? h0
  refine List.mem_filter.mpr ⟨List.mem_append.mpr (Or.inr ?_), hg⟩
  show w ∈ tables_1_1 ++ (tables_1_2 ++ (tables_1_3 ++ (tables_1_4 ++ tables_1_5)))
  simp only [List.mem_append]
  simp only [h, true_or, or_true]
theorem em_tm4 {w : Cond} (i : Nat) (h0 : tables_1_4[i]? = some w) (hg : goodWord w = true) : w ∈ em_tb := by
  have h : w ∈ tables_1_4 := List.mem_of_getElem? h0
  refine List.mem_filter.mpr ⟨List.mem_append.mpr (Or.inr ?_), hg⟩
  show w ∈ tables_1_1 ++ (tables_1_2 ++ (tables_1_3 ++ (tables_1_4 ++ tables_1_5)))
  simp only [List.mem_append]
  simp only [h, true_or, or_true]
theorem em_tm5 {w : Cond} (i : Nat) (h0 : tables_1_5[i]? = some w) (hg : goodWord w = true) : w ∈ em_tb := by
  have h : w ∈ tables_1_5 := List.mem_of_getElem? h0
  refine List.mem_filter.mpr ⟨List.mem_append.mpr (Or.inr ?_), hg⟩
  show w ∈ tables_1_1 ++ (tables_1_2 ++ (tables_1_3 ++ (tables_1_4 ++ tables_1_5)))
  simp only [List.mem_append]
  simp only [h, true_or, or_true]
theorem ew0 : Cond.initialized "WedApartLaw" ∈ em_tb := em_tm1 0 rfl rfl
theorem ew1 : Cond.initialized "WedApart" ∈ em_tb := em_tm1 1 rfl rfl
theorem ew2 : Cond.initialized "WedApart$TownText" ∈ em_tb := em_tm1 2 rfl rfl
theorem ew3 : Cond.initialized "WedApart$Course" ∈ em_tb := em_tm1 3 rfl rfl
theorem ew4 : Cond.initialized "WedApart$Fraction" ∈ em_tb := em_tm1 4 rfl rfl
theorem ew5 : Cond.initialized "WedApart$Town" ∈ em_tb := em_tm1 5 rfl rfl
theorem ew6 : Cond.initialized "WedApartModel" ∈ em_tb := em_tm1 6 rfl rfl
theorem ew7 : Cond.initialized "WedApart$Kinds" ∈ em_tb := em_tm1 7 rfl rfl
theorem ew8 : Cond.initialized "WedApart$Minds" ∈ em_tb := em_tm1 8 rfl rfl
theorem ew9 : Cond.initialized "java/lang/String" ∈ em_tb := em_tm1 9 rfl rfl
theorem ew10 : Cond.initialized "java/lang/StringLatin1" ∈ em_tb := em_tm1 10 rfl rfl
theorem ew11 : Cond.initialized "jdk/internal/util/Preconditions" ∈ em_tb := em_tm1 11 rfl rfl
theorem ew12 : Cond.initialized "java/lang/StringUTF16" ∈ em_tb := em_tm1 12 rfl rfl
theorem ew13 : Cond.initialized "java/lang/Integer" ∈ em_tb := em_tm1 13 rfl rfl
theorem ew14 : Cond.initialized "java/lang/System" ∈ em_tb := em_tm1 14 rfl rfl
theorem ew15 : Cond.initialized "java/lang/Math" ∈ em_tb := em_tm1 15 rfl rfl
theorem ew16 : Cond.initialized "WedApart$Marriages" ∈ em_tb := em_tm1 16 rfl rfl
theorem ew17 : Cond.initialized "WedApart$Dinners" ∈ em_tb := em_tm1 17 rfl rfl
theorem ew18 : Cond.initialized "WedApart$Table" ∈ em_tb := em_tm1 18 rfl rfl
theorem ew19 : Cond.classLink "WedApartLaw" 7 "WedApart" ∈ em_tb := em_tm1 19 rfl rfl
theorem ew20 : Cond.instantiable "WedApart" 7 ∈ em_tb := em_tm1 20 rfl rfl
theorem ew21 : Cond.methodLink "WedApartLaw" 9 ⟨"WedApart", "<init>", "()V"⟩ ∈ em_tb := em_tm1 21 rfl rfl
theorem ew22 : Cond.instanceMethod ⟨"WedApart", "<init>", "()V"⟩ ∈ em_tb := em_tm1 22 rfl rfl
theorem ew23 : Cond.code ⟨"WedApart", "<init>", "()V"⟩ prog_1_method_1_code 1 (Option.none : Option ClassFile.FieldType) ∈ em_tb := em_tm1 23 rfl rfl
theorem ew24 : Cond.methodLink "WedApart" 1 ⟨"java/lang/Object", "<init>", "()V"⟩ ∈ em_tb := em_tm1 24 rfl rfl
theorem ew25 : Cond.instanceMethod ⟨"java/lang/Object", "<init>", "()V"⟩ ∈ em_tb := em_tm1 25 rfl rfl
theorem ew26 : Cond.code ⟨"java/lang/Object", "<init>", "()V"⟩ object_method_1_code 1 (Option.none : Option ClassFile.FieldType) ∈ em_tb := em_tm1 26 rfl rfl
theorem ew27 : Cond.classLink "WedApart" 7 "WedApart$TownText" ∈ em_tb := em_tm1 27 rfl rfl
theorem ew28 : Cond.instantiable "WedApart$TownText" 4 ∈ em_tb := em_tm1 28 rfl rfl
theorem ew30 : Cond.instanceMethod ⟨"WedApart$TownText", "<init>", "()V"⟩ ∈ em_tb := em_tm1 30 rfl rfl
theorem ew31 : Cond.code ⟨"WedApart$TownText", "<init>", "()V"⟩ prog_10_method_1_code 1 (Option.none : Option ClassFile.FieldType) ∈ em_tb := em_tm1 31 rfl rfl
theorem ew32 : Cond.methodLink "WedApart$TownText" 3 ⟨"java/lang/Object", "<init>", "()V"⟩ ∈ em_tb := em_tm1 32 rfl rfl
theorem ew33 : Cond.fieldLink "WedApart$TownText" 11 "WedApart$TownText" "bytes" "[B" ∈ em_tb := em_tm1 33 rfl rfl
theorem ew34 : Cond.fieldLink "WedApart$TownText" 15 "WedApart$TownText" "length" "I" ∈ em_tb := em_tm1 34 rfl rfl
theorem ew35 : Cond.fieldLink "WedApart" 93 "WedApart$TownText" "length" "I" ∈ em_tb := em_tm1 35 rfl rfl
theorem ew36 : Cond.fieldLink "WedApart$TownText" 25 "WedApart$TownText" "start" "I" ∈ em_tb := em_tm1 36 rfl rfl
theorem ew37 : Cond.fieldLink "WedApart$TownText" 19 "WedApart$TownText" "end" "I" ∈ em_tb := em_tm1 37 rfl rfl
theorem ew38 : Cond.laysFinal "WedApart$TownText" "WedApart$TownText" "bytes" "[B" ∈ em_tb := em_tm1 38 rfl rfl
theorem ew40 : Cond.lays "WedApart$TownText" "WedApart$TownText" "length" "I" ∈ em_tb := em_tm1 40 rfl rfl
theorem ew42 : Cond.lays "WedApart$TownText" "WedApart$TownText" "start" "I" ∈ em_tb := em_tm1 42 rfl rfl
theorem ew44 : Cond.lays "WedApart$TownText" "WedApart$TownText" "end" "I" ∈ em_tb := em_tm1 44 rfl rfl
theorem ew47 : Cond.arrayClass ClassFile.FieldType.byte ∈ em_tb := em_tm1 47 rfl rfl
theorem ew48 : Cond.classLink "WedApart" 16 "WedApart$Course" ∈ em_tb := em_tm1 48 rfl rfl
theorem ew49 : Cond.instantiable "WedApart$Course" 1 ∈ em_tb := em_tm1 49 rfl rfl
theorem ew51 : Cond.instanceMethod ⟨"WedApart$Course", "<init>", "()V"⟩ ∈ em_tb := em_tm1 51 rfl rfl
theorem ew52 : Cond.code ⟨"WedApart$Course", "<init>", "()V"⟩ prog_2_method_1_code 1 (Option.none : Option ClassFile.FieldType) ∈ em_tb := em_tm1 52 rfl rfl
theorem ew53 : Cond.methodLink "WedApart$Course" 3 ⟨"java/lang/Object", "<init>", "()V"⟩ ∈ em_tb := em_tm1 53 rfl rfl
theorem ew54 : Cond.fieldLink "WedApart$Course" 9 "WedApart$Course" "minds" "[J" ∈ em_tb := em_tm1 54 rfl rfl
theorem ew55 : Cond.laysFinal "WedApart$Course" "WedApart$Course" "minds" "[J" ∈ em_tb := em_tm1 55 rfl rfl
theorem ew58 : Cond.arrayClass ClassFile.FieldType.long ∈ em_tb := em_tm1 58 rfl rfl
theorem ew59 : Cond.classLink "WedApart" 23 "WedApart$Fraction" ∈ em_tb := em_tm1 59 rfl rfl
theorem ew60 : Cond.instantiable "WedApart$Fraction" 2 ∈ em_tb := em_tm1 60 rfl rfl
theorem ew62 : Cond.instanceMethod ⟨"WedApart$Fraction", "<init>", "()V"⟩ ∈ em_tb := em_tm1 62 rfl rfl
theorem ew63 : Cond.code ⟨"WedApart$Fraction", "<init>", "()V"⟩ prog_4_method_1_code 1 (Option.none : Option ClassFile.FieldType) ∈ em_tb := em_tm1 63 rfl rfl
theorem ew64 : Cond.methodLink "WedApart$Fraction" 1 ⟨"java/lang/Object", "<init>", "()V"⟩ ∈ em_tb := em_tm1 64 rfl rfl
theorem ew65 : Cond.fieldLink "WedApart$Fraction" 7 "WedApart$Fraction" "above" "I" ∈ em_tb := em_tm1 65 rfl rfl
theorem ew66 : Cond.fieldLink "WedApart" 249 "WedApart$Fraction" "above" "I" ∈ em_tb := em_tm1 66 rfl rfl
theorem ew67 : Cond.fieldLink "WedApart$Fraction" 13 "WedApart$Fraction" "below" "I" ∈ em_tb := em_tm1 67 rfl rfl
theorem ew68 : Cond.fieldLink "WedApart" 252 "WedApart$Fraction" "below" "I" ∈ em_tb := em_tm1 68 rfl rfl
theorem ew69 : Cond.lays "WedApart$Fraction" "WedApart$Fraction" "above" "I" ∈ em_tb := em_tm1 69 rfl rfl
theorem ew71 : Cond.lays "WedApart$Fraction" "WedApart$Fraction" "below" "I" ∈ em_tb := em_tm1 71 rfl rfl
theorem ew74 : Cond.classLink "WedApart" 34 "WedApart$Town" ∈ em_tb := em_tm1 74 rfl rfl
theorem ew76 : Cond.instantiable "WedApart$Town" 17 ∈ em_tb := em_tm1 76 rfl rfl
theorem ew77 : Cond.methodLink "WedApart" 40 ⟨"WedApart$Town", "<init>", "()V"⟩ ∈ em_tb := em_tm1 77 rfl rfl
theorem ew78 : Cond.instanceMethod ⟨"WedApart$Town", "<init>", "()V"⟩ ∈ em_tb := em_tm1 78 rfl rfl
theorem ew79 : Cond.code ⟨"WedApart$Town", "<init>", "()V"⟩ prog_9_method_1_code 1 (Option.none : Option ClassFile.FieldType) ∈ em_tb := em_tm1 79 rfl rfl
theorem ew80 : Cond.methodLink "WedApart$Town" 3 ⟨"java/lang/Object", "<init>", "()V"⟩ ∈ em_tb := em_tm1 80 rfl rfl
theorem ew81 : Cond.methodLink "WedApart$Town" 35 ⟨"WedApart$Town", "begin", "()V"⟩ ∈ em_tb := em_tm1 81 rfl rfl
theorem ew82 : Cond.instanceMethod ⟨"WedApart$Town", "begin", "()V"⟩ ∈ em_tb := em_tm1 82 rfl rfl
theorem ew83 : Cond.selects "WedApart$Town" ⟨"WedApart$Town", "begin", "()V"⟩ ⟨"WedApart$Town", "begin", "()V"⟩ ∈ em_tb := em_tm1 83 rfl rfl
theorem ew84 : Cond.code ⟨"WedApart$Town", "begin", "()V"⟩ prog_9_method_2_code 1 (Option.none : Option ClassFile.FieldType) ∈ em_tb := em_tm1 84 rfl rfl
theorem ew85 : Cond.fieldLink "WedApart$Town" 38 "WedApart$Town" "people" "I" ∈ em_tb := em_tm1 85 rfl rfl
theorem ew86 : Cond.fieldLink "WedApart$Table" 7 "WedApart$Town" "people" "I" ∈ em_tb := em_tm1 86 rfl rfl
theorem ew87 : Cond.fieldLink "WedApart$Course" 38 "WedApart$Town" "people" "I" ∈ em_tb := em_tm1 87 rfl rfl
theorem ew88 : Cond.fieldLink "WedApart" 120 "WedApart$Town" "people" "I" ∈ em_tb := em_tm1 88 rfl rfl
theorem ew89 : Cond.fieldLink "WedApart$Town" 9 "WedApart$Town" "kinds" "[I" ∈ em_tb := em_tm1 89 rfl rfl
theorem ew90 : Cond.fieldLink "WedApart$Course" 15 "WedApart$Town" "minds" "J" ∈ em_tb := em_tm1 90 rfl rfl
theorem ew91 : Cond.fieldLink "WedApart$Town" 42 "WedApart$Town" "minds" "J" ∈ em_tb := em_tm1 91 rfl rfl
theorem ew92 : Cond.fieldLink "WedApart$Dinners" 33 "WedApart$Town" "minds" "J" ∈ em_tb := em_tm1 92 rfl rfl
theorem ew93 : Cond.fieldLink "WedApart$Table" 33 "WedApart$Town" "minds" "J" ∈ em_tb := em_tm1 93 rfl rfl
theorem ew94 : Cond.fieldLink "WedApart" 103 "WedApart$Town" "minds" "J" ∈ em_tb := em_tm1 94 rfl rfl
theorem ew95 : Cond.fieldLink "WedApart$Town" 46 "WedApart$Town" "seen" "J" ∈ em_tb := em_tm1 95 rfl rfl
theorem ew96 : Cond.fieldLink "WedApart" 210 "WedApart$Town" "seen" "J" ∈ em_tb := em_tm1 96 rfl rfl
theorem ew97 : Cond.fieldLink "WedApart$Town" 49 "WedApart$Town" "weights" "I" ∈ em_tb := em_tm1 97 rfl rfl
theorem ew98 : Cond.fieldLink "WedApart$Town" 52 "WedApart$Town" "least" "I" ∈ em_tb := em_tm1 98 rfl rfl
theorem ew99 : Cond.fieldLink "WedApart$Town" 55 "WedApart$Town" "most" "I" ∈ em_tb := em_tm1 99 rfl rfl
theorem ew100 : Cond.fieldLink "WedApart$Town" 58 "WedApart$Town" "pairs" "I" ∈ em_tb := em_tm1 100 rfl rfl
theorem ew101 : Cond.fieldLink "WedApart" 86 "WedApart$Town" "pairs" "I" ∈ em_tb := em_tm1 101 rfl rfl
theorem ew102 : Cond.fieldLink "WedApart$Town" 15 "WedApart$Town" "firsts" "[I" ∈ em_tb := em_tm1 102 rfl rfl
theorem ew103 : Cond.fieldLink "WedApart$Town" 18 "WedApart$Town" "seconds" "[I" ∈ em_tb := em_tm1 103 rfl rfl
theorem ew104 : Cond.fieldLink "WedApart$Course" 20 "WedApart$Town" "evening" "I" ∈ em_tb := em_tm1 104 rfl rfl
theorem ew105 : Cond.fieldLink "WedApart$Town" 61 "WedApart$Town" "evening" "I" ∈ em_tb := em_tm1 105 rfl rfl
theorem ew106 : Cond.fieldLink "WedApart" 138 "WedApart$Town" "evening" "I" ∈ em_tb := em_tm1 106 rfl rfl
theorem ew107 : Cond.fieldLink "WedApart$Town" 64 "WedApart$Town" "undoable" "I" ∈ em_tb := em_tm1 107 rfl rfl
theorem ew108 : Cond.fieldLink "WedApart" 269 "WedApart$Town" "undoable" "I" ∈ em_tb := em_tm1 108 rfl rfl
theorem ew109 : Cond.fieldLink "WedApart$Town" 21 "WedApart$Town" "mindsAhead" "[J" ∈ em_tb := em_tm1 109 rfl rfl
theorem ew110 : Cond.fieldLink "WedApart$Town" 25 "WedApart$Town" "eveningsAhead" "[I" ∈ em_tb := em_tm1 110 rfl rfl
theorem ew111 : Cond.fieldLink "WedApart$Town" 67 "WedApart$Town" "couples" "I" ∈ em_tb := em_tm1 111 rfl rfl
theorem ew112 : Cond.fieldLink "WedApart" 228 "WedApart$Town" "couples" "I" ∈ em_tb := em_tm1 112 rfl rfl
theorem ew113 : Cond.fieldLink "WedApart$Town" 28 "WedApart$Town" "couplesApart" "[I" ∈ em_tb := em_tm1 113 rfl rfl
theorem ew114 : Cond.fieldLink "WedApart$Town" 31 "WedApart$Town" "couplesLet" "[Z" ∈ em_tb := em_tm1 114 rfl rfl
theorem ew115 : Cond.lays "WedApart$Town" "WedApart$Town" "people" "I" ∈ em_tb := em_tm1 115 rfl rfl
theorem ew117 : Cond.laysFinal "WedApart$Town" "WedApart$Town" "kinds" "[I" ∈ em_tb := em_tm1 117 rfl rfl
theorem ew119 : Cond.lays "WedApart$Town" "WedApart$Town" "minds" "J" ∈ em_tb := em_tm1 119 rfl rfl
theorem ew121 : Cond.lays "WedApart$Town" "WedApart$Town" "seen" "J" ∈ em_tb := em_tm1 121 rfl rfl
theorem ew123 : Cond.lays "WedApart$Town" "WedApart$Town" "weights" "I" ∈ em_tb := em_tm1 123 rfl rfl
theorem ew125 : Cond.lays "WedApart$Town" "WedApart$Town" "least" "I" ∈ em_tb := em_tm1 125 rfl rfl
theorem ew127 : Cond.lays "WedApart$Town" "WedApart$Town" "most" "I" ∈ em_tb := em_tm1 127 rfl rfl
theorem ew129 : Cond.lays "WedApart$Town" "WedApart$Town" "pairs" "I" ∈ em_tb := em_tm1 129 rfl rfl
theorem ew131 : Cond.laysFinal "WedApart$Town" "WedApart$Town" "firsts" "[I" ∈ em_tb := em_tm1 131 rfl rfl
theorem ew133 : Cond.laysFinal "WedApart$Town" "WedApart$Town" "seconds" "[I" ∈ em_tb := em_tm1 133 rfl rfl
theorem ew135 : Cond.lays "WedApart$Town" "WedApart$Town" "evening" "I" ∈ em_tb := em_tm1 135 rfl rfl
theorem ew137 : Cond.lays "WedApart$Town" "WedApart$Town" "undoable" "I" ∈ em_tb := em_tm1 137 rfl rfl
theorem ew139 : Cond.laysFinal "WedApart$Town" "WedApart$Town" "mindsAhead" "[J" ∈ em_tb := em_tm1 139 rfl rfl
theorem ew141 : Cond.laysFinal "WedApart$Town" "WedApart$Town" "eveningsAhead" "[I" ∈ em_tb := em_tm1 141 rfl rfl
theorem ew143 : Cond.lays "WedApart$Town" "WedApart$Town" "couples" "I" ∈ em_tb := em_tm1 143 rfl rfl
theorem ew145 : Cond.laysFinal "WedApart$Town" "WedApart$Town" "couplesApart" "[I" ∈ em_tb := em_tm1 145 rfl rfl
theorem ew147 : Cond.laysFinal "WedApart$Town" "WedApart$Town" "couplesLet" "[Z" ∈ em_tb := em_tm1 147 rfl rfl
theorem ew150 : Cond.arrayClass ClassFile.FieldType.int ∈ em_tb := em_tm1 150 rfl rfl
theorem ew151 : Cond.arrayClass ClassFile.FieldType.boolean ∈ em_tb := em_tm1 151 rfl rfl
theorem ew152 : Cond.fieldLink "WedApart" 10 "WedApart" "text" "LWedApart$TownText;" ∈ em_tb := em_tm1 152 rfl rfl
theorem ew153 : Cond.fieldLink "WedApart" 19 "WedApart" "course" "LWedApart$Course;" ∈ em_tb := em_tm1 153 rfl rfl
theorem ew154 : Cond.fieldLink "WedApart" 26 "WedApart" "fraction" "LWedApart$Fraction;" ∈ em_tb := em_tm1 154 rfl rfl
theorem ew155 : Cond.fieldLink "WedApart" 30 "WedApart" "refusals" "[I" ∈ em_tb := em_tm1 155 rfl rfl
theorem ew156 : Cond.fieldLink "WedApart" 36 "WedApart" "images" "[LWedApart$Town;" ∈ em_tb := em_tm1 156 rfl rfl
theorem ew157 : Cond.fieldLink "WedApart" 41 "WedApart" "town" "LWedApart$Town;" ∈ em_tb := em_tm1 157 rfl rfl
theorem ew158 : Cond.fieldLink "WedApart" 45 "WedApart" "spare" "LWedApart$Town;" ∈ em_tb := em_tm1 158 rfl rfl
theorem ew159 : Cond.laysFinal "WedApart" "WedApart" "text" "LWedApart$TownText;" ∈ em_tb := em_tm1 159 rfl rfl
theorem ew161 : Cond.laysFinal "WedApart" "WedApart" "course" "LWedApart$Course;" ∈ em_tb := em_tm1 161 rfl rfl
theorem ew163 : Cond.laysFinal "WedApart" "WedApart" "fraction" "LWedApart$Fraction;" ∈ em_tb := em_tm1 163 rfl rfl
theorem ew165 : Cond.laysFinal "WedApart" "WedApart" "refusals" "[I" ∈ em_tb := em_tm1 165 rfl rfl
theorem ew167 : Cond.laysFinal "WedApart" "WedApart" "images" "[LWedApart$Town;" ∈ em_tb := em_tm1 167 rfl rfl
theorem ew169 : Cond.lays "WedApart" "WedApart" "town" "LWedApart$Town;" ∈ em_tb := em_tm1 169 rfl rfl
theorem ew171 : Cond.lays "WedApart" "WedApart" "spare" "LWedApart$Town;" ∈ em_tb := em_tm1 171 rfl rfl
theorem ew174 : Cond.methodLink "WedApartLaw" 13 ⟨"WedApart", "person", "(II)I"⟩ ∈ em_tb := em_tm1 174 rfl rfl
theorem ew175 : Cond.instanceMethod ⟨"WedApart", "person", "(II)I"⟩ ∈ em_tb := em_tm1 175 rfl rfl
theorem ew176 : Cond.selects "WedApart" ⟨"WedApart", "person", "(II)I"⟩ ⟨"WedApart", "person", "(II)I"⟩ ∈ em_tb := em_tm1 176 rfl rfl
theorem ew177 : Cond.code ⟨"WedApart", "person", "(II)I"⟩ prog_1_method_2_code 3 (Option.some ClassFile.FieldType.int) ∈ em_tb := em_tm1 177 rfl rfl
theorem ew178 : Cond.methodLink "WedApart" 48 ⟨"WedApart$Town", "welcome", "(II)I"⟩ ∈ em_tb := em_tm1 178 rfl rfl
theorem ew179 : Cond.instanceMethod ⟨"WedApart$Town", "welcome", "(II)I"⟩ ∈ em_tb := em_tm1 179 rfl rfl
theorem ew180 : Cond.selects "WedApart$Town" ⟨"WedApart$Town", "welcome", "(II)I"⟩ ⟨"WedApart$Town", "welcome", "(II)I"⟩ ∈ em_tb := em_tm1 180 rfl rfl
theorem ew181 : Cond.code ⟨"WedApart$Town", "welcome", "(II)I"⟩ prog_9_method_6_code 4 (Option.some ClassFile.FieldType.int) ∈ em_tb := em_tm1 181 rfl rfl
theorem ew182 : Cond.methodLink "WedApart$Town" 80 ⟨"WedApart$Kinds", "isKind", "(I)Z"⟩ ∈ em_tb := em_tm1 182 rfl rfl
theorem ew183 : Cond.static ⟨"WedApart$Kinds", "isKind", "(I)Z"⟩ ∈ em_tb := em_tm1 183 rfl rfl
theorem ew184 : Cond.code ⟨"WedApart$Kinds", "isKind", "(I)Z"⟩ prog_5_method_2_code 1 (Option.some ClassFile.FieldType.boolean) ∈ em_tb := em_tm1 184 rfl rfl
theorem ew186 : Cond.static ⟨"WedApart", "isSet", "(I)Z"⟩ ∈ em_tb := em_tm1 186 rfl rfl
theorem ew187 : Cond.code ⟨"WedApart", "isSet", "(I)Z"⟩ prog_1_method_43_code 1 (Option.some ClassFile.FieldType.boolean) ∈ em_tb := em_tm1 187 rfl rfl
theorem ew188 : Cond.methodLink "WedApart$Town" 88 ⟨"WedApart$Minds", "with", "(JII)J"⟩ ∈ em_tb := em_tm1 188 rfl rfl
theorem ew189 : Cond.static ⟨"WedApart$Minds", "with", "(JII)J"⟩ ∈ em_tb := em_tm1 189 rfl rfl
theorem ew190 : Cond.code ⟨"WedApart$Minds", "with", "(JII)J"⟩ prog_7_method_3_code 5 (Option.some ClassFile.FieldType.long) ∈ em_tb := em_tm1 190 rfl rfl
theorem ew191 : Cond.constantLong "WedApart$Minds" 9 (1023 : Int64) ∈ em_tb := em_tm1 191 rfl rfl
theorem ew192 : Cond.constantLong "WedApart$Minds" 11 (-1 : Int64) ∈ em_tb := em_tm1 192 rfl rfl
theorem ew193 : Cond.methodLink "WedApart" 52 ⟨"WedApart", "counted", "(I)I"⟩ ∈ em_tb := em_tm1 193 rfl rfl
theorem ew195 : Cond.instanceMethod ⟨"WedApart", "counted", "(I)I"⟩ ∈ em_tb := em_tm1 195 rfl rfl
theorem ew196 : Cond.code ⟨"WedApart", "counted", "(I)I"⟩ prog_1_method_44_code 2 (Option.some ClassFile.FieldType.int) ∈ em_tb := em_tm1 196 rfl rfl
theorem ew197 : Cond.methodLink "WedApart" 63 ⟨"WedApart", "refuse", "(I)I"⟩ ∈ em_tb := em_tm1 197 rfl rfl
theorem ew199 : Cond.instanceMethod ⟨"WedApart", "refuse", "(I)I"⟩ ∈ em_tb := em_tm1 199 rfl rfl
theorem ew200 : Cond.code ⟨"WedApart", "refuse", "(I)I"⟩ prog_1_method_45_code 2 (Option.some ClassFile.FieldType.int) ∈ em_tb := em_tm1 200 rfl rfl
theorem ew201 : Cond.methodLink "WedApartLaw" 18 ⟨"WedApart", "thinks", "(II)I"⟩ ∈ em_tb := em_tm1 201 rfl rfl
theorem ew202 : Cond.instanceMethod ⟨"WedApart", "thinks", "(II)I"⟩ ∈ em_tb := em_tm1 202 rfl rfl
theorem ew203 : Cond.selects "WedApart" ⟨"WedApart", "thinks", "(II)I"⟩ ⟨"WedApart", "thinks", "(II)I"⟩ ∈ em_tb := em_tm1 203 rfl rfl
theorem ew204 : Cond.code ⟨"WedApart", "thinks", "(II)I"⟩ prog_1_method_3_code 3 (Option.some ClassFile.FieldType.int) ∈ em_tb := em_tm1 204 rfl rfl
theorem ew205 : Cond.methodLink "WedApart" 56 ⟨"WedApart$Town", "has", "(I)Z"⟩ ∈ em_tb := em_tm1 205 rfl rfl
theorem ew206 : Cond.instanceMethod ⟨"WedApart$Town", "has", "(I)Z"⟩ ∈ em_tb := em_tm1 206 rfl rfl
theorem ew207 : Cond.selects "WedApart$Town" ⟨"WedApart$Town", "has", "(I)Z"⟩ ⟨"WedApart$Town", "has", "(I)Z"⟩ ∈ em_tb := em_tm1 207 rfl rfl
theorem ew208 : Cond.code ⟨"WedApart$Town", "has", "(I)Z"⟩ prog_9_method_4_code 2 (Option.some ClassFile.FieldType.boolean) ∈ em_tb := em_tm1 208 rfl rfl
theorem ew209 : Cond.methodLink "WedApart" 60 ⟨"WedApart", "isSet", "(I)Z"⟩ ∈ em_tb := em_tm1 209 rfl rfl
theorem ew210 : Cond.methodLink "WedApart" 66 ⟨"WedApart$Town", "tell", "(II)I"⟩ ∈ em_tb := em_tm1 210 rfl rfl
theorem ew211 : Cond.instanceMethod ⟨"WedApart$Town", "tell", "(II)I"⟩ ∈ em_tb := em_tm1 211 rfl rfl
theorem ew212 : Cond.selects "WedApart$Town" ⟨"WedApart$Town", "tell", "(II)I"⟩ ⟨"WedApart$Town", "tell", "(II)I"⟩ ∈ em_tb := em_tm1 212 rfl rfl
theorem ew213 : Cond.code ⟨"WedApart$Town", "tell", "(II)I"⟩ prog_9_method_7_code 4 (Option.some ClassFile.FieldType.int) ∈ em_tb := em_tm1 213 rfl rfl
theorem ew214 : Cond.methodLink "WedApart$Town" 94 ⟨"WedApart$Minds", "of", "(JI)I"⟩ ∈ em_tb := em_tm1 214 rfl rfl
theorem ew215 : Cond.static ⟨"WedApart$Minds", "of", "(JI)I"⟩ ∈ em_tb := em_tm1 215 rfl rfl
theorem ew216 : Cond.code ⟨"WedApart$Minds", "of", "(JI)I"⟩ prog_7_method_2_code 3 (Option.some ClassFile.FieldType.int) ∈ em_tb := em_tm1 216 rfl rfl
theorem ew217 : Cond.methodLink "WedApartLaw" 22 ⟨"WedApart", "become", "(II)I"⟩ ∈ em_tb := em_tm1 217 rfl rfl
theorem ew218 : Cond.instanceMethod ⟨"WedApart", "become", "(II)I"⟩ ∈ em_tb := em_tm1 218 rfl rfl
theorem ew219 : Cond.selects "WedApart" ⟨"WedApart", "become", "(II)I"⟩ ⟨"WedApart", "become", "(II)I"⟩ ∈ em_tb := em_tm1 219 rfl rfl
theorem ew220 : Cond.code ⟨"WedApart", "become", "(II)I"⟩ prog_1_method_4_code 3 (Option.some ClassFile.FieldType.int) ∈ em_tb := em_tm1 220 rfl rfl
theorem ew221 : Cond.methodLink "WedApart" 69 ⟨"WedApart$Kinds", "isKind", "(I)Z"⟩ ∈ em_tb := em_tm1 221 rfl rfl
theorem ew222 : Cond.methodLink "WedApart" 74 ⟨"WedApart$Town", "turn", "(II)I"⟩ ∈ em_tb := em_tm1 222 rfl rfl
theorem ew223 : Cond.instanceMethod ⟨"WedApart$Town", "turn", "(II)I"⟩ ∈ em_tb := em_tm1 223 rfl rfl
theorem ew224 : Cond.selects "WedApart$Town" ⟨"WedApart$Town", "turn", "(II)I"⟩ ⟨"WedApart$Town", "turn", "(II)I"⟩ ∈ em_tb := em_tm1 224 rfl rfl
theorem ew225 : Cond.code ⟨"WedApart$Town", "turn", "(II)I"⟩ prog_9_method_8_code 4 (Option.some ClassFile.FieldType.int) ∈ em_tb := em_tm1 225 rfl rfl
theorem ew226 : Cond.methodLink "WedApart$Town" 76 ⟨"WedApart$Town", "has", "(I)Z"⟩ ∈ em_tb := em_tm1 226 rfl rfl
theorem ew227 : Cond.methodLink "WedApartLaw" 26 ⟨"WedApart", "weighty", "(I)I"⟩ ∈ em_tb := em_tm1 227 rfl rfl
theorem ew228 : Cond.instanceMethod ⟨"WedApart", "weighty", "(I)I"⟩ ∈ em_tb := em_tm1 228 rfl rfl
theorem ew229 : Cond.selects "WedApart" ⟨"WedApart", "weighty", "(I)I"⟩ ⟨"WedApart", "weighty", "(I)I"⟩ ∈ em_tb := em_tm1 229 rfl rfl
theorem ew230 : Cond.code ⟨"WedApart", "weighty", "(I)I"⟩ prog_1_method_5_code 2 (Option.some ClassFile.FieldType.int) ∈ em_tb := em_tm1 230 rfl rfl
theorem ew231 : Cond.methodLink "WedApart" 77 ⟨"WedApart$Town", "weigh", "(I)I"⟩ ∈ em_tb := em_tm1 231 rfl rfl
theorem ew232 : Cond.instanceMethod ⟨"WedApart$Town", "weigh", "(I)I"⟩ ∈ em_tb := em_tm1 232 rfl rfl
theorem ew233 : Cond.selects "WedApart$Town" ⟨"WedApart$Town", "weigh", "(I)I"⟩ ⟨"WedApart$Town", "weigh", "(I)I"⟩ ∈ em_tb := em_tm1 233 rfl rfl
theorem ew234 : Cond.code ⟨"WedApart$Town", "weigh", "(I)I"⟩ prog_9_method_9_code 3 (Option.some ClassFile.FieldType.int) ∈ em_tb := em_tm1 234 rfl rfl
theorem ew235 : Cond.methodLink "WedApartLaw" 31 ⟨"WedApart", "licence", "(II)I"⟩ ∈ em_tb := em_tm1 235 rfl rfl
theorem ew236 : Cond.instanceMethod ⟨"WedApart", "licence", "(II)I"⟩ ∈ em_tb := em_tm1 236 rfl rfl
theorem ew237 : Cond.selects "WedApart" ⟨"WedApart", "licence", "(II)I"⟩ ⟨"WedApart", "licence", "(II)I"⟩ ∈ em_tb := em_tm1 237 rfl rfl
theorem ew238 : Cond.code ⟨"WedApart", "licence", "(II)I"⟩ prog_1_method_6_code 3 (Option.some ClassFile.FieldType.int) ∈ em_tb := em_tm1 238 rfl rfl
theorem ew239 : Cond.methodLink "WedApart" 80 ⟨"WedApart$Town", "permit", "(II)I"⟩ ∈ em_tb := em_tm1 239 rfl rfl
theorem ew240 : Cond.instanceMethod ⟨"WedApart$Town", "permit", "(II)I"⟩ ∈ em_tb := em_tm2 0 rfl rfl
theorem ew241 : Cond.selects "WedApart$Town" ⟨"WedApart$Town", "permit", "(II)I"⟩ ⟨"WedApart$Town", "permit", "(II)I"⟩ ∈ em_tb := em_tm2 1 rfl rfl
theorem ew242 : Cond.code ⟨"WedApart$Town", "permit", "(II)I"⟩ prog_9_method_10_code 4 (Option.some ClassFile.FieldType.int) ∈ em_tb := em_tm2 2 rfl rfl
theorem ew243 : Cond.methodLink "WedApartLaw" 35 ⟨"WedApart", "talk", "(II)I"⟩ ∈ em_tb := em_tm2 3 rfl rfl
theorem ew244 : Cond.instanceMethod ⟨"WedApart", "talk", "(II)I"⟩ ∈ em_tb := em_tm2 4 rfl rfl
theorem ew245 : Cond.selects "WedApart" ⟨"WedApart", "talk", "(II)I"⟩ ⟨"WedApart", "talk", "(II)I"⟩ ∈ em_tb := em_tm2 5 rfl rfl
theorem ew246 : Cond.code ⟨"WedApart", "talk", "(II)I"⟩ prog_1_method_7_code 3 (Option.some ClassFile.FieldType.int) ∈ em_tb := em_tm2 6 rfl rfl
theorem ew247 : Cond.methodLink "WedApart" 83 ⟨"WedApart$Town", "arrange", "(II)I"⟩ ∈ em_tb := em_tm2 7 rfl rfl
theorem ew248 : Cond.instanceMethod ⟨"WedApart$Town", "arrange", "(II)I"⟩ ∈ em_tb := em_tm2 8 rfl rfl
theorem ew249 : Cond.selects "WedApart$Town" ⟨"WedApart$Town", "arrange", "(II)I"⟩ ⟨"WedApart$Town", "arrange", "(II)I"⟩ ∈ em_tb := em_tm2 9 rfl rfl
theorem ew250 : Cond.code ⟨"WedApart$Town", "arrange", "(II)I"⟩ prog_9_method_11_code 4 (Option.some ClassFile.FieldType.int) ∈ em_tb := em_tm2 10 rfl rfl
theorem ew251 : Cond.methodLink "WedApart$Town" 98 ⟨"WedApart$Town", "hasTwo", "(II)Z"⟩ ∈ em_tb := em_tm2 11 rfl rfl
theorem ew252 : Cond.instanceMethod ⟨"WedApart$Town", "hasTwo", "(II)Z"⟩ ∈ em_tb := em_tm2 12 rfl rfl
theorem ew253 : Cond.selects "WedApart$Town" ⟨"WedApart$Town", "hasTwo", "(II)Z"⟩ ⟨"WedApart$Town", "hasTwo", "(II)Z"⟩ ∈ em_tb := em_tm2 13 rfl rfl
theorem ew254 : Cond.code ⟨"WedApart$Town", "hasTwo", "(II)Z"⟩ prog_9_method_5_code 3 (Option.some ClassFile.FieldType.boolean) ∈ em_tb := em_tm2 14 rfl rfl
theorem ew255 : Cond.methodLink "WedApartLaw" 39 ⟨"WedApart", "clean", "()I"⟩ ∈ em_tb := em_tm2 15 rfl rfl
theorem ew256 : Cond.instanceMethod ⟨"WedApart", "clean", "()I"⟩ ∈ em_tb := em_tm2 16 rfl rfl
theorem ew257 : Cond.selects "WedApart" ⟨"WedApart", "clean", "()I"⟩ ⟨"WedApart", "clean", "()I"⟩ ∈ em_tb := em_tm2 17 rfl rfl
theorem ew258 : Cond.code ⟨"WedApart", "clean", "()I"⟩ prog_1_method_8_code 2 (Option.some ClassFile.FieldType.int) ∈ em_tb := em_tm2 18 rfl rfl
theorem ew259 : Cond.methodLink "WedApartLaw" 44 ⟨"WedApart", "type", "(I)I"⟩ ∈ em_tb := em_tm2 19 rfl rfl
theorem ew260 : Cond.instanceMethod ⟨"WedApart", "type", "(I)I"⟩ ∈ em_tb := em_tm2 20 rfl rfl
theorem ew261 : Cond.selects "WedApart" ⟨"WedApart", "type", "(I)I"⟩ ⟨"WedApart", "type", "(I)I"⟩ ∈ em_tb := em_tm2 21 rfl rfl
theorem ew262 : Cond.code ⟨"WedApart", "type", "(I)I"⟩ prog_1_method_9_code 2 (Option.some ClassFile.FieldType.int) ∈ em_tb := em_tm2 22 rfl rfl
theorem ew263 : Cond.methodLink "WedApart" 90 ⟨"WedApart$TownText", "append", "(I)I"⟩ ∈ em_tb := em_tm2 23 rfl rfl
theorem ew264 : Cond.instanceMethod ⟨"WedApart$TownText", "append", "(I)I"⟩ ∈ em_tb := em_tm2 24 rfl rfl
theorem ew265 : Cond.selects "WedApart$TownText" ⟨"WedApart$TownText", "append", "(I)I"⟩ ⟨"WedApart$TownText", "append", "(I)I"⟩ ∈ em_tb := em_tm2 25 rfl rfl
theorem ew266 : Cond.code ⟨"WedApart$TownText", "append", "(I)I"⟩ prog_10_method_2_code 2 (Option.some ClassFile.FieldType.int) ∈ em_tb := em_tm2 26 rfl rfl
theorem ew267 : Cond.methodLink "WedApartLaw" 48 ⟨"WedApart", "clear", "()I"⟩ ∈ em_tb := em_tm2 27 rfl rfl
theorem ew268 : Cond.instanceMethod ⟨"WedApart", "clear", "()I"⟩ ∈ em_tb := em_tm2 28 rfl rfl
theorem ew269 : Cond.selects "WedApart" ⟨"WedApart", "clear", "()I"⟩ ⟨"WedApart", "clear", "()I"⟩ ∈ em_tb := em_tm2 29 rfl rfl
theorem ew270 : Cond.code ⟨"WedApart", "clear", "()I"⟩ prog_1_method_10_code 2 (Option.some ClassFile.FieldType.int) ∈ em_tb := em_tm2 30 rfl rfl
theorem ew271 : Cond.methodLink "WedApartLaw" 52 ⟨"WedApart", "read", "()I"⟩ ∈ em_tb := em_tm2 31 rfl rfl
theorem ew272 : Cond.instanceMethod ⟨"WedApart", "read", "()I"⟩ ∈ em_tb := em_tm2 32 rfl rfl
theorem ew273 : Cond.selects "WedApart" ⟨"WedApart", "read", "()I"⟩ ⟨"WedApart", "read", "()I"⟩ ∈ em_tb := em_tm2 33 rfl rfl
theorem ew274 : Cond.code ⟨"WedApart", "read", "()I"⟩ prog_1_method_11_code 3 (Option.some ClassFile.FieldType.int) ∈ em_tb := em_tm2 34 rfl rfl
theorem ew275 : Cond.methodLink "WedApart" 96 ⟨"WedApart$Town", "begin", "()V"⟩ ∈ em_tb := em_tm2 35 rfl rfl
theorem ew276 : Cond.methodLink "WedApart" 99 ⟨"WedApart$TownText", "tellTo", "(LWedApart$Town;)I"⟩ ∈ em_tb := em_tm2 36 rfl rfl
theorem ew277 : Cond.instanceMethod ⟨"WedApart$TownText", "tellTo", "(LWedApart$Town;)I"⟩ ∈ em_tb := em_tm2 37 rfl rfl
theorem ew278 : Cond.selects "WedApart$TownText" ⟨"WedApart$TownText", "tellTo", "(LWedApart$Town;)I"⟩ ⟨"WedApart$TownText", "tellTo", "(LWedApart$Town;)I"⟩ ∈ em_tb := em_tm2 38 rfl rfl
theorem ew279 : Cond.code ⟨"WedApart$TownText", "tellTo", "(LWedApart$Town;)I"⟩ prog_10_method_3_code 6 (Option.some ClassFile.FieldType.int) ∈ em_tb := em_tm2 39 rfl rfl
theorem ew280 : Cond.methodLink "WedApart$TownText" 22 ⟨"WedApart$TownText", "step", "()V"⟩ ∈ em_tb := em_tm2 40 rfl rfl
theorem ew282 : Cond.instanceMethod ⟨"WedApart$TownText", "step", "()V"⟩ ∈ em_tb := em_tm2 42 rfl rfl
theorem ew283 : Cond.code ⟨"WedApart$TownText", "step", "()V"⟩ prog_10_method_5_code 1 (Option.none : Option ClassFile.FieldType) ∈ em_tb := em_tm2 43 rfl rfl
theorem ew284 : Cond.methodLink "WedApart$TownText" 71 ⟨"WedApart$TownText", "isLetter", "(I)Z"⟩ ∈ em_tb := em_tm2 44 rfl rfl
theorem ew286 : Cond.instanceMethod ⟨"WedApart$TownText", "isLetter", "(I)Z"⟩ ∈ em_tb := em_tm2 46 rfl rfl
theorem ew287 : Cond.code ⟨"WedApart$TownText", "isLetter", "(I)Z"⟩ prog_10_method_10_code 2 (Option.some ClassFile.FieldType.boolean) ∈ em_tb := em_tm2 47 rfl rfl
theorem ew288 : Cond.methodLink "WedApart$TownText" 78 ⟨"WedApart$TownText", "at", "(I)I"⟩ ∈ em_tb := em_tm2 48 rfl rfl
theorem ew290 : Cond.instanceMethod ⟨"WedApart$TownText", "at", "(I)I"⟩ ∈ em_tb := em_tm2 50 rfl rfl
theorem ew291 : Cond.code ⟨"WedApart$TownText", "at", "(I)I"⟩ prog_10_method_12_code 2 (Option.some ClassFile.FieldType.int) ∈ em_tb := em_tm2 51 rfl rfl
theorem ew292 : Cond.methodLink "WedApart$TownText" 75 ⟨"WedApart$TownText", "isFigure", "(I)Z"⟩ ∈ em_tb := em_tm2 52 rfl rfl
theorem ew294 : Cond.instanceMethod ⟨"WedApart$TownText", "isFigure", "(I)Z"⟩ ∈ em_tb := em_tm2 54 rfl rfl
theorem ew295 : Cond.code ⟨"WedApart$TownText", "isFigure", "(I)Z"⟩ prog_10_method_11_code 2 (Option.some ClassFile.FieldType.boolean) ∈ em_tb := em_tm2 55 rfl rfl
theorem ew296 : Cond.methodLink "WedApart$TownText" 28 ⟨"WedApart$TownText", "tellItem", "(LWedApart$Town;)I"⟩ ∈ em_tb := em_tm2 56 rfl rfl
theorem ew298 : Cond.instanceMethod ⟨"WedApart$TownText", "tellItem", "(LWedApart$Town;)I"⟩ ∈ em_tb := em_tm2 58 rfl rfl
theorem ew299 : Cond.code ⟨"WedApart$TownText", "tellItem", "(LWedApart$Town;)I"⟩ prog_10_method_4_code 5 (Option.some ClassFile.FieldType.int) ∈ em_tb := em_tm2 59 rfl rfl
theorem ew301 : Cond.methodLink "WedApart$TownText" 38 ⟨"WedApart$TownText", "isWord", "(Ljava/lang/String;)Z"⟩ ∈ em_tb := em_tm2 61 rfl rfl
theorem ew303 : Cond.instanceMethod ⟨"WedApart$TownText", "isWord", "(Ljava/lang/String;)Z"⟩ ∈ em_tb := em_tm2 63 rfl rfl
theorem ew304 : Cond.code ⟨"WedApart$TownText", "isWord", "(Ljava/lang/String;)Z"⟩ prog_10_method_8_code 3 (Option.some ClassFile.FieldType.boolean) ∈ em_tb := em_tm2 64 rfl rfl
theorem ew305 : Cond.methodLink "WedApart$TownText" 83 ⟨"java/lang/String", "length", "()I"⟩ ∈ em_tb := em_tm2 65 rfl rfl
theorem ew306 : Cond.instanceMethod ⟨"java/lang/String", "length", "()I"⟩ ∈ em_tb := em_tm2 66 rfl rfl
theorem ew307 : Cond.selects "java/lang/String" ⟨"java/lang/String", "length", "()I"⟩ ⟨"java/lang/String", "length", "()I"⟩ ∈ em_tb := em_tm2 67 rfl rfl
theorem ew308 : Cond.code ⟨"java/lang/String", "length", "()I"⟩ prog_15_method_54_code 1 (Option.some ClassFile.FieldType.int) ∈ em_tb := em_tm2 68 rfl rfl
theorem ew309 : Cond.methodLink "java/lang/String" 335 ⟨"java/lang/String", "coder", "()B"⟩ ∈ em_tb := em_tm2 69 rfl rfl
theorem ew310 : Cond.instanceMethod ⟨"java/lang/String", "coder", "()B"⟩ ∈ em_tb := em_tm2 70 rfl rfl
theorem ew311 : Cond.selects "java/lang/String" ⟨"java/lang/String", "coder", "()B"⟩ ⟨"java/lang/String", "coder", "()B"⟩ ∈ em_tb := em_tm2 71 rfl rfl
theorem ew312 : Cond.code ⟨"java/lang/String", "coder", "()B"⟩ prog_15_method_152_code 1 (Option.some ClassFile.FieldType.byte) ∈ em_tb := em_tm2 72 rfl rfl
theorem ew313 : Cond.fieldLink "java/lang/String" 38 "java/lang/String" "COMPACT_STRINGS" "Z" ∈ em_tb := em_tm2 73 rfl rfl
theorem ew315 : Cond.methodLink "WedApart$TownText" 87 ⟨"java/lang/String", "charAt", "(I)C"⟩ ∈ em_tb := em_tm2 75 rfl rfl
theorem ew316 : Cond.instanceMethod ⟨"java/lang/String", "charAt", "(I)C"⟩ ∈ em_tb := em_tm2 76 rfl rfl
theorem ew317 : Cond.selects "java/lang/String" ⟨"java/lang/String", "charAt", "(I)C"⟩ ⟨"java/lang/String", "charAt", "(I)C"⟩ ∈ em_tb := em_tm2 77 rfl rfl
theorem ew318 : Cond.code ⟨"java/lang/String", "charAt", "(I)C"⟩ prog_15_method_56_code 2 (Option.some ClassFile.FieldType.char) ∈ em_tb := em_tm2 78 rfl rfl
theorem ew319 : Cond.methodLink "java/lang/String" 492 ⟨"java/lang/String", "isLatin1", "()Z"⟩ ∈ em_tb := em_tm2 79 rfl rfl
theorem ew320 : Cond.instanceMethod ⟨"java/lang/String", "isLatin1", "()Z"⟩ ∈ em_tb := em_tm2 80 rfl rfl
theorem ew321 : Cond.selects "java/lang/String" ⟨"java/lang/String", "isLatin1", "()Z"⟩ ⟨"java/lang/String", "isLatin1", "()Z"⟩ ∈ em_tb := em_tm2 81 rfl rfl
theorem ew322 : Cond.code ⟨"java/lang/String", "isLatin1", "()Z"⟩ prog_15_method_154_code 1 (Option.some ClassFile.FieldType.boolean) ∈ em_tb := em_tm2 82 rfl rfl
theorem ew323 : Cond.methodLink "java/lang/String" 495 ⟨"java/lang/StringLatin1", "charAt", "([BI)C"⟩ ∈ em_tb := em_tm2 83 rfl rfl
theorem ew324 : Cond.static ⟨"java/lang/StringLatin1", "charAt", "([BI)C"⟩ ∈ em_tb := em_tm2 84 rfl rfl
theorem ew325 : Cond.code ⟨"java/lang/StringLatin1", "charAt", "([BI)C"⟩ prog_16_method_2_code 2 (Option.some ClassFile.FieldType.char) ∈ em_tb := em_tm2 85 rfl rfl
theorem ew326 : Cond.methodLink "java/lang/StringLatin1" 9 ⟨"java/lang/String", "checkIndex", "(II)V"⟩ ∈ em_tb := em_tm2 86 rfl rfl
theorem ew327 : Cond.static ⟨"java/lang/String", "checkIndex", "(II)V"⟩ ∈ em_tb := em_tm2 87 rfl rfl
theorem ew328 : Cond.code ⟨"java/lang/String", "checkIndex", "(II)V"⟩ prog_15_method_155_code 2 (Option.none : Option ClassFile.FieldType) ∈ em_tb := em_tm2 88 rfl rfl
theorem ew329 : Cond.fieldLink "java/lang/String" 1053 "jdk/internal/util/Preconditions" "SIOOBE_FORMATTER" "Ljava/util/function/BiFunction;" ∈ em_tb := em_tm2 89 rfl rfl
theorem ew331 : Cond.methodLink "java/lang/String" 1059 ⟨"jdk/internal/util/Preconditions", "checkIndex", "(IILjava/util/function/BiFunction;)I"⟩ ∈ em_tb := em_tm2 91 rfl rfl
theorem ew332 : Cond.static ⟨"jdk/internal/util/Preconditions", "checkIndex", "(IILjava/util/function/BiFunction;)I"⟩ ∈ em_tb := em_tm2 92 rfl rfl
theorem ew333 : Cond.code ⟨"jdk/internal/util/Preconditions", "checkIndex", "(IILjava/util/function/BiFunction;)I"⟩ prog_19_method_11_code 3 (Option.some ClassFile.FieldType.int) ∈ em_tb := em_tm2 93 rfl rfl
theorem ew334 : Cond.methodLink "java/lang/String" 498 ⟨"java/lang/StringUTF16", "charAt", "([BI)C"⟩ ∈ em_tb := em_tm2 94 rfl rfl
theorem ew335 : Cond.static ⟨"java/lang/StringUTF16", "charAt", "([BI)C"⟩ ∈ em_tb := em_tm2 95 rfl rfl
theorem ew336 : Cond.code ⟨"java/lang/StringUTF16", "charAt", "([BI)C"⟩ prog_17_method_83_code 2 (Option.some ClassFile.FieldType.char) ∈ em_tb := em_tm2 96 rfl rfl
theorem ew337 : Cond.methodLink "java/lang/StringUTF16" 67 ⟨"java/lang/StringUTF16", "checkIndex", "(I[B)V"⟩ ∈ em_tb := em_tm2 97 rfl rfl
theorem ew338 : Cond.static ⟨"java/lang/StringUTF16", "checkIndex", "(I[B)V"⟩ ∈ em_tb := em_tm2 98 rfl rfl
theorem ew339 : Cond.code ⟨"java/lang/StringUTF16", "checkIndex", "(I[B)V"⟩ prog_17_method_91_code 2 (Option.none : Option ClassFile.FieldType) ∈ em_tb := em_tm2 99 rfl rfl
theorem ew340 : Cond.methodLink "java/lang/StringUTF16" 48 ⟨"java/lang/StringUTF16", "length", "([B)I"⟩ ∈ em_tb := em_tm2 100 rfl rfl
theorem ew341 : Cond.static ⟨"java/lang/StringUTF16", "length", "([B)I"⟩ ∈ em_tb := em_tm2 101 rfl rfl
theorem ew342 : Cond.code ⟨"java/lang/StringUTF16", "length", "([B)I"⟩ prog_17_method_6_code 1 (Option.some ClassFile.FieldType.int) ∈ em_tb := em_tm2 102 rfl rfl
theorem ew343 : Cond.methodLink "java/lang/StringUTF16" 414 ⟨"java/lang/String", "checkIndex", "(II)V"⟩ ∈ em_tb := em_tm2 103 rfl rfl
theorem ew344 : Cond.methodLink "java/lang/StringUTF16" 71 ⟨"java/lang/StringUTF16", "getChar", "([BI)C"⟩ ∈ em_tb := em_tm2 104 rfl rfl
theorem ew345 : Cond.static ⟨"java/lang/StringUTF16", "getChar", "([BI)C"⟩ ∈ em_tb := em_tm2 105 rfl rfl
theorem ew346 : Cond.code ⟨"java/lang/StringUTF16", "getChar", "([BI)C"⟩ prog_17_method_5_code 2 (Option.some ClassFile.FieldType.char) ∈ em_tb := em_tm2 106 rfl rfl
theorem ew347 : Cond.fieldLink "java/lang/StringUTF16" 44 "java/lang/StringUTF16" "$assertionsDisabled" "Z" ∈ em_tb := em_tm2 107 rfl rfl
theorem ew349 : Cond.fieldLink "java/lang/StringUTF16" 59 "java/lang/StringUTF16" "HI_BYTE_SHIFT" "I" ∈ em_tb := em_tm2 109 rfl rfl
theorem ew351 : Cond.fieldLink "java/lang/StringUTF16" 63 "java/lang/StringUTF16" "LO_BYTE_SHIFT" "I" ∈ em_tb := em_tm2 111 rfl rfl
theorem ew353 : Cond.methodLink "WedApart$TownText" 42 ⟨"WedApart$TownText", "takeNumber", "()I"⟩ ∈ em_tb := em_tm2 113 rfl rfl
theorem ew355 : Cond.instanceMethod ⟨"WedApart$TownText", "takeNumber", "()I"⟩ ∈ em_tb := em_tm2 115 rfl rfl
theorem ew356 : Cond.code ⟨"WedApart$TownText", "takeNumber", "()I"⟩ prog_10_method_6_code 3 (Option.some ClassFile.FieldType.int) ∈ em_tb := em_tm2 116 rfl rfl
theorem ew357 : Cond.methodLink "WedApart$TownText" 46 ⟨"WedApart$TownText", "takeMatters", "()I"⟩ ∈ em_tb := em_tm2 117 rfl rfl
theorem ew359 : Cond.instanceMethod ⟨"WedApart$TownText", "takeMatters", "()I"⟩ ∈ em_tb := em_tm2 119 rfl rfl
theorem ew360 : Cond.code ⟨"WedApart$TownText", "takeMatters", "()I"⟩ prog_10_method_7_code 4 (Option.some ClassFile.FieldType.int) ∈ em_tb := em_tm2 120 rfl rfl
theorem ew362 : Cond.methodLink "WedApart$TownText" 49 ⟨"WedApart$Town", "welcome", "(II)I"⟩ ∈ em_tb := em_tm2 122 rfl rfl
theorem ew364 : Cond.methodLink "WedApart$TownText" 57 ⟨"WedApart$Town", "weigh", "(I)I"⟩ ∈ em_tb := em_tm2 124 rfl rfl
theorem ew367 : Cond.methodLink "WedApart$TownText" 65 ⟨"WedApart$Town", "permit", "(II)I"⟩ ∈ em_tb := em_tm2 127 rfl rfl
theorem ew368 : Cond.methodLink "WedApart$TownText" 68 ⟨"WedApart$Town", "arrange", "(II)I"⟩ ∈ em_tb := em_tm2 128 rfl rfl
theorem ew369 : Cond.methodLink "WedApart$TownText" 32 ⟨"WedApart$TownText", "isSign", "(C)Z"⟩ ∈ em_tb := em_tm2 129 rfl rfl
theorem ew371 : Cond.instanceMethod ⟨"WedApart$TownText", "isSign", "(C)Z"⟩ ∈ em_tb := em_tm2 131 rfl rfl
theorem ew372 : Cond.code ⟨"WedApart$TownText", "isSign", "(C)Z"⟩ prog_10_method_9_code 2 (Option.some ClassFile.FieldType.boolean) ∈ em_tb := em_tm2 132 rfl rfl
theorem ew373 : Cond.methodLink "WedApartLaw" 56 ⟨"WedApart", "opinions", "(I)I"⟩ ∈ em_tb := em_tm2 133 rfl rfl
theorem ew374 : Cond.instanceMethod ⟨"WedApart", "opinions", "(I)I"⟩ ∈ em_tb := em_tm2 134 rfl rfl
theorem ew375 : Cond.selects "WedApart" ⟨"WedApart", "opinions", "(I)I"⟩ ⟨"WedApart", "opinions", "(I)I"⟩ ∈ em_tb := em_tm2 135 rfl rfl
theorem ew376 : Cond.code ⟨"WedApart", "opinions", "(I)I"⟩ prog_1_method_12_code 2 (Option.some ClassFile.FieldType.int) ∈ em_tb := em_tm2 136 rfl rfl
theorem ew377 : Cond.methodLink "WedApart" 107 ⟨"WedApart$Minds", "of", "(JI)I"⟩ ∈ em_tb := em_tm2 137 rfl rfl
theorem ew378 : Cond.methodLink "WedApartLaw" 60 ⟨"WedApart", "differ", "(II)I"⟩ ∈ em_tb := em_tm2 138 rfl rfl
theorem ew379 : Cond.instanceMethod ⟨"WedApart", "differ", "(II)I"⟩ ∈ em_tb := em_tm2 139 rfl rfl
theorem ew380 : Cond.selects "WedApart" ⟨"WedApart", "differ", "(II)I"⟩ ⟨"WedApart", "differ", "(II)I"⟩ ∈ em_tb := em_tm2 140 rfl rfl
theorem ew381 : Cond.code ⟨"WedApart", "differ", "(II)I"⟩ prog_1_method_13_code 3 (Option.some ClassFile.FieldType.int) ∈ em_tb := em_tm2 141 rfl rfl
theorem ew382 : Cond.methodLink "WedApart" 113 ⟨"WedApart$Town", "hasTwo", "(II)Z"⟩ ∈ em_tb := em_tm2 142 rfl rfl
theorem ew383 : Cond.methodLink "WedApartLaw" 64 ⟨"WedApart", "apart", "(II)I"⟩ ∈ em_tb := em_tm2 143 rfl rfl
theorem ew384 : Cond.instanceMethod ⟨"WedApart", "apart", "(II)I"⟩ ∈ em_tb := em_tm2 144 rfl rfl
theorem ew385 : Cond.selects "WedApart" ⟨"WedApart", "apart", "(II)I"⟩ ⟨"WedApart", "apart", "(II)I"⟩ ∈ em_tb := em_tm2 145 rfl rfl
theorem ew386 : Cond.code ⟨"WedApart", "apart", "(II)I"⟩ prog_1_method_14_code 3 (Option.some ClassFile.FieldType.int) ∈ em_tb := em_tm2 146 rfl rfl
theorem ew387 : Cond.methodLink "WedApart" 117 ⟨"WedApart$Town", "distance", "(II)I"⟩ ∈ em_tb := em_tm2 147 rfl rfl
theorem ew388 : Cond.instanceMethod ⟨"WedApart$Town", "distance", "(II)I"⟩ ∈ em_tb := em_tm2 148 rfl rfl
theorem ew389 : Cond.selects "WedApart$Town" ⟨"WedApart$Town", "distance", "(II)I"⟩ ⟨"WedApart$Town", "distance", "(II)I"⟩ ∈ em_tb := em_tm2 149 rfl rfl
theorem ew390 : Cond.code ⟨"WedApart$Town", "distance", "(II)I"⟩ prog_9_method_14_code 4 (Option.some ClassFile.FieldType.int) ∈ em_tb := em_tm2 150 rfl rfl
theorem ew391 : Cond.methodLink "WedApart$Town" 102 ⟨"java/lang/Integer", "bitCount", "(I)I"⟩ ∈ em_tb := em_tm2 151 rfl rfl
theorem ew392 : Cond.static ⟨"java/lang/Integer", "bitCount", "(I)I"⟩ ∈ em_tb := em_tm2 152 rfl rfl
theorem ew393 : Cond.code ⟨"java/lang/Integer", "bitCount", "(I)I"⟩ prog_13_method_49_code 1 (Option.some ClassFile.FieldType.int) ∈ em_tb := em_tm2 153 rfl rfl
theorem ew394 : Cond.constant "java/lang/Integer" 265 (1431655765 : Int32) ∈ em_tb := em_tm2 154 rfl rfl
theorem ew395 : Cond.constant "java/lang/Integer" 266 (858993459 : Int32) ∈ em_tb := em_tm2 155 rfl rfl
theorem ew396 : Cond.constant "java/lang/Integer" 267 (252645135 : Int32) ∈ em_tb := em_tm2 156 rfl rfl
theorem ew397 : Cond.methodLink "WedApartLaw" 68 ⟨"WedApart", "lawful", "(I)I"⟩ ∈ em_tb := em_tm2 157 rfl rfl
theorem ew398 : Cond.instanceMethod ⟨"WedApart", "lawful", "(I)I"⟩ ∈ em_tb := em_tm2 158 rfl rfl
theorem ew399 : Cond.selects "WedApart" ⟨"WedApart", "lawful", "(I)I"⟩ ⟨"WedApart", "lawful", "(I)I"⟩ ∈ em_tb := em_tm2 159 rfl rfl
theorem ew400 : Cond.code ⟨"WedApart", "lawful", "(I)I"⟩ prog_1_method_15_code 4 (Option.some ClassFile.FieldType.int) ∈ em_tb := em_tm2 160 rfl rfl
theorem ew401 : Cond.methodLink "WedApart" 123 ⟨"WedApart$Town", "mayWed", "(JII)Z"⟩ ∈ em_tb := em_tm2 161 rfl rfl
theorem ew402 : Cond.instanceMethod ⟨"WedApart$Town", "mayWed", "(JII)Z"⟩ ∈ em_tb := em_tm2 162 rfl rfl
theorem ew403 : Cond.selects "WedApart$Town" ⟨"WedApart$Town", "mayWed", "(JII)Z"⟩ ⟨"WedApart$Town", "mayWed", "(JII)Z"⟩ ∈ em_tb := em_tm2 163 rfl rfl
theorem ew404 : Cond.code ⟨"WedApart$Town", "mayWed", "(JII)Z"⟩ prog_9_method_16_code 5 (Option.some ClassFile.FieldType.boolean) ∈ em_tb := em_tm2 164 rfl rfl
theorem ew405 : Cond.methodLink "WedApart$Town" 108 ⟨"WedApart$Town", "distance", "(II)I"⟩ ∈ em_tb := em_tm2 165 rfl rfl
theorem ew406 : Cond.methodLink "WedApart$Town" 112 ⟨"WedApart$Town", "isLicensed", "(I)Z"⟩ ∈ em_tb := em_tm2 166 rfl rfl
theorem ew407 : Cond.instanceMethod ⟨"WedApart$Town", "isLicensed", "(I)Z"⟩ ∈ em_tb := em_tm2 167 rfl rfl
theorem ew408 : Cond.selects "WedApart$Town" ⟨"WedApart$Town", "isLicensed", "(I)Z"⟩ ⟨"WedApart$Town", "isLicensed", "(I)Z"⟩ ∈ em_tb := em_tm2 168 rfl rfl
theorem ew409 : Cond.code ⟨"WedApart$Town", "isLicensed", "(I)Z"⟩ prog_9_method_15_code 2 (Option.some ClassFile.FieldType.boolean) ∈ em_tb := em_tm2 169 rfl rfl
theorem ew410 : Cond.methodLink "WedApartLaw" 72 ⟨"WedApart", "three", "(I)I"⟩ ∈ em_tb := em_tm2 170 rfl rfl
theorem ew411 : Cond.instanceMethod ⟨"WedApart", "three", "(I)I"⟩ ∈ em_tb := em_tm2 171 rfl rfl
theorem ew412 : Cond.selects "WedApart" ⟨"WedApart", "three", "(I)I"⟩ ⟨"WedApart", "three", "(I)I"⟩ ∈ em_tb := em_tm2 172 rfl rfl
theorem ew413 : Cond.code ⟨"WedApart", "three", "(I)I"⟩ prog_1_method_16_code 5 (Option.some ClassFile.FieldType.int) ∈ em_tb := em_tm2 173 rfl rfl
theorem ew414 : Cond.methodLink "WedApart" 127 ⟨"java/lang/Integer", "bitCount", "(I)I"⟩ ∈ em_tb := em_tm2 174 rfl rfl
theorem ew415 : Cond.methodLink "WedApart" 132 ⟨"WedApart$Town", "mayAllWed", "(I)Z"⟩ ∈ em_tb := em_tm2 175 rfl rfl
theorem ew416 : Cond.instanceMethod ⟨"WedApart$Town", "mayAllWed", "(I)Z"⟩ ∈ em_tb := em_tm2 176 rfl rfl
theorem ew417 : Cond.selects "WedApart$Town" ⟨"WedApart$Town", "mayAllWed", "(I)Z"⟩ ⟨"WedApart$Town", "mayAllWed", "(I)Z"⟩ ∈ em_tb := em_tm2 177 rfl rfl
theorem ew418 : Cond.code ⟨"WedApart$Town", "mayAllWed", "(I)Z"⟩ prog_9_method_18_code 5 (Option.some ClassFile.FieldType.boolean) ∈ em_tb := em_tm2 178 rfl rfl
theorem ew419 : Cond.methodLink "WedApart$Town" 115 ⟨"WedApart$Town", "mayWed", "(JII)Z"⟩ ∈ em_tb := em_tm2 179 rfl rfl
theorem ew420 : Cond.methodLink "WedApartLaw" 76 ⟨"WedApart", "evening", "()I"⟩ ∈ em_tb := em_tm2 180 rfl rfl
theorem ew421 : Cond.instanceMethod ⟨"WedApart", "evening", "()I"⟩ ∈ em_tb := em_tm2 181 rfl rfl
theorem ew422 : Cond.selects "WedApart" ⟨"WedApart", "evening", "()I"⟩ ⟨"WedApart", "evening", "()I"⟩ ∈ em_tb := em_tm2 182 rfl rfl
theorem ew423 : Cond.code ⟨"WedApart", "evening", "()I"⟩ prog_1_method_17_code 3 (Option.some ClassFile.FieldType.int) ∈ em_tb := em_tm2 183 rfl rfl
theorem ew424 : Cond.methodLink "WedApart" 135 ⟨"WedApart$Town", "remember", "()V"⟩ ∈ em_tb := em_tm2 184 rfl rfl
theorem ew425 : Cond.instanceMethod ⟨"WedApart$Town", "remember", "()V"⟩ ∈ em_tb := em_tm2 185 rfl rfl
theorem ew426 : Cond.selects "WedApart$Town" ⟨"WedApart$Town", "remember", "()V"⟩ ⟨"WedApart$Town", "remember", "()V"⟩ ∈ em_tb := em_tm2 186 rfl rfl
theorem ew427 : Cond.code ⟨"WedApart$Town", "remember", "()V"⟩ prog_9_method_21_code 1 (Option.none : Option ClassFile.FieldType) ∈ em_tb := em_tm2 187 rfl rfl
theorem ew428 : Cond.methodLink "WedApart$Town" 70 ⟨"java/lang/System", "arraycopy", "(Ljava/lang/Object;ILjava/lang/Object;II)V"⟩ ∈ em_tb := em_tm2 188 rfl rfl
theorem ew429 : Cond.static ⟨"java/lang/System", "arraycopy", "(Ljava/lang/Object;ILjava/lang/Object;II)V"⟩ ∈ em_tb := em_tm2 189 rfl rfl
theorem ew430 : Cond.native ⟨"java/lang/System", "arraycopy", "(Ljava/lang/Object;ILjava/lang/Object;II)V"⟩ ∈ em_tb := em_tm2 190 rfl rfl
theorem ew431 : Cond.methodLink "WedApart" 141 ⟨"WedApart$Town", "behindEvening", "(JI)J"⟩ ∈ em_tb := em_tm2 191 rfl rfl
theorem ew432 : Cond.instanceMethod ⟨"WedApart$Town", "behindEvening", "(JI)J"⟩ ∈ em_tb := em_tm2 192 rfl rfl
theorem ew433 : Cond.selects "WedApart$Town" ⟨"WedApart$Town", "behindEvening", "(JI)J"⟩ ⟨"WedApart$Town", "behindEvening", "(JI)J"⟩ ∈ em_tb := em_tm2 193 rfl rfl
theorem ew434 : Cond.code ⟨"WedApart$Town", "behindEvening", "(JI)J"⟩ prog_9_method_20_code 5 (Option.some ClassFile.FieldType.long) ∈ em_tb := em_tm2 194 rfl rfl
theorem ew435 : Cond.methodLink "WedApart$Town" 126 ⟨"WedApart$Town", "behindTalk", "(JII)J"⟩ ∈ em_tb := em_tm2 195 rfl rfl
theorem ew436 : Cond.instanceMethod ⟨"WedApart$Town", "behindTalk", "(JII)J"⟩ ∈ em_tb := em_tm2 196 rfl rfl
theorem ew437 : Cond.selects "WedApart$Town" ⟨"WedApart$Town", "behindTalk", "(JII)J"⟩ ⟨"WedApart$Town", "behindTalk", "(JII)J"⟩ ∈ em_tb := em_tm2 197 rfl rfl
theorem ew438 : Cond.code ⟨"WedApart$Town", "behindTalk", "(JII)J"⟩ prog_9_method_19_code 13 (Option.some ClassFile.FieldType.long) ∈ em_tb := em_tm2 198 rfl rfl
theorem ew439 : Cond.methodLink "WedApart$Town" 119 ⟨"java/lang/Integer", "lowestOneBit", "(I)I"⟩ ∈ em_tb := em_tm2 199 rfl rfl
theorem ew440 : Cond.static ⟨"java/lang/Integer", "lowestOneBit", "(I)I"⟩ ∈ em_tb := em_tm2 200 rfl rfl
theorem ew441 : Cond.code ⟨"java/lang/Integer", "lowestOneBit", "(I)I"⟩ prog_13_method_46_code 1 (Option.some ClassFile.FieldType.int) ∈ em_tb := em_tm2 201 rfl rfl
theorem ew442 : Cond.methodLink "WedApart$Town" 122 ⟨"WedApart$Kinds", "heard", "(IIIZIZ)I"⟩ ∈ em_tb := em_tm2 202 rfl rfl
theorem ew443 : Cond.static ⟨"WedApart$Kinds", "heard", "(IIIZIZ)I"⟩ ∈ em_tb := em_tm2 203 rfl rfl
theorem ew444 : Cond.code ⟨"WedApart$Kinds", "heard", "(IIIZIZ)I"⟩ prog_5_method_3_code 6 (Option.some ClassFile.FieldType.int) ∈ em_tb := em_tm2 204 rfl rfl
theorem ew445 : Cond.methodLink "WedApart$Kinds" 11 ⟨"WedApart$Kinds", "plain", "(IIZI)I"⟩ ∈ em_tb := em_tm2 205 rfl rfl
theorem ew446 : Cond.static ⟨"WedApart$Kinds", "plain", "(IIZI)I"⟩ ∈ em_tb := em_tm2 206 rfl rfl
theorem ew447 : Cond.code ⟨"WedApart$Kinds", "plain", "(IIZI)I"⟩ prog_5_method_4_code 4 (Option.some ClassFile.FieldType.int) ∈ em_tb := em_tm2 207 rfl rfl
theorem ew448 : Cond.methodLink "WedApart$Kinds" 19 ⟨"WedApart$Kinds", "taken", "(III)I"⟩ ∈ em_tb := em_tm2 208 rfl rfl
theorem ew449 : Cond.static ⟨"WedApart$Kinds", "taken", "(III)I"⟩ ∈ em_tb := em_tm2 209 rfl rfl
theorem ew450 : Cond.code ⟨"WedApart$Kinds", "taken", "(III)I"⟩ prog_5_method_6_code 3 (Option.some ClassFile.FieldType.int) ∈ em_tb := em_tm2 210 rfl rfl
theorem ew451 : Cond.methodLink "WedApart$Kinds" 15 ⟨"WedApart$Kinds", "proud", "(IIZIZ)I"⟩ ∈ em_tb := em_tm2 211 rfl rfl
theorem ew452 : Cond.static ⟨"WedApart$Kinds", "proud", "(IIZIZ)I"⟩ ∈ em_tb := em_tm2 212 rfl rfl
theorem ew453 : Cond.code ⟨"WedApart$Kinds", "proud", "(IIZIZ)I"⟩ prog_5_method_5_code 5 (Option.some ClassFile.FieldType.int) ∈ em_tb := em_tm2 213 rfl rfl
theorem ew454 : Cond.methodLink "WedApart$Kinds" 23 ⟨"WedApart$Kinds", "matterBehind", "(I)I"⟩ ∈ em_tb := em_tm2 214 rfl rfl
theorem ew455 : Cond.static ⟨"WedApart$Kinds", "matterBehind", "(I)I"⟩ ∈ em_tb := em_tm2 215 rfl rfl
theorem ew456 : Cond.code ⟨"WedApart$Kinds", "matterBehind", "(I)I"⟩ prog_5_method_7_code 2 (Option.some ClassFile.FieldType.int) ∈ em_tb := em_tm2 216 rfl rfl
theorem ew457 : Cond.methodLink "WedApart" 145 ⟨"WedApart$Minds", "unlike", "(JJ)I"⟩ ∈ em_tb := em_tm2 217 rfl rfl
theorem ew458 : Cond.static ⟨"WedApart$Minds", "unlike", "(JJ)I"⟩ ∈ em_tb := em_tm2 218 rfl rfl
theorem ew459 : Cond.code ⟨"WedApart$Minds", "unlike", "(JJ)I"⟩ prog_7_method_4_code 6 (Option.some ClassFile.FieldType.int) ∈ em_tb := em_tm2 219 rfl rfl
theorem ew460 : Cond.methodLink "WedApart$Minds" 13 ⟨"WedApart$Minds", "of", "(JI)I"⟩ ∈ em_tb := em_tm2 220 rfl rfl
theorem ew461 : Cond.methodLink "WedApartLaw" 80 ⟨"WedApart", "meet", "(II)I"⟩ ∈ em_tb := em_tm2 221 rfl rfl
theorem ew462 : Cond.instanceMethod ⟨"WedApart", "meet", "(II)I"⟩ ∈ em_tb := em_tm2 222 rfl rfl
theorem ew463 : Cond.selects "WedApart" ⟨"WedApart", "meet", "(II)I"⟩ ⟨"WedApart", "meet", "(II)I"⟩ ∈ em_tb := em_tm2 223 rfl rfl
theorem ew464 : Cond.code ⟨"WedApart", "meet", "(II)I"⟩ prog_1_method_18_code 5 (Option.some ClassFile.FieldType.int) ∈ em_tb := em_tm2 224 rfl rfl
theorem ew465 : Cond.methodLink "WedApart" 149 ⟨"WedApart$Town", "behindTalk", "(JII)J"⟩ ∈ em_tb := em_tm2 225 rfl rfl
theorem ew466 : Cond.methodLink "WedApartLaw" 84 ⟨"WedApart", "undo", "()I"⟩ ∈ em_tb := em_tm2 226 rfl rfl
theorem ew467 : Cond.instanceMethod ⟨"WedApart", "undo", "()I"⟩ ∈ em_tb := em_tm2 227 rfl rfl
theorem ew468 : Cond.selects "WedApart" ⟨"WedApart", "undo", "()I"⟩ ⟨"WedApart", "undo", "()I"⟩ ∈ em_tb := em_tm2 228 rfl rfl
theorem ew469 : Cond.code ⟨"WedApart", "undo", "()I"⟩ prog_1_method_19_code 1 (Option.some ClassFile.FieldType.int) ∈ em_tb := em_tm2 229 rfl rfl
theorem ew470 : Cond.methodLink "WedApart" 153 ⟨"WedApart$Town", "takeBack", "()Z"⟩ ∈ em_tb := em_tm2 230 rfl rfl
theorem ew471 : Cond.instanceMethod ⟨"WedApart$Town", "takeBack", "()Z"⟩ ∈ em_tb := em_tm2 231 rfl rfl
theorem ew472 : Cond.selects "WedApart$Town" ⟨"WedApart$Town", "takeBack", "()Z"⟩ ⟨"WedApart$Town", "takeBack", "()Z"⟩ ∈ em_tb := em_tm2 232 rfl rfl
theorem ew473 : Cond.code ⟨"WedApart$Town", "takeBack", "()Z"⟩ prog_9_method_22_code 1 (Option.some ClassFile.FieldType.boolean) ∈ em_tb := em_tm2 233 rfl rfl
theorem ew474 : Cond.methodLink "WedApartLaw" 88 ⟨"WedApart", "behind", "(II)I"⟩ ∈ em_tb := em_tm2 234 rfl rfl
theorem ew475 : Cond.instanceMethod ⟨"WedApart", "behind", "(II)I"⟩ ∈ em_tb := em_tm2 235 rfl rfl
theorem ew476 : Cond.selects "WedApart" ⟨"WedApart", "behind", "(II)I"⟩ ⟨"WedApart", "behind", "(II)I"⟩ ∈ em_tb := em_tm2 236 rfl rfl
theorem ew477 : Cond.code ⟨"WedApart", "behind", "(II)I"⟩ prog_1_method_20_code 3 (Option.some ClassFile.FieldType.int) ∈ em_tb := em_tm2 237 rfl rfl
theorem ew478 : Cond.methodLink "WedApart" 157 ⟨"WedApart$Course", "follow", "(LWedApart$Town;)V"⟩ ∈ em_tb := em_tm2 238 rfl rfl
theorem ew479 : Cond.instanceMethod ⟨"WedApart$Course", "follow", "(LWedApart$Town;)V"⟩ ∈ em_tb := em_tm2 239 rfl rfl
theorem ew480 : Cond.selects "WedApart$Course" ⟨"WedApart$Course", "follow", "(LWedApart$Town;)V"⟩ ⟨"WedApart$Course", "follow", "(LWedApart$Town;)V"⟩ ∈ em_tb := em_tm3 0 rfl rfl
theorem ew481 : Cond.code ⟨"WedApart$Course", "follow", "(LWedApart$Town;)V"⟩ prog_2_method_2_code 3 (Option.none : Option ClassFile.FieldType) ∈ em_tb := em_tm3 1 rfl rfl
theorem ew482 : Cond.methodLink "WedApart$Course" 24 ⟨"WedApart$Town", "behindEvening", "(JI)J"⟩ ∈ em_tb := em_tm3 2 rfl rfl
theorem ew483 : Cond.methodLink "WedApart" 161 ⟨"WedApart$Course", "mindsBehind", "(I)J"⟩ ∈ em_tb := em_tm3 3 rfl rfl
theorem ew484 : Cond.instanceMethod ⟨"WedApart$Course", "mindsBehind", "(I)J"⟩ ∈ em_tb := em_tm3 4 rfl rfl
theorem ew485 : Cond.selects "WedApart$Course" ⟨"WedApart$Course", "mindsBehind", "(I)J"⟩ ⟨"WedApart$Course", "mindsBehind", "(I)J"⟩ ∈ em_tb := em_tm3 5 rfl rfl
theorem ew486 : Cond.code ⟨"WedApart$Course", "mindsBehind", "(I)J"⟩ prog_2_method_3_code 2 (Option.some ClassFile.FieldType.long) ∈ em_tb := em_tm3 6 rfl rfl
theorem ew487 : Cond.methodLink "WedApartLaw" 92 ⟨"WedApart", "lasts", "(II)I"⟩ ∈ em_tb := em_tm3 7 rfl rfl
theorem ew488 : Cond.instanceMethod ⟨"WedApart", "lasts", "(II)I"⟩ ∈ em_tb := em_tm3 8 rfl rfl
theorem ew489 : Cond.selects "WedApart" ⟨"WedApart", "lasts", "(II)I"⟩ ⟨"WedApart", "lasts", "(II)I"⟩ ∈ em_tb := em_tm3 9 rfl rfl
theorem ew490 : Cond.code ⟨"WedApart", "lasts", "(II)I"⟩ prog_1_method_21_code 3 (Option.some ClassFile.FieldType.int) ∈ em_tb := em_tm3 10 rfl rfl
theorem ew491 : Cond.methodLink "WedApart" 165 ⟨"WedApart$Course", "parted", "(LWedApart$Town;II)I"⟩ ∈ em_tb := em_tm3 11 rfl rfl
theorem ew492 : Cond.instanceMethod ⟨"WedApart$Course", "parted", "(LWedApart$Town;II)I"⟩ ∈ em_tb := em_tm3 12 rfl rfl
theorem ew493 : Cond.selects "WedApart$Course" ⟨"WedApart$Course", "parted", "(LWedApart$Town;II)I"⟩ ⟨"WedApart$Course", "parted", "(LWedApart$Town;II)I"⟩ ∈ em_tb := em_tm3 13 rfl rfl
theorem ew494 : Cond.code ⟨"WedApart$Course", "parted", "(LWedApart$Town;II)I"⟩ prog_2_method_4_code 5 (Option.some ClassFile.FieldType.int) ∈ em_tb := em_tm3 14 rfl rfl
theorem ew495 : Cond.methodLink "WedApart$Course" 28 ⟨"WedApart$Town", "mayWed", "(JII)Z"⟩ ∈ em_tb := em_tm3 15 rfl rfl
theorem ew496 : Cond.methodLink "WedApartLaw" 96 ⟨"WedApart", "again", "(I)I"⟩ ∈ em_tb := em_tm3 16 rfl rfl
theorem ew497 : Cond.instanceMethod ⟨"WedApart", "again", "(I)I"⟩ ∈ em_tb := em_tm3 17 rfl rfl
theorem ew498 : Cond.selects "WedApart" ⟨"WedApart", "again", "(I)I"⟩ ⟨"WedApart", "again", "(I)I"⟩ ∈ em_tb := em_tm3 18 rfl rfl
theorem ew499 : Cond.code ⟨"WedApart", "again", "(I)I"⟩ prog_1_method_22_code 5 (Option.some ClassFile.FieldType.int) ∈ em_tb := em_tm3 19 rfl rfl
theorem ew500 : Cond.methodLink "WedApart" 169 ⟨"java/lang/Math", "max", "(II)I"⟩ ∈ em_tb := em_tm3 20 rfl rfl
theorem ew501 : Cond.static ⟨"java/lang/Math", "max", "(II)I"⟩ ∈ em_tb := em_tm3 21 rfl rfl
theorem ew502 : Cond.code ⟨"java/lang/Math", "max", "(II)I"⟩ prog_14_method_65_code 2 (Option.some ClassFile.FieldType.int) ∈ em_tb := em_tm3 22 rfl rfl
theorem ew503 : Cond.methodLink "WedApart" 174 ⟨"WedApart$Course", "likeAhead", "(II)I"⟩ ∈ em_tb := em_tm3 23 rfl rfl
theorem ew504 : Cond.instanceMethod ⟨"WedApart$Course", "likeAhead", "(II)I"⟩ ∈ em_tb := em_tm3 24 rfl rfl
theorem ew505 : Cond.selects "WedApart$Course" ⟨"WedApart$Course", "likeAhead", "(II)I"⟩ ⟨"WedApart$Course", "likeAhead", "(II)I"⟩ ∈ em_tb := em_tm3 25 rfl rfl
theorem ew506 : Cond.code ⟨"WedApart$Course", "likeAhead", "(II)I"⟩ prog_2_method_5_code 4 (Option.some ClassFile.FieldType.int) ∈ em_tb := em_tm3 26 rfl rfl
theorem ew507 : Cond.methodLink "WedApartLaw" 100 ⟨"WedApart", "mind", "()I"⟩ ∈ em_tb := em_tm3 27 rfl rfl
theorem ew508 : Cond.instanceMethod ⟨"WedApart", "mind", "()I"⟩ ∈ em_tb := em_tm3 28 rfl rfl
theorem ew509 : Cond.selects "WedApart" ⟨"WedApart", "mind", "()I"⟩ ⟨"WedApart", "mind", "()I"⟩ ∈ em_tb := em_tm3 29 rfl rfl
theorem ew510 : Cond.code ⟨"WedApart", "mind", "()I"⟩ prog_1_method_23_code 1 (Option.some ClassFile.FieldType.int) ∈ em_tb := em_tm3 30 rfl rfl
theorem ew511 : Cond.methodLink "WedApart" 177 ⟨"WedApart$Course", "oneMind", "(I)I"⟩ ∈ em_tb := em_tm3 31 rfl rfl
theorem ew512 : Cond.instanceMethod ⟨"WedApart$Course", "oneMind", "(I)I"⟩ ∈ em_tb := em_tm3 32 rfl rfl
theorem ew513 : Cond.selects "WedApart$Course" ⟨"WedApart$Course", "oneMind", "(I)I"⟩ ⟨"WedApart$Course", "oneMind", "(I)I"⟩ ∈ em_tb := em_tm3 33 rfl rfl
theorem ew514 : Cond.code ⟨"WedApart$Course", "oneMind", "(I)I"⟩ prog_2_method_6_code 3 (Option.some ClassFile.FieldType.int) ∈ em_tb := em_tm3 34 rfl rfl
theorem ew515 : Cond.methodLink "WedApart$Course" 32 ⟨"WedApart$Minds", "alike", "(JI)Z"⟩ ∈ em_tb := em_tm3 35 rfl rfl
theorem ew516 : Cond.static ⟨"WedApart$Minds", "alike", "(JI)Z"⟩ ∈ em_tb := em_tm3 36 rfl rfl
theorem ew517 : Cond.code ⟨"WedApart$Minds", "alike", "(JI)Z"⟩ prog_7_method_5_code 4 (Option.some ClassFile.FieldType.boolean) ∈ em_tb := em_tm3 37 rfl rfl
theorem ew518 : Cond.methodLink "WedApartLaw" 104 ⟨"WedApart", "stops", "()I"⟩ ∈ em_tb := em_tm3 38 rfl rfl
theorem ew519 : Cond.instanceMethod ⟨"WedApart", "stops", "()I"⟩ ∈ em_tb := em_tm3 39 rfl rfl
theorem ew520 : Cond.selects "WedApart" ⟨"WedApart", "stops", "()I"⟩ ⟨"WedApart", "stops", "()I"⟩ ∈ em_tb := em_tm3 40 rfl rfl
theorem ew521 : Cond.code ⟨"WedApart", "stops", "()I"⟩ prog_1_method_24_code 3 (Option.some ClassFile.FieldType.int) ∈ em_tb := em_tm3 41 rfl rfl
theorem ew522 : Cond.methodLink "WedApart" 180 ⟨"WedApart", "mind", "()I"⟩ ∈ em_tb := em_tm3 42 rfl rfl
theorem ew523 : Cond.methodLink "WedApartLaw" 108 ⟨"WedApart", "wed", "(II)I"⟩ ∈ em_tb := em_tm3 43 rfl rfl
theorem ew524 : Cond.instanceMethod ⟨"WedApart", "wed", "(II)I"⟩ ∈ em_tb := em_tm3 44 rfl rfl
theorem ew525 : Cond.selects "WedApart" ⟨"WedApart", "wed", "(II)I"⟩ ⟨"WedApart", "wed", "(II)I"⟩ ∈ em_tb := em_tm3 45 rfl rfl
theorem ew526 : Cond.code ⟨"WedApart", "wed", "(II)I"⟩ prog_1_method_25_code 6 (Option.some ClassFile.FieldType.int) ∈ em_tb := em_tm3 46 rfl rfl
theorem ew527 : Cond.methodLink "WedApart" 184 ⟨"WedApart$Course", "lastingPairs", "(LWedApart$Town;I)J"⟩ ∈ em_tb := em_tm3 47 rfl rfl
theorem ew528 : Cond.instanceMethod ⟨"WedApart$Course", "lastingPairs", "(LWedApart$Town;I)J"⟩ ∈ em_tb := em_tm3 48 rfl rfl
theorem ew529 : Cond.selects "WedApart$Course" ⟨"WedApart$Course", "lastingPairs", "(LWedApart$Town;I)J"⟩ ⟨"WedApart$Course", "lastingPairs", "(LWedApart$Town;I)J"⟩ ∈ em_tb := em_tm3 49 rfl rfl
theorem ew530 : Cond.code ⟨"WedApart$Course", "lastingPairs", "(LWedApart$Town;I)J"⟩ prog_2_method_7_code 8 (Option.some ClassFile.FieldType.long) ∈ em_tb := em_tm3 50 rfl rfl
theorem ew531 : Cond.methodLink "WedApart$Course" 41 ⟨"WedApart$Course", "parted", "(LWedApart$Town;II)I"⟩ ∈ em_tb := em_tm3 51 rfl rfl
theorem ew532 : Cond.methodLink "WedApart$Course" 45 ⟨"WedApart$Marriages", "bit", "(II)J"⟩ ∈ em_tb := em_tm3 52 rfl rfl
theorem ew533 : Cond.static ⟨"WedApart$Marriages", "bit", "(II)J"⟩ ∈ em_tb := em_tm3 53 rfl rfl
theorem ew534 : Cond.code ⟨"WedApart$Marriages", "bit", "(II)J"⟩ prog_6_method_2_code 2 (Option.some ClassFile.FieldType.long) ∈ em_tb := em_tm3 54 rfl rfl
theorem ew536 : Cond.static ⟨"WedApart$Marriages", "most", "(JII)I"⟩ ∈ em_tb := em_tm3 56 rfl rfl
theorem ew537 : Cond.code ⟨"WedApart$Marriages", "most", "(JII)I"⟩ prog_6_method_3_code 6 (Option.some ClassFile.FieldType.int) ∈ em_tb := em_tm3 57 rfl rfl
theorem ew538 : Cond.methodLink "WedApart$Marriages" 9 ⟨"WedApart$Marriages", "most", "(JII)I"⟩ ∈ em_tb := em_tm3 58 rfl rfl
theorem ew539 : Cond.methodLink "WedApart$Marriages" 15 ⟨"WedApart$Marriages", "isFree", "(JIII)Z"⟩ ∈ em_tb := em_tm3 59 rfl rfl
theorem ew540 : Cond.static ⟨"WedApart$Marriages", "isFree", "(JIII)Z"⟩ ∈ em_tb := em_tm3 60 rfl rfl
theorem ew541 : Cond.code ⟨"WedApart$Marriages", "isFree", "(JIII)Z"⟩ prog_6_method_6_code 5 (Option.some ClassFile.FieldType.boolean) ∈ em_tb := em_tm3 61 rfl rfl
theorem ew542 : Cond.methodLink "WedApart$Marriages" 28 ⟨"WedApart$Marriages", "bit", "(II)J"⟩ ∈ em_tb := em_tm3 62 rfl rfl
theorem ew543 : Cond.methodLink "WedApart$Marriages" 19 ⟨"java/lang/Math", "max", "(II)I"⟩ ∈ em_tb := em_tm3 63 rfl rfl
theorem ew544 : Cond.methodLink "WedApart" 194 ⟨"WedApart$Marriages", "spouse", "(JI)I"⟩ ∈ em_tb := em_tm3 64 rfl rfl
theorem ew545 : Cond.static ⟨"WedApart$Marriages", "spouse", "(JI)I"⟩ ∈ em_tb := em_tm3 65 rfl rfl
theorem ew546 : Cond.code ⟨"WedApart$Marriages", "spouse", "(JI)I"⟩ prog_6_method_4_code 6 (Option.some ClassFile.FieldType.int) ∈ em_tb := em_tm3 66 rfl rfl
theorem ew547 : Cond.methodLink "WedApart$Marriages" 25 ⟨"WedApart$Marriages", "firstChoice", "(JII)I"⟩ ∈ em_tb := em_tm3 67 rfl rfl
theorem ew548 : Cond.static ⟨"WedApart$Marriages", "firstChoice", "(JII)I"⟩ ∈ em_tb := em_tm3 68 rfl rfl
theorem ew549 : Cond.code ⟨"WedApart$Marriages", "firstChoice", "(JII)I"⟩ prog_6_method_5_code 7 (Option.some ClassFile.FieldType.int) ∈ em_tb := em_tm3 69 rfl rfl
theorem ew550 : Cond.methodLink "WedApartLaw" 112 ⟨"WedApart", "dinners", "(IIII)I"⟩ ∈ em_tb := em_tm3 70 rfl rfl
theorem ew551 : Cond.instanceMethod ⟨"WedApart", "dinners", "(IIII)I"⟩ ∈ em_tb := em_tm3 71 rfl rfl
theorem ew552 : Cond.selects "WedApart" ⟨"WedApart", "dinners", "(IIII)I"⟩ ⟨"WedApart", "dinners", "(IIII)I"⟩ ∈ em_tb := em_tm3 72 rfl rfl
theorem ew553 : Cond.code ⟨"WedApart", "dinners", "(IIII)I"⟩ prog_1_method_26_code 5 (Option.some ClassFile.FieldType.int) ∈ em_tb := em_tm3 73 rfl rfl
theorem ew555 : Cond.static ⟨"WedApart$Dinners", "rows", "(LWedApart$Town;JIII)I"⟩ ∈ em_tb := em_tm3 75 rfl rfl
theorem ew556 : Cond.code ⟨"WedApart$Dinners", "rows", "(LWedApart$Town;JIII)I"⟩ prog_3_method_2_code 12 (Option.some ClassFile.FieldType.int) ∈ em_tb := em_tm3 76 rfl rfl
theorem ew557 : Cond.methodLink "WedApart$Dinners" 9 ⟨"WedApart$Town", "behindTalk", "(JII)J"⟩ ∈ em_tb := em_tm3 77 rfl rfl
theorem ew558 : Cond.methodLink "WedApart$Dinners" 17 ⟨"WedApart$Dinners", "canBe", "(LWedApart$Town;III)Z"⟩ ∈ em_tb := em_tm3 78 rfl rfl
theorem ew559 : Cond.static ⟨"WedApart$Dinners", "canBe", "(LWedApart$Town;III)Z"⟩ ∈ em_tb := em_tm3 79 rfl rfl
theorem ew560 : Cond.code ⟨"WedApart$Dinners", "canBe", "(LWedApart$Town;III)Z"⟩ prog_3_method_5_code 5 (Option.some ClassFile.FieldType.boolean) ∈ em_tb := em_tm3 80 rfl rfl
theorem ew561 : Cond.methodLink "WedApart$Dinners" 40 ⟨"WedApart$Dinners", "third", "(I)I"⟩ ∈ em_tb := em_tm3 81 rfl rfl
theorem ew562 : Cond.static ⟨"WedApart$Dinners", "third", "(I)I"⟩ ∈ em_tb := em_tm3 82 rfl rfl
theorem ew563 : Cond.code ⟨"WedApart$Dinners", "third", "(I)I"⟩ prog_3_method_7_code 1 (Option.some ClassFile.FieldType.int) ∈ em_tb := em_tm3 83 rfl rfl
theorem ew564 : Cond.methodLink "WedApart$Dinners" 44 ⟨"WedApart$Town", "has", "(I)Z"⟩ ∈ em_tb := em_tm3 84 rfl rfl
theorem ew565 : Cond.methodLink "WedApart$Dinners" 21 ⟨"WedApart$Dinners", "behindDinner", "(LWedApart$Town;JIII)J"⟩ ∈ em_tb := em_tm3 85 rfl rfl
theorem ew566 : Cond.static ⟨"WedApart$Dinners", "behindDinner", "(LWedApart$Town;JIII)J"⟩ ∈ em_tb := em_tm3 86 rfl rfl
theorem ew567 : Cond.code ⟨"WedApart$Dinners", "behindDinner", "(LWedApart$Town;JIII)J"⟩ prog_3_method_6_code 6 (Option.some ClassFile.FieldType.long) ∈ em_tb := em_tm3 87 rfl rfl
theorem ew568 : Cond.methodLink "WedApart$Dinners" 25 ⟨"WedApart$Town", "mayWed", "(JII)Z"⟩ ∈ em_tb := em_tm3 88 rfl rfl
theorem ew569 : Cond.methodLink "WedApart$Dinners" 29 ⟨"WedApart$Dinners", "rows", "(LWedApart$Town;JIII)I"⟩ ∈ em_tb := em_tm3 89 rfl rfl
theorem ew570 : Cond.methodLink "WedApart" 203 ⟨"WedApart$Dinners", "ofFirstRow", "(LWedApart$Town;IIII)I"⟩ ∈ em_tb := em_tm3 90 rfl rfl
theorem ew571 : Cond.static ⟨"WedApart$Dinners", "ofFirstRow", "(LWedApart$Town;IIII)I"⟩ ∈ em_tb := em_tm3 91 rfl rfl
theorem ew572 : Cond.code ⟨"WedApart$Dinners", "ofFirstRow", "(LWedApart$Town;IIII)I"⟩ prog_3_method_3_code 11 (Option.some ClassFile.FieldType.int) ∈ em_tb := em_tm3 92 rfl rfl
theorem ew573 : Cond.methodLink "WedApart$Dinners" 37 ⟨"WedApart$Dinners", "first", "(LWedApart$Town;JIII)I"⟩ ∈ em_tb := em_tm3 93 rfl rfl
theorem ew574 : Cond.static ⟨"WedApart$Dinners", "first", "(LWedApart$Town;JIII)I"⟩ ∈ em_tb := em_tm3 94 rfl rfl
theorem ew575 : Cond.code ⟨"WedApart$Dinners", "first", "(LWedApart$Town;JIII)I"⟩ prog_3_method_4_code 9 (Option.some ClassFile.FieldType.int) ∈ em_tb := em_tm3 95 rfl rfl
theorem ew576 : Cond.methodLink "WedApartLaw" 117 ⟨"WedApart", "feigned", "(II)I"⟩ ∈ em_tb := em_tm3 96 rfl rfl
theorem ew577 : Cond.instanceMethod ⟨"WedApart", "feigned", "(II)I"⟩ ∈ em_tb := em_tm3 97 rfl rfl
theorem ew578 : Cond.selects "WedApart" ⟨"WedApart", "feigned", "(II)I"⟩ ⟨"WedApart", "feigned", "(II)I"⟩ ∈ em_tb := em_tm3 98 rfl rfl
theorem ew579 : Cond.code ⟨"WedApart", "feigned", "(II)I"⟩ prog_1_method_27_code 8 (Option.some ClassFile.FieldType.int) ∈ em_tb := em_tm3 99 rfl rfl
theorem ew580 : Cond.methodLink "WedApart" 207 ⟨"WedApart$Town", "isLicensed", "(I)Z"⟩ ∈ em_tb := em_tm3 100 rfl rfl
theorem ew581 : Cond.methodLink "WedApartLaw" 121 ⟨"WedApart", "seen", "(II)I"⟩ ∈ em_tb := em_tm3 101 rfl rfl
theorem ew582 : Cond.instanceMethod ⟨"WedApart", "seen", "(II)I"⟩ ∈ em_tb := em_tm3 102 rfl rfl
theorem ew583 : Cond.selects "WedApart" ⟨"WedApart", "seen", "(II)I"⟩ ⟨"WedApart", "seen", "(II)I"⟩ ∈ em_tb := em_tm3 103 rfl rfl
theorem ew584 : Cond.code ⟨"WedApart", "seen", "(II)I"⟩ prog_1_method_28_code 4 (Option.some ClassFile.FieldType.int) ∈ em_tb := em_tm3 104 rfl rfl
theorem ew585 : Cond.methodLink "WedApart" 213 ⟨"WedApart$Minds", "with", "(JII)J"⟩ ∈ em_tb := em_tm3 105 rfl rfl
theorem ew586 : Cond.methodLink "WedApartLaw" 125 ⟨"WedApart", "swayed", "(I)I"⟩ ∈ em_tb := em_tm3 106 rfl rfl
theorem ew587 : Cond.instanceMethod ⟨"WedApart", "swayed", "(I)I"⟩ ∈ em_tb := em_tm3 107 rfl rfl
theorem ew588 : Cond.selects "WedApart" ⟨"WedApart", "swayed", "(I)I"⟩ ⟨"WedApart", "swayed", "(I)I"⟩ ∈ em_tb := em_tm3 108 rfl rfl
theorem ew589 : Cond.code ⟨"WedApart", "swayed", "(I)I"⟩ prog_1_method_29_code 6 (Option.some ClassFile.FieldType.int) ∈ em_tb := em_tm3 109 rfl rfl
theorem ew590 : Cond.methodLink "WedApartLaw" 129 ⟨"WedApart", "seats", "(I)I"⟩ ∈ em_tb := em_tm3 110 rfl rfl
theorem ew591 : Cond.instanceMethod ⟨"WedApart", "seats", "(I)I"⟩ ∈ em_tb := em_tm3 111 rfl rfl
theorem ew592 : Cond.selects "WedApart" ⟨"WedApart", "seats", "(I)I"⟩ ⟨"WedApart", "seats", "(I)I"⟩ ∈ em_tb := em_tm3 112 rfl rfl
theorem ew593 : Cond.code ⟨"WedApart", "seats", "(I)I"⟩ prog_1_method_30_code 2 (Option.some ClassFile.FieldType.int) ∈ em_tb := em_tm3 113 rfl rfl
theorem ew595 : Cond.static ⟨"WedApart$Table", "most", "(LWedApart$Town;JIII)I"⟩ ∈ em_tb := em_tm3 115 rfl rfl
theorem ew596 : Cond.code ⟨"WedApart$Table", "most", "(LWedApart$Town;JIII)I"⟩ prog_8_method_2_code 10 (Option.some ClassFile.FieldType.int) ∈ em_tb := em_tm3 116 rfl rfl
theorem ew597 : Cond.methodLink "WedApart$Table" 13 ⟨"WedApart$Town", "behindTalk", "(JII)J"⟩ ∈ em_tb := em_tm3 117 rfl rfl
theorem ew598 : Cond.methodLink "WedApart$Table" 17 ⟨"WedApart$Town", "lawfulPairs", "(J)I"⟩ ∈ em_tb := em_tm3 118 rfl rfl
theorem ew599 : Cond.instanceMethod ⟨"WedApart$Town", "lawfulPairs", "(J)I"⟩ ∈ em_tb := em_tm3 119 rfl rfl
theorem ew600 : Cond.selects "WedApart$Town" ⟨"WedApart$Town", "lawfulPairs", "(J)I"⟩ ⟨"WedApart$Town", "lawfulPairs", "(J)I"⟩ ∈ em_tb := em_tm3 120 rfl rfl
theorem ew601 : Cond.code ⟨"WedApart$Town", "lawfulPairs", "(J)I"⟩ prog_9_method_17_code 6 (Option.some ClassFile.FieldType.int) ∈ em_tb := em_tm3 121 rfl rfl
theorem ew602 : Cond.methodLink "WedApart$Table" 21 ⟨"WedApart$Table", "most", "(LWedApart$Town;JIII)I"⟩ ∈ em_tb := em_tm3 122 rfl rfl
theorem ew603 : Cond.methodLink "WedApart$Table" 27 ⟨"java/lang/Math", "max", "(II)I"⟩ ∈ em_tb := em_tm3 123 rfl rfl
theorem ew604 : Cond.methodLink "WedApart" 220 ⟨"WedApart$Table", "sitter", "(LWedApart$Town;I)I"⟩ ∈ em_tb := em_tm3 124 rfl rfl
theorem ew605 : Cond.static ⟨"WedApart$Table", "sitter", "(LWedApart$Town;I)I"⟩ ∈ em_tb := em_tm3 125 rfl rfl
theorem ew606 : Cond.code ⟨"WedApart$Table", "sitter", "(LWedApart$Town;I)I"⟩ prog_8_method_3_code 8 (Option.some ClassFile.FieldType.int) ∈ em_tb := em_tm3 126 rfl rfl
theorem ew607 : Cond.methodLink "WedApart$Table" 37 ⟨"WedApart$Table", "firstChoice", "(LWedApart$Town;JIII)I"⟩ ∈ em_tb := em_tm3 127 rfl rfl
theorem ew608 : Cond.static ⟨"WedApart$Table", "firstChoice", "(LWedApart$Town;JIII)I"⟩ ∈ em_tb := em_tm3 128 rfl rfl
theorem ew609 : Cond.code ⟨"WedApart$Table", "firstChoice", "(LWedApart$Town;JIII)I"⟩ prog_8_method_4_code 10 (Option.some ClassFile.FieldType.int) ∈ em_tb := em_tm3 129 rfl rfl
theorem ew610 : Cond.methodLink "WedApartLaw" 133 ⟨"WedApart", "couple", "(IZ)I"⟩ ∈ em_tb := em_tm3 130 rfl rfl
theorem ew611 : Cond.instanceMethod ⟨"WedApart", "couple", "(IZ)I"⟩ ∈ em_tb := em_tm3 131 rfl rfl
theorem ew612 : Cond.selects "WedApart" ⟨"WedApart", "couple", "(IZ)I"⟩ ⟨"WedApart", "couple", "(IZ)I"⟩ ∈ em_tb := em_tm3 132 rfl rfl
theorem ew613 : Cond.code ⟨"WedApart", "couple", "(IZ)I"⟩ prog_1_method_31_code 3 (Option.some ClassFile.FieldType.int) ∈ em_tb := em_tm3 133 rfl rfl
theorem ew614 : Cond.methodLink "WedApart" 224 ⟨"WedApart$Town", "note", "(IZ)I"⟩ ∈ em_tb := em_tm3 134 rfl rfl
theorem ew615 : Cond.instanceMethod ⟨"WedApart$Town", "note", "(IZ)I"⟩ ∈ em_tb := em_tm3 135 rfl rfl
theorem ew616 : Cond.selects "WedApart$Town" ⟨"WedApart$Town", "note", "(IZ)I"⟩ ⟨"WedApart$Town", "note", "(IZ)I"⟩ ∈ em_tb := em_tm3 136 rfl rfl
theorem ew617 : Cond.code ⟨"WedApart$Town", "note", "(IZ)I"⟩ prog_9_method_12_code 3 (Option.some ClassFile.FieldType.int) ∈ em_tb := em_tm3 137 rfl rfl
theorem ew618 : Cond.methodLink "WedApartLaw" 138 ⟨"WedApart", "burn", "()I"⟩ ∈ em_tb := em_tm3 138 rfl rfl
theorem ew619 : Cond.instanceMethod ⟨"WedApart", "burn", "()I"⟩ ∈ em_tb := em_tm3 139 rfl rfl
theorem ew620 : Cond.selects "WedApart" ⟨"WedApart", "burn", "()I"⟩ ⟨"WedApart", "burn", "()I"⟩ ∈ em_tb := em_tm3 140 rfl rfl
theorem ew621 : Cond.code ⟨"WedApart", "burn", "()I"⟩ prog_1_method_32_code 2 (Option.some ClassFile.FieldType.int) ∈ em_tb := em_tm3 141 rfl rfl
theorem ew622 : Cond.methodLink "WedApartLaw" 142 ⟨"WedApart", "law", "(I)I"⟩ ∈ em_tb := em_tm3 142 rfl rfl
theorem ew623 : Cond.instanceMethod ⟨"WedApart", "law", "(I)I"⟩ ∈ em_tb := em_tm3 143 rfl rfl
theorem ew624 : Cond.selects "WedApart" ⟨"WedApart", "law", "(I)I"⟩ ⟨"WedApart", "law", "(I)I"⟩ ∈ em_tb := em_tm3 144 rfl rfl
theorem ew625 : Cond.code ⟨"WedApart", "law", "(I)I"⟩ prog_1_method_33_code 7 (Option.some ClassFile.FieldType.int) ∈ em_tb := em_tm3 145 rfl rfl
theorem ew626 : Cond.methodLink "WedApart" 231 ⟨"WedApart$Town", "couplesFit", "(II)Z"⟩ ∈ em_tb := em_tm3 146 rfl rfl
theorem ew627 : Cond.instanceMethod ⟨"WedApart$Town", "couplesFit", "(II)Z"⟩ ∈ em_tb := em_tm3 147 rfl rfl
theorem ew628 : Cond.selects "WedApart$Town" ⟨"WedApart$Town", "couplesFit", "(II)Z"⟩ ⟨"WedApart$Town", "couplesFit", "(II)Z"⟩ ∈ em_tb := em_tm3 148 rfl rfl
theorem ew629 : Cond.code ⟨"WedApart$Town", "couplesFit", "(II)Z"⟩ prog_9_method_13_code 5 (Option.some ClassFile.FieldType.boolean) ∈ em_tb := em_tm3 149 rfl rfl
theorem ew630 : Cond.methodLink "WedApartLaw" 146 ⟨"WedApart", "child", "(IIII)I"⟩ ∈ em_tb := em_tm3 150 rfl rfl
theorem ew631 : Cond.instanceMethod ⟨"WedApart", "child", "(IIII)I"⟩ ∈ em_tb := em_tm3 151 rfl rfl
theorem ew632 : Cond.selects "WedApart" ⟨"WedApart", "child", "(IIII)I"⟩ ⟨"WedApart", "child", "(IIII)I"⟩ ∈ em_tb := em_tm3 152 rfl rfl
theorem ew633 : Cond.code ⟨"WedApart", "child", "(IIII)I"⟩ prog_1_method_34_code 11 (Option.some ClassFile.FieldType.int) ∈ em_tb := em_tm3 153 rfl rfl
theorem ew634 : Cond.methodLink "WedApart" 234 ⟨"WedApart$Fraction", "becomeHalves", "(II)V"⟩ ∈ em_tb := em_tm3 154 rfl rfl
theorem ew635 : Cond.instanceMethod ⟨"WedApart$Fraction", "becomeHalves", "(II)V"⟩ ∈ em_tb := em_tm3 155 rfl rfl
theorem ew636 : Cond.selects "WedApart$Fraction" ⟨"WedApart$Fraction", "becomeHalves", "(II)V"⟩ ⟨"WedApart$Fraction", "becomeHalves", "(II)V"⟩ ∈ em_tb := em_tm3 156 rfl rfl
theorem ew637 : Cond.code ⟨"WedApart$Fraction", "becomeHalves", "(II)V"⟩ prog_4_method_2_code 4 (Option.none : Option ClassFile.FieldType) ∈ em_tb := em_tm3 157 rfl rfl
theorem ew638 : Cond.methodLink "WedApartLaw" 150 ⟨"WedApart", "born", "(III)I"⟩ ∈ em_tb := em_tm3 158 rfl rfl
theorem ew639 : Cond.instanceMethod ⟨"WedApart", "born", "(III)I"⟩ ∈ em_tb := em_tm3 159 rfl rfl
theorem ew640 : Cond.selects "WedApart" ⟨"WedApart", "born", "(III)I"⟩ ⟨"WedApart", "born", "(III)I"⟩ ∈ em_tb := em_tm3 160 rfl rfl
theorem ew641 : Cond.code ⟨"WedApart", "born", "(III)I"⟩ prog_1_method_35_code 10 (Option.some ClassFile.FieldType.int) ∈ em_tb := em_tm3 161 rfl rfl
theorem ew642 : Cond.constant "WedApart" 238 (999999 : Int32) ∈ em_tb := em_tm3 162 rfl rfl
theorem ew643 : Cond.constantLong "WedApart" 239 (1103515245 : Int64) ∈ em_tb := em_tm3 163 rfl rfl
theorem ew644 : Cond.constantLong "WedApart" 241 (12345 : Int64) ∈ em_tb := em_tm3 164 rfl rfl
theorem ew645 : Cond.constantLong "WedApart" 243 (2147483648 : Int64) ∈ em_tb := em_tm3 165 rfl rfl
theorem ew646 : Cond.constantLong "WedApart" 245 (65536 : Int64) ∈ em_tb := em_tm3 166 rfl rfl
theorem ew647 : Cond.constantLong "WedApart" 247 (2 : Int64) ∈ em_tb := em_tm3 167 rfl rfl
theorem ew648 : Cond.methodLink "WedApartLaw" 155 ⟨"WedApart", "part", "(I)J"⟩ ∈ em_tb := em_tm3 168 rfl rfl
theorem ew649 : Cond.instanceMethod ⟨"WedApart", "part", "(I)J"⟩ ∈ em_tb := em_tm3 169 rfl rfl
theorem ew650 : Cond.selects "WedApart" ⟨"WedApart", "part", "(I)J"⟩ ⟨"WedApart", "part", "(I)J"⟩ ∈ em_tb := em_tm3 170 rfl rfl
theorem ew651 : Cond.code ⟨"WedApart", "part", "(I)J"⟩ prog_1_method_36_code 2 (Option.some ClassFile.FieldType.long) ∈ em_tb := em_tm3 171 rfl rfl
theorem ew652 : Cond.methodLink "WedApartLaw" 160 ⟨"WedApart", "image", "(I)I"⟩ ∈ em_tb := em_tm3 172 rfl rfl
theorem ew653 : Cond.instanceMethod ⟨"WedApart", "image", "(I)I"⟩ ∈ em_tb := em_tm3 173 rfl rfl
theorem ew654 : Cond.selects "WedApart" ⟨"WedApart", "image", "(I)I"⟩ ⟨"WedApart", "image", "(I)I"⟩ ∈ em_tb := em_tm3 174 rfl rfl
theorem ew655 : Cond.code ⟨"WedApart", "image", "(I)I"⟩ prog_1_method_37_code 3 (Option.some ClassFile.FieldType.int) ∈ em_tb := em_tm3 175 rfl rfl
theorem ew656 : Cond.methodLink "WedApart" 255 ⟨"WedApart$Town", "becomeLike", "(LWedApart$Town;)V"⟩ ∈ em_tb := em_tm3 176 rfl rfl
theorem ew657 : Cond.instanceMethod ⟨"WedApart$Town", "becomeLike", "(LWedApart$Town;)V"⟩ ∈ em_tb := em_tm3 177 rfl rfl
theorem ew658 : Cond.selects "WedApart$Town" ⟨"WedApart$Town", "becomeLike", "(LWedApart$Town;)V"⟩ ⟨"WedApart$Town", "becomeLike", "(LWedApart$Town;)V"⟩ ∈ em_tb := em_tm3 178 rfl rfl
theorem ew659 : Cond.code ⟨"WedApart$Town", "becomeLike", "(LWedApart$Town;)V"⟩ prog_9_method_3_code 2 (Option.none : Option ClassFile.FieldType) ∈ em_tb := em_tm3 179 rfl rfl
theorem ew660 : Cond.methodLink "WedApartLaw" 164 ⟨"WedApart", "from", "(I)I"⟩ ∈ em_tb := em_tm3 180 rfl rfl
theorem ew661 : Cond.instanceMethod ⟨"WedApart", "from", "(I)I"⟩ ∈ em_tb := em_tm3 181 rfl rfl
theorem ew662 : Cond.selects "WedApart" ⟨"WedApart", "from", "(I)I"⟩ ⟨"WedApart", "from", "(I)I"⟩ ∈ em_tb := em_tm3 182 rfl rfl
theorem ew663 : Cond.code ⟨"WedApart", "from", "(I)I"⟩ prog_1_method_38_code 3 (Option.some ClassFile.FieldType.int) ∈ em_tb := em_tm3 183 rfl rfl
theorem ew664 : Cond.methodLink "WedApartLaw" 168 ⟨"WedApart", "status", "(I)I"⟩ ∈ em_tb := em_tm3 184 rfl rfl
theorem ew665 : Cond.instanceMethod ⟨"WedApart", "status", "(I)I"⟩ ∈ em_tb := em_tm3 185 rfl rfl
theorem ew666 : Cond.selects "WedApart" ⟨"WedApart", "status", "(I)I"⟩ ⟨"WedApart", "status", "(I)I"⟩ ∈ em_tb := em_tm3 186 rfl rfl
theorem ew667 : Cond.code ⟨"WedApart", "status", "(I)I"⟩ prog_1_method_39_code 2 (Option.some ClassFile.FieldType.int) ∈ em_tb := em_tm3 187 rfl rfl
theorem ew668 : Cond.methodLink "WedApartLaw" 172 ⟨"WedApart", "count", "(I)I"⟩ ∈ em_tb := em_tm3 188 rfl rfl
theorem ew669 : Cond.instanceMethod ⟨"WedApart", "count", "(I)I"⟩ ∈ em_tb := em_tm3 189 rfl rfl
theorem ew670 : Cond.selects "WedApart" ⟨"WedApart", "count", "(I)I"⟩ ⟨"WedApart", "count", "(I)I"⟩ ∈ em_tb := em_tm3 190 rfl rfl
theorem ew671 : Cond.code ⟨"WedApart", "count", "(I)I"⟩ prog_1_method_40_code 2 (Option.some ClassFile.FieldType.int) ∈ em_tb := em_tm3 191 rfl rfl
theorem ew672 : Cond.methodLink "WedApart" 258 ⟨"WedApart", "howMany", "(I)I"⟩ ∈ em_tb := em_tm3 192 rfl rfl
theorem ew674 : Cond.instanceMethod ⟨"WedApart", "howMany", "(I)I"⟩ ∈ em_tb := em_tm3 194 rfl rfl
theorem ew675 : Cond.code ⟨"WedApart", "howMany", "(I)I"⟩ prog_1_method_42_code 2 (Option.some ClassFile.FieldType.int) ∈ em_tb := em_tm3 195 rfl rfl
theorem ew676 : Cond.methodLink "WedApartLaw" 176 ⟨"WedApart", "digest", "()J"⟩ ∈ em_tb := em_tm3 196 rfl rfl
theorem ew677 : Cond.instanceMethod ⟨"WedApart", "digest", "()J"⟩ ∈ em_tb := em_tm3 197 rfl rfl
theorem ew678 : Cond.selects "WedApart" ⟨"WedApart", "digest", "()J"⟩ ⟨"WedApart", "digest", "()J"⟩ ∈ em_tb := em_tm3 198 rfl rfl
theorem ew679 : Cond.code ⟨"WedApart", "digest", "()J"⟩ prog_1_method_41_code 4 (Option.some ClassFile.FieldType.long) ∈ em_tb := em_tm3 199 rfl rfl
theorem ew680 : Cond.constantLong "WedApart" 261 (839 : Int64) ∈ em_tb := em_tm3 200 rfl rfl
theorem ew681 : Cond.constantLong "WedApart" 263 (31 : Int64) ∈ em_tb := em_tm3 201 rfl rfl
theorem ew682 : Cond.methodLink "WedApart" 265 ⟨"WedApart$Town", "addTo", "(J)J"⟩ ∈ em_tb := em_tm3 202 rfl rfl
theorem ew683 : Cond.instanceMethod ⟨"WedApart$Town", "addTo", "(J)J"⟩ ∈ em_tb := em_tm3 203 rfl rfl
theorem ew684 : Cond.selects "WedApart$Town" ⟨"WedApart$Town", "addTo", "(J)J"⟩ ⟨"WedApart$Town", "addTo", "(J)J"⟩ ∈ em_tb := em_tm3 204 rfl rfl
theorem ew685 : Cond.code ⟨"WedApart$Town", "addTo", "(J)J"⟩ prog_9_method_23_code 6 (Option.some ClassFile.FieldType.long) ∈ em_tb := em_tm3 205 rfl rfl
theorem ew686 : Cond.constantLong "WedApart$Town" 129 (31 : Int64) ∈ em_tb := em_tm3 206 rfl rfl
theorem ew687 : Cond.classLink "WedApartLaw" 10 "WedApartModel" ∈ em_tb := em_tm3 207 rfl rfl
theorem ew688 : Cond.instantiable "WedApartModel" 24 ∈ em_tb := em_tm3 208 rfl rfl
theorem ew689 : Cond.methodLink "WedApartLaw" 12 ⟨"WedApartModel", "<init>", "()V"⟩ ∈ em_tb := em_tm3 209 rfl rfl
theorem ew690 : Cond.instanceMethod ⟨"WedApartModel", "<init>", "()V"⟩ ∈ em_tb := em_tm3 210 rfl rfl
theorem ew691 : Cond.code ⟨"WedApartModel", "<init>", "()V"⟩ prog_12_method_3_code 1 (Option.none : Option ClassFile.FieldType) ∈ em_tb := em_tm3 211 rfl rfl
theorem ew692 : Cond.methodLink "WedApartModel" 1 ⟨"java/lang/Object", "<init>", "()V"⟩ ∈ em_tb := em_tm3 212 rfl rfl
theorem ew693 : Cond.methodLink "WedApartModel" 58 ⟨"WedApartModel", "empties", "()V"⟩ ∈ em_tb := em_tm3 213 rfl rfl
theorem ew695 : Cond.instanceMethod ⟨"WedApartModel", "empties", "()V"⟩ ∈ em_tb := em_tm3 215 rfl rfl
theorem ew696 : Cond.code ⟨"WedApartModel", "empties", "()V"⟩ prog_12_method_4_code 2 (Option.none : Option ClassFile.FieldType) ∈ em_tb := em_tm3 216 rfl rfl
theorem ew697 : Cond.fieldLink "WedApartModel" 7 "WedApartModel" "book" "[I" ∈ em_tb := em_tm3 217 rfl rfl
theorem ew698 : Cond.fieldLink "WedApartModel" 13 "WedApartModel" "images" "[I" ∈ em_tb := em_tm3 218 rfl rfl
theorem ew699 : Cond.fieldLink "WedApartModel" 16 "WedApartModel" "kept" "[Z" ∈ em_tb := em_tm3 219 rfl rfl
theorem ew700 : Cond.fieldLink "WedApartModel" 20 "WedApartModel" "aside" "[I" ∈ em_tb := em_tm3 220 rfl rfl
theorem ew701 : Cond.fieldLink "WedApartModel" 23 "WedApartModel" "refused" "[I" ∈ em_tb := em_tm3 221 rfl rfl
theorem ew702 : Cond.fieldLink "WedApartModel" 61 "WedApartModel" "quiet" "Z" ∈ em_tb := em_tm3 222 rfl rfl
theorem ew703 : Cond.fieldLink "WedApartModel" 240 "WedApartModel" "above" "J" ∈ em_tb := em_tm3 223 rfl rfl
theorem ew704 : Cond.fieldLink "WedApartModel" 54 "WedApartModel" "below" "J" ∈ em_tb := em_tm3 224 rfl rfl
theorem ew705 : Cond.fieldLink "WedApartModel" 26 "WedApartModel" "text" "[I" ∈ em_tb := em_tm3 225 rfl rfl
theorem ew706 : Cond.fieldLink "WedApartModel" 102 "WedApartModel" "typed" "I" ∈ em_tb := em_tm3 226 rfl rfl
theorem ew707 : Cond.fieldLink "WedApartModel" 106 "WedApartModel" "at" "I" ∈ em_tb := em_tm3 227 rfl rfl
theorem ew708 : Cond.fieldLink "WedApartModel" 112 "WedApartModel" "start" "I" ∈ em_tb := em_tm3 228 rfl rfl
theorem ew709 : Cond.fieldLink "WedApartModel" 115 "WedApartModel" "token" "I" ∈ em_tb := em_tm3 229 rfl rfl
theorem ew710 : Cond.fieldLink "WedApartModel" 127 "WedApartModel" "value" "I" ∈ em_tb := em_tm3 230 rfl rfl
theorem ew711 : Cond.fieldLink "WedApartModel" 118 "WedApartModel" "word" "J" ∈ em_tb := em_tm3 231 rfl rfl
theorem ew712 : Cond.fieldLink "WedApartModel" 29 "WedApartModel" "items" "[I" ∈ em_tb := em_tm3 232 rfl rfl
theorem ew713 : Cond.fieldLink "WedApartModel" 143 "WedApartModel" "many" "I" ∈ em_tb := em_tm3 233 rfl rfl
theorem ew714 : Cond.fieldLink "WedApartModel" 32 "WedApartModel" "so" "[I" ∈ em_tb := em_tm3 234 rfl rfl
theorem ew715 : Cond.fieldLink "WedApartModel" 35 "WedApartModel" "seenBy" "[J" ∈ em_tb := em_tm3 235 rfl rfl
theorem ew716 : Cond.fieldLink "WedApartModel" 39 "WedApartModel" "may" "[I" ∈ em_tb := em_tm3 236 rfl rfl
theorem ew717 : Cond.fieldLink "WedApartModel" 42 "WedApartModel" "weds" "[I" ∈ em_tb := em_tm3 237 rfl rfl
theorem ew718 : Cond.fieldLink "WedApartModel" 45 "WedApartModel" "best" "[I" ∈ em_tb := em_tm3 238 rfl rfl
theorem ew719 : Cond.fieldLink "WedApartModel" 48 "WedApartModel" "row" "[I" ∈ em_tb := em_tm3 239 rfl rfl
theorem ew720 : Cond.fieldLink "WedApartModel" 51 "WedApartModel" "firstRow" "[I" ∈ em_tb := em_tm4 0 rfl rfl
theorem ew721 : Cond.laysFinal "WedApartModel" "WedApartModel" "book" "[I" ∈ em_tb := em_tm4 1 rfl rfl
theorem ew723 : Cond.laysFinal "WedApartModel" "WedApartModel" "images" "[I" ∈ em_tb := em_tm4 3 rfl rfl
theorem ew725 : Cond.laysFinal "WedApartModel" "WedApartModel" "kept" "[Z" ∈ em_tb := em_tm4 5 rfl rfl
theorem ew727 : Cond.laysFinal "WedApartModel" "WedApartModel" "aside" "[I" ∈ em_tb := em_tm4 7 rfl rfl
theorem ew729 : Cond.laysFinal "WedApartModel" "WedApartModel" "refused" "[I" ∈ em_tb := em_tm4 9 rfl rfl
theorem ew731 : Cond.lays "WedApartModel" "WedApartModel" "quiet" "Z" ∈ em_tb := em_tm4 11 rfl rfl
theorem ew733 : Cond.lays "WedApartModel" "WedApartModel" "above" "J" ∈ em_tb := em_tm4 13 rfl rfl
theorem ew735 : Cond.lays "WedApartModel" "WedApartModel" "below" "J" ∈ em_tb := em_tm4 15 rfl rfl
theorem ew737 : Cond.laysFinal "WedApartModel" "WedApartModel" "text" "[I" ∈ em_tb := em_tm4 17 rfl rfl
theorem ew739 : Cond.lays "WedApartModel" "WedApartModel" "typed" "I" ∈ em_tb := em_tm4 19 rfl rfl
theorem ew741 : Cond.lays "WedApartModel" "WedApartModel" "at" "I" ∈ em_tb := em_tm4 21 rfl rfl
theorem ew743 : Cond.lays "WedApartModel" "WedApartModel" "start" "I" ∈ em_tb := em_tm4 23 rfl rfl
theorem ew745 : Cond.lays "WedApartModel" "WedApartModel" "token" "I" ∈ em_tb := em_tm4 25 rfl rfl
theorem ew747 : Cond.lays "WedApartModel" "WedApartModel" "value" "I" ∈ em_tb := em_tm4 27 rfl rfl
theorem ew749 : Cond.lays "WedApartModel" "WedApartModel" "word" "J" ∈ em_tb := em_tm4 29 rfl rfl
theorem ew751 : Cond.laysFinal "WedApartModel" "WedApartModel" "items" "[I" ∈ em_tb := em_tm4 31 rfl rfl
theorem ew753 : Cond.lays "WedApartModel" "WedApartModel" "many" "I" ∈ em_tb := em_tm4 33 rfl rfl
theorem ew755 : Cond.laysFinal "WedApartModel" "WedApartModel" "so" "[I" ∈ em_tb := em_tm4 35 rfl rfl
theorem ew757 : Cond.laysFinal "WedApartModel" "WedApartModel" "seenBy" "[J" ∈ em_tb := em_tm4 37 rfl rfl
theorem ew759 : Cond.laysFinal "WedApartModel" "WedApartModel" "may" "[I" ∈ em_tb := em_tm4 39 rfl rfl
theorem ew761 : Cond.laysFinal "WedApartModel" "WedApartModel" "weds" "[I" ∈ em_tb := em_tm4 41 rfl rfl
theorem ew763 : Cond.laysFinal "WedApartModel" "WedApartModel" "best" "[I" ∈ em_tb := em_tm4 43 rfl rfl
theorem ew765 : Cond.laysFinal "WedApartModel" "WedApartModel" "row" "[I" ∈ em_tb := em_tm4 45 rfl rfl
theorem ew767 : Cond.laysFinal "WedApartModel" "WedApartModel" "firstRow" "[I" ∈ em_tb := em_tm4 47 rfl rfl
theorem ew770 : Cond.methodLink "WedApartLaw" 17 ⟨"WedApartModel", "person", "(II)I"⟩ ∈ em_tb := em_tm4 50 rfl rfl
theorem ew771 : Cond.instanceMethod ⟨"WedApartModel", "person", "(II)I"⟩ ∈ em_tb := em_tm4 51 rfl rfl
theorem ew772 : Cond.selects "WedApartModel" ⟨"WedApartModel", "person", "(II)I"⟩ ⟨"WedApartModel", "person", "(II)I"⟩ ∈ em_tb := em_tm4 52 rfl rfl
theorem ew773 : Cond.code ⟨"WedApartModel", "person", "(II)I"⟩ prog_12_method_13_code 4 (Option.some ClassFile.FieldType.int) ∈ em_tb := em_tm4 53 rfl rfl
theorem ew774 : Cond.constantLong "WedApartModel" 79 (5 : Int64) ∈ em_tb := em_tm4 54 rfl rfl
theorem ew775 : Cond.methodLink "WedApartModel" 69 ⟨"WedApartModel", "in", "(JJJ)Z"⟩ ∈ em_tb := em_tm4 55 rfl rfl
theorem ew776 : Cond.static ⟨"WedApartModel", "in", "(JJJ)Z"⟩ ∈ em_tb := em_tm4 56 rfl rfl
theorem ew777 : Cond.code ⟨"WedApartModel", "in", "(JJJ)Z"⟩ prog_12_method_2_code 6 (Option.some ClassFile.FieldType.boolean) ∈ em_tb := em_tm4 57 rfl rfl
theorem ew778 : Cond.methodLink "WedApartModel" 81 ⟨"WedApartModel", "isSet", "(I)Z"⟩ ∈ em_tb := em_tm4 58 rfl rfl
theorem ew779 : Cond.static ⟨"WedApartModel", "isSet", "(I)Z"⟩ ∈ em_tb := em_tm4 59 rfl rfl
theorem ew780 : Cond.code ⟨"WedApartModel", "isSet", "(I)Z"⟩ prog_12_method_11_code 1 (Option.some ClassFile.FieldType.boolean) ∈ em_tb := em_tm4 60 rfl rfl
theorem ew781 : Cond.constantLong "WedApartModel" 77 (1023 : Int64) ∈ em_tb := em_tm4 61 rfl rfl
theorem ew782 : Cond.methodLink "WedApartModel" 84 ⟨"WedApartModel", "bad", "()I"⟩ ∈ em_tb := em_tm4 62 rfl rfl
theorem ew784 : Cond.instanceMethod ⟨"WedApartModel", "bad", "()I"⟩ ∈ em_tb := em_tm4 64 rfl rfl
theorem ew785 : Cond.code ⟨"WedApartModel", "bad", "()I"⟩ prog_12_method_6_code 1 (Option.some ClassFile.FieldType.int) ∈ em_tb := em_tm4 65 rfl rfl
theorem ew786 : Cond.methodLink "WedApartModel" 65 ⟨"WedApartModel", "refuses", "(II)I"⟩ ∈ em_tb := em_tm4 66 rfl rfl
theorem ew788 : Cond.instanceMethod ⟨"WedApartModel", "refuses", "(II)I"⟩ ∈ em_tb := em_tm4 68 rfl rfl
theorem ew789 : Cond.code ⟨"WedApartModel", "refuses", "(II)I"⟩ prog_12_method_5_code 3 (Option.some ClassFile.FieldType.int) ∈ em_tb := em_tm4 69 rfl rfl
theorem ew790 : Cond.methodLink "WedApartModel" 88 ⟨"WedApartModel", "full", "()I"⟩ ∈ em_tb := em_tm4 70 rfl rfl
theorem ew792 : Cond.instanceMethod ⟨"WedApartModel", "full", "()I"⟩ ∈ em_tb := em_tm4 72 rfl rfl
theorem ew793 : Cond.code ⟨"WedApartModel", "full", "()I"⟩ prog_12_method_8_code 1 (Option.some ClassFile.FieldType.int) ∈ em_tb := em_tm4 73 rfl rfl
theorem ew794 : Cond.methodLink "WedApartLaw" 21 ⟨"WedApartModel", "thinks", "(II)I"⟩ ∈ em_tb := em_tm4 74 rfl rfl
theorem ew795 : Cond.instanceMethod ⟨"WedApartModel", "thinks", "(II)I"⟩ ∈ em_tb := em_tm4 75 rfl rfl
theorem ew796 : Cond.selects "WedApartModel" ⟨"WedApartModel", "thinks", "(II)I"⟩ ⟨"WedApartModel", "thinks", "(II)I"⟩ ∈ em_tb := em_tm4 76 rfl rfl
theorem ew797 : Cond.code ⟨"WedApartModel", "thinks", "(II)I"⟩ prog_12_method_14_code 3 (Option.some ClassFile.FieldType.int) ∈ em_tb := em_tm4 77 rfl rfl
theorem ew798 : Cond.methodLink "WedApartModel" 73 ⟨"WedApartModel", "isPerson", "(I)Z"⟩ ∈ em_tb := em_tm4 78 rfl rfl
theorem ew800 : Cond.instanceMethod ⟨"WedApartModel", "isPerson", "(I)Z"⟩ ∈ em_tb := em_tm4 80 rfl rfl
theorem ew801 : Cond.code ⟨"WedApartModel", "isPerson", "(I)Z"⟩ prog_12_method_9_code 2 (Option.some ClassFile.FieldType.boolean) ∈ em_tb := em_tm4 81 rfl rfl
theorem ew802 : Cond.methodLink "WedApartModel" 91 ⟨"WedApartModel", "puts", "(II)I"⟩ ∈ em_tb := em_tm4 82 rfl rfl
theorem ew804 : Cond.instanceMethod ⟨"WedApartModel", "puts", "(II)I"⟩ ∈ em_tb := em_tm4 84 rfl rfl
theorem ew805 : Cond.code ⟨"WedApartModel", "puts", "(II)I"⟩ prog_12_method_12_code 4 (Option.some ClassFile.FieldType.int) ∈ em_tb := em_tm4 85 rfl rfl
theorem ew806 : Cond.methodLink "WedApartLaw" 25 ⟨"WedApartModel", "become", "(II)I"⟩ ∈ em_tb := em_tm4 86 rfl rfl
theorem ew807 : Cond.instanceMethod ⟨"WedApartModel", "become", "(II)I"⟩ ∈ em_tb := em_tm4 87 rfl rfl
theorem ew808 : Cond.selects "WedApartModel" ⟨"WedApartModel", "become", "(II)I"⟩ ⟨"WedApartModel", "become", "(II)I"⟩ ∈ em_tb := em_tm4 88 rfl rfl
theorem ew809 : Cond.code ⟨"WedApartModel", "become", "(II)I"⟩ prog_12_method_15_code 3 (Option.some ClassFile.FieldType.int) ∈ em_tb := em_tm4 89 rfl rfl
theorem ew810 : Cond.methodLink "WedApartLaw" 30 ⟨"WedApartModel", "weighty", "(I)I"⟩ ∈ em_tb := em_tm4 90 rfl rfl
theorem ew811 : Cond.instanceMethod ⟨"WedApartModel", "weighty", "(I)I"⟩ ∈ em_tb := em_tm4 91 rfl rfl
theorem ew812 : Cond.selects "WedApartModel" ⟨"WedApartModel", "weighty", "(I)I"⟩ ⟨"WedApartModel", "weighty", "(I)I"⟩ ∈ em_tb := em_tm4 92 rfl rfl
theorem ew813 : Cond.code ⟨"WedApartModel", "weighty", "(I)I"⟩ prog_12_method_16_code 2 (Option.some ClassFile.FieldType.int) ∈ em_tb := em_tm4 93 rfl rfl
theorem ew814 : Cond.methodLink "WedApartLaw" 34 ⟨"WedApartModel", "licence", "(II)I"⟩ ∈ em_tb := em_tm4 94 rfl rfl
theorem ew815 : Cond.instanceMethod ⟨"WedApartModel", "licence", "(II)I"⟩ ∈ em_tb := em_tm4 95 rfl rfl
theorem ew816 : Cond.selects "WedApartModel" ⟨"WedApartModel", "licence", "(II)I"⟩ ⟨"WedApartModel", "licence", "(II)I"⟩ ∈ em_tb := em_tm4 96 rfl rfl
theorem ew817 : Cond.code ⟨"WedApartModel", "licence", "(II)I"⟩ prog_12_method_17_code 4 (Option.some ClassFile.FieldType.int) ∈ em_tb := em_tm4 97 rfl rfl
theorem ew818 : Cond.constantLong "WedApartModel" 94 (20 : Int64) ∈ em_tb := em_tm4 98 rfl rfl
theorem ew819 : Cond.methodLink "WedApartLaw" 38 ⟨"WedApartModel", "talk", "(II)I"⟩ ∈ em_tb := em_tm4 99 rfl rfl
theorem ew820 : Cond.instanceMethod ⟨"WedApartModel", "talk", "(II)I"⟩ ∈ em_tb := em_tm4 100 rfl rfl
theorem ew821 : Cond.selects "WedApartModel" ⟨"WedApartModel", "talk", "(II)I"⟩ ⟨"WedApartModel", "talk", "(II)I"⟩ ∈ em_tb := em_tm4 101 rfl rfl
theorem ew822 : Cond.code ⟨"WedApartModel", "talk", "(II)I"⟩ prog_12_method_18_code 3 (Option.some ClassFile.FieldType.int) ∈ em_tb := em_tm4 102 rfl rfl
theorem ew823 : Cond.methodLink "WedApartModel" 96 ⟨"WedApartModel", "areTwo", "(II)Z"⟩ ∈ em_tb := em_tm4 103 rfl rfl
theorem ew825 : Cond.instanceMethod ⟨"WedApartModel", "areTwo", "(II)Z"⟩ ∈ em_tb := em_tm4 105 rfl rfl
theorem ew826 : Cond.code ⟨"WedApartModel", "areTwo", "(II)Z"⟩ prog_12_method_10_code 3 (Option.some ClassFile.FieldType.boolean) ∈ em_tb := em_tm4 106 rfl rfl
theorem ew827 : Cond.methodLink "WedApartLaw" 43 ⟨"WedApartModel", "clean", "()I"⟩ ∈ em_tb := em_tm4 107 rfl rfl
theorem ew828 : Cond.instanceMethod ⟨"WedApartModel", "clean", "()I"⟩ ∈ em_tb := em_tm4 108 rfl rfl
theorem ew829 : Cond.selects "WedApartModel" ⟨"WedApartModel", "clean", "()I"⟩ ⟨"WedApartModel", "clean", "()I"⟩ ∈ em_tb := em_tm4 109 rfl rfl
theorem ew830 : Cond.code ⟨"WedApartModel", "clean", "()I"⟩ prog_12_method_19_code 1 (Option.some ClassFile.FieldType.int) ∈ em_tb := em_tm4 110 rfl rfl
theorem ew831 : Cond.methodLink "WedApartLaw" 47 ⟨"WedApartModel", "type", "(I)I"⟩ ∈ em_tb := em_tm4 111 rfl rfl
theorem ew832 : Cond.instanceMethod ⟨"WedApartModel", "type", "(I)I"⟩ ∈ em_tb := em_tm4 112 rfl rfl
theorem ew833 : Cond.selects "WedApartModel" ⟨"WedApartModel", "type", "(I)I"⟩ ⟨"WedApartModel", "type", "(I)I"⟩ ∈ em_tb := em_tm4 113 rfl rfl
theorem ew834 : Cond.code ⟨"WedApartModel", "type", "(I)I"⟩ prog_12_method_20_code 2 (Option.some ClassFile.FieldType.int) ∈ em_tb := em_tm4 114 rfl rfl
theorem ew835 : Cond.constantLong "WedApartModel" 100 (127 : Int64) ∈ em_tb := em_tm4 115 rfl rfl
theorem ew836 : Cond.methodLink "WedApartLaw" 51 ⟨"WedApartModel", "clear", "()I"⟩ ∈ em_tb := em_tm4 116 rfl rfl
theorem ew837 : Cond.instanceMethod ⟨"WedApartModel", "clear", "()I"⟩ ∈ em_tb := em_tm4 117 rfl rfl
theorem ew838 : Cond.selects "WedApartModel" ⟨"WedApartModel", "clear", "()I"⟩ ⟨"WedApartModel", "clear", "()I"⟩ ∈ em_tb := em_tm4 118 rfl rfl
theorem ew839 : Cond.code ⟨"WedApartModel", "clear", "()I"⟩ prog_12_method_21_code 2 (Option.some ClassFile.FieldType.int) ∈ em_tb := em_tm4 119 rfl rfl
theorem ew840 : Cond.methodLink "WedApartLaw" 55 ⟨"WedApartModel", "read", "()I"⟩ ∈ em_tb := em_tm4 120 rfl rfl
theorem ew841 : Cond.instanceMethod ⟨"WedApartModel", "read", "()I"⟩ ∈ em_tb := em_tm4 121 rfl rfl
theorem ew842 : Cond.selects "WedApartModel" ⟨"WedApartModel", "read", "()I"⟩ ⟨"WedApartModel", "read", "()I"⟩ ∈ em_tb := em_tm4 122 rfl rfl
theorem ew843 : Cond.code ⟨"WedApartModel", "read", "()I"⟩ prog_12_method_29_code 3 (Option.some ClassFile.FieldType.int) ∈ em_tb := em_tm4 123 rfl rfl
theorem ew844 : Cond.methodLink "WedApartModel" 169 ⟨"WedApartModel", "reads", "()Z"⟩ ∈ em_tb := em_tm4 124 rfl rfl
theorem ew846 : Cond.instanceMethod ⟨"WedApartModel", "reads", "()Z"⟩ ∈ em_tb := em_tm4 126 rfl rfl
theorem ew847 : Cond.code ⟨"WedApartModel", "reads", "()Z"⟩ prog_12_method_27_code 4 (Option.some ClassFile.FieldType.boolean) ∈ em_tb := em_tm4 127 rfl rfl
theorem ew848 : Cond.methodLink "WedApartModel" 140 ⟨"WedApartModel", "scans", "()V"⟩ ∈ em_tb := em_tm4 128 rfl rfl
theorem ew850 : Cond.instanceMethod ⟨"WedApartModel", "scans", "()V"⟩ ∈ em_tb := em_tm4 130 rfl rfl
theorem ew851 : Cond.code ⟨"WedApartModel", "scans", "()V"⟩ prog_12_method_23_code 1 (Option.none : Option ClassFile.FieldType) ∈ em_tb := em_tm4 131 rfl rfl
theorem ew852 : Cond.methodLink "WedApartModel" 109 ⟨"WedApartModel", "isAt", "(II)Z"⟩ ∈ em_tb := em_tm4 132 rfl rfl
theorem ew854 : Cond.instanceMethod ⟨"WedApartModel", "isAt", "(II)Z"⟩ ∈ em_tb := em_tm4 134 rfl rfl
theorem ew855 : Cond.code ⟨"WedApartModel", "isAt", "(II)Z"⟩ prog_12_method_22_code 3 (Option.some ClassFile.FieldType.boolean) ∈ em_tb := em_tm4 135 rfl rfl
theorem ew856 : Cond.constantLong "WedApartModel" 121 (-1 : Int64) ∈ em_tb := em_tm4 136 rfl rfl
theorem ew857 : Cond.constantLong "WedApartModel" 123 (32 : Int64) ∈ em_tb := em_tm4 137 rfl rfl
theorem ew858 : Cond.constantLong "WedApartModel" 125 (97 : Int64) ∈ em_tb := em_tm4 138 rfl rfl
theorem ew859 : Cond.methodLink "WedApartModel" 146 ⟨"WedApartModel", "verbOf", "(J)I"⟩ ∈ em_tb := em_tm4 139 rfl rfl
theorem ew860 : Cond.static ⟨"WedApartModel", "verbOf", "(J)I"⟩ ∈ em_tb := em_tm4 140 rfl rfl
theorem ew861 : Cond.code ⟨"WedApartModel", "verbOf", "(J)I"⟩ prog_12_method_24_code 2 (Option.some ClassFile.FieldType.int) ∈ em_tb := em_tm4 141 rfl rfl
theorem ew862 : Cond.constantLong "WedApartModel" 130 (542723566 : Int64) ∈ em_tb := em_tm4 142 rfl rfl
theorem ew863 : Cond.constantLong "WedApartModel" 132 (24873509529 : Int64) ∈ em_tb := em_tm4 143 rfl rfl
theorem ew864 : Cond.constantLong "WedApartModel" 134 (13190215781 : Int64) ∈ em_tb := em_tm4 144 rfl rfl
theorem ew865 : Cond.constantLong "WedApartModel" 136 (656779 : Int64) ∈ em_tb := em_tm4 145 rfl rfl
theorem ew866 : Cond.methodLink "WedApartModel" 150 ⟨"WedApartModel", "takesLetters", "(I)Z"⟩ ∈ em_tb := em_tm4 146 rfl rfl
theorem ew868 : Cond.instanceMethod ⟨"WedApartModel", "takesLetters", "(I)Z"⟩ ∈ em_tb := em_tm4 148 rfl rfl
theorem ew869 : Cond.code ⟨"WedApartModel", "takesLetters", "(I)Z"⟩ prog_12_method_25_code 6 (Option.some ClassFile.FieldType.boolean) ∈ em_tb := em_tm4 149 rfl rfl
theorem ew870 : Cond.constantLong "WedApartModel" 138 (9 : Int64) ∈ em_tb := em_tm4 150 rfl rfl
theorem ew871 : Cond.methodLink "WedApartModel" 153 ⟨"WedApartModel", "takesNumber", "(I)Z"⟩ ∈ em_tb := em_tm4 151 rfl rfl
theorem ew873 : Cond.instanceMethod ⟨"WedApartModel", "takesNumber", "(I)Z"⟩ ∈ em_tb := em_tm4 153 rfl rfl
theorem ew874 : Cond.code ⟨"WedApartModel", "takesNumber", "(I)Z"⟩ prog_12_method_26_code 2 (Option.some ClassFile.FieldType.boolean) ∈ em_tb := em_tm4 154 rfl rfl
theorem ew875 : Cond.methodLink "WedApartModel" 173 ⟨"WedApartModel", "tellsItem", "(I)Z"⟩ ∈ em_tb := em_tm4 155 rfl rfl
theorem ew877 : Cond.instanceMethod ⟨"WedApartModel", "tellsItem", "(I)Z"⟩ ∈ em_tb := em_tm4 157 rfl rfl
theorem ew878 : Cond.code ⟨"WedApartModel", "tellsItem", "(I)Z"⟩ prog_12_method_28_code 6 (Option.some ClassFile.FieldType.boolean) ∈ em_tb := em_tm4 158 rfl rfl
theorem ew879 : Cond.methodLink "WedApartModel" 156 ⟨"WedApartModel", "person", "(II)I"⟩ ∈ em_tb := em_tm4 159 rfl rfl
theorem ew880 : Cond.methodLink "WedApartModel" 159 ⟨"WedApartModel", "weighty", "(I)I"⟩ ∈ em_tb := em_tm4 160 rfl rfl
theorem ew881 : Cond.methodLink "WedApartModel" 163 ⟨"WedApartModel", "licence", "(II)I"⟩ ∈ em_tb := em_tm4 161 rfl rfl
theorem ew882 : Cond.methodLink "WedApartModel" 166 ⟨"WedApartModel", "talk", "(II)I"⟩ ∈ em_tb := em_tm4 162 rfl rfl
theorem ew883 : Cond.methodLink "WedApartLaw" 59 ⟨"WedApartModel", "opinions", "(I)I"⟩ ∈ em_tb := em_tm4 163 rfl rfl
theorem ew884 : Cond.instanceMethod ⟨"WedApartModel", "opinions", "(I)I"⟩ ∈ em_tb := em_tm4 164 rfl rfl
theorem ew885 : Cond.selects "WedApartModel" ⟨"WedApartModel", "opinions", "(I)I"⟩ ⟨"WedApartModel", "opinions", "(I)I"⟩ ∈ em_tb := em_tm4 165 rfl rfl
theorem ew886 : Cond.code ⟨"WedApartModel", "opinions", "(I)I"⟩ prog_12_method_34_code 2 (Option.some ClassFile.FieldType.int) ∈ em_tb := em_tm4 166 rfl rfl
theorem ew887 : Cond.methodLink "WedApartLaw" 63 ⟨"WedApartModel", "differ", "(II)I"⟩ ∈ em_tb := em_tm4 167 rfl rfl
theorem ew888 : Cond.instanceMethod ⟨"WedApartModel", "differ", "(II)I"⟩ ∈ em_tb := em_tm4 168 rfl rfl
theorem ew889 : Cond.selects "WedApartModel" ⟨"WedApartModel", "differ", "(II)I"⟩ ⟨"WedApartModel", "differ", "(II)I"⟩ ∈ em_tb := em_tm4 169 rfl rfl
theorem ew890 : Cond.code ⟨"WedApartModel", "differ", "(II)I"⟩ prog_12_method_35_code 3 (Option.some ClassFile.FieldType.int) ∈ em_tb := em_tm4 170 rfl rfl
theorem ew891 : Cond.methodLink "WedApartLaw" 67 ⟨"WedApartModel", "apart", "(II)I"⟩ ∈ em_tb := em_tm4 171 rfl rfl
theorem ew892 : Cond.instanceMethod ⟨"WedApartModel", "apart", "(II)I"⟩ ∈ em_tb := em_tm4 172 rfl rfl
theorem ew893 : Cond.selects "WedApartModel" ⟨"WedApartModel", "apart", "(II)I"⟩ ⟨"WedApartModel", "apart", "(II)I"⟩ ∈ em_tb := em_tm4 173 rfl rfl
theorem ew894 : Cond.code ⟨"WedApartModel", "apart", "(II)I"⟩ prog_12_method_36_code 3 (Option.some ClassFile.FieldType.int) ∈ em_tb := em_tm4 174 rfl rfl
theorem ew895 : Cond.methodLink "WedApartModel" 179 ⟨"WedApartModel", "counted", "(I)I"⟩ ∈ em_tb := em_tm4 175 rfl rfl
theorem ew897 : Cond.instanceMethod ⟨"WedApartModel", "counted", "(I)I"⟩ ∈ em_tb := em_tm4 177 rfl rfl
theorem ew898 : Cond.code ⟨"WedApartModel", "counted", "(I)I"⟩ prog_12_method_32_code 2 (Option.some ClassFile.FieldType.int) ∈ em_tb := em_tm4 178 rfl rfl
theorem ew899 : Cond.methodLink "WedApartModel" 176 ⟨"WedApartModel", "bits", "(I)I"⟩ ∈ em_tb := em_tm4 179 rfl rfl
theorem ew900 : Cond.static ⟨"WedApartModel", "bits", "(I)I"⟩ ∈ em_tb := em_tm4 180 rfl rfl
theorem ew901 : Cond.code ⟨"WedApartModel", "bits", "(I)I"⟩ prog_12_method_31_code 3 (Option.some ClassFile.FieldType.int) ∈ em_tb := em_tm4 181 rfl rfl
theorem ew902 : Cond.methodLink "WedApartLaw" 71 ⟨"WedApartModel", "lawful", "(I)I"⟩ ∈ em_tb := em_tm4 182 rfl rfl
theorem ew903 : Cond.instanceMethod ⟨"WedApartModel", "lawful", "(I)I"⟩ ∈ em_tb := em_tm4 183 rfl rfl
theorem ew904 : Cond.selects "WedApartModel" ⟨"WedApartModel", "lawful", "(I)I"⟩ ⟨"WedApartModel", "lawful", "(I)I"⟩ ∈ em_tb := em_tm4 184 rfl rfl
theorem ew905 : Cond.code ⟨"WedApartModel", "lawful", "(I)I"⟩ prog_12_method_37_code 4 (Option.some ClassFile.FieldType.int) ∈ em_tb := em_tm4 185 rfl rfl
theorem ew906 : Cond.methodLink "WedApartModel" 182 ⟨"WedApartModel", "asNow", "()V"⟩ ∈ em_tb := em_tm4 186 rfl rfl
theorem ew908 : Cond.instanceMethod ⟨"WedApartModel", "asNow", "()V"⟩ ∈ em_tb := em_tm4 188 rfl rfl
theorem ew909 : Cond.code ⟨"WedApartModel", "asNow", "()V"⟩ prog_12_method_30_code 2 (Option.none : Option ClassFile.FieldType) ∈ em_tb := em_tm4 189 rfl rfl
theorem ew910 : Cond.methodLink "WedApartModel" 185 ⟨"WedApartModel", "isLawful", "(II)Z"⟩ ∈ em_tb := em_tm4 190 rfl rfl
theorem ew912 : Cond.instanceMethod ⟨"WedApartModel", "isLawful", "(II)Z"⟩ ∈ em_tb := em_tm4 192 rfl rfl
theorem ew913 : Cond.code ⟨"WedApartModel", "isLawful", "(II)Z"⟩ prog_12_method_33_code 3 (Option.some ClassFile.FieldType.boolean) ∈ em_tb := em_tm4 193 rfl rfl
theorem ew914 : Cond.methodLink "WedApartLaw" 75 ⟨"WedApartModel", "three", "(I)I"⟩ ∈ em_tb := em_tm4 194 rfl rfl
theorem ew915 : Cond.instanceMethod ⟨"WedApartModel", "three", "(I)I"⟩ ∈ em_tb := em_tm4 195 rfl rfl
theorem ew916 : Cond.selects "WedApartModel" ⟨"WedApartModel", "three", "(I)I"⟩ ⟨"WedApartModel", "three", "(I)I"⟩ ∈ em_tb := em_tm4 196 rfl rfl
theorem ew917 : Cond.code ⟨"WedApartModel", "three", "(I)I"⟩ prog_12_method_38_code 8 (Option.some ClassFile.FieldType.int) ∈ em_tb := em_tm4 197 rfl rfl
theorem ew918 : Cond.methodLink "WedApartLaw" 79 ⟨"WedApartModel", "evening", "()I"⟩ ∈ em_tb := em_tm4 198 rfl rfl
theorem ew919 : Cond.instanceMethod ⟨"WedApartModel", "evening", "()I"⟩ ∈ em_tb := em_tm4 199 rfl rfl
theorem ew920 : Cond.selects "WedApartModel" ⟨"WedApartModel", "evening", "()I"⟩ ⟨"WedApartModel", "evening", "()I"⟩ ∈ em_tb := em_tm4 200 rfl rfl
theorem ew921 : Cond.code ⟨"WedApartModel", "evening", "()I"⟩ prog_12_method_44_code 1 (Option.some ClassFile.FieldType.int) ∈ em_tb := em_tm4 201 rfl rfl
theorem ew922 : Cond.methodLink "WedApartModel" 196 ⟨"WedApartModel", "remembers", "()V"⟩ ∈ em_tb := em_tm4 202 rfl rfl
theorem ew924 : Cond.instanceMethod ⟨"WedApartModel", "remembers", "()V"⟩ ∈ em_tb := em_tm4 204 rfl rfl
theorem ew925 : Cond.code ⟨"WedApartModel", "remembers", "()V"⟩ prog_12_method_42_code 3 (Option.none : Option ClassFile.FieldType) ∈ em_tb := em_tm4 205 rfl rfl
theorem ew926 : Cond.methodLink "WedApartModel" 199 ⟨"WedApartModel", "goes", "(I)V"⟩ ∈ em_tb := em_tm4 206 rfl rfl
theorem ew928 : Cond.instanceMethod ⟨"WedApartModel", "goes", "(I)V"⟩ ∈ em_tb := em_tm4 208 rfl rfl
theorem ew929 : Cond.code ⟨"WedApartModel", "goes", "(I)V"⟩ prog_12_method_41_code 3 (Option.none : Option ClassFile.FieldType) ∈ em_tb := em_tm4 209 rfl rfl
theorem ew930 : Cond.methodLink "WedApartModel" 192 ⟨"WedApartModel", "talks", "(II)V"⟩ ∈ em_tb := em_tm4 210 rfl rfl
theorem ew932 : Cond.instanceMethod ⟨"WedApartModel", "talks", "(II)V"⟩ ∈ em_tb := em_tm4 212 rfl rfl
theorem ew933 : Cond.code ⟨"WedApartModel", "talks", "(II)V"⟩ prog_12_method_40_code 9 (Option.none : Option ClassFile.FieldType) ∈ em_tb := em_tm4 213 rfl rfl
theorem ew934 : Cond.methodLink "WedApartModel" 188 ⟨"WedApartModel", "swayedBy", "(IIIII)I"⟩ ∈ em_tb := em_tm4 214 rfl rfl
theorem ew936 : Cond.instanceMethod ⟨"WedApartModel", "swayedBy", "(IIIII)I"⟩ ∈ em_tb := em_tm4 216 rfl rfl
theorem ew937 : Cond.code ⟨"WedApartModel", "swayedBy", "(IIIII)I"⟩ prog_12_method_39_code 14 (Option.some ClassFile.FieldType.int) ∈ em_tb := em_tm4 217 rfl rfl
theorem ew938 : Cond.methodLink "WedApartModel" 203 ⟨"WedApartModel", "keepsAll", "()I"⟩ ∈ em_tb := em_tm4 218 rfl rfl
theorem ew940 : Cond.instanceMethod ⟨"WedApartModel", "keepsAll", "()I"⟩ ∈ em_tb := em_tm4 220 rfl rfl
theorem ew941 : Cond.code ⟨"WedApartModel", "keepsAll", "()I"⟩ prog_12_method_43_code 3 (Option.some ClassFile.FieldType.int) ∈ em_tb := em_tm4 221 rfl rfl
theorem ew942 : Cond.methodLink "WedApartLaw" 83 ⟨"WedApartModel", "meet", "(II)I"⟩ ∈ em_tb := em_tm4 222 rfl rfl
theorem ew943 : Cond.instanceMethod ⟨"WedApartModel", "meet", "(II)I"⟩ ∈ em_tb := em_tm4 223 rfl rfl
theorem ew944 : Cond.selects "WedApartModel" ⟨"WedApartModel", "meet", "(II)I"⟩ ⟨"WedApartModel", "meet", "(II)I"⟩ ∈ em_tb := em_tm4 224 rfl rfl
theorem ew945 : Cond.code ⟨"WedApartModel", "meet", "(II)I"⟩ prog_12_method_45_code 3 (Option.some ClassFile.FieldType.int) ∈ em_tb := em_tm4 225 rfl rfl
theorem ew946 : Cond.methodLink "WedApartLaw" 87 ⟨"WedApartModel", "undo", "()I"⟩ ∈ em_tb := em_tm4 226 rfl rfl
theorem ew947 : Cond.instanceMethod ⟨"WedApartModel", "undo", "()I"⟩ ∈ em_tb := em_tm4 227 rfl rfl
theorem ew948 : Cond.selects "WedApartModel" ⟨"WedApartModel", "undo", "()I"⟩ ⟨"WedApartModel", "undo", "()I"⟩ ∈ em_tb := em_tm4 228 rfl rfl
theorem ew949 : Cond.code ⟨"WedApartModel", "undo", "()I"⟩ prog_12_method_46_code 3 (Option.some ClassFile.FieldType.int) ∈ em_tb := em_tm4 229 rfl rfl
theorem ew950 : Cond.methodLink "WedApartModel" 206 ⟨"WedApartModel", "no", "()I"⟩ ∈ em_tb := em_tm4 230 rfl rfl
theorem ew952 : Cond.instanceMethod ⟨"WedApartModel", "no", "()I"⟩ ∈ em_tb := em_tm4 232 rfl rfl
theorem ew953 : Cond.code ⟨"WedApartModel", "no", "()I"⟩ prog_12_method_7_code 1 (Option.some ClassFile.FieldType.int) ∈ em_tb := em_tm4 233 rfl rfl
theorem ew954 : Cond.methodLink "WedApartLaw" 91 ⟨"WedApartModel", "behind", "(II)I"⟩ ∈ em_tb := em_tm4 234 rfl rfl
theorem ew955 : Cond.instanceMethod ⟨"WedApartModel", "behind", "(II)I"⟩ ∈ em_tb := em_tm4 235 rfl rfl
theorem ew956 : Cond.selects "WedApartModel" ⟨"WedApartModel", "behind", "(II)I"⟩ ⟨"WedApartModel", "behind", "(II)I"⟩ ∈ em_tb := em_tm4 236 rfl rfl
theorem ew957 : Cond.code ⟨"WedApartModel", "behind", "(II)I"⟩ prog_12_method_48_code 3 (Option.some ClassFile.FieldType.int) ∈ em_tb := em_tm4 237 rfl rfl
theorem ew958 : Cond.constantLong "WedApartModel" 209 (200 : Int64) ∈ em_tb := em_tm4 238 rfl rfl
theorem ew959 : Cond.methodLink "WedApartModel" 211 ⟨"WedApartModel", "lastsBy", "(I)V"⟩ ∈ em_tb := em_tm4 239 rfl rfl
theorem ew961 : Cond.instanceMethod ⟨"WedApartModel", "lastsBy", "(I)V"⟩ ∈ em_tb := em_tm5 1 rfl rfl
theorem ew962 : Cond.code ⟨"WedApartModel", "lastsBy", "(I)V"⟩ prog_12_method_47_code 3 (Option.none : Option ClassFile.FieldType) ∈ em_tb := em_tm5 2 rfl rfl
theorem ew963 : Cond.methodLink "WedApartLaw" 95 ⟨"WedApartModel", "lasts", "(II)I"⟩ ∈ em_tb := em_tm5 3 rfl rfl
theorem ew964 : Cond.instanceMethod ⟨"WedApartModel", "lasts", "(II)I"⟩ ∈ em_tb := em_tm5 4 rfl rfl
theorem ew965 : Cond.selects "WedApartModel" ⟨"WedApartModel", "lasts", "(II)I"⟩ ⟨"WedApartModel", "lasts", "(II)I"⟩ ∈ em_tb := em_tm5 5 rfl rfl
theorem ew966 : Cond.code ⟨"WedApartModel", "lasts", "(II)I"⟩ prog_12_method_49_code 4 (Option.some ClassFile.FieldType.int) ∈ em_tb := em_tm5 6 rfl rfl
theorem ew967 : Cond.methodLink "WedApartLaw" 99 ⟨"WedApartModel", "again", "(I)I"⟩ ∈ em_tb := em_tm5 7 rfl rfl
theorem ew968 : Cond.instanceMethod ⟨"WedApartModel", "again", "(I)I"⟩ ∈ em_tb := em_tm5 8 rfl rfl
theorem ew969 : Cond.selects "WedApartModel" ⟨"WedApartModel", "again", "(I)I"⟩ ⟨"WedApartModel", "again", "(I)I"⟩ ∈ em_tb := em_tm5 9 rfl rfl
theorem ew970 : Cond.code ⟨"WedApartModel", "again", "(I)I"⟩ prog_12_method_50_code 5 (Option.some ClassFile.FieldType.int) ∈ em_tb := em_tm5 10 rfl rfl
theorem ew971 : Cond.constantLong "WedApartModel" 214 (1024 : Int64) ∈ em_tb := em_tm5 11 rfl rfl
theorem ew972 : Cond.methodLink "WedApartLaw" 103 ⟨"WedApartModel", "mind", "()I"⟩ ∈ em_tb := em_tm5 12 rfl rfl
theorem ew973 : Cond.instanceMethod ⟨"WedApartModel", "mind", "()I"⟩ ∈ em_tb := em_tm5 13 rfl rfl
theorem ew974 : Cond.selects "WedApartModel" ⟨"WedApartModel", "mind", "()I"⟩ ⟨"WedApartModel", "mind", "()I"⟩ ∈ em_tb := em_tm5 14 rfl rfl
theorem ew975 : Cond.code ⟨"WedApartModel", "mind", "()I"⟩ prog_12_method_52_code 2 (Option.some ClassFile.FieldType.int) ∈ em_tb := em_tm5 15 rfl rfl
theorem ew976 : Cond.methodLink "WedApartModel" 216 ⟨"WedApartModel", "isOne", "()Z"⟩ ∈ em_tb := em_tm5 16 rfl rfl
theorem ew978 : Cond.instanceMethod ⟨"WedApartModel", "isOne", "()Z"⟩ ∈ em_tb := em_tm5 18 rfl rfl
theorem ew979 : Cond.code ⟨"WedApartModel", "isOne", "()Z"⟩ prog_12_method_51_code 3 (Option.some ClassFile.FieldType.boolean) ∈ em_tb := em_tm5 19 rfl rfl
theorem ew980 : Cond.methodLink "WedApartLaw" 107 ⟨"WedApartModel", "stops", "()I"⟩ ∈ em_tb := em_tm5 20 rfl rfl
theorem ew981 : Cond.instanceMethod ⟨"WedApartModel", "stops", "()I"⟩ ∈ em_tb := em_tm5 21 rfl rfl
theorem ew982 : Cond.selects "WedApartModel" ⟨"WedApartModel", "stops", "()I"⟩ ⟨"WedApartModel", "stops", "()I"⟩ ∈ em_tb := em_tm5 22 rfl rfl
theorem ew983 : Cond.code ⟨"WedApartModel", "stops", "()I"⟩ prog_12_method_53_code 4 (Option.some ClassFile.FieldType.int) ∈ em_tb := em_tm5 23 rfl rfl
theorem ew984 : Cond.methodLink "WedApartModel" 219 ⟨"WedApartModel", "mind", "()I"⟩ ∈ em_tb := em_tm5 24 rfl rfl
theorem ew985 : Cond.methodLink "WedApartLaw" 111 ⟨"WedApartModel", "wed", "(II)I"⟩ ∈ em_tb := em_tm5 25 rfl rfl
theorem ew986 : Cond.instanceMethod ⟨"WedApartModel", "wed", "(II)I"⟩ ∈ em_tb := em_tm5 26 rfl rfl
theorem ew987 : Cond.selects "WedApartModel" ⟨"WedApartModel", "wed", "(II)I"⟩ ⟨"WedApartModel", "wed", "(II)I"⟩ ∈ em_tb := em_tm5 27 rfl rfl
theorem ew988 : Cond.code ⟨"WedApartModel", "wed", "(II)I"⟩ prog_12_method_55_code 11 (Option.some ClassFile.FieldType.int) ∈ em_tb := em_tm5 28 rfl rfl
theorem ew989 : Cond.constantLong "WedApartModel" 222 (40 : Int64) ∈ em_tb := em_tm5 29 rfl rfl
theorem ew990 : Cond.methodLink "WedApartModel" 224 ⟨"WedApartModel", "allows", "(I)V"⟩ ∈ em_tb := em_tm5 30 rfl rfl
theorem ew992 : Cond.instanceMethod ⟨"WedApartModel", "allows", "(I)V"⟩ ∈ em_tb := em_tm5 32 rfl rfl
theorem ew993 : Cond.code ⟨"WedApartModel", "allows", "(I)V"⟩ prog_12_method_54_code 5 (Option.none : Option ClassFile.FieldType) ∈ em_tb := em_tm5 33 rfl rfl
theorem ew994 : Cond.methodLink "WedApartLaw" 116 ⟨"WedApartModel", "dinners", "(IIII)I"⟩ ∈ em_tb := em_tm5 34 rfl rfl
theorem ew995 : Cond.instanceMethod ⟨"WedApartModel", "dinners", "(IIII)I"⟩ ∈ em_tb := em_tm5 35 rfl rfl
theorem ew996 : Cond.selects "WedApartModel" ⟨"WedApartModel", "dinners", "(IIII)I"⟩ ⟨"WedApartModel", "dinners", "(IIII)I"⟩ ∈ em_tb := em_tm5 36 rfl rfl
theorem ew997 : Cond.code ⟨"WedApartModel", "dinners", "(IIII)I"⟩ prog_12_method_57_code 10 (Option.some ClassFile.FieldType.int) ∈ em_tb := em_tm5 37 rfl rfl
theorem ew998 : Cond.constantLong "WedApartModel" 227 (4 : Int64) ∈ em_tb := em_tm5 38 rfl rfl
theorem ew999 : Cond.methodLink "WedApartModel" 229 ⟨"WedApartModel", "dines", "(III)Z"⟩ ∈ em_tb := em_tm5 39 rfl rfl
theorem ew1001 : Cond.instanceMethod ⟨"WedApartModel", "dines", "(III)Z"⟩ ∈ em_tb := em_tm5 41 rfl rfl
theorem ew1002 : Cond.code ⟨"WedApartModel", "dines", "(III)Z"⟩ prog_12_method_56_code 9 (Option.some ClassFile.FieldType.boolean) ∈ em_tb := em_tm5 42 rfl rfl
theorem ew1003 : Cond.methodLink "WedApartLaw" 120 ⟨"WedApartModel", "feigned", "(II)I"⟩ ∈ em_tb := em_tm5 43 rfl rfl
theorem ew1004 : Cond.instanceMethod ⟨"WedApartModel", "feigned", "(II)I"⟩ ∈ em_tb := em_tm5 44 rfl rfl
theorem ew1005 : Cond.selects "WedApartModel" ⟨"WedApartModel", "feigned", "(II)I"⟩ ⟨"WedApartModel", "feigned", "(II)I"⟩ ∈ em_tb := em_tm5 45 rfl rfl
theorem ew1006 : Cond.code ⟨"WedApartModel", "feigned", "(II)I"⟩ prog_12_method_58_code 7 (Option.some ClassFile.FieldType.int) ∈ em_tb := em_tm5 46 rfl rfl
theorem ew1007 : Cond.methodLink "WedApartLaw" 124 ⟨"WedApartModel", "seen", "(II)I"⟩ ∈ em_tb := em_tm5 47 rfl rfl
theorem ew1008 : Cond.instanceMethod ⟨"WedApartModel", "seen", "(II)I"⟩ ∈ em_tb := em_tm5 48 rfl rfl
theorem ew1009 : Cond.selects "WedApartModel" ⟨"WedApartModel", "seen", "(II)I"⟩ ⟨"WedApartModel", "seen", "(II)I"⟩ ∈ em_tb := em_tm5 49 rfl rfl
theorem ew1010 : Cond.code ⟨"WedApartModel", "seen", "(II)I"⟩ prog_12_method_59_code 3 (Option.some ClassFile.FieldType.int) ∈ em_tb := em_tm5 50 rfl rfl
theorem ew1011 : Cond.methodLink "WedApartLaw" 128 ⟨"WedApartModel", "swayed", "(I)I"⟩ ∈ em_tb := em_tm5 51 rfl rfl
theorem ew1012 : Cond.instanceMethod ⟨"WedApartModel", "swayed", "(I)I"⟩ ∈ em_tb := em_tm5 52 rfl rfl
theorem ew1013 : Cond.selects "WedApartModel" ⟨"WedApartModel", "swayed", "(I)I"⟩ ⟨"WedApartModel", "swayed", "(I)I"⟩ ∈ em_tb := em_tm5 53 rfl rfl
theorem ew1014 : Cond.code ⟨"WedApartModel", "swayed", "(I)I"⟩ prog_12_method_60_code 8 (Option.some ClassFile.FieldType.int) ∈ em_tb := em_tm5 54 rfl rfl
theorem ew1015 : Cond.methodLink "WedApartLaw" 132 ⟨"WedApartModel", "seats", "(I)I"⟩ ∈ em_tb := em_tm5 55 rfl rfl
theorem ew1016 : Cond.instanceMethod ⟨"WedApartModel", "seats", "(I)I"⟩ ∈ em_tb := em_tm5 56 rfl rfl
theorem ew1017 : Cond.selects "WedApartModel" ⟨"WedApartModel", "seats", "(I)I"⟩ ⟨"WedApartModel", "seats", "(I)I"⟩ ∈ em_tb := em_tm5 57 rfl rfl
theorem ew1018 : Cond.code ⟨"WedApartModel", "seats", "(I)I"⟩ prog_12_method_62_code 10 (Option.some ClassFile.FieldType.int) ∈ em_tb := em_tm5 58 rfl rfl
theorem ew1019 : Cond.methodLink "WedApartModel" 233 ⟨"WedApartModel", "lawfulPairs", "()I"⟩ ∈ em_tb := em_tm5 59 rfl rfl
theorem ew1021 : Cond.instanceMethod ⟨"WedApartModel", "lawfulPairs", "()I"⟩ ∈ em_tb := em_tm5 61 rfl rfl
theorem ew1022 : Cond.code ⟨"WedApartModel", "lawfulPairs", "()I"⟩ prog_12_method_61_code 4 (Option.some ClassFile.FieldType.int) ∈ em_tb := em_tm5 62 rfl rfl
theorem ew1023 : Cond.methodLink "WedApartLaw" 137 ⟨"WedApartModel", "couple", "(IZ)I"⟩ ∈ em_tb := em_tm5 63 rfl rfl
theorem ew1024 : Cond.instanceMethod ⟨"WedApartModel", "couple", "(IZ)I"⟩ ∈ em_tb := em_tm5 64 rfl rfl
theorem ew1025 : Cond.selects "WedApartModel" ⟨"WedApartModel", "couple", "(IZ)I"⟩ ⟨"WedApartModel", "couple", "(IZ)I"⟩ ∈ em_tb := em_tm5 65 rfl rfl
theorem ew1026 : Cond.code ⟨"WedApartModel", "couple", "(IZ)I"⟩ prog_12_method_63_code 3 (Option.some ClassFile.FieldType.int) ∈ em_tb := em_tm5 66 rfl rfl
theorem ew1027 : Cond.methodLink "WedApartLaw" 141 ⟨"WedApartModel", "burn", "()I"⟩ ∈ em_tb := em_tm5 67 rfl rfl
theorem ew1028 : Cond.instanceMethod ⟨"WedApartModel", "burn", "()I"⟩ ∈ em_tb := em_tm5 68 rfl rfl
theorem ew1029 : Cond.selects "WedApartModel" ⟨"WedApartModel", "burn", "()I"⟩ ⟨"WedApartModel", "burn", "()I"⟩ ∈ em_tb := em_tm5 69 rfl rfl
theorem ew1030 : Cond.code ⟨"WedApartModel", "burn", "()I"⟩ prog_12_method_64_code 1 (Option.some ClassFile.FieldType.int) ∈ em_tb := em_tm5 70 rfl rfl
theorem ew1031 : Cond.methodLink "WedApartLaw" 145 ⟨"WedApartModel", "law", "(I)I"⟩ ∈ em_tb := em_tm5 71 rfl rfl
theorem ew1032 : Cond.instanceMethod ⟨"WedApartModel", "law", "(I)I"⟩ ∈ em_tb := em_tm5 72 rfl rfl
theorem ew1033 : Cond.selects "WedApartModel" ⟨"WedApartModel", "law", "(I)I"⟩ ⟨"WedApartModel", "law", "(I)I"⟩ ∈ em_tb := em_tm5 73 rfl rfl
theorem ew1034 : Cond.code ⟨"WedApartModel", "law", "(I)I"⟩ prog_12_method_65_code 10 (Option.some ClassFile.FieldType.int) ∈ em_tb := em_tm5 74 rfl rfl
theorem ew1035 : Cond.methodLink "WedApartLaw" 149 ⟨"WedApartModel", "child", "(IIII)I"⟩ ∈ em_tb := em_tm5 75 rfl rfl
theorem ew1036 : Cond.instanceMethod ⟨"WedApartModel", "child", "(IIII)I"⟩ ∈ em_tb := em_tm5 76 rfl rfl
theorem ew1037 : Cond.selects "WedApartModel" ⟨"WedApartModel", "child", "(IIII)I"⟩ ⟨"WedApartModel", "child", "(IIII)I"⟩ ∈ em_tb := em_tm5 77 rfl rfl
theorem ew1038 : Cond.code ⟨"WedApartModel", "child", "(IIII)I"⟩ prog_12_method_67_code 12 (Option.some ClassFile.FieldType.int) ∈ em_tb := em_tm5 78 rfl rfl
theorem ew1039 : Cond.methodLink "WedApartModel" 236 ⟨"WedApartModel", "divisor", "(JJ)J"⟩ ∈ em_tb := em_tm5 79 rfl rfl
theorem ew1040 : Cond.static ⟨"WedApartModel", "divisor", "(JJ)J"⟩ ∈ em_tb := em_tm5 80 rfl rfl
theorem ew1041 : Cond.code ⟨"WedApartModel", "divisor", "(JJ)J"⟩ prog_12_method_66_code 10 (Option.some ClassFile.FieldType.long) ∈ em_tb := em_tm5 81 rfl rfl
theorem ew1042 : Cond.methodLink "WedApartLaw" 154 ⟨"WedApartModel", "born", "(III)I"⟩ ∈ em_tb := em_tm5 82 rfl rfl
theorem ew1043 : Cond.instanceMethod ⟨"WedApartModel", "born", "(III)I"⟩ ∈ em_tb := em_tm5 83 rfl rfl
theorem ew1044 : Cond.selects "WedApartModel" ⟨"WedApartModel", "born", "(III)I"⟩ ⟨"WedApartModel", "born", "(III)I"⟩ ∈ em_tb := em_tm5 84 rfl rfl
theorem ew1045 : Cond.code ⟨"WedApartModel", "born", "(III)I"⟩ prog_12_method_68_code 9 (Option.some ClassFile.FieldType.int) ∈ em_tb := em_tm5 85 rfl rfl
theorem ew1046 : Cond.constantLong "WedApartModel" 243 (999999 : Int64) ∈ em_tb := em_tm5 86 rfl rfl
theorem ew1047 : Cond.constantLong "WedApartModel" 245 (1103515245 : Int64) ∈ em_tb := em_tm5 87 rfl rfl
theorem ew1048 : Cond.constantLong "WedApartModel" 247 (12345 : Int64) ∈ em_tb := em_tm5 88 rfl rfl
theorem ew1049 : Cond.constantLong "WedApartModel" 249 (2147483648 : Int64) ∈ em_tb := em_tm5 89 rfl rfl
theorem ew1050 : Cond.constantLong "WedApartModel" 251 (65536 : Int64) ∈ em_tb := em_tm5 90 rfl rfl
theorem ew1051 : Cond.constantLong "WedApartModel" 253 (2 : Int64) ∈ em_tb := em_tm5 91 rfl rfl
theorem ew1052 : Cond.methodLink "WedApartLaw" 159 ⟨"WedApartModel", "part", "(I)J"⟩ ∈ em_tb := em_tm5 92 rfl rfl
theorem ew1053 : Cond.instanceMethod ⟨"WedApartModel", "part", "(I)J"⟩ ∈ em_tb := em_tm5 93 rfl rfl
theorem ew1054 : Cond.selects "WedApartModel" ⟨"WedApartModel", "part", "(I)J"⟩ ⟨"WedApartModel", "part", "(I)J"⟩ ∈ em_tb := em_tm5 94 rfl rfl
theorem ew1055 : Cond.code ⟨"WedApartModel", "part", "(I)J"⟩ prog_12_method_69_code 2 (Option.some ClassFile.FieldType.long) ∈ em_tb := em_tm5 95 rfl rfl
theorem ew1056 : Cond.methodLink "WedApartLaw" 163 ⟨"WedApartModel", "image", "(I)I"⟩ ∈ em_tb := em_tm5 96 rfl rfl
theorem ew1057 : Cond.instanceMethod ⟨"WedApartModel", "image", "(I)I"⟩ ∈ em_tb := em_tm5 97 rfl rfl
theorem ew1058 : Cond.selects "WedApartModel" ⟨"WedApartModel", "image", "(I)I"⟩ ⟨"WedApartModel", "image", "(I)I"⟩ ∈ em_tb := em_tm5 98 rfl rfl
theorem ew1059 : Cond.code ⟨"WedApartModel", "image", "(I)I"⟩ prog_12_method_70_code 3 (Option.some ClassFile.FieldType.int) ∈ em_tb := em_tm5 99 rfl rfl
theorem ew1060 : Cond.methodLink "WedApartLaw" 167 ⟨"WedApartModel", "from", "(I)I"⟩ ∈ em_tb := em_tm5 100 rfl rfl
theorem ew1061 : Cond.instanceMethod ⟨"WedApartModel", "from", "(I)I"⟩ ∈ em_tb := em_tm5 101 rfl rfl
theorem ew1062 : Cond.selects "WedApartModel" ⟨"WedApartModel", "from", "(I)I"⟩ ⟨"WedApartModel", "from", "(I)I"⟩ ∈ em_tb := em_tm5 102 rfl rfl
theorem ew1063 : Cond.code ⟨"WedApartModel", "from", "(I)I"⟩ prog_12_method_71_code 3 (Option.some ClassFile.FieldType.int) ∈ em_tb := em_tm5 103 rfl rfl
theorem ew1064 : Cond.methodLink "WedApartLaw" 171 ⟨"WedApartModel", "status", "(I)I"⟩ ∈ em_tb := em_tm5 104 rfl rfl
theorem ew1065 : Cond.instanceMethod ⟨"WedApartModel", "status", "(I)I"⟩ ∈ em_tb := em_tm5 105 rfl rfl
theorem ew1066 : Cond.selects "WedApartModel" ⟨"WedApartModel", "status", "(I)I"⟩ ⟨"WedApartModel", "status", "(I)I"⟩ ∈ em_tb := em_tm5 106 rfl rfl
theorem ew1067 : Cond.code ⟨"WedApartModel", "status", "(I)I"⟩ prog_12_method_72_code 2 (Option.some ClassFile.FieldType.int) ∈ em_tb := em_tm5 107 rfl rfl
theorem ew1068 : Cond.methodLink "WedApartLaw" 175 ⟨"WedApartModel", "count", "(I)I"⟩ ∈ em_tb := em_tm5 108 rfl rfl
theorem ew1069 : Cond.instanceMethod ⟨"WedApartModel", "count", "(I)I"⟩ ∈ em_tb := em_tm5 109 rfl rfl
theorem ew1070 : Cond.selects "WedApartModel" ⟨"WedApartModel", "count", "(I)I"⟩ ⟨"WedApartModel", "count", "(I)I"⟩ ∈ em_tb := em_tm5 110 rfl rfl
theorem ew1071 : Cond.code ⟨"WedApartModel", "count", "(I)I"⟩ prog_12_method_74_code 2 (Option.some ClassFile.FieldType.int) ∈ em_tb := em_tm5 111 rfl rfl
theorem ew1072 : Cond.methodLink "WedApartModel" 255 ⟨"WedApartModel", "countOf", "(I)I"⟩ ∈ em_tb := em_tm5 112 rfl rfl
theorem ew1074 : Cond.instanceMethod ⟨"WedApartModel", "countOf", "(I)I"⟩ ∈ em_tb := em_tm5 114 rfl rfl
theorem ew1075 : Cond.code ⟨"WedApartModel", "countOf", "(I)I"⟩ prog_12_method_73_code 2 (Option.some ClassFile.FieldType.int) ∈ em_tb := em_tm5 115 rfl rfl
theorem ew1076 : Cond.methodLink "WedApartLaw" 180 ⟨"WedApartModel", "digest", "()J"⟩ ∈ em_tb := em_tm5 116 rfl rfl
theorem ew1077 : Cond.instanceMethod ⟨"WedApartModel", "digest", "()J"⟩ ∈ em_tb := em_tm5 117 rfl rfl
theorem ew1078 : Cond.selects "WedApartModel" ⟨"WedApartModel", "digest", "()J"⟩ ⟨"WedApartModel", "digest", "()J"⟩ ∈ em_tb := em_tm5 118 rfl rfl
theorem ew1079 : Cond.code ⟨"WedApartModel", "digest", "()J"⟩ prog_12_method_76_code 4 (Option.some ClassFile.FieldType.long) ∈ em_tb := em_tm5 119 rfl rfl
theorem ew1080 : Cond.constantLong "WedApartModel" 260 (839 : Int64) ∈ em_tb := em_tm5 120 rfl rfl
theorem ew1081 : Cond.constantLong "WedApartModel" 258 (31 : Int64) ∈ em_tb := em_tm5 121 rfl rfl
theorem ew1082 : Cond.methodLink "WedApartModel" 262 ⟨"WedApartModel", "mixed", "(JII)J"⟩ ∈ em_tb := em_tm5 122 rfl rfl
theorem ew1084 : Cond.instanceMethod ⟨"WedApartModel", "mixed", "(JII)J"⟩ ∈ em_tb := em_tm5 124 rfl rfl
theorem ew1085 : Cond.code ⟨"WedApartModel", "mixed", "(JII)J"⟩ prog_12_method_75_code 8 (Option.some ClassFile.FieldType.long) ∈ em_tb := em_tm5 125 rfl rfl
theorem ew1086 : Cond.fieldLink "java/lang/String" 9 "java/lang/String" "value" "[B" ∈ em_tb := em_tm5 126 rfl rfl
theorem ew1087 : Cond.fieldLink "java/lang/String" 15 "java/lang/String" "coder" "B" ∈ em_tb := em_tm5 127 rfl rfl
theorem ewp0 : Cond.selects "WedApart" ⟨"WedApart", "counted", "(I)I"⟩ ⟨"WedApart", "counted", "(I)I"⟩ ∈ em_tb := em_tb_mem 0 (by decide +kernel) rfl
theorem ewp1 : Cond.selects "WedApart" ⟨"WedApart", "refuse", "(I)I"⟩ ⟨"WedApart", "refuse", "(I)I"⟩ ∈ em_tb := em_tb_mem 1 (by decide +kernel) rfl
theorem ewp2 : Cond.selects "WedApart$TownText" ⟨"WedApart$TownText", "step", "()V"⟩ ⟨"WedApart$TownText", "step", "()V"⟩ ∈ em_tb := em_tb_mem 2 (by decide +kernel) rfl
theorem ewp3 : Cond.selects "WedApart$TownText" ⟨"WedApart$TownText", "isLetter", "(I)Z"⟩ ⟨"WedApart$TownText", "isLetter", "(I)Z"⟩ ∈ em_tb := em_tb_mem 3 (by decide +kernel) rfl
theorem ewp4 : Cond.selects "WedApart$TownText" ⟨"WedApart$TownText", "at", "(I)I"⟩ ⟨"WedApart$TownText", "at", "(I)I"⟩ ∈ em_tb := em_tb_mem 4 (by decide +kernel) rfl
theorem ewp5 : Cond.selects "WedApart$TownText" ⟨"WedApart$TownText", "isFigure", "(I)Z"⟩ ⟨"WedApart$TownText", "isFigure", "(I)Z"⟩ ∈ em_tb := em_tb_mem 5 (by decide +kernel) rfl
theorem ewp6 : Cond.selects "WedApart$TownText" ⟨"WedApart$TownText", "tellItem", "(LWedApart$Town;)I"⟩ ⟨"WedApart$TownText", "tellItem", "(LWedApart$Town;)I"⟩ ∈ em_tb := em_tb_mem 6 (by decide +kernel) rfl
theorem ewp7 : Cond.selects "WedApart$TownText" ⟨"WedApart$TownText", "isWord", "(Ljava/lang/String;)Z"⟩ ⟨"WedApart$TownText", "isWord", "(Ljava/lang/String;)Z"⟩ ∈ em_tb := em_tb_mem 7 (by decide +kernel) rfl
theorem ewp8 : Cond.selects "WedApart$TownText" ⟨"WedApart$TownText", "takeNumber", "()I"⟩ ⟨"WedApart$TownText", "takeNumber", "()I"⟩ ∈ em_tb := em_tb_mem 8 (by decide +kernel) rfl
theorem ewp9 : Cond.selects "WedApart$TownText" ⟨"WedApart$TownText", "takeMatters", "()I"⟩ ⟨"WedApart$TownText", "takeMatters", "()I"⟩ ∈ em_tb := em_tb_mem 9 (by decide +kernel) rfl
theorem ewp10 : Cond.selects "WedApart$TownText" ⟨"WedApart$TownText", "isSign", "(C)Z"⟩ ⟨"WedApart$TownText", "isSign", "(C)Z"⟩ ∈ em_tb := em_tb_mem 10 (by decide +kernel) rfl
theorem ewp11 : Cond.selects "WedApart" ⟨"WedApart", "howMany", "(I)I"⟩ ⟨"WedApart", "howMany", "(I)I"⟩ ∈ em_tb := em_tb_mem 11 (by decide +kernel) rfl
theorem ewp12 : Cond.selects "WedApartModel" ⟨"WedApartModel", "empties", "()V"⟩ ⟨"WedApartModel", "empties", "()V"⟩ ∈ em_tb := em_tb_mem 12 (by decide +kernel) rfl
theorem ewp13 : Cond.selects "WedApartModel" ⟨"WedApartModel", "bad", "()I"⟩ ⟨"WedApartModel", "bad", "()I"⟩ ∈ em_tb := em_tb_mem 13 (by decide +kernel) rfl
theorem ewp14 : Cond.selects "WedApartModel" ⟨"WedApartModel", "refuses", "(II)I"⟩ ⟨"WedApartModel", "refuses", "(II)I"⟩ ∈ em_tb := em_tb_mem 14 (by decide +kernel) rfl
theorem ewp15 : Cond.selects "WedApartModel" ⟨"WedApartModel", "full", "()I"⟩ ⟨"WedApartModel", "full", "()I"⟩ ∈ em_tb := em_tb_mem 15 (by decide +kernel) rfl
theorem ewp16 : Cond.selects "WedApartModel" ⟨"WedApartModel", "isPerson", "(I)Z"⟩ ⟨"WedApartModel", "isPerson", "(I)Z"⟩ ∈ em_tb := em_tb_mem 16 (by decide +kernel) rfl
theorem ewp17 : Cond.selects "WedApartModel" ⟨"WedApartModel", "puts", "(II)I"⟩ ⟨"WedApartModel", "puts", "(II)I"⟩ ∈ em_tb := em_tb_mem 17 (by decide +kernel) rfl
theorem ewp18 : Cond.selects "WedApartModel" ⟨"WedApartModel", "areTwo", "(II)Z"⟩ ⟨"WedApartModel", "areTwo", "(II)Z"⟩ ∈ em_tb := em_tb_mem 18 (by decide +kernel) rfl
theorem ewp19 : Cond.selects "WedApartModel" ⟨"WedApartModel", "reads", "()Z"⟩ ⟨"WedApartModel", "reads", "()Z"⟩ ∈ em_tb := em_tb_mem 19 (by decide +kernel) rfl
theorem ewp20 : Cond.selects "WedApartModel" ⟨"WedApartModel", "scans", "()V"⟩ ⟨"WedApartModel", "scans", "()V"⟩ ∈ em_tb := em_tb_mem 20 (by decide +kernel) rfl
theorem ewp21 : Cond.selects "WedApartModel" ⟨"WedApartModel", "isAt", "(II)Z"⟩ ⟨"WedApartModel", "isAt", "(II)Z"⟩ ∈ em_tb := em_tb_mem 21 (by decide +kernel) rfl
theorem ewp22 : Cond.selects "WedApartModel" ⟨"WedApartModel", "takesLetters", "(I)Z"⟩ ⟨"WedApartModel", "takesLetters", "(I)Z"⟩ ∈ em_tb := em_tb_mem 22 (by decide +kernel) rfl
theorem ewp23 : Cond.selects "WedApartModel" ⟨"WedApartModel", "takesNumber", "(I)Z"⟩ ⟨"WedApartModel", "takesNumber", "(I)Z"⟩ ∈ em_tb := em_tb_mem 23 (by decide +kernel) rfl
theorem ewp24 : Cond.selects "WedApartModel" ⟨"WedApartModel", "tellsItem", "(I)Z"⟩ ⟨"WedApartModel", "tellsItem", "(I)Z"⟩ ∈ em_tb := em_tb_mem 24 (by decide +kernel) rfl
theorem ewp25 : Cond.selects "WedApartModel" ⟨"WedApartModel", "counted", "(I)I"⟩ ⟨"WedApartModel", "counted", "(I)I"⟩ ∈ em_tb := em_tb_mem 25 (by decide +kernel) rfl
theorem ewp26 : Cond.selects "WedApartModel" ⟨"WedApartModel", "asNow", "()V"⟩ ⟨"WedApartModel", "asNow", "()V"⟩ ∈ em_tb := em_tb_mem 26 (by decide +kernel) rfl
theorem ewp27 : Cond.selects "WedApartModel" ⟨"WedApartModel", "isLawful", "(II)Z"⟩ ⟨"WedApartModel", "isLawful", "(II)Z"⟩ ∈ em_tb := em_tb_mem 27 (by decide +kernel) rfl
theorem ewp28 : Cond.selects "WedApartModel" ⟨"WedApartModel", "remembers", "()V"⟩ ⟨"WedApartModel", "remembers", "()V"⟩ ∈ em_tb := em_tb_mem 28 (by decide +kernel) rfl
theorem ewp29 : Cond.selects "WedApartModel" ⟨"WedApartModel", "goes", "(I)V"⟩ ⟨"WedApartModel", "goes", "(I)V"⟩ ∈ em_tb := em_tb_mem 29 (by decide +kernel) rfl
theorem ewp30 : Cond.selects "WedApartModel" ⟨"WedApartModel", "talks", "(II)V"⟩ ⟨"WedApartModel", "talks", "(II)V"⟩ ∈ em_tb := em_tb_mem 30 (by decide +kernel) rfl
theorem ewp31 : Cond.selects "WedApartModel" ⟨"WedApartModel", "swayedBy", "(IIIII)I"⟩ ⟨"WedApartModel", "swayedBy", "(IIIII)I"⟩ ∈ em_tb := em_tb_mem 31 (by decide +kernel) rfl
theorem ewp32 : Cond.selects "WedApartModel" ⟨"WedApartModel", "keepsAll", "()I"⟩ ⟨"WedApartModel", "keepsAll", "()I"⟩ ∈ em_tb := em_tb_mem 32 (by decide +kernel) rfl
theorem ewp33 : Cond.selects "WedApartModel" ⟨"WedApartModel", "no", "()I"⟩ ⟨"WedApartModel", "no", "()I"⟩ ∈ em_tb := em_tb_mem 33 (by decide +kernel) rfl
theorem ewp34 : Cond.selects "WedApartModel" ⟨"WedApartModel", "lastsBy", "(I)V"⟩ ⟨"WedApartModel", "lastsBy", "(I)V"⟩ ∈ em_tb := em_tb_mem 34 (by decide +kernel) rfl
theorem ewp35 : Cond.selects "WedApartModel" ⟨"WedApartModel", "isOne", "()Z"⟩ ⟨"WedApartModel", "isOne", "()Z"⟩ ∈ em_tb := em_tb_mem 35 (by decide +kernel) rfl
theorem ewp36 : Cond.selects "WedApartModel" ⟨"WedApartModel", "allows", "(I)V"⟩ ⟨"WedApartModel", "allows", "(I)V"⟩ ∈ em_tb := em_tb_mem 36 (by decide +kernel) rfl
theorem ewp37 : Cond.selects "WedApartModel" ⟨"WedApartModel", "dines", "(III)Z"⟩ ⟨"WedApartModel", "dines", "(III)Z"⟩ ∈ em_tb := em_tb_mem 37 (by decide +kernel) rfl
theorem ewp38 : Cond.selects "WedApartModel" ⟨"WedApartModel", "lawfulPairs", "()I"⟩ ⟨"WedApartModel", "lawfulPairs", "()I"⟩ ∈ em_tb := em_tb_mem 38 (by decide +kernel) rfl
theorem ewp39 : Cond.selects "WedApartModel" ⟨"WedApartModel", "countOf", "(I)I"⟩ ⟨"WedApartModel", "countOf", "(I)I"⟩ ∈ em_tb := em_tb_mem 39 (by decide +kernel) rfl
theorem ewp40 : Cond.selects "WedApartModel" ⟨"WedApartModel", "mixed", "(JII)J"⟩ ⟨"WedApartModel", "mixed", "(JII)J"⟩ ∈ em_tb := em_tb_mem 40 (by decide +kernel) rfl
def TX0 : u_T := fun k => match k with
  | _ => ("WedApart$Course", "minds", "[J", true)
def tyX0 : Nat → FieldType := fun k => match k with
  | _ => .array .long
theorem nmX0 : ∀ a, a < 1 → ∀ b, b < 1 → a ≠ b → (TX0 a).2.1 ≠ (TX0 b).2.1 := by decide +kernel
theorem tyX0_ok : ∀ k, k < 1 → parseFieldDescriptor (TX0 k).2.2.1 = some (tyX0 k) := by decide +kernel
def TX2 : u_T := fun k => match k with
  | 0 => ("WedApart$Fraction", "above", "I", false)
  | _ => ("WedApart$Fraction", "below", "I", false)
def tyX2 : Nat → FieldType := fun k => match k with
  | 0 => .int
  | _ => .int
theorem nmX2 : ∀ a, a < 2 → ∀ b, b < 2 → a ≠ b → (TX2 a).2.1 ≠ (TX2 b).2.1 := by decide +kernel
theorem tyX2_ok : ∀ k, k < 2 → parseFieldDescriptor (TX2 k).2.2.1 = some (tyX2 k) := by decide +kernel
def TX7 : u_T := fun k => match k with
  | 0 => ("WedApart$Town", "people", "I", false)
  | 1 => ("WedApart$Town", "kinds", "[I", true)
  | 2 => ("WedApart$Town", "minds", "J", false)
  | 3 => ("WedApart$Town", "seen", "J", false)
  | 4 => ("WedApart$Town", "weights", "I", false)
  | 5 => ("WedApart$Town", "least", "I", false)
  | 6 => ("WedApart$Town", "most", "I", false)
  | 7 => ("WedApart$Town", "pairs", "I", false)
  | 8 => ("WedApart$Town", "firsts", "[I", true)
  | 9 => ("WedApart$Town", "seconds", "[I", true)
  | 10 => ("WedApart$Town", "evening", "I", false)
  | 11 => ("WedApart$Town", "undoable", "I", false)
  | 12 => ("WedApart$Town", "mindsAhead", "[J", true)
  | 13 => ("WedApart$Town", "eveningsAhead", "[I", true)
  | 14 => ("WedApart$Town", "couples", "I", false)
  | 15 => ("WedApart$Town", "couplesApart", "[I", true)
  | _ => ("WedApart$Town", "couplesLet", "[Z", true)
def tyX7 : Nat → FieldType := fun k => match k with
  | 0 => .int
  | 1 => .array .int
  | 2 => .long
  | 3 => .long
  | 4 => .int
  | 5 => .int
  | 6 => .int
  | 7 => .int
  | 8 => .array .int
  | 9 => .array .int
  | 10 => .int
  | 11 => .int
  | 12 => .array .long
  | 13 => .array .int
  | 14 => .int
  | 15 => .array .int
  | _ => .array .boolean
theorem nmX7 : ∀ a, a < 17 → ∀ b, b < 17 → a ≠ b → (TX7 a).2.1 ≠ (TX7 b).2.1 := by decide +kernel
theorem tyX7_ok : ∀ k, k < 17 → parseFieldDescriptor (TX7 k).2.2.1 = some (tyX7 k) := by decide +kernel
def TX8 : u_T := fun k => match k with
  | 0 => ("WedApart$TownText", "bytes", "[B", true)
  | 1 => ("WedApart$TownText", "length", "I", false)
  | 2 => ("WedApart$TownText", "start", "I", false)
  | _ => ("WedApart$TownText", "end", "I", false)
def tyX8 : Nat → FieldType := fun k => match k with
  | 0 => .array .byte
  | 1 => .int
  | 2 => .int
  | _ => .int
theorem nmX8 : ∀ a, a < 4 → ∀ b, b < 4 → a ≠ b → (TX8 a).2.1 ≠ (TX8 b).2.1 := by decide +kernel
theorem tyX8_ok : ∀ k, k < 4 → parseFieldDescriptor (TX8 k).2.2.1 = some (tyX8 k) := by decide +kernel
def TX9 : u_T := fun k => match k with
  | 0 => ("WedApart", "text", "LWedApart$TownText;", true)
  | 1 => ("WedApart", "course", "LWedApart$Course;", true)
  | 2 => ("WedApart", "fraction", "LWedApart$Fraction;", true)
  | 3 => ("WedApart", "refusals", "[I", true)
  | 4 => ("WedApart", "images", "[LWedApart$Town;", true)
  | 5 => ("WedApart", "town", "LWedApart$Town;", false)
  | _ => ("WedApart", "spare", "LWedApart$Town;", false)
def tyX9 : Nat → FieldType := fun k => match k with
  | 0 => .object "WedApart$TownText"
  | 1 => .object "WedApart$Course"
  | 2 => .object "WedApart$Fraction"
  | 3 => .array .int
  | 4 => .array (.object "WedApart$Town")
  | 5 => .object "WedApart$Town"
  | _ => .object "WedApart$Town"
theorem nmX9 : ∀ a, a < 7 → ∀ b, b < 7 → a ≠ b → (TX9 a).2.1 ≠ (TX9 b).2.1 := by decide +kernel
theorem tyX9_ok : ∀ k, k < 7 → parseFieldDescriptor (TX9 k).2.2.1 = some (tyX9 k) := by decide +kernel
def TX10 : u_T := fun k => match k with
  | 0 => ("WedApartModel", "book", "[I", true)
  | 1 => ("WedApartModel", "images", "[I", true)
  | 2 => ("WedApartModel", "kept", "[Z", true)
  | 3 => ("WedApartModel", "aside", "[I", true)
  | 4 => ("WedApartModel", "refused", "[I", true)
  | 5 => ("WedApartModel", "quiet", "Z", false)
  | 6 => ("WedApartModel", "above", "J", false)
  | 7 => ("WedApartModel", "below", "J", false)
  | 8 => ("WedApartModel", "text", "[I", true)
  | 9 => ("WedApartModel", "typed", "I", false)
  | 10 => ("WedApartModel", "at", "I", false)
  | 11 => ("WedApartModel", "start", "I", false)
  | 12 => ("WedApartModel", "token", "I", false)
  | 13 => ("WedApartModel", "value", "I", false)
  | 14 => ("WedApartModel", "word", "J", false)
  | 15 => ("WedApartModel", "items", "[I", true)
  | 16 => ("WedApartModel", "many", "I", false)
  | 17 => ("WedApartModel", "so", "[I", true)
  | 18 => ("WedApartModel", "seenBy", "[J", true)
  | 19 => ("WedApartModel", "may", "[I", true)
  | 20 => ("WedApartModel", "weds", "[I", true)
  | 21 => ("WedApartModel", "best", "[I", true)
  | 22 => ("WedApartModel", "row", "[I", true)
  | _ => ("WedApartModel", "firstRow", "[I", true)
def tyX10 : Nat → FieldType := fun k => match k with
  | 0 => .array .int
  | 1 => .array .int
  | 2 => .array .boolean
  | 3 => .array .int
  | 4 => .array .int
  | 5 => .boolean
  | 6 => .long
  | 7 => .long
  | 8 => .array .int
  | 9 => .int
  | 10 => .int
  | 11 => .int
  | 12 => .int
  | 13 => .int
  | 14 => .long
  | 15 => .array .int
  | 16 => .int
  | 17 => .array .int
  | 18 => .array .long
  | 19 => .array .int
  | 20 => .array .int
  | 21 => .array .int
  | 22 => .array .int
  | _ => .array .int
theorem nmX10 : ∀ a, a < 24 → ∀ b, b < 24 → a ≠ b → (TX10 a).2.1 ≠ (TX10 b).2.1 := by decide +kernel
theorem tyX10_ok : ∀ k, k < 24 → parseFieldDescriptor (TX10 k).2.2.1 = some (tyX10 k) := by decide +kernel
abbrev em_cl : List vw_C := [("WedApart$Course", TX0, 1), ("WedApart$Fraction", TX2, 2), ("WedApart$Town", TX7, 17), ("WedApart$TownText", TX8, 4), ("WedApart", TX9, 7), ("WedApartModel", TX10, 24)]
theorem em_cl_X0 : em_Cl em_cl 0 "WedApart$Course" TX0 1 := ⟨rfl, by decide +kernel, ⟨tyX0, tyX0_ok⟩, nmX0⟩
theorem em_cl_X2 : em_Cl em_cl 1 "WedApart$Fraction" TX2 2 := ⟨rfl, by decide +kernel, ⟨tyX2, tyX2_ok⟩, nmX2⟩
theorem em_cl_X7 : em_Cl em_cl 2 "WedApart$Town" TX7 17 := ⟨rfl, by decide +kernel, ⟨tyX7, tyX7_ok⟩, nmX7⟩
theorem em_cl_X8 : em_Cl em_cl 3 "WedApart$TownText" TX8 4 := ⟨rfl, by decide +kernel, ⟨tyX8, tyX8_ok⟩, nmX8⟩
theorem em_cl_X9 : em_Cl em_cl 4 "WedApart" TX9 7 := ⟨rfl, by decide +kernel, ⟨tyX9, tyX9_ok⟩, nmX9⟩
theorem em_cl_X10 : em_Cl em_cl 5 "WedApartModel" TX10 24 := ⟨rfl, by decide +kernel, ⟨tyX10, tyX10_ok⟩, nmX10⟩
/-- the links to nest mates' private members -/
def em_nests : List (String × Nat × MethodName × String) := [("WedApart", 9, ⟨"WedApart$TownText", "<init>", "()V"⟩, "WedApart"), ("WedApart", 18, ⟨"WedApart$Course", "<init>", "()V"⟩, "WedApart"), ("WedApart", 25, ⟨"WedApart$Fraction", "<init>", "()V"⟩, "WedApart"), ("WedApart$Town", 85, ⟨"WedApart", "isSet", "(I)Z"⟩, "WedApart"), ("WedApart", 188, ⟨"WedApart$Marriages", "most", "(JII)I"⟩, "WedApart"), ("WedApart", 197, ⟨"WedApart$Dinners", "rows", "(LWedApart$Town;JIII)I"⟩, "WedApart"), ("WedApart", 216, ⟨"WedApart$Table", "most", "(LWedApart$Town;JIII)I"⟩, "WedApart")]
def em_len : List Nat := [6, 1, 7, 7, 4]
def em_byt : List (List Int32) := [[112, 101, 114, 115, 111, 110], [120], [119, 101, 105, 103, 104, 116, 121], [108, 105, 99, 101, 110, 99, 101], [116, 97, 108, 107]]
def em_sts : List (Nat × String) := [(36, "person"), (81, "x"), (55, "weighty"), (61, "licence"), (63, "talk")]
/-- what holds of the machine's own cells and tables, whatever the class does -/
def em_F (σ : Nat → Nat) : em_FT := fun A U H =>
  (∀ q ∈ em_nests, va_Nw (.methodLinkNest q.1 q.2.1 q.2.2.1 q.2.2.2) U) ∧ va_AO "WedApart$Town" U ∧
  (∃ adV : Nat → Nat, vk_S 5 em_len em_byt σ adV A U H) ∧ (∀ (k : Nat) (q : Nat × String), em_sts[k]? = some q → vk_R "WedApart$TownText" q.1 q.2 (σ k) U) ∧
  va_Z "java/lang/String" "COMPACT_STRINGS" "Z" (.int 1) A U H ∧ va_Zq "jdk/internal/util/Preconditions" "SIOOBE_FORMATTER" "Ljava/util/function/BiFunction;" A U H
theorem em_F_ok (σ : Nat → Nat) : em_Fok (em_F σ) := by
  intro A B u U H H1 hW hq hAB hF
  obtain ⟨h1, h2, ⟨adV, h3⟩, h4, h5, h6⟩ := hF
  exact ⟨fun q hm => va_Nw.warmM hW (h1 q hm), va_AO.moved hW.alike h2, ⟨adV, vk_S.narrow (vk_S.kept (vk_S.moved hW.alike h3) hq) hAB⟩, fun k q hk => vk_R.warm hW (h4 k q hk), va_Z.narrow (va_Z.kept (va_Z.moved hW.alike h5) hq) hAB, va_Zq.narrow (va_Zq.kept (va_Zq.moved hW.alike h6) hq) hAB⟩
theorem em_F_nest {σ : Nat → Nat} {A : Nat → Prop} {U : State} {H : Heap} (h : em_F σ A U H) {own : String} {idx : Nat} {y : MethodName} {host : String} (q : Unit) (hm : (own, idx, y, host) ∈ em_nests) : va_Nw (.methodLinkNest own idx y host) U := h.1 _ hm
end
section
/-! ===== Minds ===== -/
def mo (m : Int64) (p : Int32) : Int32 := (m >>> ((10 * p).toInt64 &&& 63)).toInt32 &&& 1023
def mw (m : Int64) (p x : Int32) : Int64 := (m &&& ((Int64.ofInt 1023 <<< ((10 * p).toInt64 &&& 63)) ^^^ (-1))) ||| (x.toInt64 <<< ((10 * p).toInt64 &&& 63))
def sp_X5_of : em_Sp := fun av hp Q => ∃ m p, av = [.long m, .int p] ∧ Q (some (.int (mo m p))) hp
def T_X5_of : List (Nat × em_Op) := [(0, o_lload 0 1), (1, o_iconst 10 3), (3, o_iload 2 4), (4, o_imul 5), (5, o_lshr 6), (6, o_l2i 7), (7, o_iconst 1023 10), (10, o_iand 11), (11, o_iret)]
theorem me_X5_of : em_Me T_X5_of 3 sp_X5_of := by
  intro Q K hK hle av hp hs
  obtain ⟨m, p, rfl, hq⟩ := hs
  exact ⟨Nat.le_of_ble_eq_true rfl, hK 0 99 0 _ _ _ hq⟩
abbrev rm_X5_of : Room := { frames := 0, cells := 0, slots := 0, locals := 0 }
set_option maxRecDepth 100000 in
set_option maxHeartbeats 4000000 in
theorem ct_X5_of (l : Launch) (D : va_G) (dA : Nat → ClassId) (σ : Nat → Nat) : em_CT l D em_cl dA σ (em_F σ) y_X5_of c_X5_of 3 (Option.some ClassFile.FieldType.int) rm_X5_of (sp_X5_of ) := by
  refine em_CT_of (T := T_X5_of ) (em_F_ok σ) (by decide) (fun p e s m args below meth c A ρ Q C hFok hF hret hlk hin => ?_) (me_X5_of )
  unfold T_X5_of
  refine List.forall_mem_cons.mpr ⟨s_lload_n C (by decide +kernel : decode c_X5_of 0 = .ok (.lload_n 0, 1)) rfl rfl rfl, ?_⟩
  refine List.forall_mem_cons.mpr ⟨s_bipush C (by decide +kernel : decode c_X5_of 1 = .ok (.bipush 10, 2)) rfl rfl (by decide), ?_⟩
  refine List.forall_mem_cons.mpr ⟨s_iload_n C (by decide +kernel : decode c_X5_of 3 = .ok (.iload_n 2, 1)) rfl rfl rfl, ?_⟩
  refine List.forall_mem_cons.mpr ⟨s_imul C (by decide +kernel : decode c_X5_of 4 = .ok (.imul, 1)) rfl rfl, ?_⟩
  refine List.forall_mem_cons.mpr ⟨s_lshr C (by decide +kernel : decode c_X5_of 5 = .ok (.lshr, 1)) rfl rfl, ?_⟩
  refine List.forall_mem_cons.mpr ⟨s_l2i C (by decide +kernel : decode c_X5_of 6 = .ok (.l2i, 1)) rfl rfl, ?_⟩
  refine List.forall_mem_cons.mpr ⟨s_sipush C (by decide +kernel : decode c_X5_of 7 = .ok (.sipush 1023, 3)) rfl rfl (by decide), ?_⟩
  refine List.forall_mem_cons.mpr ⟨s_iand C (by decide +kernel : decode c_X5_of 10 = .ok (.iand, 1)) rfl rfl, ?_⟩
  refine List.forall_mem_cons.mpr ⟨s_iret C (by decide +kernel : decode c_X5_of 11 = .ok (.ireturn, 1)) hret hlk ⟨Nat.le_refl 0, Nat.le_refl 0⟩, ?_⟩
  exact fun _ h => absurd h List.not_mem_nil
def sp_X5_with : em_Sp := fun av hp Q => ∃ m p x, av = [.long m, .int p, .int x] ∧ Q (some (.long (mw m p x))) hp
def T_X5_with : List (Nat × em_Op) := [(0, o_iconst 10 2), (2, o_iload 2 3), (3, o_imul 4), (4, o_istore 4 6), (6, o_lload 0 7), (7, o_lconst 1023 10), (10, o_iload 4 12), (12, o_lshl 13), (13, o_lconst (-1) 16), (16, o_lxor 17), (17, o_land 18), (18, o_iload 3 19), (19, o_i2l 20), (20, o_iload 4 22), (22, o_lshl 23), (23, o_lor 24), (24, o_lret)]
theorem me_X5_with : em_Me T_X5_with 5 sp_X5_with := by
  intro Q K hK hle av hp hs
  obtain ⟨m, p, x, rfl, hq⟩ := hs
  exact ⟨Nat.le_of_ble_eq_true rfl, hK 0 99 0 _ _ _ hq⟩
abbrev rm_X5_with : Room := { frames := 0, cells := 0, slots := 0, locals := 0 }
set_option maxRecDepth 100000 in
set_option maxHeartbeats 4000000 in
theorem ct_X5_with (l : Launch) (D : va_G) (dA : Nat → ClassId) (σ : Nat → Nat) : em_CT l D em_cl dA σ (em_F σ) y_X5_with c_X5_with 5 (Option.some ClassFile.FieldType.long) rm_X5_with (sp_X5_with ) := by
  refine em_CT_of (T := T_X5_with ) (em_F_ok σ) (by decide) (fun p e s m args below meth c A ρ Q C hFok hF hret hlk hin => ?_) (me_X5_with )
  unfold T_X5_with
  refine List.forall_mem_cons.mpr ⟨s_bipush C (by decide +kernel : decode c_X5_with 0 = .ok (.bipush 10, 2)) rfl rfl (by decide), ?_⟩
  refine List.forall_mem_cons.mpr ⟨s_iload_n C (by decide +kernel : decode c_X5_with 2 = .ok (.iload_n 2, 1)) rfl rfl rfl, ?_⟩
  refine List.forall_mem_cons.mpr ⟨s_imul C (by decide +kernel : decode c_X5_with 3 = .ok (.imul, 1)) rfl rfl, ?_⟩
  refine List.forall_mem_cons.mpr ⟨s_istore C (by decide +kernel : decode c_X5_with 4 = .ok (.istore 4, 2)) rfl rfl (by decide), ?_⟩
  refine List.forall_mem_cons.mpr ⟨s_lload_n C (by decide +kernel : decode c_X5_with 6 = .ok (.lload_n 0, 1)) rfl rfl rfl, ?_⟩
  refine List.forall_mem_cons.mpr ⟨s_ldc2 C (by decide +kernel : decode c_X5_with 7 = .ok (.ldc2_w 9, 3)) rfl rfl ew191, ?_⟩
  refine List.forall_mem_cons.mpr ⟨s_iload C (by decide +kernel : decode c_X5_with 10 = .ok (.iload 4, 2)) rfl rfl, ?_⟩
  refine List.forall_mem_cons.mpr ⟨s_lshl C (by decide +kernel : decode c_X5_with 12 = .ok (.lshl, 1)) rfl rfl, ?_⟩
  refine List.forall_mem_cons.mpr ⟨s_ldc2 C (by decide +kernel : decode c_X5_with 13 = .ok (.ldc2_w 11, 3)) rfl rfl ew192, ?_⟩
  refine List.forall_mem_cons.mpr ⟨s_lxor C (by decide +kernel : decode c_X5_with 16 = .ok (.lxor, 1)) rfl rfl, ?_⟩
  refine List.forall_mem_cons.mpr ⟨s_land C (by decide +kernel : decode c_X5_with 17 = .ok (.land, 1)) rfl rfl, ?_⟩
  refine List.forall_mem_cons.mpr ⟨s_iload_n C (by decide +kernel : decode c_X5_with 18 = .ok (.iload_n 3, 1)) rfl rfl rfl, ?_⟩
  refine List.forall_mem_cons.mpr ⟨s_i2l C (by decide +kernel : decode c_X5_with 19 = .ok (.i2l, 1)) rfl rfl, ?_⟩
  refine List.forall_mem_cons.mpr ⟨s_iload C (by decide +kernel : decode c_X5_with 20 = .ok (.iload 4, 2)) rfl rfl, ?_⟩
  refine List.forall_mem_cons.mpr ⟨s_lshl C (by decide +kernel : decode c_X5_with 22 = .ok (.lshl, 1)) rfl rfl, ?_⟩
  refine List.forall_mem_cons.mpr ⟨s_lor C (by decide +kernel : decode c_X5_with 23 = .ok (.lor, 1)) rfl rfl, ?_⟩
  refine List.forall_mem_cons.mpr ⟨s_lret C (by decide +kernel : decode c_X5_with 24 = .ok (.lreturn, 1)) hret hlk ⟨Nat.le_refl 0, Nat.le_refl 0⟩, ?_⟩
  exact fun _ h => absurd h List.not_mem_nil
/-- of how many of the first n places two differ -/
def mu (m o : Int64) : Nat → Nat
  | 0 => 0
  | n + 1 => mu m o n + (if mo m (nI n) = mo o (nI n) then 0 else 1)
def sp_X5_unlike : em_Sp := fun av hp Q => ∃ m o, av = [.long m, .long o] ∧ Q (some (.int (nI (mu m o 6)))) hp
def T_X5_unlike : List (Nat × em_Op) := [(0, o_iconst 0 1), (1, o_istore 4 3), (3, o_iconst 0 4), (4, o_istore 5 6), (6, o_iload 5 8), (8, o_iconst 6 10), (10, o_icmpge 37 13), (13, o_lload 0 14), (14, o_iload 5 16), (16, o_call 2 none (sp_X5_of) 19), (19, o_lload 2 20), (20, o_iload 5 22), (22, o_call 2 none (sp_X5_of) 25), (25, o_icmpeq 31 28), (28, o_iinc 4 1 31), (31, o_iinc 5 1 34), (34, o_goto 6), (37, o_iload 4 39), (39, o_iret)]
theorem me_X5_unlike : em_Me T_X5_unlike 6 sp_X5_unlike := by
  intro Q K hK hle av hp hs
  obtain ⟨m, o, rfl, hq⟩ := hs
  refine ⟨Nat.le_of_ble_eq_true rfl, ?_⟩
  have loop : ∀ (n i : Nat), i + n = 6 → K 6 [some (.long m), none, some (.long o), none, some (.int (nI (mu m o i))), some (.int (nI i))] [] hp := by
    intro n
    induction n with
    | zero =>
      intro i hi
      have hi : i = 6 := by omega
      subst hi
      refine hK 4 99 6 _ _ _ ?_
      exact ⟨fun h => hq, fun h => absurd (by decide) h⟩
    | succ n ih =>
      intro i hi
      refine hK 4 99 6 _ _ _ ?_
      refine ⟨fun h => absurd h (by exact nI_ge (b := 6) (by omega) (by omega)), fun h => ?_⟩
      refine ⟨_, _, rfl, _, _, rfl, ?_⟩
      refine ⟨fun h2 => ?_, fun h2 => ?_⟩
      · have := ih (i + 1) (by omega)
        rw [mu, if_pos h2, Nat.add_zero, ← nI_1] at this
        exact this
      · have := ih (i + 1) (by omega)
        rw [mu, if_neg h2, ← nI_1, ← nI_1] at this
        exact this
  exact hK 0 4 0 _ _ _ (loop 6 0 rfl)
abbrev rm_X5_unlike : Room := { frames := 1, cells := 0, slots := 0, locals := 22 }
set_option maxRecDepth 100000 in
set_option maxHeartbeats 4000000 in
theorem ct_X5_unlike (l : Launch) (D : va_G) (dA : Nat → ClassId) (σ : Nat → Nat) : em_CT l D em_cl dA σ (em_F σ) y_X5_unlike c_X5_unlike 6 (Option.some ClassFile.FieldType.int) rm_X5_unlike (sp_X5_unlike ) := by
  refine em_CT_of (T := T_X5_unlike ) (em_F_ok σ) (by decide) (fun p e s m args below meth c A ρ Q C hFok hF hret hlk hin => ?_) (me_X5_unlike )
  unfold T_X5_unlike
  refine List.forall_mem_cons.mpr ⟨s_iconst C (by decide +kernel : decode c_X5_unlike 0 = .ok (.iconst 0, 1)) rfl rfl (by decide), ?_⟩
  refine List.forall_mem_cons.mpr ⟨s_istore C (by decide +kernel : decode c_X5_unlike 1 = .ok (.istore 4, 2)) rfl rfl (by decide), ?_⟩
  refine List.forall_mem_cons.mpr ⟨s_iconst C (by decide +kernel : decode c_X5_unlike 3 = .ok (.iconst 0, 1)) rfl rfl (by decide), ?_⟩
  refine List.forall_mem_cons.mpr ⟨s_istore C (by decide +kernel : decode c_X5_unlike 4 = .ok (.istore 5, 2)) rfl rfl (by decide), ?_⟩
  refine List.forall_mem_cons.mpr ⟨s_iload C (by decide +kernel : decode c_X5_unlike 6 = .ok (.iload 5, 2)) rfl rfl, ?_⟩
  refine List.forall_mem_cons.mpr ⟨s_bipush C (by decide +kernel : decode c_X5_unlike 8 = .ok (.bipush 6, 2)) rfl rfl (by decide), ?_⟩
  refine List.forall_mem_cons.mpr ⟨s_icmpge C (by decide +kernel : decode c_X5_unlike 10 = .ok (.if_icmp .ge 27, 3)) (by decide) rfl rfl rfl, ?_⟩
  refine List.forall_mem_cons.mpr ⟨s_lload_n C (by decide +kernel : decode c_X5_unlike 13 = .ok (.lload_n 0, 1)) rfl rfl rfl, ?_⟩
  refine List.forall_mem_cons.mpr ⟨s_iload C (by decide +kernel : decode c_X5_unlike 14 = .ok (.iload 5, 2)) rfl rfl, ?_⟩
  refine List.forall_mem_cons.mpr ⟨s_callS C hFok hF (ct_X5_of l D dA σ) ⟨rfl, rfl⟩ ew216 ew460 ew215 ew8 ⟨by decide, by decide, by decide +kernel⟩ ⟨by decide, by decide⟩ (by decide +kernel : decode c_X5_unlike 16 = .ok (.invokestatic 13, 3)) rfl rfl ⟨Nat.zero_le _, Nat.zero_le _⟩, ?_⟩
  refine List.forall_mem_cons.mpr ⟨s_lload_n C (by decide +kernel : decode c_X5_unlike 19 = .ok (.lload_n 2, 1)) rfl rfl rfl, ?_⟩
  refine List.forall_mem_cons.mpr ⟨s_iload C (by decide +kernel : decode c_X5_unlike 20 = .ok (.iload 5, 2)) rfl rfl, ?_⟩
  refine List.forall_mem_cons.mpr ⟨s_callS C hFok hF (ct_X5_of l D dA σ) ⟨rfl, rfl⟩ ew216 ew460 ew215 ew8 ⟨by decide, by decide, by decide +kernel⟩ ⟨by decide, by decide⟩ (by decide +kernel : decode c_X5_unlike 22 = .ok (.invokestatic 13, 3)) rfl rfl ⟨Nat.zero_le _, Nat.zero_le _⟩, ?_⟩
  refine List.forall_mem_cons.mpr ⟨s_icmpeq C (by decide +kernel : decode c_X5_unlike 25 = .ok (.if_icmp .eq 6, 3)) (by decide) rfl rfl rfl, ?_⟩
  refine List.forall_mem_cons.mpr ⟨s_iinc C (by decide +kernel : decode c_X5_unlike 28 = .ok (.iinc 4 1, 3)) rfl rfl (by decide) (by decide), ?_⟩
  refine List.forall_mem_cons.mpr ⟨s_iinc C (by decide +kernel : decode c_X5_unlike 31 = .ok (.iinc 5 1, 3)) rfl rfl (by decide) (by decide), ?_⟩
  refine List.forall_mem_cons.mpr ⟨s_goto C (by decide +kernel : decode c_X5_unlike 34 = .ok (.goto (-28), 3)) (by decide) rfl, ?_⟩
  refine List.forall_mem_cons.mpr ⟨s_iload C (by decide +kernel : decode c_X5_unlike 37 = .ok (.iload 4, 2)) rfl rfl, ?_⟩
  refine List.forall_mem_cons.mpr ⟨s_iret C (by decide +kernel : decode c_X5_unlike 39 = .ok (.ireturn, 1)) hret hlk ⟨Nat.le_refl 0, Nat.le_refl 0⟩, ?_⟩
  exact fun _ h => absurd h List.not_mem_nil
def sp_X5_alike : em_Sp := fun av hp Q => ∃ m n, av = [.long m, .int (nI n)] ∧ n < 2 ^ 30 ∧ ((∀ j, 1 ≤ j → j < n → mo m (nI j) = mo m 0) → Q (some (.int 1)) hp) ∧ ((∃ j, 1 ≤ j ∧ j < n ∧ mo m (nI j) ≠ mo m 0) → Q (some (.int 0)) hp)
def T_X5_alike : List (Nat × em_Op) := [(0, o_iconst 1 1), (1, o_istore 3 2), (2, o_iload 3 3), (3, o_iload 2 4), (4, o_icmpge 28 7), (7, o_lload 0 8), (8, o_iload 3 9), (9, o_call 2 none (sp_X5_of) 12), (12, o_lload 0 13), (13, o_iconst 0 14), (14, o_call 2 none (sp_X5_of) 17), (17, o_icmpeq 22 20), (20, o_iconst 0 21), (21, o_zret), (22, o_iinc 3 1 25), (25, o_goto 2), (28, o_iconst 1 29), (29, o_zret)]
theorem me_X5_alike : em_Me T_X5_alike 4 sp_X5_alike := by
  intro Q K hK hle av hp hs
  obtain ⟨m, n, rfl, hn, hq1, hq0⟩ := hs
  refine ⟨Nat.le_of_ble_eq_true rfl, ?_⟩
  have loop : ∀ (d i : Nat), 1 ≤ i → i < 2 ^ 30 + 1 → (n ≤ i ∨ i + d = n) → (∀ j, 1 ≤ j → j < i → mo m (nI j) = mo m 0) → K 2 [some (.long m), none, some (.int (nI n)), some (.int (nI i))] [] hp := by
    intro d
    induction d with
    | zero =>
      intro i h1 h30 hi hj
      refine hK 2 99 2 _ _ _ ?_
      refine ⟨fun h => ?_, fun h => absurd (nI_le (by omega) (by omega)) h⟩
      exact ⟨Or.inr rfl, hq1 (fun j a b => hj j a (by omega))⟩
    | succ d ih =>
      intro i h1 h30 hi hj
      refine hK 2 99 2 _ _ _ ?_
      refine ⟨fun h => ?_, fun h => ?_⟩
      · have h := (nI_leI (by omega) (by omega)).mp h
        exact ⟨Or.inr rfl, hq1 (fun j a b => hj j a (by omega))⟩
      · have h : ¬ n ≤ i := fun z => h (nI_le z (by omega))
        refine ⟨_, _, rfl, _, _, rfl, ?_⟩
        refine ⟨fun h2 => ?_, fun h2 => ?_⟩
        · have := ih (i + 1) (by omega) (by omega) (by omega) (fun j a b => by
            rcases (by omega : j < i ∨ j = i) with z | z
            · exact hj j a z
            · rw [z]; exact h2)
          rw [← nI_1] at this
          exact this
        · exact ⟨Or.inl rfl, hq0 ⟨i, h1, by omega, h2⟩⟩
  exact hK 0 2 0 _ _ _ (loop (n - 1) 1 (Nat.le_refl 1) (by omega) (by omega) (fun j a b => by omega))
abbrev rm_X5_alike : Room := { frames := 1, cells := 0, slots := 0, locals := 22 }
set_option maxRecDepth 100000 in
set_option maxHeartbeats 4000000 in
theorem ct_X5_alike (l : Launch) (D : va_G) (dA : Nat → ClassId) (σ : Nat → Nat) : em_CT l D em_cl dA σ (em_F σ) y_X5_alike c_X5_alike 4 (Option.some ClassFile.FieldType.boolean) rm_X5_alike (sp_X5_alike ) := by
  refine em_CT_of (T := T_X5_alike ) (em_F_ok σ) (by decide) (fun p e s m args below meth c A ρ Q C hFok hF hret hlk hin => ?_) (me_X5_alike )
  unfold T_X5_alike
  refine List.forall_mem_cons.mpr ⟨s_iconst C (by decide +kernel : decode c_X5_alike 0 = .ok (.iconst 1, 1)) rfl rfl (by decide), ?_⟩
  refine List.forall_mem_cons.mpr ⟨s_istore_n C (by decide +kernel : decode c_X5_alike 1 = .ok (.istore_n 3, 1)) rfl rfl rfl (by decide), ?_⟩
  refine List.forall_mem_cons.mpr ⟨s_iload_n C (by decide +kernel : decode c_X5_alike 2 = .ok (.iload_n 3, 1)) rfl rfl rfl, ?_⟩
  refine List.forall_mem_cons.mpr ⟨s_iload_n C (by decide +kernel : decode c_X5_alike 3 = .ok (.iload_n 2, 1)) rfl rfl rfl, ?_⟩
  refine List.forall_mem_cons.mpr ⟨s_icmpge C (by decide +kernel : decode c_X5_alike 4 = .ok (.if_icmp .ge 24, 3)) (by decide) rfl rfl rfl, ?_⟩
  refine List.forall_mem_cons.mpr ⟨s_lload_n C (by decide +kernel : decode c_X5_alike 7 = .ok (.lload_n 0, 1)) rfl rfl rfl, ?_⟩
  refine List.forall_mem_cons.mpr ⟨s_iload_n C (by decide +kernel : decode c_X5_alike 8 = .ok (.iload_n 3, 1)) rfl rfl rfl, ?_⟩
  refine List.forall_mem_cons.mpr ⟨s_callS C hFok hF (ct_X5_of l D dA σ) ⟨rfl, rfl⟩ ew216 ew460 ew215 ew8 ⟨by decide, by decide, by decide +kernel⟩ ⟨by decide, by decide⟩ (by decide +kernel : decode c_X5_alike 9 = .ok (.invokestatic 13, 3)) rfl rfl ⟨Nat.zero_le _, Nat.zero_le _⟩, ?_⟩
  refine List.forall_mem_cons.mpr ⟨s_lload_n C (by decide +kernel : decode c_X5_alike 12 = .ok (.lload_n 0, 1)) rfl rfl rfl, ?_⟩
  refine List.forall_mem_cons.mpr ⟨s_iconst C (by decide +kernel : decode c_X5_alike 13 = .ok (.iconst 0, 1)) rfl rfl (by decide), ?_⟩
  refine List.forall_mem_cons.mpr ⟨s_callS C hFok hF (ct_X5_of l D dA σ) ⟨rfl, rfl⟩ ew216 ew460 ew215 ew8 ⟨by decide, by decide, by decide +kernel⟩ ⟨by decide, by decide⟩ (by decide +kernel : decode c_X5_alike 14 = .ok (.invokestatic 13, 3)) rfl rfl ⟨Nat.zero_le _, Nat.zero_le _⟩, ?_⟩
  refine List.forall_mem_cons.mpr ⟨s_icmpeq C (by decide +kernel : decode c_X5_alike 17 = .ok (.if_icmp .eq 5, 3)) (by decide) rfl rfl rfl, ?_⟩
  refine List.forall_mem_cons.mpr ⟨s_iconst C (by decide +kernel : decode c_X5_alike 20 = .ok (.iconst 0, 1)) rfl rfl (by decide), ?_⟩
  refine List.forall_mem_cons.mpr ⟨s_zret C (by decide +kernel : decode c_X5_alike 21 = .ok (.ireturn, 1)) hret hlk ⟨Nat.le_refl 0, Nat.le_refl 0⟩, ?_⟩
  refine List.forall_mem_cons.mpr ⟨s_iinc C (by decide +kernel : decode c_X5_alike 22 = .ok (.iinc 3 1, 3)) rfl rfl (by decide) (by decide), ?_⟩
  refine List.forall_mem_cons.mpr ⟨s_goto C (by decide +kernel : decode c_X5_alike 25 = .ok (.goto (-23), 3)) (by decide) rfl, ?_⟩
  refine List.forall_mem_cons.mpr ⟨s_iconst C (by decide +kernel : decode c_X5_alike 28 = .ok (.iconst 1, 1)) rfl rfl (by decide), ?_⟩
  refine List.forall_mem_cons.mpr ⟨s_zret C (by decide +kernel : decode c_X5_alike 29 = .ok (.ireturn, 1)) hret hlk ⟨Nat.le_refl 0, Nat.le_refl 0⟩, ?_⟩
  exact fun _ h => absurd h List.not_mem_nil
/-! ===== Kinds, isSet, the library's three ===== -/
def sp_bool (c : Prop) (hp : em_H) (Q : em_Q) : Prop := (c → Q (some (.int 1)) hp) ∧ (¬ c → Q (some (.int 0)) hp)
def isk (k : Int32) : Prop := ¬ k < 0 ∧ ¬ 5 < k
def sp_X3_isKind : em_Sp := fun av hp Q => ∃ k, av = [.int k] ∧ (isk k → Q (some (.int 1)) hp) ∧ (¬ isk k → Q (some (.int 0)) hp)
def T_X3_isKind : List (Nat × em_Op) := [(0, o_iload 0 1), (1, o_iflt 13 4), (4, o_iload 0 5), (5, o_iconst 5 6), (6, o_icmpgt 13 9), (9, o_iconst 1 10), (10, o_goto 14), (13, o_iconst 0 14), (14, o_zret)]
theorem me_X3_isKind : em_Me T_X3_isKind 1 sp_X3_isKind := by
  intro Q K hK hle av hp hs
  obtain ⟨k, rfl, h1, h0⟩ := hs
  refine ⟨Nat.le_of_ble_eq_true rfl, hK 0 99 0 _ _ _ ?_⟩
  refine ⟨fun h => ⟨Or.inl rfl, h0 (fun z => z.1 h)⟩, fun h => ⟨fun h2 => ⟨Or.inl rfl, h0 (fun z => z.2 h2)⟩, fun h2 => ⟨Or.inr rfl, h1 ⟨h, h2⟩⟩⟩⟩
abbrev rm_X3_isKind : Room := { frames := 0, cells := 0, slots := 0, locals := 0 }
set_option maxRecDepth 100000 in
set_option maxHeartbeats 4000000 in
theorem ct_X3_isKind (l : Launch) (D : va_G) (dA : Nat → ClassId) (σ : Nat → Nat) : em_CT l D em_cl dA σ (em_F σ) y_X3_isKind c_X3_isKind 1 (Option.some ClassFile.FieldType.boolean) rm_X3_isKind (sp_X3_isKind ) := by
  refine em_CT_of (T := T_X3_isKind ) (em_F_ok σ) (by decide) (fun p e s m args below meth c A ρ Q C hFok hF hret hlk hin => ?_) (me_X3_isKind )
  unfold T_X3_isKind
  refine List.forall_mem_cons.mpr ⟨s_iload_n C (by decide +kernel : decode c_X3_isKind 0 = .ok (.iload_n 0, 1)) rfl rfl rfl, ?_⟩
  refine List.forall_mem_cons.mpr ⟨s_iflt C (by decide +kernel : decode c_X3_isKind 1 = .ok (.ifCond .lt 12, 3)) (by decide) rfl rfl rfl, ?_⟩
  refine List.forall_mem_cons.mpr ⟨s_iload_n C (by decide +kernel : decode c_X3_isKind 4 = .ok (.iload_n 0, 1)) rfl rfl rfl, ?_⟩
  refine List.forall_mem_cons.mpr ⟨s_iconst C (by decide +kernel : decode c_X3_isKind 5 = .ok (.iconst 5, 1)) rfl rfl (by decide), ?_⟩
  refine List.forall_mem_cons.mpr ⟨s_icmpgt C (by decide +kernel : decode c_X3_isKind 6 = .ok (.if_icmp .gt 7, 3)) (by decide) rfl rfl rfl, ?_⟩
  refine List.forall_mem_cons.mpr ⟨s_iconst C (by decide +kernel : decode c_X3_isKind 9 = .ok (.iconst 1, 1)) rfl rfl (by decide), ?_⟩
  refine List.forall_mem_cons.mpr ⟨s_goto C (by decide +kernel : decode c_X3_isKind 10 = .ok (.goto 4, 3)) (by decide) rfl, ?_⟩
  refine List.forall_mem_cons.mpr ⟨s_iconst C (by decide +kernel : decode c_X3_isKind 13 = .ok (.iconst 0, 1)) rfl rfl (by decide), ?_⟩
  refine List.forall_mem_cons.mpr ⟨s_zret C (by decide +kernel : decode c_X3_isKind 14 = .ok (.ireturn, 1)) hret hlk ⟨Nat.le_refl 0, Nat.le_refl 0⟩, ?_⟩
  exact fun _ h => absurd h List.not_mem_nil
def iss (k : Int32) : Prop := ¬ k < 0 ∧ ¬ 1023 < k
def sp_X9_isSet : em_Sp := fun av hp Q => ∃ k, av = [.int k] ∧ (iss k → Q (some (.int 1)) hp) ∧ (¬ iss k → Q (some (.int 0)) hp)
def T_X9_isSet : List (Nat × em_Op) := [(0, o_iload 0 1), (1, o_iflt 15 4), (4, o_iload 0 5), (5, o_iconst 1023 8), (8, o_icmpgt 15 11), (11, o_iconst 1 12), (12, o_goto 16), (15, o_iconst 0 16), (16, o_zret)]
theorem me_X9_isSet : em_Me T_X9_isSet 1 sp_X9_isSet := by
  intro Q K hK hle av hp hs
  obtain ⟨k, rfl, h1, h0⟩ := hs
  refine ⟨Nat.le_of_ble_eq_true rfl, hK 0 99 0 _ _ _ ?_⟩
  refine ⟨fun h => ⟨Or.inl rfl, h0 (fun z => z.1 h)⟩, fun h => ⟨fun h2 => ⟨Or.inl rfl, h0 (fun z => z.2 h2)⟩, fun h2 => ⟨Or.inr rfl, h1 ⟨h, h2⟩⟩⟩⟩
abbrev rm_X9_isSet : Room := { frames := 0, cells := 0, slots := 0, locals := 0 }
set_option maxRecDepth 100000 in
set_option maxHeartbeats 4000000 in
theorem ct_X9_isSet (l : Launch) (D : va_G) (dA : Nat → ClassId) (σ : Nat → Nat) : em_CT l D em_cl dA σ (em_F σ) y_X9_isSet c_X9_isSet 1 (Option.some ClassFile.FieldType.boolean) rm_X9_isSet (sp_X9_isSet ) := by
  refine em_CT_of (T := T_X9_isSet ) (em_F_ok σ) (by decide) (fun p e s m args below meth c A ρ Q C hFok hF hret hlk hin => ?_) (me_X9_isSet )
  unfold T_X9_isSet
  refine List.forall_mem_cons.mpr ⟨s_iload_n C (by decide +kernel : decode c_X9_isSet 0 = .ok (.iload_n 0, 1)) rfl rfl rfl, ?_⟩
  refine List.forall_mem_cons.mpr ⟨s_iflt C (by decide +kernel : decode c_X9_isSet 1 = .ok (.ifCond .lt 14, 3)) (by decide) rfl rfl rfl, ?_⟩
  refine List.forall_mem_cons.mpr ⟨s_iload_n C (by decide +kernel : decode c_X9_isSet 4 = .ok (.iload_n 0, 1)) rfl rfl rfl, ?_⟩
  refine List.forall_mem_cons.mpr ⟨s_sipush C (by decide +kernel : decode c_X9_isSet 5 = .ok (.sipush 1023, 3)) rfl rfl (by decide), ?_⟩
  refine List.forall_mem_cons.mpr ⟨s_icmpgt C (by decide +kernel : decode c_X9_isSet 8 = .ok (.if_icmp .gt 7, 3)) (by decide) rfl rfl rfl, ?_⟩
  refine List.forall_mem_cons.mpr ⟨s_iconst C (by decide +kernel : decode c_X9_isSet 11 = .ok (.iconst 1, 1)) rfl rfl (by decide), ?_⟩
  refine List.forall_mem_cons.mpr ⟨s_goto C (by decide +kernel : decode c_X9_isSet 12 = .ok (.goto 4, 3)) (by decide) rfl, ?_⟩
  refine List.forall_mem_cons.mpr ⟨s_iconst C (by decide +kernel : decode c_X9_isSet 15 = .ok (.iconst 0, 1)) rfl rfl (by decide), ?_⟩
  refine List.forall_mem_cons.mpr ⟨s_zret C (by decide +kernel : decode c_X9_isSet 16 = .ok (.ireturn, 1)) hret hlk ⟨Nat.le_refl 0, Nat.le_refl 0⟩, ?_⟩
  exact fun _ h => absurd h List.not_mem_nil
def tkn (x y m : Int32) : Int32 := (x &&& (m ^^^ (-1))) ||| (y &&& m)
def sp_X3_taken : em_Sp := fun av hp Q => ∃ x y m, av = [.int x, .int y, .int m] ∧ Q (some (.int (tkn x y m))) hp
def T_X3_taken : List (Nat × em_Op) := [(0, o_iload 0 1), (1, o_iload 2 2), (2, o_iconst (-1) 3), (3, o_ixor 4), (4, o_iand 5), (5, o_iload 1 6), (6, o_iload 2 7), (7, o_iand 8), (8, o_ior 9), (9, o_iret)]
theorem me_X3_taken : em_Me T_X3_taken 3 sp_X3_taken := by
  intro Q K hK hle av hp hs
  obtain ⟨x, y, m, rfl, hq⟩ := hs
  exact ⟨Nat.le_of_ble_eq_true rfl, hK 0 99 0 _ _ _ hq⟩
abbrev rm_X3_taken : Room := { frames := 0, cells := 0, slots := 0, locals := 0 }
set_option maxRecDepth 100000 in
set_option maxHeartbeats 4000000 in
theorem ct_X3_taken (l : Launch) (D : va_G) (dA : Nat → ClassId) (σ : Nat → Nat) : em_CT l D em_cl dA σ (em_F σ) y_X3_taken c_X3_taken 3 (Option.some ClassFile.FieldType.int) rm_X3_taken (sp_X3_taken ) := by
  refine em_CT_of (T := T_X3_taken ) (em_F_ok σ) (by decide) (fun p e s m args below meth c A ρ Q C hFok hF hret hlk hin => ?_) (me_X3_taken )
  unfold T_X3_taken
  refine List.forall_mem_cons.mpr ⟨s_iload_n C (by decide +kernel : decode c_X3_taken 0 = .ok (.iload_n 0, 1)) rfl rfl rfl, ?_⟩
  refine List.forall_mem_cons.mpr ⟨s_iload_n C (by decide +kernel : decode c_X3_taken 1 = .ok (.iload_n 2, 1)) rfl rfl rfl, ?_⟩
  refine List.forall_mem_cons.mpr ⟨s_iconst C (by decide +kernel : decode c_X3_taken 2 = .ok (.iconst (-1), 1)) rfl rfl (by decide), ?_⟩
  refine List.forall_mem_cons.mpr ⟨s_ixor C (by decide +kernel : decode c_X3_taken 3 = .ok (.ixor, 1)) rfl rfl, ?_⟩
  refine List.forall_mem_cons.mpr ⟨s_iand C (by decide +kernel : decode c_X3_taken 4 = .ok (.iand, 1)) rfl rfl, ?_⟩
  refine List.forall_mem_cons.mpr ⟨s_iload_n C (by decide +kernel : decode c_X3_taken 5 = .ok (.iload_n 1, 1)) rfl rfl rfl, ?_⟩
  refine List.forall_mem_cons.mpr ⟨s_iload_n C (by decide +kernel : decode c_X3_taken 6 = .ok (.iload_n 2, 1)) rfl rfl rfl, ?_⟩
  refine List.forall_mem_cons.mpr ⟨s_iand C (by decide +kernel : decode c_X3_taken 7 = .ok (.iand, 1)) rfl rfl, ?_⟩
  refine List.forall_mem_cons.mpr ⟨s_ior C (by decide +kernel : decode c_X3_taken 8 = .ok (.ior, 1)) rfl rfl, ?_⟩
  refine List.forall_mem_cons.mpr ⟨s_iret C (by decide +kernel : decode c_X3_taken 9 = .ok (.ireturn, 1)) hret hlk ⟨Nat.le_refl 0, Nat.le_refl 0⟩, ?_⟩
  exact fun _ h => absurd h List.not_mem_nil
def mbh (m : Int32) : Int32 := if m <<< ((1 : Int32) &&& 31) ≤ 1023 then m <<< ((1 : Int32) &&& 31) else 1
def sp_X3_matterBehind : em_Sp := fun av hp Q => ∃ m, av = [.int m] ∧ Q (some (.int (mbh m))) hp
def T_X3_matterBehind : List (Nat × em_Op) := [(0, o_iload 0 1), (1, o_iconst 1 2), (2, o_ishl 3), (3, o_istore 1 4), (4, o_iload 1 5), (5, o_iconst 1023 8), (8, o_icmple 15 11), (11, o_iconst 1 12), (12, o_goto 16), (15, o_iload 1 16), (16, o_iret)]
theorem me_X3_matterBehind : em_Me T_X3_matterBehind 2 sp_X3_matterBehind := by
  intro Q K hK hle av hp hs
  obtain ⟨m, rfl, hq⟩ := hs
  refine ⟨Nat.le_of_ble_eq_true rfl, hK 0 99 0 _ _ _ ?_⟩
  refine ⟨fun h => ?_, fun h => ?_⟩
  · rw [mbh, if_pos h] at hq; exact hq
  · rw [mbh, if_neg h] at hq; exact hq
abbrev rm_X3_matterBehind : Room := { frames := 0, cells := 0, slots := 0, locals := 0 }
set_option maxRecDepth 100000 in
set_option maxHeartbeats 4000000 in
theorem ct_X3_matterBehind (l : Launch) (D : va_G) (dA : Nat → ClassId) (σ : Nat → Nat) : em_CT l D em_cl dA σ (em_F σ) y_X3_matterBehind c_X3_matterBehind 2 (Option.some ClassFile.FieldType.int) rm_X3_matterBehind (sp_X3_matterBehind ) := by
  refine em_CT_of (T := T_X3_matterBehind ) (em_F_ok σ) (by decide) (fun p e s m args below meth c A ρ Q C hFok hF hret hlk hin => ?_) (me_X3_matterBehind )
  unfold T_X3_matterBehind
  refine List.forall_mem_cons.mpr ⟨s_iload_n C (by decide +kernel : decode c_X3_matterBehind 0 = .ok (.iload_n 0, 1)) rfl rfl rfl, ?_⟩
  refine List.forall_mem_cons.mpr ⟨s_iconst C (by decide +kernel : decode c_X3_matterBehind 1 = .ok (.iconst 1, 1)) rfl rfl (by decide), ?_⟩
  refine List.forall_mem_cons.mpr ⟨s_ishl C (by decide +kernel : decode c_X3_matterBehind 2 = .ok (.ishl, 1)) rfl rfl, ?_⟩
  refine List.forall_mem_cons.mpr ⟨s_istore_n C (by decide +kernel : decode c_X3_matterBehind 3 = .ok (.istore_n 1, 1)) rfl rfl rfl (by decide), ?_⟩
  refine List.forall_mem_cons.mpr ⟨s_iload_n C (by decide +kernel : decode c_X3_matterBehind 4 = .ok (.iload_n 1, 1)) rfl rfl rfl, ?_⟩
  refine List.forall_mem_cons.mpr ⟨s_sipush C (by decide +kernel : decode c_X3_matterBehind 5 = .ok (.sipush 1023, 3)) rfl rfl (by decide), ?_⟩
  refine List.forall_mem_cons.mpr ⟨s_icmple C (by decide +kernel : decode c_X3_matterBehind 8 = .ok (.if_icmp .le 7, 3)) (by decide) rfl rfl rfl, ?_⟩
  refine List.forall_mem_cons.mpr ⟨s_iconst C (by decide +kernel : decode c_X3_matterBehind 11 = .ok (.iconst 1, 1)) rfl rfl (by decide), ?_⟩
  refine List.forall_mem_cons.mpr ⟨s_goto C (by decide +kernel : decode c_X3_matterBehind 12 = .ok (.goto 4, 3)) (by decide) rfl, ?_⟩
  refine List.forall_mem_cons.mpr ⟨s_iload_n C (by decide +kernel : decode c_X3_matterBehind 15 = .ok (.iload_n 1, 1)) rfl rfl rfl, ?_⟩
  refine List.forall_mem_cons.mpr ⟨s_iret C (by decide +kernel : decode c_X3_matterBehind 16 = .ok (.ireturn, 1)) hret hlk ⟨Nat.le_refl 0, Nat.le_refl 0⟩, ?_⟩
  exact fun _ h => absurd h List.not_mem_nil
def pln (x y o m : Int32) : Int32 := if o = 0 then x else tkn x y m
def sp_X3_plain : em_Sp := fun av hp Q => ∃ x y o m, av = [.int x, .int y, .int o, .int m] ∧ Q (some (.int (pln x y o m))) hp
def T_X3_plain : List (Nat × em_Op) := [(0, o_iload 2 1), (1, o_ifeq 13 4), (4, o_iload 0 5), (5, o_iload 1 6), (6, o_iload 3 7), (7, o_call 3 none (sp_X3_taken) 10), (10, o_goto 14), (13, o_iload 0 14), (14, o_iret)]
theorem me_X3_plain : em_Me T_X3_plain 4 sp_X3_plain := by
  intro Q K hK hle av hp hs
  obtain ⟨x, y, o, m, rfl, hq⟩ := hs
  refine ⟨Nat.le_of_ble_eq_true rfl, hK 0 99 0 _ _ _ ?_⟩
  refine ⟨fun h => ?_, fun h => ⟨_, _, _, rfl, ?_⟩⟩
  · rw [pln, if_pos h] at hq; exact hq
  · rw [pln, if_neg h] at hq; exact hq
abbrev rm_X3_plain : Room := { frames := 1, cells := 0, slots := 0, locals := 22 }
set_option maxRecDepth 100000 in
set_option maxHeartbeats 4000000 in
theorem ct_X3_plain (l : Launch) (D : va_G) (dA : Nat → ClassId) (σ : Nat → Nat) : em_CT l D em_cl dA σ (em_F σ) y_X3_plain c_X3_plain 4 (Option.some ClassFile.FieldType.int) rm_X3_plain (sp_X3_plain ) := by
  refine em_CT_of (T := T_X3_plain ) (em_F_ok σ) (by decide) (fun p e s m args below meth c A ρ Q C hFok hF hret hlk hin => ?_) (me_X3_plain )
  unfold T_X3_plain
  refine List.forall_mem_cons.mpr ⟨s_iload_n C (by decide +kernel : decode c_X3_plain 0 = .ok (.iload_n 2, 1)) rfl rfl rfl, ?_⟩
  refine List.forall_mem_cons.mpr ⟨s_ifeq C (by decide +kernel : decode c_X3_plain 1 = .ok (.ifCond .eq 12, 3)) (by decide) rfl rfl rfl, ?_⟩
  refine List.forall_mem_cons.mpr ⟨s_iload_n C (by decide +kernel : decode c_X3_plain 4 = .ok (.iload_n 0, 1)) rfl rfl rfl, ?_⟩
  refine List.forall_mem_cons.mpr ⟨s_iload_n C (by decide +kernel : decode c_X3_plain 5 = .ok (.iload_n 1, 1)) rfl rfl rfl, ?_⟩
  refine List.forall_mem_cons.mpr ⟨s_iload_n C (by decide +kernel : decode c_X3_plain 6 = .ok (.iload_n 3, 1)) rfl rfl rfl, ?_⟩
  refine List.forall_mem_cons.mpr ⟨s_callS C hFok hF (ct_X3_taken l D dA σ) ⟨rfl, rfl⟩ ew450 ew448 ew449 ew7 ⟨by decide, by decide, by decide +kernel⟩ ⟨by decide, by decide⟩ (by decide +kernel : decode c_X3_plain 7 = .ok (.invokestatic 19, 3)) rfl rfl ⟨Nat.zero_le _, Nat.zero_le _⟩, ?_⟩
  refine List.forall_mem_cons.mpr ⟨s_goto C (by decide +kernel : decode c_X3_plain 10 = .ok (.goto 4, 3)) (by decide) rfl, ?_⟩
  refine List.forall_mem_cons.mpr ⟨s_iload_n C (by decide +kernel : decode c_X3_plain 13 = .ok (.iload_n 0, 1)) rfl rfl rfl, ?_⟩
  refine List.forall_mem_cons.mpr ⟨s_iret C (by decide +kernel : decode c_X3_plain 14 = .ok (.ireturn, 1)) hret hlk ⟨Nat.le_refl 0, Nat.le_refl 0⟩, ?_⟩
  exact fun _ h => absurd h List.not_mem_nil
def prd (x y o m w : Int32) : Int32 := if w = 0 then pln x y o m else x
def sp_X3_proud : em_Sp := fun av hp Q => ∃ x y o m w, av = [.int x, .int y, .int o, .int m, .int w] ∧ Q (some (.int (prd x y o m w))) hp
def T_X3_proud : List (Nat × em_Op) := [(0, o_iload 4 2), (2, o_ifeq 9 5), (5, o_iload 0 6), (6, o_goto 16), (9, o_iload 0 10), (10, o_iload 1 11), (11, o_iload 2 12), (12, o_iload 3 13), (13, o_call 4 none (sp_X3_plain) 16), (16, o_iret)]
theorem me_X3_proud : em_Me T_X3_proud 5 sp_X3_proud := by
  intro Q K hK hle av hp hs
  obtain ⟨x, y, o, m, w, rfl, hq⟩ := hs
  refine ⟨Nat.le_of_ble_eq_true rfl, hK 0 99 0 _ _ _ ?_⟩
  refine ⟨fun h => ⟨_, _, _, _, rfl, ?_⟩, fun h => ?_⟩
  · rw [prd, if_pos h] at hq; exact hq
  · rw [prd, if_neg h] at hq; exact hq
abbrev rm_X3_proud : Room := { frames := 2, cells := 0, slots := 0, locals := 45 }
set_option maxRecDepth 100000 in
set_option maxHeartbeats 4000000 in
theorem ct_X3_proud (l : Launch) (D : va_G) (dA : Nat → ClassId) (σ : Nat → Nat) : em_CT l D em_cl dA σ (em_F σ) y_X3_proud c_X3_proud 5 (Option.some ClassFile.FieldType.int) rm_X3_proud (sp_X3_proud ) := by
  refine em_CT_of (T := T_X3_proud ) (em_F_ok σ) (by decide) (fun p e s m args below meth c A ρ Q C hFok hF hret hlk hin => ?_) (me_X3_proud )
  unfold T_X3_proud
  refine List.forall_mem_cons.mpr ⟨s_iload C (by decide +kernel : decode c_X3_proud 0 = .ok (.iload 4, 2)) rfl rfl, ?_⟩
  refine List.forall_mem_cons.mpr ⟨s_ifeq C (by decide +kernel : decode c_X3_proud 2 = .ok (.ifCond .eq 7, 3)) (by decide) rfl rfl rfl, ?_⟩
  refine List.forall_mem_cons.mpr ⟨s_iload_n C (by decide +kernel : decode c_X3_proud 5 = .ok (.iload_n 0, 1)) rfl rfl rfl, ?_⟩
  refine List.forall_mem_cons.mpr ⟨s_goto C (by decide +kernel : decode c_X3_proud 6 = .ok (.goto 10, 3)) (by decide) rfl, ?_⟩
  refine List.forall_mem_cons.mpr ⟨s_iload_n C (by decide +kernel : decode c_X3_proud 9 = .ok (.iload_n 0, 1)) rfl rfl rfl, ?_⟩
  refine List.forall_mem_cons.mpr ⟨s_iload_n C (by decide +kernel : decode c_X3_proud 10 = .ok (.iload_n 1, 1)) rfl rfl rfl, ?_⟩
  refine List.forall_mem_cons.mpr ⟨s_iload_n C (by decide +kernel : decode c_X3_proud 11 = .ok (.iload_n 2, 1)) rfl rfl rfl, ?_⟩
  refine List.forall_mem_cons.mpr ⟨s_iload_n C (by decide +kernel : decode c_X3_proud 12 = .ok (.iload_n 3, 1)) rfl rfl rfl, ?_⟩
  refine List.forall_mem_cons.mpr ⟨s_callS C hFok hF (ct_X3_plain l D dA σ) ⟨rfl, rfl⟩ ew447 ew445 ew446 ew7 ⟨by decide, by decide, by decide +kernel⟩ ⟨by decide, by decide⟩ (by decide +kernel : decode c_X3_proud 13 = .ok (.invokestatic 11, 3)) rfl rfl ⟨Nat.zero_le _, Nat.zero_le _⟩, ?_⟩
  refine List.forall_mem_cons.mpr ⟨s_iret C (by decide +kernel : decode c_X3_proud 16 = .ok (.ireturn, 1)) hret hlk ⟨Nat.le_refl 0, Nat.le_refl 0⟩, ?_⟩
  exact fun _ h => absurd h List.not_mem_nil
def hrd (k x y o m w : Int32) : Int32 := if k = 0 then pln x y o m else if k = 1 then prd x y o m w else if k = 2 then tkn x y m else if k = 3 then prd x y o m w ^^^ mbh m else if k = 4 then x else if k = 5 then tkn x y (m ||| mbh m) else x
def sp_X3_heard : em_Sp := fun av hp Q => ∃ k x y o m w, av = [.int k, .int x, .int y, .int o, .int m, .int w] ∧ Q (some (.int (hrd k x y o m w))) hp
def T_X3_heard : List (Nat × em_Op) := [(0, o_iload 0 1), (1, o_sw [(0, 40), (1, 49), (2, 60), (3, 68), (4, 99), (5, 85)] 99), (40, o_iload 1 41), (41, o_iload 2 42), (42, o_iload 3 43), (43, o_iload 4 45), (45, o_call 4 none (sp_X3_plain) 48), (48, o_iret), (49, o_iload 1 50), (50, o_iload 2 51), (51, o_iload 3 52), (52, o_iload 4 54), (54, o_iload 5 56), (56, o_call 5 none (sp_X3_proud) 59), (59, o_iret), (60, o_iload 1 61), (61, o_iload 2 62), (62, o_iload 4 64), (64, o_call 3 none (sp_X3_taken) 67), (67, o_iret), (68, o_iload 1 69), (69, o_iload 2 70), (70, o_iload 3 71), (71, o_iload 4 73), (73, o_iload 5 75), (75, o_call 5 none (sp_X3_proud) 78), (78, o_iload 4 80), (80, o_call 1 none (sp_X3_matterBehind) 83), (83, o_ixor 84), (84, o_iret), (85, o_iload 1 86), (86, o_iload 2 87), (87, o_iload 4 89), (89, o_iload 4 91), (91, o_call 1 none (sp_X3_matterBehind) 94), (94, o_ior 95), (95, o_call 3 none (sp_X3_taken) 98), (98, o_iret), (99, o_iload 1 100), (100, o_iret)]
theorem me_X3_heard : em_Me T_X3_heard 6 sp_X3_heard := by
  intro Q K hK hle av hp hs
  obtain ⟨k, x, y, o, m, w, rfl, hq⟩ := hs
  refine ⟨Nat.le_of_ble_eq_true rfl, hK 0 99 0 _ _ _ ?_⟩
  unfold hrd at hq
  refine ⟨fun h => ?_, fun h0 => ⟨fun h => ?_, fun h1 => ⟨fun h => ?_, fun h2 => ⟨fun h => ?_, fun h3 => ⟨fun h => ?_, fun h4 => ⟨fun h => ?_, fun h5 => ?_⟩⟩⟩⟩⟩⟩
  · rw [if_pos h] at hq; exact ⟨_, _, _, _, rfl, hq⟩
  · rw [if_neg h0, if_pos h] at hq; exact ⟨_, _, _, _, _, rfl, hq⟩
  · rw [if_neg h0, if_neg h1, if_pos h] at hq; exact ⟨_, _, _, rfl, hq⟩
  · rw [if_neg h0, if_neg h1, if_neg h2, if_pos h] at hq; exact ⟨_, _, _, _, _, rfl, _, rfl, hq⟩
  · rw [if_neg h0, if_neg h1, if_neg h2, if_neg h3, if_pos h] at hq; exact hq
  · rw [if_neg h0, if_neg h1, if_neg h2, if_neg h3, if_neg h4, if_pos h] at hq; exact ⟨_, rfl, _, _, _, rfl, hq⟩
  · rw [if_neg h0, if_neg h1, if_neg h2, if_neg h3, if_neg h4, if_neg h5] at hq; exact hq
abbrev rm_X3_heard : Room := { frames := 3, cells := 0, slots := 0, locals := 69 }
set_option maxRecDepth 100000 in
set_option maxHeartbeats 4000000 in
theorem ct_X3_heard (l : Launch) (D : va_G) (dA : Nat → ClassId) (σ : Nat → Nat) : em_CT l D em_cl dA σ (em_F σ) y_X3_heard c_X3_heard 6 (Option.some ClassFile.FieldType.int) rm_X3_heard (sp_X3_heard ) := by
  refine em_CT_of (T := T_X3_heard ) (em_F_ok σ) (by decide) (fun p e s m args below meth c A ρ Q C hFok hF hret hlk hin => ?_) (me_X3_heard )
  unfold T_X3_heard
  refine List.forall_mem_cons.mpr ⟨s_iload_n C (by decide +kernel : decode c_X3_heard 0 = .ok (.iload_n 0, 1)) rfl rfl rfl, ?_⟩
  refine List.forall_mem_cons.mpr ⟨s_sw C (by decide +kernel : decode c_X3_heard 1 = .ok (.tableswitch 98 0 5 #[39, 48, 59, 67, 98, 84], 39)) (by decide) (by decide) (by decide) (fun _ => rfl), ?_⟩
  refine List.forall_mem_cons.mpr ⟨s_iload_n C (by decide +kernel : decode c_X3_heard 40 = .ok (.iload_n 1, 1)) rfl rfl rfl, ?_⟩
  refine List.forall_mem_cons.mpr ⟨s_iload_n C (by decide +kernel : decode c_X3_heard 41 = .ok (.iload_n 2, 1)) rfl rfl rfl, ?_⟩
  refine List.forall_mem_cons.mpr ⟨s_iload_n C (by decide +kernel : decode c_X3_heard 42 = .ok (.iload_n 3, 1)) rfl rfl rfl, ?_⟩
  refine List.forall_mem_cons.mpr ⟨s_iload C (by decide +kernel : decode c_X3_heard 43 = .ok (.iload 4, 2)) rfl rfl, ?_⟩
  refine List.forall_mem_cons.mpr ⟨s_callS C hFok hF (ct_X3_plain l D dA σ) ⟨rfl, rfl⟩ ew447 ew445 ew446 ew7 ⟨by decide, by decide, by decide +kernel⟩ ⟨by decide, by decide⟩ (by decide +kernel : decode c_X3_heard 45 = .ok (.invokestatic 11, 3)) rfl rfl ⟨Nat.zero_le _, Nat.zero_le _⟩, ?_⟩
  refine List.forall_mem_cons.mpr ⟨s_iret C (by decide +kernel : decode c_X3_heard 48 = .ok (.ireturn, 1)) hret hlk ⟨Nat.le_refl 0, Nat.le_refl 0⟩, ?_⟩
  refine List.forall_mem_cons.mpr ⟨s_iload_n C (by decide +kernel : decode c_X3_heard 49 = .ok (.iload_n 1, 1)) rfl rfl rfl, ?_⟩
  refine List.forall_mem_cons.mpr ⟨s_iload_n C (by decide +kernel : decode c_X3_heard 50 = .ok (.iload_n 2, 1)) rfl rfl rfl, ?_⟩
  refine List.forall_mem_cons.mpr ⟨s_iload_n C (by decide +kernel : decode c_X3_heard 51 = .ok (.iload_n 3, 1)) rfl rfl rfl, ?_⟩
  refine List.forall_mem_cons.mpr ⟨s_iload C (by decide +kernel : decode c_X3_heard 52 = .ok (.iload 4, 2)) rfl rfl, ?_⟩
  refine List.forall_mem_cons.mpr ⟨s_iload C (by decide +kernel : decode c_X3_heard 54 = .ok (.iload 5, 2)) rfl rfl, ?_⟩
  refine List.forall_mem_cons.mpr ⟨s_callS C hFok hF (ct_X3_proud l D dA σ) ⟨rfl, rfl⟩ ew453 ew451 ew452 ew7 ⟨by decide, by decide, by decide +kernel⟩ ⟨by decide, by decide⟩ (by decide +kernel : decode c_X3_heard 56 = .ok (.invokestatic 15, 3)) rfl rfl ⟨Nat.zero_le _, Nat.zero_le _⟩, ?_⟩
  refine List.forall_mem_cons.mpr ⟨s_iret C (by decide +kernel : decode c_X3_heard 59 = .ok (.ireturn, 1)) hret hlk ⟨Nat.le_refl 0, Nat.le_refl 0⟩, ?_⟩
  refine List.forall_mem_cons.mpr ⟨s_iload_n C (by decide +kernel : decode c_X3_heard 60 = .ok (.iload_n 1, 1)) rfl rfl rfl, ?_⟩
  refine List.forall_mem_cons.mpr ⟨s_iload_n C (by decide +kernel : decode c_X3_heard 61 = .ok (.iload_n 2, 1)) rfl rfl rfl, ?_⟩
  refine List.forall_mem_cons.mpr ⟨s_iload C (by decide +kernel : decode c_X3_heard 62 = .ok (.iload 4, 2)) rfl rfl, ?_⟩
  refine List.forall_mem_cons.mpr ⟨s_callS C hFok hF (ct_X3_taken l D dA σ) ⟨rfl, rfl⟩ ew450 ew448 ew449 ew7 ⟨by decide, by decide, by decide +kernel⟩ ⟨by decide, by decide⟩ (by decide +kernel : decode c_X3_heard 64 = .ok (.invokestatic 19, 3)) rfl rfl ⟨Nat.zero_le _, Nat.zero_le _⟩, ?_⟩
  refine List.forall_mem_cons.mpr ⟨s_iret C (by decide +kernel : decode c_X3_heard 67 = .ok (.ireturn, 1)) hret hlk ⟨Nat.le_refl 0, Nat.le_refl 0⟩, ?_⟩
  refine List.forall_mem_cons.mpr ⟨s_iload_n C (by decide +kernel : decode c_X3_heard 68 = .ok (.iload_n 1, 1)) rfl rfl rfl, ?_⟩
  refine List.forall_mem_cons.mpr ⟨s_iload_n C (by decide +kernel : decode c_X3_heard 69 = .ok (.iload_n 2, 1)) rfl rfl rfl, ?_⟩
  refine List.forall_mem_cons.mpr ⟨s_iload_n C (by decide +kernel : decode c_X3_heard 70 = .ok (.iload_n 3, 1)) rfl rfl rfl, ?_⟩
  refine List.forall_mem_cons.mpr ⟨s_iload C (by decide +kernel : decode c_X3_heard 71 = .ok (.iload 4, 2)) rfl rfl, ?_⟩
  refine List.forall_mem_cons.mpr ⟨s_iload C (by decide +kernel : decode c_X3_heard 73 = .ok (.iload 5, 2)) rfl rfl, ?_⟩
  refine List.forall_mem_cons.mpr ⟨s_callS C hFok hF (ct_X3_proud l D dA σ) ⟨rfl, rfl⟩ ew453 ew451 ew452 ew7 ⟨by decide, by decide, by decide +kernel⟩ ⟨by decide, by decide⟩ (by decide +kernel : decode c_X3_heard 75 = .ok (.invokestatic 15, 3)) rfl rfl ⟨Nat.zero_le _, Nat.zero_le _⟩, ?_⟩
  refine List.forall_mem_cons.mpr ⟨s_iload C (by decide +kernel : decode c_X3_heard 78 = .ok (.iload 4, 2)) rfl rfl, ?_⟩
  refine List.forall_mem_cons.mpr ⟨s_callS C hFok hF (ct_X3_matterBehind l D dA σ) ⟨rfl, rfl⟩ ew456 ew454 ew455 ew7 ⟨by decide, by decide, by decide +kernel⟩ ⟨by decide, by decide⟩ (by decide +kernel : decode c_X3_heard 80 = .ok (.invokestatic 23, 3)) rfl rfl ⟨Nat.zero_le _, Nat.zero_le _⟩, ?_⟩
  refine List.forall_mem_cons.mpr ⟨s_ixor C (by decide +kernel : decode c_X3_heard 83 = .ok (.ixor, 1)) rfl rfl, ?_⟩
  refine List.forall_mem_cons.mpr ⟨s_iret C (by decide +kernel : decode c_X3_heard 84 = .ok (.ireturn, 1)) hret hlk ⟨Nat.le_refl 0, Nat.le_refl 0⟩, ?_⟩
  refine List.forall_mem_cons.mpr ⟨s_iload_n C (by decide +kernel : decode c_X3_heard 85 = .ok (.iload_n 1, 1)) rfl rfl rfl, ?_⟩
  refine List.forall_mem_cons.mpr ⟨s_iload_n C (by decide +kernel : decode c_X3_heard 86 = .ok (.iload_n 2, 1)) rfl rfl rfl, ?_⟩
  refine List.forall_mem_cons.mpr ⟨s_iload C (by decide +kernel : decode c_X3_heard 87 = .ok (.iload 4, 2)) rfl rfl, ?_⟩
  refine List.forall_mem_cons.mpr ⟨s_iload C (by decide +kernel : decode c_X3_heard 89 = .ok (.iload 4, 2)) rfl rfl, ?_⟩
  refine List.forall_mem_cons.mpr ⟨s_callS C hFok hF (ct_X3_matterBehind l D dA σ) ⟨rfl, rfl⟩ ew456 ew454 ew455 ew7 ⟨by decide, by decide, by decide +kernel⟩ ⟨by decide, by decide⟩ (by decide +kernel : decode c_X3_heard 91 = .ok (.invokestatic 23, 3)) rfl rfl ⟨Nat.zero_le _, Nat.zero_le _⟩, ?_⟩
  refine List.forall_mem_cons.mpr ⟨s_ior C (by decide +kernel : decode c_X3_heard 94 = .ok (.ior, 1)) rfl rfl, ?_⟩
  refine List.forall_mem_cons.mpr ⟨s_callS C hFok hF (ct_X3_taken l D dA σ) ⟨rfl, rfl⟩ ew450 ew448 ew449 ew7 ⟨by decide, by decide, by decide +kernel⟩ ⟨by decide, by decide⟩ (by decide +kernel : decode c_X3_heard 95 = .ok (.invokestatic 19, 3)) rfl rfl ⟨Nat.zero_le _, Nat.zero_le _⟩, ?_⟩
  refine List.forall_mem_cons.mpr ⟨s_iret C (by decide +kernel : decode c_X3_heard 98 = .ok (.ireturn, 1)) hret hlk ⟨Nat.le_refl 0, Nat.le_refl 0⟩, ?_⟩
  refine List.forall_mem_cons.mpr ⟨s_iload_n C (by decide +kernel : decode c_X3_heard 99 = .ok (.iload_n 1, 1)) rfl rfl rfl, ?_⟩
  refine List.forall_mem_cons.mpr ⟨s_iret C (by decide +kernel : decode c_X3_heard 100 = .ok (.ireturn, 1)) hret hlk ⟨Nat.le_refl 0, Nat.le_refl 0⟩, ?_⟩
  exact fun _ h => absurd h List.not_mem_nil
def ush (x y : Int32) : Int32 := (x.toUInt32 >>> (y.toUInt32 &&& Int32.toUInt32 31)).toInt32
def bc1 (x : Int32) : Int32 := x - (ush x 1 &&& 1431655765)
def bc2 (x : Int32) : Int32 := (x &&& 858993459) + (ush x 2 &&& 858993459)
def bc3 (x : Int32) : Int32 := (x + ush x 4) &&& 252645135
def bc4 (x : Int32) : Int32 := x + ush x 8
def bc5 (x : Int32) : Int32 := x + ush x 16
def bcI (x : Int32) : Int32 := bc5 (bc4 (bc3 (bc2 (bc1 x)))) &&& 63
def sp_J6_bitCount_0f7a4 : em_Sp := fun av hp Q => ∃ x, av = [.int x] ∧ Q (some (.int (bcI x))) hp
def T_J6_bitCount_0f7a4 : List (Nat × em_Op) := [(0, o_iload 0 1), (1, o_iload 0 2), (2, o_iconst 1 3), (3, o_iushr 4), (4, o_iconst 1431655765 7), (7, o_iand 8), (8, o_isub 9), (9, o_istore 0 10), (10, o_iload 0 11), (11, o_iconst 858993459 14), (14, o_iand 15), (15, o_iload 0 16), (16, o_iconst 2 17), (17, o_iushr 18), (18, o_iconst 858993459 21), (21, o_iand 22), (22, o_iadd 23), (23, o_istore 0 24), (24, o_iload 0 25), (25, o_iload 0 26), (26, o_iconst 4 27), (27, o_iushr 28), (28, o_iadd 29), (29, o_iconst 252645135 32), (32, o_iand 33), (33, o_istore 0 34), (34, o_iload 0 35), (35, o_iload 0 36), (36, o_iconst 8 38), (38, o_iushr 39), (39, o_iadd 40), (40, o_istore 0 41), (41, o_iload 0 42), (42, o_iload 0 43), (43, o_iconst 16 45), (45, o_iushr 46), (46, o_iadd 47), (47, o_istore 0 48), (48, o_iload 0 49), (49, o_iconst 63 51), (51, o_iand 52), (52, o_iret)]
theorem me_J6_bitCount_0f7a4 : em_Me T_J6_bitCount_0f7a4 1 sp_J6_bitCount_0f7a4 := by
  intro Q K hK hle av hp hs
  obtain ⟨x, rfl, hq⟩ := hs
  exact ⟨Nat.le_of_ble_eq_true rfl, hK 0 99 0 _ _ _ hq⟩
abbrev rm_J6_bitCount_0f7a4 : Room := { frames := 0, cells := 0, slots := 0, locals := 0 }
set_option maxRecDepth 100000 in
set_option maxHeartbeats 4000000 in
theorem ct_J6_bitCount_0f7a4 (l : Launch) (D : va_G) (dA : Nat → ClassId) (σ : Nat → Nat) : em_CT l D em_cl dA σ (em_F σ) y_J6_bitCount_0f7a4 c_J6_bitCount_0f7a4 1 (Option.some ClassFile.FieldType.int) rm_J6_bitCount_0f7a4 (sp_J6_bitCount_0f7a4 ) := by
  refine em_CT_of (T := T_J6_bitCount_0f7a4 ) (em_F_ok σ) (by decide) (fun p e s m args below meth c A ρ Q C hFok hF hret hlk hin => ?_) (me_J6_bitCount_0f7a4 )
  unfold T_J6_bitCount_0f7a4
  refine List.forall_mem_cons.mpr ⟨s_iload_n C (by decide +kernel : decode c_J6_bitCount_0f7a4 0 = .ok (.iload_n 0, 1)) rfl rfl rfl, ?_⟩
  refine List.forall_mem_cons.mpr ⟨s_iload_n C (by decide +kernel : decode c_J6_bitCount_0f7a4 1 = .ok (.iload_n 0, 1)) rfl rfl rfl, ?_⟩
  refine List.forall_mem_cons.mpr ⟨s_iconst C (by decide +kernel : decode c_J6_bitCount_0f7a4 2 = .ok (.iconst 1, 1)) rfl rfl (by decide), ?_⟩
  refine List.forall_mem_cons.mpr ⟨s_iushr C (by decide +kernel : decode c_J6_bitCount_0f7a4 3 = .ok (.iushr, 1)) rfl rfl, ?_⟩
  refine List.forall_mem_cons.mpr ⟨s_ldcw C (by decide +kernel : decode c_J6_bitCount_0f7a4 4 = .ok (.ldc_w 265, 3)) rfl rfl ew394, ?_⟩
  refine List.forall_mem_cons.mpr ⟨s_iand C (by decide +kernel : decode c_J6_bitCount_0f7a4 7 = .ok (.iand, 1)) rfl rfl, ?_⟩
  refine List.forall_mem_cons.mpr ⟨s_isub C (by decide +kernel : decode c_J6_bitCount_0f7a4 8 = .ok (.isub, 1)) rfl rfl, ?_⟩
  refine List.forall_mem_cons.mpr ⟨s_istore_n C (by decide +kernel : decode c_J6_bitCount_0f7a4 9 = .ok (.istore_n 0, 1)) rfl rfl rfl (by decide), ?_⟩
  refine List.forall_mem_cons.mpr ⟨s_iload_n C (by decide +kernel : decode c_J6_bitCount_0f7a4 10 = .ok (.iload_n 0, 1)) rfl rfl rfl, ?_⟩
  refine List.forall_mem_cons.mpr ⟨s_ldcw C (by decide +kernel : decode c_J6_bitCount_0f7a4 11 = .ok (.ldc_w 266, 3)) rfl rfl ew395, ?_⟩
  refine List.forall_mem_cons.mpr ⟨s_iand C (by decide +kernel : decode c_J6_bitCount_0f7a4 14 = .ok (.iand, 1)) rfl rfl, ?_⟩
  refine List.forall_mem_cons.mpr ⟨s_iload_n C (by decide +kernel : decode c_J6_bitCount_0f7a4 15 = .ok (.iload_n 0, 1)) rfl rfl rfl, ?_⟩
  refine List.forall_mem_cons.mpr ⟨s_iconst C (by decide +kernel : decode c_J6_bitCount_0f7a4 16 = .ok (.iconst 2, 1)) rfl rfl (by decide), ?_⟩
  refine List.forall_mem_cons.mpr ⟨s_iushr C (by decide +kernel : decode c_J6_bitCount_0f7a4 17 = .ok (.iushr, 1)) rfl rfl, ?_⟩
  refine List.forall_mem_cons.mpr ⟨s_ldcw C (by decide +kernel : decode c_J6_bitCount_0f7a4 18 = .ok (.ldc_w 266, 3)) rfl rfl ew395, ?_⟩
  refine List.forall_mem_cons.mpr ⟨s_iand C (by decide +kernel : decode c_J6_bitCount_0f7a4 21 = .ok (.iand, 1)) rfl rfl, ?_⟩
  refine List.forall_mem_cons.mpr ⟨s_iadd C (by decide +kernel : decode c_J6_bitCount_0f7a4 22 = .ok (.iadd, 1)) rfl rfl, ?_⟩
  refine List.forall_mem_cons.mpr ⟨s_istore_n C (by decide +kernel : decode c_J6_bitCount_0f7a4 23 = .ok (.istore_n 0, 1)) rfl rfl rfl (by decide), ?_⟩
  refine List.forall_mem_cons.mpr ⟨s_iload_n C (by decide +kernel : decode c_J6_bitCount_0f7a4 24 = .ok (.iload_n 0, 1)) rfl rfl rfl, ?_⟩
  refine List.forall_mem_cons.mpr ⟨s_iload_n C (by decide +kernel : decode c_J6_bitCount_0f7a4 25 = .ok (.iload_n 0, 1)) rfl rfl rfl, ?_⟩
  refine List.forall_mem_cons.mpr ⟨s_iconst C (by decide +kernel : decode c_J6_bitCount_0f7a4 26 = .ok (.iconst 4, 1)) rfl rfl (by decide), ?_⟩
  refine List.forall_mem_cons.mpr ⟨s_iushr C (by decide +kernel : decode c_J6_bitCount_0f7a4 27 = .ok (.iushr, 1)) rfl rfl, ?_⟩
  refine List.forall_mem_cons.mpr ⟨s_iadd C (by decide +kernel : decode c_J6_bitCount_0f7a4 28 = .ok (.iadd, 1)) rfl rfl, ?_⟩
  refine List.forall_mem_cons.mpr ⟨s_ldcw C (by decide +kernel : decode c_J6_bitCount_0f7a4 29 = .ok (.ldc_w 267, 3)) rfl rfl ew396, ?_⟩
  refine List.forall_mem_cons.mpr ⟨s_iand C (by decide +kernel : decode c_J6_bitCount_0f7a4 32 = .ok (.iand, 1)) rfl rfl, ?_⟩
  refine List.forall_mem_cons.mpr ⟨s_istore_n C (by decide +kernel : decode c_J6_bitCount_0f7a4 33 = .ok (.istore_n 0, 1)) rfl rfl rfl (by decide), ?_⟩
  refine List.forall_mem_cons.mpr ⟨s_iload_n C (by decide +kernel : decode c_J6_bitCount_0f7a4 34 = .ok (.iload_n 0, 1)) rfl rfl rfl, ?_⟩
  refine List.forall_mem_cons.mpr ⟨s_iload_n C (by decide +kernel : decode c_J6_bitCount_0f7a4 35 = .ok (.iload_n 0, 1)) rfl rfl rfl, ?_⟩
  refine List.forall_mem_cons.mpr ⟨s_bipush C (by decide +kernel : decode c_J6_bitCount_0f7a4 36 = .ok (.bipush 8, 2)) rfl rfl (by decide), ?_⟩
  refine List.forall_mem_cons.mpr ⟨s_iushr C (by decide +kernel : decode c_J6_bitCount_0f7a4 38 = .ok (.iushr, 1)) rfl rfl, ?_⟩
  refine List.forall_mem_cons.mpr ⟨s_iadd C (by decide +kernel : decode c_J6_bitCount_0f7a4 39 = .ok (.iadd, 1)) rfl rfl, ?_⟩
  refine List.forall_mem_cons.mpr ⟨s_istore_n C (by decide +kernel : decode c_J6_bitCount_0f7a4 40 = .ok (.istore_n 0, 1)) rfl rfl rfl (by decide), ?_⟩
  refine List.forall_mem_cons.mpr ⟨s_iload_n C (by decide +kernel : decode c_J6_bitCount_0f7a4 41 = .ok (.iload_n 0, 1)) rfl rfl rfl, ?_⟩
  refine List.forall_mem_cons.mpr ⟨s_iload_n C (by decide +kernel : decode c_J6_bitCount_0f7a4 42 = .ok (.iload_n 0, 1)) rfl rfl rfl, ?_⟩
  refine List.forall_mem_cons.mpr ⟨s_bipush C (by decide +kernel : decode c_J6_bitCount_0f7a4 43 = .ok (.bipush 16, 2)) rfl rfl (by decide), ?_⟩
  refine List.forall_mem_cons.mpr ⟨s_iushr C (by decide +kernel : decode c_J6_bitCount_0f7a4 45 = .ok (.iushr, 1)) rfl rfl, ?_⟩
  refine List.forall_mem_cons.mpr ⟨s_iadd C (by decide +kernel : decode c_J6_bitCount_0f7a4 46 = .ok (.iadd, 1)) rfl rfl, ?_⟩
  refine List.forall_mem_cons.mpr ⟨s_istore_n C (by decide +kernel : decode c_J6_bitCount_0f7a4 47 = .ok (.istore_n 0, 1)) rfl rfl rfl (by decide), ?_⟩
  refine List.forall_mem_cons.mpr ⟨s_iload_n C (by decide +kernel : decode c_J6_bitCount_0f7a4 48 = .ok (.iload_n 0, 1)) rfl rfl rfl, ?_⟩
  refine List.forall_mem_cons.mpr ⟨s_bipush C (by decide +kernel : decode c_J6_bitCount_0f7a4 49 = .ok (.bipush 63, 2)) rfl rfl (by decide), ?_⟩
  refine List.forall_mem_cons.mpr ⟨s_iand C (by decide +kernel : decode c_J6_bitCount_0f7a4 51 = .ok (.iand, 1)) rfl rfl, ?_⟩
  refine List.forall_mem_cons.mpr ⟨s_iret C (by decide +kernel : decode c_J6_bitCount_0f7a4 52 = .ok (.ireturn, 1)) hret hlk ⟨Nat.le_refl 0, Nat.le_refl 0⟩, ?_⟩
  exact fun _ h => absurd h List.not_mem_nil
def lob (x : Int32) : Int32 := x &&& -x
def sp_J6_lowestOneBit_0f7a4 : em_Sp := fun av hp Q => ∃ x, av = [.int x] ∧ Q (some (.int (lob x))) hp
def T_J6_lowestOneBit_0f7a4 : List (Nat × em_Op) := [(0, o_iload 0 1), (1, o_iload 0 2), (2, o_ineg 3), (3, o_iand 4), (4, o_iret)]
theorem me_J6_lowestOneBit_0f7a4 : em_Me T_J6_lowestOneBit_0f7a4 1 sp_J6_lowestOneBit_0f7a4 := by
  intro Q K hK hle av hp hs
  obtain ⟨x, rfl, hq⟩ := hs
  exact ⟨Nat.le_of_ble_eq_true rfl, hK 0 99 0 _ _ _ hq⟩
abbrev rm_J6_lowestOneBit_0f7a4 : Room := { frames := 0, cells := 0, slots := 0, locals := 0 }
set_option maxRecDepth 100000 in
set_option maxHeartbeats 4000000 in
theorem ct_J6_lowestOneBit_0f7a4 (l : Launch) (D : va_G) (dA : Nat → ClassId) (σ : Nat → Nat) : em_CT l D em_cl dA σ (em_F σ) y_J6_lowestOneBit_0f7a4 c_J6_lowestOneBit_0f7a4 1 (Option.some ClassFile.FieldType.int) rm_J6_lowestOneBit_0f7a4 (sp_J6_lowestOneBit_0f7a4 ) := by
  refine em_CT_of (T := T_J6_lowestOneBit_0f7a4 ) (em_F_ok σ) (by decide) (fun p e s m args below meth c A ρ Q C hFok hF hret hlk hin => ?_) (me_J6_lowestOneBit_0f7a4 )
  unfold T_J6_lowestOneBit_0f7a4
  refine List.forall_mem_cons.mpr ⟨s_iload_n C (by decide +kernel : decode c_J6_lowestOneBit_0f7a4 0 = .ok (.iload_n 0, 1)) rfl rfl rfl, ?_⟩
  refine List.forall_mem_cons.mpr ⟨s_iload_n C (by decide +kernel : decode c_J6_lowestOneBit_0f7a4 1 = .ok (.iload_n 0, 1)) rfl rfl rfl, ?_⟩
  refine List.forall_mem_cons.mpr ⟨s_ineg C (by decide +kernel : decode c_J6_lowestOneBit_0f7a4 2 = .ok (.ineg, 1)) rfl rfl, ?_⟩
  refine List.forall_mem_cons.mpr ⟨s_iand C (by decide +kernel : decode c_J6_lowestOneBit_0f7a4 3 = .ok (.iand, 1)) rfl rfl, ?_⟩
  refine List.forall_mem_cons.mpr ⟨s_iret C (by decide +kernel : decode c_J6_lowestOneBit_0f7a4 4 = .ok (.ireturn, 1)) hret hlk ⟨Nat.le_refl 0, Nat.le_refl 0⟩, ?_⟩
  exact fun _ h => absurd h List.not_mem_nil
end
section
/-! ===== Town: its world; what only reads ===== -/
def wT (pe : Int32) (ki : Nat → Int32) (mi se : Int64) (we lea mst pa : Int32) (fi sd : Nat → Int32) (ev un : Int32) (ma : Nat → Int64) (ea : Nat → Int32) (co : Int32) (ca clt : Nat → Int32) : em_H :=
  [.inr (2, [.int pe, .ref 1, .long mi, .long se, .int we, .int lea, .int mst, .int pa, .ref 2, .ref 3, .int ev, .int un, .ref 4, .ref 5, .int co, .ref 6, .ref 7]), .inl (0, 6, .inl ki), .inl (0, 8, .inl fi), .inl (0, 8, .inl sd), .inl (1, 12, .inr (.inl ma)), .inl (0, 12, .inl ea), .inl (0, 10, .inl ca), .inl (3, 10, .inl clt)]
def hs (pe p : Int32) : Prop := ¬ p < 0 ∧ ¬ pe ≤ p
def sp_X7_has : em_Sp := fun av hp Q => ∃ pe ki mi se we lea mst pa fi sd ev un ma ea co ca clt p, av = [.ref 0, .int p] ∧ hp = (wT pe ki mi se we lea mst pa fi sd ev un ma ea co ca clt) ∧ (hs pe p → Q (some (.int 1)) hp) ∧ (¬ hs pe p → Q (some (.int 0)) hp)
def T_X7_has : List (Nat × em_Op) := [(0, o_iload 1 1), (1, o_iflt 16 4), (4, o_iload 1 5), (5, o_aload 0 6), (6, o_getf 2 0 9), (9, o_icmpge 16 12), (12, o_iconst 1 13), (13, o_goto 17), (16, o_iconst 0 17), (17, o_zret)]
theorem me_X7_has : em_Me T_X7_has 2 sp_X7_has := by
  intro Q K hK hle av hp hs
  obtain ⟨pe, ki, mi, se, we, lea, mst, pa, fi, sd, ev, un, ma, ea, co, ca, clt, p, rfl, rfl, h1, h0⟩ := hs
  refine ⟨Nat.le_of_ble_eq_true rfl, hK 0 99 0 _ _ _ ?_⟩
  exact ⟨fun h => ⟨Or.inl rfl, h0 (fun z => z.1 h)⟩, fun h => ⟨fun h2 => ⟨Or.inl rfl, h0 (fun z => z.2 h2)⟩, fun h2 => ⟨Or.inr rfl, h1 ⟨h, h2⟩⟩⟩⟩
abbrev rm_X7_has : Room := { frames := 0, cells := 0, slots := 0, locals := 0 }
set_option maxRecDepth 100000 in
set_option maxHeartbeats 4000000 in
theorem ct_X7_has (l : Launch) (D : va_G) (dA : Nat → ClassId) (σ : Nat → Nat) : em_CT l D em_cl dA σ (em_F σ) y_X7_has c_X7_has 2 (Option.some ClassFile.FieldType.boolean) rm_X7_has (sp_X7_has ) := by
  refine em_CT_of (T := T_X7_has ) (em_F_ok σ) (by decide) (fun p e s m args below meth c A ρ Q C hFok hF hret hlk hin => ?_) (me_X7_has )
  unfold T_X7_has
  refine List.forall_mem_cons.mpr ⟨s_iload_n C (by decide +kernel : decode c_X7_has 0 = .ok (.iload_n 1, 1)) rfl rfl rfl, ?_⟩
  refine List.forall_mem_cons.mpr ⟨s_iflt C (by decide +kernel : decode c_X7_has 1 = .ok (.ifCond .lt 15, 3)) (by decide) rfl rfl rfl, ?_⟩
  refine List.forall_mem_cons.mpr ⟨s_iload_n C (by decide +kernel : decode c_X7_has 4 = .ok (.iload_n 1, 1)) rfl rfl rfl, ?_⟩
  refine List.forall_mem_cons.mpr ⟨s_aload_n C (by decide +kernel : decode c_X7_has 5 = .ok (.aload_n 0, 1)) rfl rfl rfl, ?_⟩
  refine List.forall_mem_cons.mpr ⟨s_getf C (by decide +kernel : decode c_X7_has 6 = .ok (.getfield 38, 3)) rfl rfl em_cl_X7 (by decide) ew85 rfl, ?_⟩
  refine List.forall_mem_cons.mpr ⟨s_icmpge C (by decide +kernel : decode c_X7_has 9 = .ok (.if_icmp .ge 7, 3)) (by decide) rfl rfl rfl, ?_⟩
  refine List.forall_mem_cons.mpr ⟨s_iconst C (by decide +kernel : decode c_X7_has 12 = .ok (.iconst 1, 1)) rfl rfl (by decide), ?_⟩
  refine List.forall_mem_cons.mpr ⟨s_goto C (by decide +kernel : decode c_X7_has 13 = .ok (.goto 4, 3)) (by decide) rfl, ?_⟩
  refine List.forall_mem_cons.mpr ⟨s_iconst C (by decide +kernel : decode c_X7_has 16 = .ok (.iconst 0, 1)) rfl rfl (by decide), ?_⟩
  refine List.forall_mem_cons.mpr ⟨s_zret C (by decide +kernel : decode c_X7_has 17 = .ok (.ireturn, 1)) hret hlk ⟨Nat.le_refl 0, Nat.le_refl 0⟩, ?_⟩
  exact fun _ h => absurd h List.not_mem_nil
def h2 (pe a b : Int32) : Prop := hs pe a ∧ hs pe b ∧ a ≠ b
def sp_X7_hasTwo : em_Sp := fun av hp Q => ∃ pe ki mi se we lea mst pa fi sd ev un ma ea co ca clt a b, av = [.ref 0, .int a, .int b] ∧ hp = (wT pe ki mi se we lea mst pa fi sd ev un ma ea co ca clt) ∧ (h2 pe a b → Q (some (.int 1)) hp) ∧ (¬ h2 pe a b → Q (some (.int 0)) hp)
def T_X7_hasTwo : List (Nat × em_Op) := [(0, o_aload 0 1), (1, o_iload 1 2), (2, o_call 2 (some 2) (sp_X7_has) 5), (5, o_ifeq 25 8), (8, o_aload 0 9), (9, o_iload 2 10), (10, o_call 2 (some 2) (sp_X7_has) 13), (13, o_ifeq 25 16), (16, o_iload 1 17), (17, o_iload 2 18), (18, o_icmpeq 25 21), (21, o_iconst 1 22), (22, o_goto 26), (25, o_iconst 0 26), (26, o_zret)]
theorem me_X7_hasTwo : em_Me T_X7_hasTwo 3 sp_X7_hasTwo := by
  intro Q K hK hle av hp hs
  obtain ⟨pe, ki, mi, se, we, lea, mst, pa, fi, sd, ev, un, ma, ea, co, ca, clt, a, b, rfl, rfl, h1, h0⟩ := hs
  refine ⟨Nat.le_of_ble_eq_true rfl, hK 0 99 0 _ _ _ ?_⟩
  refine ⟨_, _, _, _, _, _, _, _, _, _, _, _, _, _, _, _, _, _, rfl, rfl, fun z1 => ?_, fun z1 => ?_⟩
  · refine ⟨fun z => absurd z (by decide), fun _ => ?_⟩
    refine ⟨_, _, _, _, _, _, _, _, _, _, _, _, _, _, _, _, _, _, rfl, rfl, fun z2 => ?_, fun z2 => ?_⟩
    · refine ⟨fun z => absurd z (by decide), fun _ => ?_⟩
      exact ⟨fun z => ⟨Or.inl rfl, h0 (fun y => y.2.2 z)⟩, fun z => ⟨Or.inr rfl, h1 ⟨z1, z2, z⟩⟩⟩
    · exact ⟨fun _ => ⟨Or.inl rfl, h0 (fun y => z2 y.2.1)⟩, fun z => absurd z (by decide)⟩
  · exact ⟨fun _ => ⟨Or.inl rfl, h0 (fun y => z1 y.1)⟩, fun z => absurd z (by decide)⟩
abbrev rm_X7_hasTwo : Room := { frames := 1, cells := 0, slots := 0, locals := 21 }
set_option maxRecDepth 100000 in
set_option maxHeartbeats 4000000 in
theorem ct_X7_hasTwo (l : Launch) (D : va_G) (dA : Nat → ClassId) (σ : Nat → Nat) : em_CT l D em_cl dA σ (em_F σ) y_X7_hasTwo c_X7_hasTwo 3 (Option.some ClassFile.FieldType.boolean) rm_X7_hasTwo (sp_X7_hasTwo ) := by
  refine em_CT_of (T := T_X7_hasTwo ) (em_F_ok σ) (by decide) (fun p e s m args below meth c A ρ Q C hFok hF hret hlk hin => ?_) (me_X7_hasTwo )
  unfold T_X7_hasTwo
  refine List.forall_mem_cons.mpr ⟨s_aload_n C (by decide +kernel : decode c_X7_hasTwo 0 = .ok (.aload_n 0, 1)) rfl rfl rfl, ?_⟩
  refine List.forall_mem_cons.mpr ⟨s_iload_n C (by decide +kernel : decode c_X7_hasTwo 1 = .ok (.iload_n 1, 1)) rfl rfl rfl, ?_⟩
  refine List.forall_mem_cons.mpr ⟨s_callV C hFok hF (ct_X7_has l D dA σ) ⟨rfl, rfl⟩ ew208 em_cl_X7 ew226 ew206 ew207 ew5 ⟨by decide, by decide, by decide +kernel⟩ ⟨by decide, by decide⟩ (by decide +kernel : decode c_X7_hasTwo 2 = .ok (.invokevirtual 76, 3)) rfl rfl ⟨Nat.zero_le _, Nat.zero_le _⟩, ?_⟩
  refine List.forall_mem_cons.mpr ⟨s_ifeq C (by decide +kernel : decode c_X7_hasTwo 5 = .ok (.ifCond .eq 20, 3)) (by decide) rfl rfl rfl, ?_⟩
  refine List.forall_mem_cons.mpr ⟨s_aload_n C (by decide +kernel : decode c_X7_hasTwo 8 = .ok (.aload_n 0, 1)) rfl rfl rfl, ?_⟩
  refine List.forall_mem_cons.mpr ⟨s_iload_n C (by decide +kernel : decode c_X7_hasTwo 9 = .ok (.iload_n 2, 1)) rfl rfl rfl, ?_⟩
  refine List.forall_mem_cons.mpr ⟨s_callV C hFok hF (ct_X7_has l D dA σ) ⟨rfl, rfl⟩ ew208 em_cl_X7 ew226 ew206 ew207 ew5 ⟨by decide, by decide, by decide +kernel⟩ ⟨by decide, by decide⟩ (by decide +kernel : decode c_X7_hasTwo 10 = .ok (.invokevirtual 76, 3)) rfl rfl ⟨Nat.zero_le _, Nat.zero_le _⟩, ?_⟩
  refine List.forall_mem_cons.mpr ⟨s_ifeq C (by decide +kernel : decode c_X7_hasTwo 13 = .ok (.ifCond .eq 12, 3)) (by decide) rfl rfl rfl, ?_⟩
  refine List.forall_mem_cons.mpr ⟨s_iload_n C (by decide +kernel : decode c_X7_hasTwo 16 = .ok (.iload_n 1, 1)) rfl rfl rfl, ?_⟩
  refine List.forall_mem_cons.mpr ⟨s_iload_n C (by decide +kernel : decode c_X7_hasTwo 17 = .ok (.iload_n 2, 1)) rfl rfl rfl, ?_⟩
  refine List.forall_mem_cons.mpr ⟨s_icmpeq C (by decide +kernel : decode c_X7_hasTwo 18 = .ok (.if_icmp .eq 7, 3)) (by decide) rfl rfl rfl, ?_⟩
  refine List.forall_mem_cons.mpr ⟨s_iconst C (by decide +kernel : decode c_X7_hasTwo 21 = .ok (.iconst 1, 1)) rfl rfl (by decide), ?_⟩
  refine List.forall_mem_cons.mpr ⟨s_goto C (by decide +kernel : decode c_X7_hasTwo 22 = .ok (.goto 4, 3)) (by decide) rfl, ?_⟩
  refine List.forall_mem_cons.mpr ⟨s_iconst C (by decide +kernel : decode c_X7_hasTwo 25 = .ok (.iconst 0, 1)) rfl rfl (by decide), ?_⟩
  refine List.forall_mem_cons.mpr ⟨s_zret C (by decide +kernel : decode c_X7_hasTwo 26 = .ok (.ireturn, 1)) hret hlk ⟨Nat.le_refl 0, Nat.le_refl 0⟩, ?_⟩
  exact fun _ h => absurd h List.not_mem_nil
def dst (we x y : Int32) : Int32 := bcI (x ^^^ y) + bcI ((x ^^^ y) &&& we)
def sp_X7_distance : em_Sp := fun av hp Q => ∃ pe ki mi se we lea mst pa fi sd ev un ma ea co ca clt x y, av = [.ref 0, .int x, .int y] ∧ hp = (wT pe ki mi se we lea mst pa fi sd ev un ma ea co ca clt) ∧ Q (some (.int (dst we x y))) hp
def T_X7_distance : List (Nat × em_Op) := [(0, o_iload 1 1), (1, o_iload 2 2), (2, o_ixor 3), (3, o_istore 3 4), (4, o_iload 3 5), (5, o_call 1 none (sp_J6_bitCount_0f7a4) 8), (8, o_iload 3 9), (9, o_aload 0 10), (10, o_getf 2 4 13), (13, o_iand 14), (14, o_call 1 none (sp_J6_bitCount_0f7a4) 17), (17, o_iadd 18), (18, o_iret)]
theorem me_X7_distance : em_Me T_X7_distance 4 sp_X7_distance := by
  intro Q K hK hle av hp hs
  obtain ⟨pe, ki, mi, se, we, lea, mst, pa, fi, sd, ev, un, ma, ea, co, ca, clt, x, y, rfl, rfl, hq⟩ := hs
  exact ⟨Nat.le_of_ble_eq_true rfl, hK 0 99 0 _ _ _ ⟨_, rfl, _, rfl, hq⟩⟩
abbrev rm_X7_distance : Room := { frames := 1, cells := 0, slots := 0, locals := 20 }
set_option maxRecDepth 100000 in
set_option maxHeartbeats 4000000 in
theorem ct_X7_distance (l : Launch) (D : va_G) (dA : Nat → ClassId) (σ : Nat → Nat) : em_CT l D em_cl dA σ (em_F σ) y_X7_distance c_X7_distance 4 (Option.some ClassFile.FieldType.int) rm_X7_distance (sp_X7_distance ) := by
  refine em_CT_of (T := T_X7_distance ) (em_F_ok σ) (by decide) (fun p e s m args below meth c A ρ Q C hFok hF hret hlk hin => ?_) (me_X7_distance )
  unfold T_X7_distance
  refine List.forall_mem_cons.mpr ⟨s_iload_n C (by decide +kernel : decode c_X7_distance 0 = .ok (.iload_n 1, 1)) rfl rfl rfl, ?_⟩
  refine List.forall_mem_cons.mpr ⟨s_iload_n C (by decide +kernel : decode c_X7_distance 1 = .ok (.iload_n 2, 1)) rfl rfl rfl, ?_⟩
  refine List.forall_mem_cons.mpr ⟨s_ixor C (by decide +kernel : decode c_X7_distance 2 = .ok (.ixor, 1)) rfl rfl, ?_⟩
  refine List.forall_mem_cons.mpr ⟨s_istore_n C (by decide +kernel : decode c_X7_distance 3 = .ok (.istore_n 3, 1)) rfl rfl rfl (by decide), ?_⟩
  refine List.forall_mem_cons.mpr ⟨s_iload_n C (by decide +kernel : decode c_X7_distance 4 = .ok (.iload_n 3, 1)) rfl rfl rfl, ?_⟩
  refine List.forall_mem_cons.mpr ⟨s_callS C hFok hF (ct_J6_bitCount_0f7a4 l D dA σ) ⟨rfl, rfl⟩ ew393 ew391 ew392 ew13 ⟨by decide, by decide, by decide +kernel⟩ ⟨by decide, by decide⟩ (by decide +kernel : decode c_X7_distance 5 = .ok (.invokestatic 102, 3)) rfl rfl ⟨Nat.zero_le _, Nat.zero_le _⟩, ?_⟩
  refine List.forall_mem_cons.mpr ⟨s_iload_n C (by decide +kernel : decode c_X7_distance 8 = .ok (.iload_n 3, 1)) rfl rfl rfl, ?_⟩
  refine List.forall_mem_cons.mpr ⟨s_aload_n C (by decide +kernel : decode c_X7_distance 9 = .ok (.aload_n 0, 1)) rfl rfl rfl, ?_⟩
  refine List.forall_mem_cons.mpr ⟨s_getf C (by decide +kernel : decode c_X7_distance 10 = .ok (.getfield 49, 3)) rfl rfl em_cl_X7 (by decide) ew97 rfl, ?_⟩
  refine List.forall_mem_cons.mpr ⟨s_iand C (by decide +kernel : decode c_X7_distance 13 = .ok (.iand, 1)) rfl rfl, ?_⟩
  refine List.forall_mem_cons.mpr ⟨s_callS C hFok hF (ct_J6_bitCount_0f7a4 l D dA σ) ⟨rfl, rfl⟩ ew393 ew391 ew392 ew13 ⟨by decide, by decide, by decide +kernel⟩ ⟨by decide, by decide⟩ (by decide +kernel : decode c_X7_distance 14 = .ok (.invokestatic 102, 3)) rfl rfl ⟨Nat.zero_le _, Nat.zero_le _⟩, ?_⟩
  refine List.forall_mem_cons.mpr ⟨s_iadd C (by decide +kernel : decode c_X7_distance 17 = .ok (.iadd, 1)) rfl rfl, ?_⟩
  refine List.forall_mem_cons.mpr ⟨s_iret C (by decide +kernel : decode c_X7_distance 18 = .ok (.ireturn, 1)) hret hlk ⟨Nat.le_refl 0, Nat.le_refl 0⟩, ?_⟩
  exact fun _ h => absurd h List.not_mem_nil
def lic (lea mst d : Int32) : Prop := ¬ d < lea ∧ ¬ mst < d
def sp_X7_isLicensed : em_Sp := fun av hp Q => ∃ pe ki mi se we lea mst pa fi sd ev un ma ea co ca clt d, av = [.ref 0, .int d] ∧ hp = (wT pe ki mi se we lea mst pa fi sd ev un ma ea co ca clt) ∧ (lic lea mst d → Q (some (.int 1)) hp) ∧ (¬ lic lea mst d → Q (some (.int 0)) hp)
def T_X7_isLicensed : List (Nat × em_Op) := [(0, o_iload 1 1), (1, o_aload 0 2), (2, o_getf 2 5 5), (5, o_icmplt 20 8), (8, o_iload 1 9), (9, o_aload 0 10), (10, o_getf 2 6 13), (13, o_icmpgt 20 16), (16, o_iconst 1 17), (17, o_goto 21), (20, o_iconst 0 21), (21, o_zret)]
theorem me_X7_isLicensed : em_Me T_X7_isLicensed 2 sp_X7_isLicensed := by
  intro Q K hK hle av hp hs
  obtain ⟨pe, ki, mi, se, we, lea, mst, pa, fi, sd, ev, un, ma, ea, co, ca, clt, d, rfl, rfl, h1, h0⟩ := hs
  refine ⟨Nat.le_of_ble_eq_true rfl, hK 0 99 0 _ _ _ ?_⟩
  exact ⟨fun h => ⟨Or.inl rfl, h0 (fun z => z.1 h)⟩, fun h => ⟨fun h2 => ⟨Or.inl rfl, h0 (fun z => z.2 h2)⟩, fun h2 => ⟨Or.inr rfl, h1 ⟨h, h2⟩⟩⟩⟩
abbrev rm_X7_isLicensed : Room := { frames := 0, cells := 0, slots := 0, locals := 0 }
set_option maxRecDepth 100000 in
set_option maxHeartbeats 4000000 in
theorem ct_X7_isLicensed (l : Launch) (D : va_G) (dA : Nat → ClassId) (σ : Nat → Nat) : em_CT l D em_cl dA σ (em_F σ) y_X7_isLicensed c_X7_isLicensed 2 (Option.some ClassFile.FieldType.boolean) rm_X7_isLicensed (sp_X7_isLicensed ) := by
  refine em_CT_of (T := T_X7_isLicensed ) (em_F_ok σ) (by decide) (fun p e s m args below meth c A ρ Q C hFok hF hret hlk hin => ?_) (me_X7_isLicensed )
  unfold T_X7_isLicensed
  refine List.forall_mem_cons.mpr ⟨s_iload_n C (by decide +kernel : decode c_X7_isLicensed 0 = .ok (.iload_n 1, 1)) rfl rfl rfl, ?_⟩
  refine List.forall_mem_cons.mpr ⟨s_aload_n C (by decide +kernel : decode c_X7_isLicensed 1 = .ok (.aload_n 0, 1)) rfl rfl rfl, ?_⟩
  refine List.forall_mem_cons.mpr ⟨s_getf C (by decide +kernel : decode c_X7_isLicensed 2 = .ok (.getfield 52, 3)) rfl rfl em_cl_X7 (by decide) ew98 rfl, ?_⟩
  refine List.forall_mem_cons.mpr ⟨s_icmplt C (by decide +kernel : decode c_X7_isLicensed 5 = .ok (.if_icmp .lt 15, 3)) (by decide) rfl rfl rfl, ?_⟩
  refine List.forall_mem_cons.mpr ⟨s_iload_n C (by decide +kernel : decode c_X7_isLicensed 8 = .ok (.iload_n 1, 1)) rfl rfl rfl, ?_⟩
  refine List.forall_mem_cons.mpr ⟨s_aload_n C (by decide +kernel : decode c_X7_isLicensed 9 = .ok (.aload_n 0, 1)) rfl rfl rfl, ?_⟩
  refine List.forall_mem_cons.mpr ⟨s_getf C (by decide +kernel : decode c_X7_isLicensed 10 = .ok (.getfield 55, 3)) rfl rfl em_cl_X7 (by decide) ew99 rfl, ?_⟩
  refine List.forall_mem_cons.mpr ⟨s_icmpgt C (by decide +kernel : decode c_X7_isLicensed 13 = .ok (.if_icmp .gt 7, 3)) (by decide) rfl rfl rfl, ?_⟩
  refine List.forall_mem_cons.mpr ⟨s_iconst C (by decide +kernel : decode c_X7_isLicensed 16 = .ok (.iconst 1, 1)) rfl rfl (by decide), ?_⟩
  refine List.forall_mem_cons.mpr ⟨s_goto C (by decide +kernel : decode c_X7_isLicensed 17 = .ok (.goto 4, 3)) (by decide) rfl, ?_⟩
  refine List.forall_mem_cons.mpr ⟨s_iconst C (by decide +kernel : decode c_X7_isLicensed 20 = .ok (.iconst 0, 1)) rfl rfl (by decide), ?_⟩
  refine List.forall_mem_cons.mpr ⟨s_zret C (by decide +kernel : decode c_X7_isLicensed 21 = .ok (.ireturn, 1)) hret hlk ⟨Nat.le_refl 0, Nat.le_refl 0⟩, ?_⟩
  exact fun _ h => absurd h List.not_mem_nil
def mwd (we lea mst : Int32) (m : Int64) (a b : Int32) : Prop := lic lea mst (dst we (mo m a) (mo m b))
def sp_X7_mayWed : em_Sp := fun av hp Q => ∃ pe ki mi se we lea mst pa fi sd ev un ma ea co ca clt m a b, av = [.ref 0, .long m, .int a, .int b] ∧ hp = (wT pe ki mi se we lea mst pa fi sd ev un ma ea co ca clt) ∧ (mwd we lea mst m a b → Q (some (.int 1)) hp) ∧ (¬ mwd we lea mst m a b → Q (some (.int 0)) hp)
def T_X7_mayWed : List (Nat × em_Op) := [(0, o_aload 0 1), (1, o_aload 0 2), (2, o_lload 1 3), (3, o_iload 3 4), (4, o_call 2 none (sp_X5_of) 7), (7, o_lload 1 8), (8, o_iload 4 10), (10, o_call 2 none (sp_X5_of) 13), (13, o_call 3 (some 2) (sp_X7_distance) 16), (16, o_call 2 (some 2) (sp_X7_isLicensed) 19), (19, o_zret)]
theorem me_X7_mayWed : em_Me T_X7_mayWed 5 sp_X7_mayWed := by
  intro Q K hK hle av hp hs
  obtain ⟨pe, ki, mi, se, we, lea, mst, pa, fi, sd, ev, un, ma, ea, co, ca, clt, m, a, b, rfl, rfl, h1, h0⟩ := hs
  refine ⟨Nat.le_of_ble_eq_true rfl, hK 0 99 0 _ _ _ ?_⟩
  refine ⟨_, _, rfl, _, _, rfl, _, _, _, _, _, _, _, _, _, _, _, _, _, _, _, _, _, _, _, rfl, rfl, _, _, _, _, _, _, _, _, _, _, _, _, _, _, _, _, _, _, rfl, rfl, fun z => ?_, fun z => ?_⟩
  · exact ⟨Or.inr rfl, h1 z⟩
  · exact ⟨Or.inl rfl, h0 z⟩
abbrev rm_X7_mayWed : Room := { frames := 2, cells := 0, slots := 0, locals := 43 }
set_option maxRecDepth 100000 in
set_option maxHeartbeats 4000000 in
theorem ct_X7_mayWed (l : Launch) (D : va_G) (dA : Nat → ClassId) (σ : Nat → Nat) : em_CT l D em_cl dA σ (em_F σ) y_X7_mayWed c_X7_mayWed 5 (Option.some ClassFile.FieldType.boolean) rm_X7_mayWed (sp_X7_mayWed ) := by
  refine em_CT_of (T := T_X7_mayWed ) (em_F_ok σ) (by decide) (fun p e s m args below meth c A ρ Q C hFok hF hret hlk hin => ?_) (me_X7_mayWed )
  unfold T_X7_mayWed
  refine List.forall_mem_cons.mpr ⟨s_aload_n C (by decide +kernel : decode c_X7_mayWed 0 = .ok (.aload_n 0, 1)) rfl rfl rfl, ?_⟩
  refine List.forall_mem_cons.mpr ⟨s_aload_n C (by decide +kernel : decode c_X7_mayWed 1 = .ok (.aload_n 0, 1)) rfl rfl rfl, ?_⟩
  refine List.forall_mem_cons.mpr ⟨s_lload_n C (by decide +kernel : decode c_X7_mayWed 2 = .ok (.lload_n 1, 1)) rfl rfl rfl, ?_⟩
  refine List.forall_mem_cons.mpr ⟨s_iload_n C (by decide +kernel : decode c_X7_mayWed 3 = .ok (.iload_n 3, 1)) rfl rfl rfl, ?_⟩
  refine List.forall_mem_cons.mpr ⟨s_callS C hFok hF (ct_X5_of l D dA σ) ⟨rfl, rfl⟩ ew216 ew214 ew215 ew8 ⟨by decide, by decide, by decide +kernel⟩ ⟨by decide, by decide⟩ (by decide +kernel : decode c_X7_mayWed 4 = .ok (.invokestatic 94, 3)) rfl rfl ⟨Nat.zero_le _, Nat.zero_le _⟩, ?_⟩
  refine List.forall_mem_cons.mpr ⟨s_lload_n C (by decide +kernel : decode c_X7_mayWed 7 = .ok (.lload_n 1, 1)) rfl rfl rfl, ?_⟩
  refine List.forall_mem_cons.mpr ⟨s_iload C (by decide +kernel : decode c_X7_mayWed 8 = .ok (.iload 4, 2)) rfl rfl, ?_⟩
  refine List.forall_mem_cons.mpr ⟨s_callS C hFok hF (ct_X5_of l D dA σ) ⟨rfl, rfl⟩ ew216 ew214 ew215 ew8 ⟨by decide, by decide, by decide +kernel⟩ ⟨by decide, by decide⟩ (by decide +kernel : decode c_X7_mayWed 10 = .ok (.invokestatic 94, 3)) rfl rfl ⟨Nat.zero_le _, Nat.zero_le _⟩, ?_⟩
  refine List.forall_mem_cons.mpr ⟨s_callV C hFok hF (ct_X7_distance l D dA σ) ⟨rfl, rfl⟩ ew390 em_cl_X7 ew405 ew388 ew389 ew5 ⟨by decide, by decide, by decide +kernel⟩ ⟨by decide, by decide⟩ (by decide +kernel : decode c_X7_mayWed 13 = .ok (.invokevirtual 108, 3)) rfl rfl ⟨Nat.zero_le _, Nat.zero_le _⟩, ?_⟩
  refine List.forall_mem_cons.mpr ⟨s_callV C hFok hF (ct_X7_isLicensed l D dA σ) ⟨rfl, rfl⟩ ew409 em_cl_X7 ew406 ew407 ew408 ew5 ⟨by decide, by decide, by decide +kernel⟩ ⟨by decide, by decide⟩ (by decide +kernel : decode c_X7_mayWed 16 = .ok (.invokevirtual 112, 3)) rfl rfl ⟨Nat.zero_le _, Nat.zero_le _⟩, ?_⟩
  refine List.forall_mem_cons.mpr ⟨s_zret C (by decide +kernel : decode c_X7_mayWed 19 = .ok (.ireturn, 1)) hret hlk ⟨Nat.le_refl 0, Nat.le_refl 0⟩, ?_⟩
  exact fun _ h => absurd h List.not_mem_nil
/-- how many below n -/
def cU (P : Nat → Bool) : Nat → Nat
  | 0 => 0
  | n + 1 => cU P n + (if P n = true then 1 else 0)
def cU2 (P : Nat → Nat → Bool) (n : Nat) : Nat → Nat
  | 0 => 0
  | a + 1 => cU2 P n a + cU (fun b => decide (a < b) && P a b) n
theorem cU_none {P : Nat → Bool} : ∀ {n : Nat}, (∀ j, j < n → P j = false) → cU P n = 0
  | 0, _ => rfl
  | n + 1, h => by rw [cU, cU_none (fun j hj => h j (by omega)), h n (by omega)]; rfl
theorem cU_le {P : Nat → Bool} : ∀ {n : Nat}, cU P n ≤ n
  | 0 => Nat.le_refl 0
  | n + 1 => by
    have := cU_le (P := P) (n := n)
    rw [cU]
    split <;> omega
def mwB (we lea mst : Int32) (m : Int64) (a b : Nat) : Bool := decide (¬ dst we (mo m (nI a)) (mo m (nI b)) < lea ∧ ¬ mst < dst we (mo m (nI a)) (mo m (nI b)))
theorem mwB_t {we lea mst : Int32} {m : Int64} {a b : Nat} (h : mwd we lea mst m (nI a) (nI b)) : mwB we lea mst m a b = true := decide_eq_true h
theorem mwB_f {we lea mst : Int32} {m : Int64} {a b : Nat} (h : ¬ mwd we lea mst m (nI a) (nI b)) : mwB we lea mst m a b = false := decide_eq_false h
theorem nI_at {pe p : Int32} {n : Nat} (hpe : pe = nI n) (h : hs pe p) : ∃ j, j < n ∧ p = nI j := by
  subst hpe
  obtain ⟨j, hj, rfl⟩ := nI_of h.1
  refine ⟨j, ?_, rfl⟩
  have : ¬ n ≤ j := fun z => h.2 (nI_le z hj)
  omega
theorem hs_nI {j n : Nat} (h : j < n) (hn : n < 2 ^ 31) : hs (nI n) (nI j) := ⟨nI_pos (by omega), nI_ge h hn⟩
theorem not_hs {n : Nat} {j : Nat} (h : n ≤ j) (hj : j < 2 ^ 31) : ¬ hs (nI n) (nI j) := fun z => z.2 (nI_le h hj)
def sp_X7_lawfulPairs : em_Sp := fun av hp Q => ∃ pe ki mi se we lea mst pa fi sd ev un ma ea co ca clt m n, av = [.ref 0, .long m] ∧ hp = (wT pe ki mi se we lea mst pa fi sd ev un ma ea co ca clt) ∧ pe = nI n ∧ n ≤ 6 ∧ Q (some (.int (nI (cU2 (mwB we lea mst m) n n)))) hp
def T_X7_lawfulPairs : List (Nat × em_Op) := [(0, o_iconst 0 1), (1, o_istore 3 2), (2, o_iconst 0 3), (3, o_istore 4 5), (5, o_iload 4 7), (7, o_aload 0 8), (8, o_getf 2 0 11), (11, o_icmpge 56 14), (14, o_iload 4 16), (16, o_iconst 1 17), (17, o_iadd 18), (18, o_istore 5 20), (20, o_iload 5 22), (22, o_aload 0 23), (23, o_getf 2 0 26), (26, o_icmpge 50 29), (29, o_aload 0 30), (30, o_lload 1 31), (31, o_iload 4 33), (33, o_iload 5 35), (35, o_call 4 (some 2) (sp_X7_mayWed) 38), (38, o_ifeq 44 41), (41, o_iinc 3 1 44), (44, o_iinc 5 1 47), (47, o_goto 20), (50, o_iinc 4 1 53), (53, o_goto 5), (56, o_iload 3 57), (57, o_iret)]
theorem me_X7_lawfulPairs : em_Me T_X7_lawfulPairs 6 sp_X7_lawfulPairs := by
  intro Q K hK hle av hp hs
  obtain ⟨pe, ki, mi, se, we, lea, mst, pa, fi, sd, ev, un, ma, ea, co, ca, clt, m, n, rfl, rfl, rfl, hn, hq⟩ := hs
  refine ⟨Nat.le_of_ble_eq_true rfl, ?_⟩
  have inner : ∀ (a : Nat), a < n → (K 5 [some (.ref 0), some (.long m), none, some (.int (nI (cU2 (mwB we lea mst m) n (a + 1)))), some (.int (nI (a + 1))), none] [] (wT (nI n) ki mi se we lea mst pa fi sd ev un ma ea co ca clt)) → ∀ (d b : Nat), b + d = n → a < b → K 20 [some (.ref 0), some (.long m), none, some (.int (nI (cU2 (mwB we lea mst m) n a + cU (fun j => decide (a < j) && mwB we lea mst m a j) b))), some (.int (nI a)), some (.int (nI b))] [] (wT (nI n) ki mi se we lea mst pa fi sd ev un ma ea co ca clt) := by
    intro a ha hk d
    induction d with
    | zero =>
      intro b hb hab
      have hb : b = n := by omega
      subst hb
      refine hK 12 99 20 _ _ _ ?_
      refine ⟨fun _ => ?_, fun h => absurd (nI_le (Nat.le_refl b) (by omega)) h⟩
      exact hle _ _ _ _ _ (by exact ⟨rfl, rfl, rfl, by rw [nI_1], trivial⟩) hk
    | succ d ih =>
      intro b hb hab
      refine hK 12 99 20 _ _ _ ?_
      refine ⟨fun h => absurd h (nI_ge (by omega) (by omega)), fun _ => ?_⟩
      refine ⟨_, _, _, _, _, _, _, _, _, _, _, _, _, _, _, _, _, _, _, _, rfl, rfl, fun z => ?_, fun z => ?_⟩
      · refine ⟨fun z => absurd z (by decide), fun _ => ?_⟩
        have := ih (b + 1) (by omega) (by omega)
        rw [cU, if_pos (by rw [decide_eq_true hab, mwB_t z]; rfl), ← Nat.add_assoc, ← nI_1, ← nI_1] at this
        exact this
      · refine ⟨fun _ => ?_, fun z => absurd z (by decide)⟩
        have := ih (b + 1) (by omega) (by omega)
        rw [cU, if_neg (by rw [mwB_f z]; simp), Nat.add_zero, ← nI_1] at this
        exact this
  have outer : ∀ (d a : Nat), a + d = n → K 5 [some (.ref 0), some (.long m), none, some (.int (nI (cU2 (mwB we lea mst m) n a))), some (.int (nI a)), none] [] (wT (nI n) ki mi se we lea mst pa fi sd ev un ma ea co ca clt) := by
    intro d
    induction d with
    | zero =>
      intro a ha
      have ha : a = n := by omega
      subst ha
      refine hK 4 99 5 _ _ _ ?_
      exact ⟨fun _ => hq, fun h => absurd (nI_le (Nat.le_refl a) (by omega)) h⟩
    | succ d ih =>
      intro a ha
      refine hK 4 8 5 _ _ _ ?_
      refine ⟨fun h => absurd h (nI_ge (by omega) (by omega)), fun _ => ?_⟩
      have := inner a (by omega) (ih (a + 1) (by omega)) (n - (a + 1)) (a + 1) (by omega) (by omega)
      rw [cU_none (n := a + 1) (fun j hj => by rw [decide_eq_false (by omega)]; rfl), Nat.add_zero, ← nI_1] at this
      exact this
  exact hK 0 4 0 _ _ _ (outer n 0 (by omega))
abbrev rm_X7_lawfulPairs : Room := { frames := 3, cells := 0, slots := 0, locals := 67 }
set_option maxRecDepth 100000 in
set_option maxHeartbeats 4000000 in
theorem ct_X7_lawfulPairs (l : Launch) (D : va_G) (dA : Nat → ClassId) (σ : Nat → Nat) : em_CT l D em_cl dA σ (em_F σ) y_X7_lawfulPairs c_X7_lawfulPairs 6 (Option.some ClassFile.FieldType.int) rm_X7_lawfulPairs (sp_X7_lawfulPairs ) := by
  refine em_CT_of (T := T_X7_lawfulPairs ) (em_F_ok σ) (by decide) (fun p e s m args below meth c A ρ Q C hFok hF hret hlk hin => ?_) (me_X7_lawfulPairs )
  unfold T_X7_lawfulPairs
  refine List.forall_mem_cons.mpr ⟨s_iconst C (by decide +kernel : decode c_X7_lawfulPairs 0 = .ok (.iconst 0, 1)) rfl rfl (by decide), ?_⟩
  refine List.forall_mem_cons.mpr ⟨s_istore_n C (by decide +kernel : decode c_X7_lawfulPairs 1 = .ok (.istore_n 3, 1)) rfl rfl rfl (by decide), ?_⟩
  refine List.forall_mem_cons.mpr ⟨s_iconst C (by decide +kernel : decode c_X7_lawfulPairs 2 = .ok (.iconst 0, 1)) rfl rfl (by decide), ?_⟩
  refine List.forall_mem_cons.mpr ⟨s_istore C (by decide +kernel : decode c_X7_lawfulPairs 3 = .ok (.istore 4, 2)) rfl rfl (by decide), ?_⟩
  refine List.forall_mem_cons.mpr ⟨s_iload C (by decide +kernel : decode c_X7_lawfulPairs 5 = .ok (.iload 4, 2)) rfl rfl, ?_⟩
  refine List.forall_mem_cons.mpr ⟨s_aload_n C (by decide +kernel : decode c_X7_lawfulPairs 7 = .ok (.aload_n 0, 1)) rfl rfl rfl, ?_⟩
  refine List.forall_mem_cons.mpr ⟨s_getf C (by decide +kernel : decode c_X7_lawfulPairs 8 = .ok (.getfield 38, 3)) rfl rfl em_cl_X7 (by decide) ew85 rfl, ?_⟩
  refine List.forall_mem_cons.mpr ⟨s_icmpge C (by decide +kernel : decode c_X7_lawfulPairs 11 = .ok (.if_icmp .ge 45, 3)) (by decide) rfl rfl rfl, ?_⟩
  refine List.forall_mem_cons.mpr ⟨s_iload C (by decide +kernel : decode c_X7_lawfulPairs 14 = .ok (.iload 4, 2)) rfl rfl, ?_⟩
  refine List.forall_mem_cons.mpr ⟨s_iconst C (by decide +kernel : decode c_X7_lawfulPairs 16 = .ok (.iconst 1, 1)) rfl rfl (by decide), ?_⟩
  refine List.forall_mem_cons.mpr ⟨s_iadd C (by decide +kernel : decode c_X7_lawfulPairs 17 = .ok (.iadd, 1)) rfl rfl, ?_⟩
  refine List.forall_mem_cons.mpr ⟨s_istore C (by decide +kernel : decode c_X7_lawfulPairs 18 = .ok (.istore 5, 2)) rfl rfl (by decide), ?_⟩
  refine List.forall_mem_cons.mpr ⟨s_iload C (by decide +kernel : decode c_X7_lawfulPairs 20 = .ok (.iload 5, 2)) rfl rfl, ?_⟩
  refine List.forall_mem_cons.mpr ⟨s_aload_n C (by decide +kernel : decode c_X7_lawfulPairs 22 = .ok (.aload_n 0, 1)) rfl rfl rfl, ?_⟩
  refine List.forall_mem_cons.mpr ⟨s_getf C (by decide +kernel : decode c_X7_lawfulPairs 23 = .ok (.getfield 38, 3)) rfl rfl em_cl_X7 (by decide) ew85 rfl, ?_⟩
  refine List.forall_mem_cons.mpr ⟨s_icmpge C (by decide +kernel : decode c_X7_lawfulPairs 26 = .ok (.if_icmp .ge 24, 3)) (by decide) rfl rfl rfl, ?_⟩
  refine List.forall_mem_cons.mpr ⟨s_aload_n C (by decide +kernel : decode c_X7_lawfulPairs 29 = .ok (.aload_n 0, 1)) rfl rfl rfl, ?_⟩
  refine List.forall_mem_cons.mpr ⟨s_lload_n C (by decide +kernel : decode c_X7_lawfulPairs 30 = .ok (.lload_n 1, 1)) rfl rfl rfl, ?_⟩
  refine List.forall_mem_cons.mpr ⟨s_iload C (by decide +kernel : decode c_X7_lawfulPairs 31 = .ok (.iload 4, 2)) rfl rfl, ?_⟩
  refine List.forall_mem_cons.mpr ⟨s_iload C (by decide +kernel : decode c_X7_lawfulPairs 33 = .ok (.iload 5, 2)) rfl rfl, ?_⟩
  refine List.forall_mem_cons.mpr ⟨s_callV C hFok hF (ct_X7_mayWed l D dA σ) ⟨rfl, rfl⟩ ew404 em_cl_X7 ew419 ew402 ew403 ew5 ⟨by decide, by decide, by decide +kernel⟩ ⟨by decide, by decide⟩ (by decide +kernel : decode c_X7_lawfulPairs 35 = .ok (.invokevirtual 115, 3)) rfl rfl ⟨Nat.zero_le _, Nat.zero_le _⟩, ?_⟩
  refine List.forall_mem_cons.mpr ⟨s_ifeq C (by decide +kernel : decode c_X7_lawfulPairs 38 = .ok (.ifCond .eq 6, 3)) (by decide) rfl rfl rfl, ?_⟩
  refine List.forall_mem_cons.mpr ⟨s_iinc C (by decide +kernel : decode c_X7_lawfulPairs 41 = .ok (.iinc 3 1, 3)) rfl rfl (by decide) (by decide), ?_⟩
  refine List.forall_mem_cons.mpr ⟨s_iinc C (by decide +kernel : decode c_X7_lawfulPairs 44 = .ok (.iinc 5 1, 3)) rfl rfl (by decide) (by decide), ?_⟩
  refine List.forall_mem_cons.mpr ⟨s_goto C (by decide +kernel : decode c_X7_lawfulPairs 47 = .ok (.goto (-27), 3)) (by decide) rfl, ?_⟩
  refine List.forall_mem_cons.mpr ⟨s_iinc C (by decide +kernel : decode c_X7_lawfulPairs 50 = .ok (.iinc 4 1, 3)) rfl rfl (by decide) (by decide), ?_⟩
  refine List.forall_mem_cons.mpr ⟨s_goto C (by decide +kernel : decode c_X7_lawfulPairs 53 = .ok (.goto (-48), 3)) (by decide) rfl, ?_⟩
  refine List.forall_mem_cons.mpr ⟨s_iload_n C (by decide +kernel : decode c_X7_lawfulPairs 56 = .ok (.iload_n 3, 1)) rfl rfl rfl, ?_⟩
  refine List.forall_mem_cons.mpr ⟨s_iret C (by decide +kernel : decode c_X7_lawfulPairs 57 = .ok (.ireturn, 1)) hret hlk ⟨Nat.le_refl 0, Nat.le_refl 0⟩, ?_⟩
  exact fun _ h => absurd h List.not_mem_nil
/-- bit a of s -/
def btI (s : Int32) (a : Nat) : Prop := (s >>> (nI a &&& 31)) &&& 1 = 1
def awd (we lea mst : Int32) (m : Int64) (n : Nat) (s : Int32) : Prop := ∀ a b, a < b → b < n → btI s a → btI s b → mwd we lea mst m (nI a) (nI b)
def sp_X7_mayAllWed : em_Sp := fun av hp Q => ∃ pe ki mi se we lea mst pa fi sd ev un ma ea co ca clt s n, av = [.ref 0, .int s] ∧ hp = (wT pe ki mi se we lea mst pa fi sd ev un ma ea co ca clt) ∧ pe = nI n ∧ n ≤ 6 ∧ (awd we lea mst mi n s → Q (some (.int 1)) hp) ∧ (¬ awd we lea mst mi n s → Q (some (.int 0)) hp)
def T_X7_mayAllWed : List (Nat × em_Op) := [(0, o_iconst 0 1), (1, o_istore 2 2), (2, o_iload 2 3), (3, o_aload 0 4), (4, o_getf 2 0 7), (7, o_icmpge 79 10), (10, o_iload 2 11), (11, o_iconst 1 12), (12, o_iadd 13), (13, o_istore 3 14), (14, o_iload 3 15), (15, o_aload 0 16), (16, o_getf 2 0 19), (19, o_icmpge 73 22), (22, o_iload 1 23), (23, o_iload 2 24), (24, o_ishr 25), (25, o_iconst 1 26), (26, o_iand 27), (27, o_iconst 1 28), (28, o_icmpne 44 31), (31, o_iload 1 32), (32, o_iload 3 33), (33, o_ishr 34), (34, o_iconst 1 35), (35, o_iand 36), (36, o_iconst 1 37), (37, o_icmpne 44 40), (40, o_iconst 1 41), (41, o_goto 45), (44, o_iconst 0 45), (45, o_istore 4 47), (47, o_iload 4 49), (49, o_ifeq 67 52), (52, o_aload 0 53), (53, o_aload 0 54), (54, o_getf 2 2 57), (57, o_iload 2 58), (58, o_iload 3 59), (59, o_call 4 (some 2) (sp_X7_mayWed) 62), (62, o_ifne 67 65), (65, o_iconst 0 66), (66, o_zret), (67, o_iinc 3 1 70), (70, o_goto 14), (73, o_iinc 2 1 76), (76, o_goto 2), (79, o_iconst 1 80), (80, o_zret)]
theorem me_X7_mayAllWed : em_Me T_X7_mayAllWed 5 sp_X7_mayAllWed := by
  intro Q K hK hle av hp hs
  obtain ⟨pe, ki, mi, se, we, lea, mst, pa, fi, sd, ev, un, ma, ea, co, ca, clt, s, n, rfl, rfl, rfl, hn, hq1, hq0⟩ := hs
  refine ⟨Nat.le_of_ble_eq_true rfl, ?_⟩
  have inner : ∀ (a : Nat), a < n → (∀ a', a' < a → ∀ b, a' < b → b < n → btI s a' → btI s b → mwd we lea mst mi (nI a') (nI b)) → ((∀ b, a < b → b < n → btI s a → btI s b → mwd we lea mst mi (nI a) (nI b)) → K 2 [some (.ref 0), some (.int s), some (.int (nI (a + 1))), none, none] [] (wT (nI n) ki mi se we lea mst pa fi sd ev un ma ea co ca clt)) → ∀ (d b : Nat), b + d = n → a < b → (∀ j, a < j → j < b → btI s a → btI s j → mwd we lea mst mi (nI a) (nI j)) → K 14 [some (.ref 0), some (.int s), some (.int (nI a)), some (.int (nI b)), none] [] (wT (nI n) ki mi se we lea mst pa fi sd ev un ma ea co ca clt) := by
    intro a ha hlt hk d
    induction d with
    | zero =>
      intro b hb hab hj
      have hb : b = n := by omega
      subst hb
      refine hK 10 99 14 _ _ _ ?_
      refine ⟨fun _ => ?_, fun h => absurd (nI_le (Nat.le_refl b) (by omega)) h⟩
      have := hk hj
      rw [← nI_1] at this
      exact hle _ _ _ _ _ (by exact ⟨rfl, rfl, rfl, trivial⟩) this
    | succ d ih =>
      intro b hb hab hj
      have next : (btI s a → btI s b → mwd we lea mst mi (nI a) (nI b)) → ∀ x, K 67 [some (.ref 0), some (.int s), some (.int (nI a)), some (.int (nI b)), x] [] (wT (nI n) ki mi se we lea mst pa fi sd ev un ma ea co ca clt) := by
        intro hb2 x
        have := ih (b + 1) (by omega) (by omega) (fun j h1 h2 => by
          rcases (by omega : j < b ∨ j = b) with z | z
          · exact hj j h1 z
          · subst z; exact hb2)
        rw [← nI_1] at this
        exact hK 43 2 67 _ _ _ (hle _ _ _ _ _ (by exact ⟨rfl, rfl, rfl, rfl, trivial⟩) this)
      refine hK 10 33 14 _ _ _ ?_
      refine ⟨fun h => absurd h (nI_ge (by omega) (by omega)), fun _ => ?_⟩
      refine ⟨fun h1 => ?_, fun h1 => ⟨fun h2 => ?_, fun h2 => ?_⟩⟩
      · exact ⟨fun _ => next (fun z => absurd z h1) _, fun z => absurd z (by decide)⟩
      · exact ⟨fun _ => next (fun _ z => absurd z h2) _, fun z => absurd z (by decide)⟩
      · refine ⟨fun z => absurd z (by decide), fun _ => ?_⟩
        refine ⟨_, _, _, _, _, _, _, _, _, _, _, _, _, _, _, _, _, _, _, _, rfl, rfl, fun z => ?_, fun z => ?_⟩
        · exact ⟨fun _ => next (fun _ _ => z) _, fun z => absurd z (by decide)⟩
        · exact ⟨fun z => absurd z (by decide), fun _ => ⟨Or.inl rfl, hq0 (fun y => z (y a b hab (by omega) h1 h2))⟩⟩
  have outer : ∀ (d a : Nat), a + d = n → (∀ a', a' < a → ∀ b, a' < b → b < n → btI s a' → btI s b → mwd we lea mst mi (nI a') (nI b)) → K 2 [some (.ref 0), some (.int s), some (.int (nI a)), none, none] [] (wT (nI n) ki mi se we lea mst pa fi sd ev un ma ea co ca clt) := by
    intro d
    induction d with
    | zero =>
      intro a ha hj
      have ha : a = n := by omega
      subst ha
      refine hK 2 99 2 _ _ _ ?_
      exact ⟨fun _ => ⟨Or.inr rfl, hq1 (fun x y h1 h2 => hj x (by omega) y h1 h2)⟩, fun h => absurd (nI_le (Nat.le_refl a) (by omega)) h⟩
    | succ d ih =>
      intro a ha hj
      refine hK 2 8 2 _ _ _ ?_
      refine ⟨fun h => absurd h (nI_ge (by omega) (by omega)), fun _ => ?_⟩
      have := inner a (by omega) hj (fun hb => ih (a + 1) (by omega) (fun a' h1 => by
        rcases (by omega : a' < a ∨ a' = a) with z | z
        · exact hj a' z
        · subst z; exact hb)) (n - (a + 1)) (a + 1) (by omega) (by omega) (fun j h1 h2 => by omega)
      rw [← nI_1] at this
      exact this
  exact hK 0 2 0 _ _ _ (outer n 0 (by omega) (fun a' h => by omega))
abbrev rm_X7_mayAllWed : Room := { frames := 3, cells := 0, slots := 0, locals := 67 }
set_option maxRecDepth 100000 in
set_option maxHeartbeats 4000000 in
theorem ct_X7_mayAllWed (l : Launch) (D : va_G) (dA : Nat → ClassId) (σ : Nat → Nat) : em_CT l D em_cl dA σ (em_F σ) y_X7_mayAllWed c_X7_mayAllWed 5 (Option.some ClassFile.FieldType.boolean) rm_X7_mayAllWed (sp_X7_mayAllWed ) := by
  refine em_CT_of (T := T_X7_mayAllWed ) (em_F_ok σ) (by decide) (fun p e s m args below meth c A ρ Q C hFok hF hret hlk hin => ?_) (me_X7_mayAllWed )
  unfold T_X7_mayAllWed
  refine List.forall_mem_cons.mpr ⟨s_iconst C (by decide +kernel : decode c_X7_mayAllWed 0 = .ok (.iconst 0, 1)) rfl rfl (by decide), ?_⟩
  refine List.forall_mem_cons.mpr ⟨s_istore_n C (by decide +kernel : decode c_X7_mayAllWed 1 = .ok (.istore_n 2, 1)) rfl rfl rfl (by decide), ?_⟩
  refine List.forall_mem_cons.mpr ⟨s_iload_n C (by decide +kernel : decode c_X7_mayAllWed 2 = .ok (.iload_n 2, 1)) rfl rfl rfl, ?_⟩
  refine List.forall_mem_cons.mpr ⟨s_aload_n C (by decide +kernel : decode c_X7_mayAllWed 3 = .ok (.aload_n 0, 1)) rfl rfl rfl, ?_⟩
  refine List.forall_mem_cons.mpr ⟨s_getf C (by decide +kernel : decode c_X7_mayAllWed 4 = .ok (.getfield 38, 3)) rfl rfl em_cl_X7 (by decide) ew85 rfl, ?_⟩
  refine List.forall_mem_cons.mpr ⟨s_icmpge C (by decide +kernel : decode c_X7_mayAllWed 7 = .ok (.if_icmp .ge 72, 3)) (by decide) rfl rfl rfl, ?_⟩
  refine List.forall_mem_cons.mpr ⟨s_iload_n C (by decide +kernel : decode c_X7_mayAllWed 10 = .ok (.iload_n 2, 1)) rfl rfl rfl, ?_⟩
  refine List.forall_mem_cons.mpr ⟨s_iconst C (by decide +kernel : decode c_X7_mayAllWed 11 = .ok (.iconst 1, 1)) rfl rfl (by decide), ?_⟩
  refine List.forall_mem_cons.mpr ⟨s_iadd C (by decide +kernel : decode c_X7_mayAllWed 12 = .ok (.iadd, 1)) rfl rfl, ?_⟩
  refine List.forall_mem_cons.mpr ⟨s_istore_n C (by decide +kernel : decode c_X7_mayAllWed 13 = .ok (.istore_n 3, 1)) rfl rfl rfl (by decide), ?_⟩
  refine List.forall_mem_cons.mpr ⟨s_iload_n C (by decide +kernel : decode c_X7_mayAllWed 14 = .ok (.iload_n 3, 1)) rfl rfl rfl, ?_⟩
  refine List.forall_mem_cons.mpr ⟨s_aload_n C (by decide +kernel : decode c_X7_mayAllWed 15 = .ok (.aload_n 0, 1)) rfl rfl rfl, ?_⟩
  refine List.forall_mem_cons.mpr ⟨s_getf C (by decide +kernel : decode c_X7_mayAllWed 16 = .ok (.getfield 38, 3)) rfl rfl em_cl_X7 (by decide) ew85 rfl, ?_⟩
  refine List.forall_mem_cons.mpr ⟨s_icmpge C (by decide +kernel : decode c_X7_mayAllWed 19 = .ok (.if_icmp .ge 54, 3)) (by decide) rfl rfl rfl, ?_⟩
  refine List.forall_mem_cons.mpr ⟨s_iload_n C (by decide +kernel : decode c_X7_mayAllWed 22 = .ok (.iload_n 1, 1)) rfl rfl rfl, ?_⟩
  refine List.forall_mem_cons.mpr ⟨s_iload_n C (by decide +kernel : decode c_X7_mayAllWed 23 = .ok (.iload_n 2, 1)) rfl rfl rfl, ?_⟩
  refine List.forall_mem_cons.mpr ⟨s_ishr C (by decide +kernel : decode c_X7_mayAllWed 24 = .ok (.ishr, 1)) rfl rfl, ?_⟩
  refine List.forall_mem_cons.mpr ⟨s_iconst C (by decide +kernel : decode c_X7_mayAllWed 25 = .ok (.iconst 1, 1)) rfl rfl (by decide), ?_⟩
  refine List.forall_mem_cons.mpr ⟨s_iand C (by decide +kernel : decode c_X7_mayAllWed 26 = .ok (.iand, 1)) rfl rfl, ?_⟩
  refine List.forall_mem_cons.mpr ⟨s_iconst C (by decide +kernel : decode c_X7_mayAllWed 27 = .ok (.iconst 1, 1)) rfl rfl (by decide), ?_⟩
  refine List.forall_mem_cons.mpr ⟨s_icmpne C (by decide +kernel : decode c_X7_mayAllWed 28 = .ok (.if_icmp .ne 16, 3)) (by decide) rfl rfl rfl, ?_⟩
  refine List.forall_mem_cons.mpr ⟨s_iload_n C (by decide +kernel : decode c_X7_mayAllWed 31 = .ok (.iload_n 1, 1)) rfl rfl rfl, ?_⟩
  refine List.forall_mem_cons.mpr ⟨s_iload_n C (by decide +kernel : decode c_X7_mayAllWed 32 = .ok (.iload_n 3, 1)) rfl rfl rfl, ?_⟩
  refine List.forall_mem_cons.mpr ⟨s_ishr C (by decide +kernel : decode c_X7_mayAllWed 33 = .ok (.ishr, 1)) rfl rfl, ?_⟩
  refine List.forall_mem_cons.mpr ⟨s_iconst C (by decide +kernel : decode c_X7_mayAllWed 34 = .ok (.iconst 1, 1)) rfl rfl (by decide), ?_⟩
  refine List.forall_mem_cons.mpr ⟨s_iand C (by decide +kernel : decode c_X7_mayAllWed 35 = .ok (.iand, 1)) rfl rfl, ?_⟩
  refine List.forall_mem_cons.mpr ⟨s_iconst C (by decide +kernel : decode c_X7_mayAllWed 36 = .ok (.iconst 1, 1)) rfl rfl (by decide), ?_⟩
  refine List.forall_mem_cons.mpr ⟨s_icmpne C (by decide +kernel : decode c_X7_mayAllWed 37 = .ok (.if_icmp .ne 7, 3)) (by decide) rfl rfl rfl, ?_⟩
  refine List.forall_mem_cons.mpr ⟨s_iconst C (by decide +kernel : decode c_X7_mayAllWed 40 = .ok (.iconst 1, 1)) rfl rfl (by decide), ?_⟩
  refine List.forall_mem_cons.mpr ⟨s_goto C (by decide +kernel : decode c_X7_mayAllWed 41 = .ok (.goto 4, 3)) (by decide) rfl, ?_⟩
  refine List.forall_mem_cons.mpr ⟨s_iconst C (by decide +kernel : decode c_X7_mayAllWed 44 = .ok (.iconst 0, 1)) rfl rfl (by decide), ?_⟩
  refine List.forall_mem_cons.mpr ⟨s_istore C (by decide +kernel : decode c_X7_mayAllWed 45 = .ok (.istore 4, 2)) rfl rfl (by decide), ?_⟩
  refine List.forall_mem_cons.mpr ⟨s_iload C (by decide +kernel : decode c_X7_mayAllWed 47 = .ok (.iload 4, 2)) rfl rfl, ?_⟩
  refine List.forall_mem_cons.mpr ⟨s_ifeq C (by decide +kernel : decode c_X7_mayAllWed 49 = .ok (.ifCond .eq 18, 3)) (by decide) rfl rfl rfl, ?_⟩
  refine List.forall_mem_cons.mpr ⟨s_aload_n C (by decide +kernel : decode c_X7_mayAllWed 52 = .ok (.aload_n 0, 1)) rfl rfl rfl, ?_⟩
  refine List.forall_mem_cons.mpr ⟨s_aload_n C (by decide +kernel : decode c_X7_mayAllWed 53 = .ok (.aload_n 0, 1)) rfl rfl rfl, ?_⟩
  refine List.forall_mem_cons.mpr ⟨s_getf C (by decide +kernel : decode c_X7_mayAllWed 54 = .ok (.getfield 42, 3)) rfl rfl em_cl_X7 (by decide) ew91 rfl, ?_⟩
  refine List.forall_mem_cons.mpr ⟨s_iload_n C (by decide +kernel : decode c_X7_mayAllWed 57 = .ok (.iload_n 2, 1)) rfl rfl rfl, ?_⟩
  refine List.forall_mem_cons.mpr ⟨s_iload_n C (by decide +kernel : decode c_X7_mayAllWed 58 = .ok (.iload_n 3, 1)) rfl rfl rfl, ?_⟩
  refine List.forall_mem_cons.mpr ⟨s_callV C hFok hF (ct_X7_mayWed l D dA σ) ⟨rfl, rfl⟩ ew404 em_cl_X7 ew419 ew402 ew403 ew5 ⟨by decide, by decide, by decide +kernel⟩ ⟨by decide, by decide⟩ (by decide +kernel : decode c_X7_mayAllWed 59 = .ok (.invokevirtual 115, 3)) rfl rfl ⟨Nat.zero_le _, Nat.zero_le _⟩, ?_⟩
  refine List.forall_mem_cons.mpr ⟨s_ifne C (by decide +kernel : decode c_X7_mayAllWed 62 = .ok (.ifCond .ne 5, 3)) (by decide) rfl rfl rfl, ?_⟩
  refine List.forall_mem_cons.mpr ⟨s_iconst C (by decide +kernel : decode c_X7_mayAllWed 65 = .ok (.iconst 0, 1)) rfl rfl (by decide), ?_⟩
  refine List.forall_mem_cons.mpr ⟨s_zret C (by decide +kernel : decode c_X7_mayAllWed 66 = .ok (.ireturn, 1)) hret hlk ⟨Nat.le_refl 0, Nat.le_refl 0⟩, ?_⟩
  refine List.forall_mem_cons.mpr ⟨s_iinc C (by decide +kernel : decode c_X7_mayAllWed 67 = .ok (.iinc 3 1, 3)) rfl rfl (by decide) (by decide), ?_⟩
  refine List.forall_mem_cons.mpr ⟨s_goto C (by decide +kernel : decode c_X7_mayAllWed 70 = .ok (.goto (-56), 3)) (by decide) rfl, ?_⟩
  refine List.forall_mem_cons.mpr ⟨s_iinc C (by decide +kernel : decode c_X7_mayAllWed 73 = .ok (.iinc 2 1, 3)) rfl rfl (by decide) (by decide), ?_⟩
  refine List.forall_mem_cons.mpr ⟨s_goto C (by decide +kernel : decode c_X7_mayAllWed 76 = .ok (.goto (-74), 3)) (by decide) rfl, ?_⟩
  refine List.forall_mem_cons.mpr ⟨s_iconst C (by decide +kernel : decode c_X7_mayAllWed 79 = .ok (.iconst 1, 1)) rfl rfl (by decide), ?_⟩
  refine List.forall_mem_cons.mpr ⟨s_zret C (by decide +kernel : decode c_X7_mayAllWed 80 = .ok (.ireturn, 1)) hret hlk ⟨Nat.le_refl 0, Nat.le_refl 0⟩, ?_⟩
  exact fun _ h => absurd h List.not_mem_nil
def dif (m : Int64) (a b : Int32) : Int32 := mo m a ^^^ mo m b
def lig (we : Int32) (m : Int64) (a b : Int32) : Int32 := dif m a b &&& (we ^^^ (-1))
def mat (we : Int32) (m : Int64) (a b : Int32) : Int32 := lob (if lig we m a b = 0 then dif m a b else lig we m a b)
def isw (we : Int32) (m : Int64) (a b : Int32) : Int32 := if lig we m a b = 0 then 1 else 0
def ltI (a b : Int32) : Int32 := if b ≤ a then 0 else 1
/-- what all think behind a talk of two who are there -/
def btk (ki : Nat → Int32) (we : Int32) (m : Int64) (a b : Nat) : Int64 := if mat we m (nI a) (nI b) = 0 then m else
  mw (mw m (nI a) (hrd (ki a) (mo m (nI a)) (mo m (nI b)) (ltI (nI b) (nI a)) (mat we m (nI a) (nI b)) (isw we m (nI a) (nI b)))) (nI b) (hrd (ki b) (mo m (nI b)) (mo m (nI a)) (ltI (nI a) (nI b)) (mat we m (nI a) (nI b)) (isw we m (nI a) (nI b)))
def sp_X7_behindTalk : em_Sp := fun av hp Q => ∃ pe ki mi se we lea mst pa fi sd ev un ma ea co ca clt m a b n, av = [.ref 0, .long m, .int a, .int b] ∧ hp = (wT pe ki mi se we lea mst pa fi sd ev un ma ea co ca clt) ∧ pe = nI n ∧ n ≤ 6 ∧ (¬ h2 pe a b → Q (some (.long m)) hp) ∧ (∀ i j, a = nI i → b = nI j → i < n → j < n → i ≠ j → Q (some (.long (btk ki we m i j))) hp)
def T_X7_behindTalk : List (Nat × em_Op) := [(0, o_aload 0 1), (1, o_iload 3 2), (2, o_iload 4 4), (4, o_call 3 (some 2) (sp_X7_hasTwo) 7), (7, o_ifne 12 10), (10, o_lload 1 11), (11, o_lret), (12, o_lload 1 13), (13, o_iload 3 14), (14, o_call 2 none (sp_X5_of) 17), (17, o_istore 5 19), (19, o_lload 1 20), (20, o_iload 4 22), (22, o_call 2 none (sp_X5_of) 25), (25, o_istore 6 27), (27, o_iload 5 29), (29, o_iload 6 31), (31, o_ixor 32), (32, o_istore 7 34), (34, o_iload 7 36), (36, o_aload 0 37), (37, o_getf 2 4 40), (40, o_iconst (-1) 41), (41, o_ixor 42), (42, o_iand 43), (43, o_istore 8 45), (45, o_iload 8 47), (47, o_ifeq 55 50), (50, o_iload 8 52), (52, o_goto 57), (55, o_iload 7 57), (57, o_call 1 none (sp_J6_lowestOneBit_0f7a4) 60), (60, o_istore 9 62), (62, o_iload 9 64), (64, o_ifne 69 67), (67, o_lload 1 68), (68, o_lret), (69, o_iload 8 71), (71, o_ifne 78 74), (74, o_iconst 1 75), (75, o_goto 79), (78, o_iconst 0 79), (79, o_istore 10 81), (81, o_aload 0 82), (82, o_getf 2 1 85), (85, o_iload 3 86), (86, o_aldI 0 87), (87, o_iload 5 89), (89, o_iload 6 91), (91, o_iload 4 93), (93, o_iload 3 94), (94, o_icmpge 101 97), (97, o_iconst 1 98), (98, o_goto 102), (101, o_iconst 0 102), (102, o_iload 9 104), (104, o_iload 10 106), (106, o_call 6 none (sp_X3_heard) 109), (109, o_istore 11 111), (111, o_aload 0 112), (112, o_getf 2 1 115), (115, o_iload 4 117), (117, o_aldI 0 118), (118, o_iload 6 120), (120, o_iload 5 122), (122, o_iload 3 123), (123, o_iload 4 125), (125, o_icmpge 132 128), (128, o_iconst 1 129), (129, o_goto 133), (132, o_iconst 0 133), (133, o_iload 9 135), (135, o_iload 10 137), (137, o_call 6 none (sp_X3_heard) 140), (140, o_istore 12 142), (142, o_lload 1 143), (143, o_iload 3 144), (144, o_iload 11 146), (146, o_call 3 none (sp_X5_with) 149), (149, o_iload 4 151), (151, o_iload 12 153), (153, o_call 3 none (sp_X5_with) 156), (156, o_lret)]
theorem me_X7_behindTalk : em_Me T_X7_behindTalk 13 sp_X7_behindTalk := by
  intro Q K hK hle av hp hs
  obtain ⟨pe, ki, mi, se, we, lea, mst, pa, fi, sd, ev, un, ma, ea, co, ca, clt, m, a, b, n, rfl, rfl, rfl, hn, hq0, hq1⟩ := hs
  refine ⟨Nat.le_of_ble_eq_true rfl, ?_⟩
  refine hK 0 15 0 _ _ _ ?_
  refine ⟨_, _, _, _, _, _, _, _, _, _, _, _, _, _, _, _, _, _, _, rfl, rfl, fun h => ?_, fun h => ?_⟩
  · refine ⟨fun _ => ?_, fun z => absurd z (by decide)⟩
    obtain ⟨i, hi, rfl⟩ := nI_at rfl h.1
    obtain ⟨j, hj, rfl⟩ := nI_at rfl h.2.1
    have hij : i ≠ j := fun z => h.2.2 (by rw [z])
    have hq := hq1 i j rfl rfl hi hj hij
    refine ⟨_, _, rfl, _, _, rfl, ?_⟩
    have tail : ∀ (w9 : Int32) (h9 : ¬ mat we m (nI i) (nI j) = 0) (hw : w9 = isw we m (nI i) (nI j)), K 79 [some (.ref 0), some (.long m), none, some (.int (nI i)), some (.int (nI j)), some (.int (mo m (nI i))), some (.int (mo m (nI j))), some (.int (dif m (nI i) (nI j))), some (.int (lig we m (nI i) (nI j))), some (.int (mat we m (nI i) (nI j))), none, none, none] [.int w9] (wT (nI n) ki mi se we lea mst pa fi sd ev un ma ea co ca clt) := by
      intro w9 h9 hw
      subst hw
      rw [btk, if_neg h9] at hq
      have second : K 133 [some (.ref 0), some (.long m), none, some (.int (nI i)), some (.int (nI j)), some (.int (mo m (nI i))), some (.int (mo m (nI j))), some (.int (dif m (nI i) (nI j))), some (.int (lig we m (nI i) (nI j))), some (.int (mat we m (nI i) (nI j))), some (.int (isw we m (nI i) (nI j))), some (.int (hrd (ki i) (mo m (nI i)) (mo m (nI j)) (ltI (nI j) (nI i)) (mat we m (nI i) (nI j)) (isw we m (nI i) (nI j)))), none] [.int (ltI (nI i) (nI j)), .int (mo m (nI i)), .int (mo m (nI j)), .int (ki j)] (wT (nI n) ki mi se we lea mst pa fi sd ev un ma ea co ca clt) := by
        refine hK 71 99 133 _ _ _ ?_
        exact ⟨_, _, _, _, _, _, rfl, _, _, _, rfl, _, _, _, rfl, hq⟩
      have first : K 102 [some (.ref 0), some (.long m), none, some (.int (nI i)), some (.int (nI j)), some (.int (mo m (nI i))), some (.int (mo m (nI j))), some (.int (dif m (nI i) (nI j))), some (.int (lig we m (nI i) (nI j))), some (.int (mat we m (nI i) (nI j))), some (.int (isw we m (nI i) (nI j))), none, none] [.int (ltI (nI j) (nI i)), .int (mo m (nI j)), .int (mo m (nI i)), .int (ki i)] (wT (nI n) ki mi se we lea mst pa fi sd ev un ma ea co ca clt) := by
        refine hK 55 16 102 _ _ _ ?_
        refine ⟨_, _, _, _, _, _, rfl, ?_⟩
        refine ⟨j, rfl, by omega, ?_⟩
        refine ⟨fun z => ?_, fun z => ?_⟩
        · rw [show ltI (nI i) (nI j) = 0 from if_pos z] at second; exact second
        · rw [show ltI (nI i) (nI j) = 1 from if_neg z] at second; exact second
      refine hK 42 13 79 _ _ _ ?_
      refine ⟨i, rfl, by omega, ?_⟩
      refine ⟨fun z => ?_, fun z => ?_⟩
      · rw [show ltI (nI j) (nI i) = 0 from if_pos z] at first; exact first
      · rw [show ltI (nI j) (nI i) = 1 from if_neg z] at first; exact first
    have mid : ∀ x, x = (if lig we m (nI i) (nI j) = 0 then dif m (nI i) (nI j) else lig we m (nI i) (nI j)) → K 57 [some (.ref 0), some (.long m), none, some (.int (nI i)), some (.int (nI j)), some (.int (mo m (nI i))), some (.int (mo m (nI j))), some (.int (dif m (nI i) (nI j))), some (.int (lig we m (nI i) (nI j))), none, none, none, none] [.int x] (wT (nI n) ki mi se we lea mst pa fi sd ev un ma ea co ca clt) := by
      intro x hx
      subst hx
      refine hK 31 11 57 _ _ _ ?_
      refine ⟨_, rfl, ?_⟩
      refine ⟨fun z => ?_, fun z => ?_⟩
      · refine ⟨fun y => ?_, fun y => ?_⟩
        · exact tail _ z (by rw [isw, if_neg y])
        · exact tail _ z (by rw [isw, if_pos y])
      · rw [btk, if_pos (show mat we m (nI i) (nI j) = 0 from z)] at hq; exact hq
    refine hK 15 16 27 _ _ _ ?_
    refine ⟨fun z => ?_, fun z => ?_⟩
    · exact mid _ (by rw [if_pos (show lig we m (nI i) (nI j) = 0 from z)]; rfl)
    · exact mid _ (by rw [if_neg (show ¬ lig we m (nI i) (nI j) = 0 from z)]; rfl)
  · exact ⟨fun z => absurd rfl z, fun _ => hq0 h⟩
abbrev rm_X7_behindTalk : Room := { frames := 4, cells := 0, slots := 0, locals := 94 }
set_option maxRecDepth 100000 in
set_option maxHeartbeats 4000000 in
theorem ct_X7_behindTalk (l : Launch) (D : va_G) (dA : Nat → ClassId) (σ : Nat → Nat) : em_CT l D em_cl dA σ (em_F σ) y_X7_behindTalk c_X7_behindTalk 13 (Option.some ClassFile.FieldType.long) rm_X7_behindTalk (sp_X7_behindTalk ) := by
  refine em_CT_of (T := T_X7_behindTalk ) (em_F_ok σ) (by decide) (fun p e s m args below meth c A ρ Q C hFok hF hret hlk hin => ?_) (me_X7_behindTalk )
  unfold T_X7_behindTalk
  refine List.forall_mem_cons.mpr ⟨s_aload_n C (by decide +kernel : decode c_X7_behindTalk 0 = .ok (.aload_n 0, 1)) rfl rfl rfl, ?_⟩
  refine List.forall_mem_cons.mpr ⟨s_iload_n C (by decide +kernel : decode c_X7_behindTalk 1 = .ok (.iload_n 3, 1)) rfl rfl rfl, ?_⟩
  refine List.forall_mem_cons.mpr ⟨s_iload C (by decide +kernel : decode c_X7_behindTalk 2 = .ok (.iload 4, 2)) rfl rfl, ?_⟩
  refine List.forall_mem_cons.mpr ⟨s_callV C hFok hF (ct_X7_hasTwo l D dA σ) ⟨rfl, rfl⟩ ew254 em_cl_X7 ew251 ew252 ew253 ew5 ⟨by decide, by decide, by decide +kernel⟩ ⟨by decide, by decide⟩ (by decide +kernel : decode c_X7_behindTalk 4 = .ok (.invokevirtual 98, 3)) rfl rfl ⟨Nat.zero_le _, Nat.zero_le _⟩, ?_⟩
  refine List.forall_mem_cons.mpr ⟨s_ifne C (by decide +kernel : decode c_X7_behindTalk 7 = .ok (.ifCond .ne 5, 3)) (by decide) rfl rfl rfl, ?_⟩
  refine List.forall_mem_cons.mpr ⟨s_lload_n C (by decide +kernel : decode c_X7_behindTalk 10 = .ok (.lload_n 1, 1)) rfl rfl rfl, ?_⟩
  refine List.forall_mem_cons.mpr ⟨s_lret C (by decide +kernel : decode c_X7_behindTalk 11 = .ok (.lreturn, 1)) hret hlk ⟨Nat.le_refl 0, Nat.le_refl 0⟩, ?_⟩
  refine List.forall_mem_cons.mpr ⟨s_lload_n C (by decide +kernel : decode c_X7_behindTalk 12 = .ok (.lload_n 1, 1)) rfl rfl rfl, ?_⟩
  refine List.forall_mem_cons.mpr ⟨s_iload_n C (by decide +kernel : decode c_X7_behindTalk 13 = .ok (.iload_n 3, 1)) rfl rfl rfl, ?_⟩
  refine List.forall_mem_cons.mpr ⟨s_callS C hFok hF (ct_X5_of l D dA σ) ⟨rfl, rfl⟩ ew216 ew214 ew215 ew8 ⟨by decide, by decide, by decide +kernel⟩ ⟨by decide, by decide⟩ (by decide +kernel : decode c_X7_behindTalk 14 = .ok (.invokestatic 94, 3)) rfl rfl ⟨Nat.zero_le _, Nat.zero_le _⟩, ?_⟩
  refine List.forall_mem_cons.mpr ⟨s_istore C (by decide +kernel : decode c_X7_behindTalk 17 = .ok (.istore 5, 2)) rfl rfl (by decide), ?_⟩
  refine List.forall_mem_cons.mpr ⟨s_lload_n C (by decide +kernel : decode c_X7_behindTalk 19 = .ok (.lload_n 1, 1)) rfl rfl rfl, ?_⟩
  refine List.forall_mem_cons.mpr ⟨s_iload C (by decide +kernel : decode c_X7_behindTalk 20 = .ok (.iload 4, 2)) rfl rfl, ?_⟩
  refine List.forall_mem_cons.mpr ⟨s_callS C hFok hF (ct_X5_of l D dA σ) ⟨rfl, rfl⟩ ew216 ew214 ew215 ew8 ⟨by decide, by decide, by decide +kernel⟩ ⟨by decide, by decide⟩ (by decide +kernel : decode c_X7_behindTalk 22 = .ok (.invokestatic 94, 3)) rfl rfl ⟨Nat.zero_le _, Nat.zero_le _⟩, ?_⟩
  refine List.forall_mem_cons.mpr ⟨s_istore C (by decide +kernel : decode c_X7_behindTalk 25 = .ok (.istore 6, 2)) rfl rfl (by decide), ?_⟩
  refine List.forall_mem_cons.mpr ⟨s_iload C (by decide +kernel : decode c_X7_behindTalk 27 = .ok (.iload 5, 2)) rfl rfl, ?_⟩
  refine List.forall_mem_cons.mpr ⟨s_iload C (by decide +kernel : decode c_X7_behindTalk 29 = .ok (.iload 6, 2)) rfl rfl, ?_⟩
  refine List.forall_mem_cons.mpr ⟨s_ixor C (by decide +kernel : decode c_X7_behindTalk 31 = .ok (.ixor, 1)) rfl rfl, ?_⟩
  refine List.forall_mem_cons.mpr ⟨s_istore C (by decide +kernel : decode c_X7_behindTalk 32 = .ok (.istore 7, 2)) rfl rfl (by decide), ?_⟩
  refine List.forall_mem_cons.mpr ⟨s_iload C (by decide +kernel : decode c_X7_behindTalk 34 = .ok (.iload 7, 2)) rfl rfl, ?_⟩
  refine List.forall_mem_cons.mpr ⟨s_aload_n C (by decide +kernel : decode c_X7_behindTalk 36 = .ok (.aload_n 0, 1)) rfl rfl rfl, ?_⟩
  refine List.forall_mem_cons.mpr ⟨s_getf C (by decide +kernel : decode c_X7_behindTalk 37 = .ok (.getfield 49, 3)) rfl rfl em_cl_X7 (by decide) ew97 rfl, ?_⟩
  refine List.forall_mem_cons.mpr ⟨s_iconst C (by decide +kernel : decode c_X7_behindTalk 40 = .ok (.iconst (-1), 1)) rfl rfl (by decide), ?_⟩
  refine List.forall_mem_cons.mpr ⟨s_ixor C (by decide +kernel : decode c_X7_behindTalk 41 = .ok (.ixor, 1)) rfl rfl, ?_⟩
  refine List.forall_mem_cons.mpr ⟨s_iand C (by decide +kernel : decode c_X7_behindTalk 42 = .ok (.iand, 1)) rfl rfl, ?_⟩
  refine List.forall_mem_cons.mpr ⟨s_istore C (by decide +kernel : decode c_X7_behindTalk 43 = .ok (.istore 8, 2)) rfl rfl (by decide), ?_⟩
  refine List.forall_mem_cons.mpr ⟨s_iload C (by decide +kernel : decode c_X7_behindTalk 45 = .ok (.iload 8, 2)) rfl rfl, ?_⟩
  refine List.forall_mem_cons.mpr ⟨s_ifeq C (by decide +kernel : decode c_X7_behindTalk 47 = .ok (.ifCond .eq 8, 3)) (by decide) rfl rfl rfl, ?_⟩
  refine List.forall_mem_cons.mpr ⟨s_iload C (by decide +kernel : decode c_X7_behindTalk 50 = .ok (.iload 8, 2)) rfl rfl, ?_⟩
  refine List.forall_mem_cons.mpr ⟨s_goto C (by decide +kernel : decode c_X7_behindTalk 52 = .ok (.goto 5, 3)) (by decide) rfl, ?_⟩
  refine List.forall_mem_cons.mpr ⟨s_iload C (by decide +kernel : decode c_X7_behindTalk 55 = .ok (.iload 7, 2)) rfl rfl, ?_⟩
  refine List.forall_mem_cons.mpr ⟨s_callS C hFok hF (ct_J6_lowestOneBit_0f7a4 l D dA σ) ⟨rfl, rfl⟩ ew441 ew439 ew440 ew13 ⟨by decide, by decide, by decide +kernel⟩ ⟨by decide, by decide⟩ (by decide +kernel : decode c_X7_behindTalk 57 = .ok (.invokestatic 119, 3)) rfl rfl ⟨Nat.zero_le _, Nat.zero_le _⟩, ?_⟩
  refine List.forall_mem_cons.mpr ⟨s_istore C (by decide +kernel : decode c_X7_behindTalk 60 = .ok (.istore 9, 2)) rfl rfl (by decide), ?_⟩
  refine List.forall_mem_cons.mpr ⟨s_iload C (by decide +kernel : decode c_X7_behindTalk 62 = .ok (.iload 9, 2)) rfl rfl, ?_⟩
  refine List.forall_mem_cons.mpr ⟨s_ifne C (by decide +kernel : decode c_X7_behindTalk 64 = .ok (.ifCond .ne 5, 3)) (by decide) rfl rfl rfl, ?_⟩
  refine List.forall_mem_cons.mpr ⟨s_lload_n C (by decide +kernel : decode c_X7_behindTalk 67 = .ok (.lload_n 1, 1)) rfl rfl rfl, ?_⟩
  refine List.forall_mem_cons.mpr ⟨s_lret C (by decide +kernel : decode c_X7_behindTalk 68 = .ok (.lreturn, 1)) hret hlk ⟨Nat.le_refl 0, Nat.le_refl 0⟩, ?_⟩
  refine List.forall_mem_cons.mpr ⟨s_iload C (by decide +kernel : decode c_X7_behindTalk 69 = .ok (.iload 8, 2)) rfl rfl, ?_⟩
  refine List.forall_mem_cons.mpr ⟨s_ifne C (by decide +kernel : decode c_X7_behindTalk 71 = .ok (.ifCond .ne 7, 3)) (by decide) rfl rfl rfl, ?_⟩
  refine List.forall_mem_cons.mpr ⟨s_iconst C (by decide +kernel : decode c_X7_behindTalk 74 = .ok (.iconst 1, 1)) rfl rfl (by decide), ?_⟩
  refine List.forall_mem_cons.mpr ⟨s_goto C (by decide +kernel : decode c_X7_behindTalk 75 = .ok (.goto 4, 3)) (by decide) rfl, ?_⟩
  refine List.forall_mem_cons.mpr ⟨s_iconst C (by decide +kernel : decode c_X7_behindTalk 78 = .ok (.iconst 0, 1)) rfl rfl (by decide), ?_⟩
  refine List.forall_mem_cons.mpr ⟨s_istore C (by decide +kernel : decode c_X7_behindTalk 79 = .ok (.istore 10, 2)) rfl rfl (by decide), ?_⟩
  refine List.forall_mem_cons.mpr ⟨s_aload_n C (by decide +kernel : decode c_X7_behindTalk 81 = .ok (.aload_n 0, 1)) rfl rfl rfl, ?_⟩
  refine List.forall_mem_cons.mpr ⟨s_getf C (by decide +kernel : decode c_X7_behindTalk 82 = .ok (.getfield 9, 3)) rfl rfl em_cl_X7 (by decide) ew89 rfl, ?_⟩
  refine List.forall_mem_cons.mpr ⟨s_iload_n C (by decide +kernel : decode c_X7_behindTalk 85 = .ok (.iload_n 3, 1)) rfl rfl rfl, ?_⟩
  refine List.forall_mem_cons.mpr ⟨s_iald C (by decide +kernel : decode c_X7_behindTalk 86 = .ok (.iaload, 1)) rfl rfl, ?_⟩
  refine List.forall_mem_cons.mpr ⟨s_iload C (by decide +kernel : decode c_X7_behindTalk 87 = .ok (.iload 5, 2)) rfl rfl, ?_⟩
  refine List.forall_mem_cons.mpr ⟨s_iload C (by decide +kernel : decode c_X7_behindTalk 89 = .ok (.iload 6, 2)) rfl rfl, ?_⟩
  refine List.forall_mem_cons.mpr ⟨s_iload C (by decide +kernel : decode c_X7_behindTalk 91 = .ok (.iload 4, 2)) rfl rfl, ?_⟩
  refine List.forall_mem_cons.mpr ⟨s_iload_n C (by decide +kernel : decode c_X7_behindTalk 93 = .ok (.iload_n 3, 1)) rfl rfl rfl, ?_⟩
  refine List.forall_mem_cons.mpr ⟨s_icmpge C (by decide +kernel : decode c_X7_behindTalk 94 = .ok (.if_icmp .ge 7, 3)) (by decide) rfl rfl rfl, ?_⟩
  refine List.forall_mem_cons.mpr ⟨s_iconst C (by decide +kernel : decode c_X7_behindTalk 97 = .ok (.iconst 1, 1)) rfl rfl (by decide), ?_⟩
  refine List.forall_mem_cons.mpr ⟨s_goto C (by decide +kernel : decode c_X7_behindTalk 98 = .ok (.goto 4, 3)) (by decide) rfl, ?_⟩
  refine List.forall_mem_cons.mpr ⟨s_iconst C (by decide +kernel : decode c_X7_behindTalk 101 = .ok (.iconst 0, 1)) rfl rfl (by decide), ?_⟩
  refine List.forall_mem_cons.mpr ⟨s_iload C (by decide +kernel : decode c_X7_behindTalk 102 = .ok (.iload 9, 2)) rfl rfl, ?_⟩
  refine List.forall_mem_cons.mpr ⟨s_iload C (by decide +kernel : decode c_X7_behindTalk 104 = .ok (.iload 10, 2)) rfl rfl, ?_⟩
  refine List.forall_mem_cons.mpr ⟨s_callS C hFok hF (ct_X3_heard l D dA σ) ⟨rfl, rfl⟩ ew444 ew442 ew443 ew7 ⟨by decide, by decide, by decide +kernel⟩ ⟨by decide, by decide⟩ (by decide +kernel : decode c_X7_behindTalk 106 = .ok (.invokestatic 122, 3)) rfl rfl ⟨Nat.zero_le _, Nat.zero_le _⟩, ?_⟩
  refine List.forall_mem_cons.mpr ⟨s_istore C (by decide +kernel : decode c_X7_behindTalk 109 = .ok (.istore 11, 2)) rfl rfl (by decide), ?_⟩
  refine List.forall_mem_cons.mpr ⟨s_aload_n C (by decide +kernel : decode c_X7_behindTalk 111 = .ok (.aload_n 0, 1)) rfl rfl rfl, ?_⟩
  refine List.forall_mem_cons.mpr ⟨s_getf C (by decide +kernel : decode c_X7_behindTalk 112 = .ok (.getfield 9, 3)) rfl rfl em_cl_X7 (by decide) ew89 rfl, ?_⟩
  refine List.forall_mem_cons.mpr ⟨s_iload C (by decide +kernel : decode c_X7_behindTalk 115 = .ok (.iload 4, 2)) rfl rfl, ?_⟩
  refine List.forall_mem_cons.mpr ⟨s_iald C (by decide +kernel : decode c_X7_behindTalk 117 = .ok (.iaload, 1)) rfl rfl, ?_⟩
  refine List.forall_mem_cons.mpr ⟨s_iload C (by decide +kernel : decode c_X7_behindTalk 118 = .ok (.iload 6, 2)) rfl rfl, ?_⟩
  refine List.forall_mem_cons.mpr ⟨s_iload C (by decide +kernel : decode c_X7_behindTalk 120 = .ok (.iload 5, 2)) rfl rfl, ?_⟩
  refine List.forall_mem_cons.mpr ⟨s_iload_n C (by decide +kernel : decode c_X7_behindTalk 122 = .ok (.iload_n 3, 1)) rfl rfl rfl, ?_⟩
  refine List.forall_mem_cons.mpr ⟨s_iload C (by decide +kernel : decode c_X7_behindTalk 123 = .ok (.iload 4, 2)) rfl rfl, ?_⟩
  refine List.forall_mem_cons.mpr ⟨s_icmpge C (by decide +kernel : decode c_X7_behindTalk 125 = .ok (.if_icmp .ge 7, 3)) (by decide) rfl rfl rfl, ?_⟩
  refine List.forall_mem_cons.mpr ⟨s_iconst C (by decide +kernel : decode c_X7_behindTalk 128 = .ok (.iconst 1, 1)) rfl rfl (by decide), ?_⟩
  refine List.forall_mem_cons.mpr ⟨s_goto C (by decide +kernel : decode c_X7_behindTalk 129 = .ok (.goto 4, 3)) (by decide) rfl, ?_⟩
  refine List.forall_mem_cons.mpr ⟨s_iconst C (by decide +kernel : decode c_X7_behindTalk 132 = .ok (.iconst 0, 1)) rfl rfl (by decide), ?_⟩
  refine List.forall_mem_cons.mpr ⟨s_iload C (by decide +kernel : decode c_X7_behindTalk 133 = .ok (.iload 9, 2)) rfl rfl, ?_⟩
  refine List.forall_mem_cons.mpr ⟨s_iload C (by decide +kernel : decode c_X7_behindTalk 135 = .ok (.iload 10, 2)) rfl rfl, ?_⟩
  refine List.forall_mem_cons.mpr ⟨s_callS C hFok hF (ct_X3_heard l D dA σ) ⟨rfl, rfl⟩ ew444 ew442 ew443 ew7 ⟨by decide, by decide, by decide +kernel⟩ ⟨by decide, by decide⟩ (by decide +kernel : decode c_X7_behindTalk 137 = .ok (.invokestatic 122, 3)) rfl rfl ⟨Nat.zero_le _, Nat.zero_le _⟩, ?_⟩
  refine List.forall_mem_cons.mpr ⟨s_istore C (by decide +kernel : decode c_X7_behindTalk 140 = .ok (.istore 12, 2)) rfl rfl (by decide), ?_⟩
  refine List.forall_mem_cons.mpr ⟨s_lload_n C (by decide +kernel : decode c_X7_behindTalk 142 = .ok (.lload_n 1, 1)) rfl rfl rfl, ?_⟩
  refine List.forall_mem_cons.mpr ⟨s_iload_n C (by decide +kernel : decode c_X7_behindTalk 143 = .ok (.iload_n 3, 1)) rfl rfl rfl, ?_⟩
  refine List.forall_mem_cons.mpr ⟨s_iload C (by decide +kernel : decode c_X7_behindTalk 144 = .ok (.iload 11, 2)) rfl rfl, ?_⟩
  refine List.forall_mem_cons.mpr ⟨s_callS C hFok hF (ct_X5_with l D dA σ) ⟨rfl, rfl⟩ ew190 ew188 ew189 ew8 ⟨by decide, by decide, by decide +kernel⟩ ⟨by decide, by decide⟩ (by decide +kernel : decode c_X7_behindTalk 146 = .ok (.invokestatic 88, 3)) rfl rfl ⟨Nat.zero_le _, Nat.zero_le _⟩, ?_⟩
  refine List.forall_mem_cons.mpr ⟨s_iload C (by decide +kernel : decode c_X7_behindTalk 149 = .ok (.iload 4, 2)) rfl rfl, ?_⟩
  refine List.forall_mem_cons.mpr ⟨s_iload C (by decide +kernel : decode c_X7_behindTalk 151 = .ok (.iload 12, 2)) rfl rfl, ?_⟩
  refine List.forall_mem_cons.mpr ⟨s_callS C hFok hF (ct_X5_with l D dA σ) ⟨rfl, rfl⟩ ew190 ew188 ew189 ew8 ⟨by decide, by decide, by decide +kernel⟩ ⟨by decide, by decide⟩ (by decide +kernel : decode c_X7_behindTalk 153 = .ok (.invokestatic 88, 3)) rfl rfl ⟨Nat.zero_le _, Nat.zero_le _⟩, ?_⟩
  refine List.forall_mem_cons.mpr ⟨s_lret C (by decide +kernel : decode c_X7_behindTalk 156 = .ok (.lreturn, 1)) hret hlk ⟨Nat.le_refl 0, Nat.le_refl 0⟩, ?_⟩
  exact fun _ h => absurd h List.not_mem_nil
/-- a contract that asks no more and grants no less -/
theorem em_CT.weak {l : Launch} {D : va_G} {cl : List vw_C} {dA : Nat → ClassId} {σ : Nat → Nat} {F : em_FT} {y : MethodName} {bytes : ByteArray} {maxL : Nat} {ret : Option FieldType} {rm : Room} {sp sp2 : em_Sp} (h : em_CT l D cl dA σ F y bytes maxL ret rm sp) (hs : ∀ av hp Q, sp2 av hp Q → sp av hp Q) : em_CT l D cl dA σ F y bytes maxL ret rm sp2 := fun ρ hp sz av Q h2 => h ρ hp sz av Q (hs av hp Q h2)
def spF : em_Sp := fun _ _ _ => False
theorem em_CT_F {l : Launch} {D : va_G} {cl : List vw_C} {dA : Nat → ClassId} {σ : Nat → Nat} {F : em_FT} {y : MethodName} {bytes : ByteArray} {maxL : Nat} {ret : Option FieldType} {rm : Room} : em_CT l D cl dA σ F y bytes maxL ret rm spF := fun _ _ _ _ _ h => h.elim
def btN (n : Nat) (ki : Nat → Int32) (we : Int32) (m : Int64) (a b : Nat) : Int64 := if a < n ∧ b < n ∧ a ≠ b then btk ki we m a b else m
def sp_X7_behindTalk2 : em_Sp := fun av hp Q => ∃ pe ki mi se we lea mst pa fi sd ev un ma ea co ca clt m a b n, av = [.ref 0, .long m, .int (nI a), .int (nI b)] ∧ hp = (wT pe ki mi se we lea mst pa fi sd ev un ma ea co ca clt) ∧ pe = nI n ∧ n ≤ 6 ∧ a < 2 ^ 31 ∧ b < 2 ^ 31 ∧ Q (some (.long (btN n ki we m a b))) hp
theorem ct_X7_behindTalk2 (l : Launch) (D : va_G) (dA : Nat → ClassId) (σ : Nat → Nat) : em_CT l D em_cl dA σ (em_F σ) y_X7_behindTalk c_X7_behindTalk 13 (Option.some ClassFile.FieldType.long) rm_X7_behindTalk sp_X7_behindTalk2 := by
  refine (ct_X7_behindTalk l D dA σ).weak (fun av hp Q h => ?_)
  obtain ⟨pe, ki, mi, se, we, lea, mst, pa, fi, sd, ev, un, ma, ea, co, ca, clt, m, a, b, n, rfl, rfl, rfl, hn, ha, hb, hq⟩ := h
  refine ⟨_, _, _, _, _, _, _, _, _, _, _, _, _, _, _, _, _, _, _, _, n, rfl, rfl, rfl, hn, fun z => ?_, fun i j e1 e2 h1 h2 h3 => ?_⟩
  · rw [btN, if_neg] at hq
    · exact hq
    · rintro ⟨z1, z2, z3⟩
      exact z ⟨hs_nI z1 (by omega), hs_nI z2 (by omega), fun y => z3 ((nI_eq ha hb).mp y)⟩
  · have e1 := (nI_eq ha (by omega)).mp e1
    have e2 := (nI_eq hb (by omega)).mp e2
    subst e1
    subst e2
    rw [btN, if_pos ⟨h1, h2, h3⟩] at hq
    exact hq
def sp_X7_behindEvening : em_Sp := fun av hp Q => ∃ pe ki mi se we lea mst pa fi sd ev un ma ea co ca clt m e n np, av = [.ref 0, .long m, .int (nI e)] ∧ hp = (wT pe ki mi se we lea mst pa fi sd ev un ma ea co ca clt) ∧ pe = nI n ∧ n ≤ 6 ∧ pa = nI np ∧ np ≤ 8 ∧ e < 2 ^ 30 ∧ (np = 0 → Q (some (.long m)) hp) ∧ (0 < np → ∃ i j, fi (e % np) = nI i ∧ sd (e % np) = nI j ∧ i < n ∧ j < n ∧ i ≠ j ∧ Q (some (.long (btk ki we m i j))) hp)
def T_X7_behindEvening : List (Nat × em_Op) := [(0, o_aload 0 1), (1, o_getf 2 7 4), (4, o_iconst 1 5), (5, o_icmplt 12 8), (8, o_iload 3 9), (9, o_ifge 14 12), (12, o_lload 1 13), (13, o_lret), (14, o_iload 3 15), (15, o_aload 0 16), (16, o_getf 2 7 19), (19, o_irem 20), (20, o_istore 4 22), (22, o_aload 0 23), (23, o_lload 1 24), (24, o_aload 0 25), (25, o_getf 2 8 28), (28, o_iload 4 30), (30, o_aldI 0 31), (31, o_aload 0 32), (32, o_getf 2 9 35), (35, o_iload 4 37), (37, o_aldI 0 38), (38, o_call 4 (some 2) (sp_X7_behindTalk) 41), (41, o_lret)]
theorem me_X7_behindEvening : em_Me T_X7_behindEvening 5 sp_X7_behindEvening := by
  intro Q K hK hle av hp hs
  obtain ⟨pe, ki, mi, se, we, lea, mst, pa, fi, sd, ev, un, ma, ea, co, ca, clt, m, e, n, np, rfl, rfl, rfl, hn, rfl, hnp, he, hq0, hq1⟩ := hs
  refine ⟨Nat.le_of_ble_eq_true rfl, ?_⟩
  refine hK 0 99 0 _ _ _ ?_
  refine ⟨fun h => ?_, fun h => ?_⟩
  · have : np = 0 := by
      rcases Nat.lt_or_ge np 1 with z | z
      · omega
      · exact absurd h (nI_nlt (a := np) (b := 1) z (by omega))
    exact hq0 this
  · have h0 : 0 < np := by
      rcases Nat.lt_or_ge np 1 with z | z
      · exact absurd (nI_lt (a := np) (b := 1) z (by omega)) h
      · omega
    obtain ⟨i, j, hi, hj, hin, hjn, hij, hq⟩ := hq1 h0
    refine ⟨fun _ => ?_, fun h => absurd (nI_pos' (n := e) (by omega)) h⟩
    refine ⟨nI_ne0 h0 (by omega), ?_⟩
    have hlt := Nat.mod_lt e h0
    refine ⟨e % np, pk_rem (by omega) h0 (by omega), by omega, ?_⟩
    refine ⟨e % np, pk_rem (by omega) h0 (by omega), by omega, ?_⟩
    refine ⟨_, _, _, _, _, _, _, _, _, _, _, _, _, _, _, _, _, _, _, _, n, rfl, rfl, rfl, hn, fun z => ?_, fun i' j' h1 h2 h3 h4 h5 => ?_⟩
    · refine absurd ?_ z
      rw [hi, hj]
      exact ⟨hs_nI hin (by omega), hs_nI hjn (by omega), fun z => hij ((nI_eq (by omega) (by omega)).mp z)⟩
    · have e1 : i' = i := (nI_eq (by omega) (by omega)).mp (h1.symm.trans hi)
      have e2 : j' = j := (nI_eq (by omega) (by omega)).mp (h2.symm.trans hj)
      subst e1
      subst e2
      exact hq
abbrev rm_X7_behindEvening : Room := { frames := 5, cells := 0, slots := 0, locals := 126 }
set_option maxRecDepth 100000 in
set_option maxHeartbeats 4000000 in
theorem ct_X7_behindEvening (l : Launch) (D : va_G) (dA : Nat → ClassId) (σ : Nat → Nat) : em_CT l D em_cl dA σ (em_F σ) y_X7_behindEvening c_X7_behindEvening 5 (Option.some ClassFile.FieldType.long) rm_X7_behindEvening (sp_X7_behindEvening ) := by
  refine em_CT_of (T := T_X7_behindEvening ) (em_F_ok σ) (by decide) (fun p e s m args below meth c A ρ Q C hFok hF hret hlk hin => ?_) (me_X7_behindEvening )
  unfold T_X7_behindEvening
  refine List.forall_mem_cons.mpr ⟨s_aload_n C (by decide +kernel : decode c_X7_behindEvening 0 = .ok (.aload_n 0, 1)) rfl rfl rfl, ?_⟩
  refine List.forall_mem_cons.mpr ⟨s_getf C (by decide +kernel : decode c_X7_behindEvening 1 = .ok (.getfield 58, 3)) rfl rfl em_cl_X7 (by decide) ew100 rfl, ?_⟩
  refine List.forall_mem_cons.mpr ⟨s_iconst C (by decide +kernel : decode c_X7_behindEvening 4 = .ok (.iconst 1, 1)) rfl rfl (by decide), ?_⟩
  refine List.forall_mem_cons.mpr ⟨s_icmplt C (by decide +kernel : decode c_X7_behindEvening 5 = .ok (.if_icmp .lt 7, 3)) (by decide) rfl rfl rfl, ?_⟩
  refine List.forall_mem_cons.mpr ⟨s_iload_n C (by decide +kernel : decode c_X7_behindEvening 8 = .ok (.iload_n 3, 1)) rfl rfl rfl, ?_⟩
  refine List.forall_mem_cons.mpr ⟨s_ifge C (by decide +kernel : decode c_X7_behindEvening 9 = .ok (.ifCond .ge 5, 3)) (by decide) rfl rfl rfl, ?_⟩
  refine List.forall_mem_cons.mpr ⟨s_lload_n C (by decide +kernel : decode c_X7_behindEvening 12 = .ok (.lload_n 1, 1)) rfl rfl rfl, ?_⟩
  refine List.forall_mem_cons.mpr ⟨s_lret C (by decide +kernel : decode c_X7_behindEvening 13 = .ok (.lreturn, 1)) hret hlk ⟨Nat.le_refl 0, Nat.le_refl 0⟩, ?_⟩
  refine List.forall_mem_cons.mpr ⟨s_iload_n C (by decide +kernel : decode c_X7_behindEvening 14 = .ok (.iload_n 3, 1)) rfl rfl rfl, ?_⟩
  refine List.forall_mem_cons.mpr ⟨s_aload_n C (by decide +kernel : decode c_X7_behindEvening 15 = .ok (.aload_n 0, 1)) rfl rfl rfl, ?_⟩
  refine List.forall_mem_cons.mpr ⟨s_getf C (by decide +kernel : decode c_X7_behindEvening 16 = .ok (.getfield 58, 3)) rfl rfl em_cl_X7 (by decide) ew100 rfl, ?_⟩
  refine List.forall_mem_cons.mpr ⟨s_irem C (by decide +kernel : decode c_X7_behindEvening 19 = .ok (.irem, 1)) rfl rfl, ?_⟩
  refine List.forall_mem_cons.mpr ⟨s_istore C (by decide +kernel : decode c_X7_behindEvening 20 = .ok (.istore 4, 2)) rfl rfl (by decide), ?_⟩
  refine List.forall_mem_cons.mpr ⟨s_aload_n C (by decide +kernel : decode c_X7_behindEvening 22 = .ok (.aload_n 0, 1)) rfl rfl rfl, ?_⟩
  refine List.forall_mem_cons.mpr ⟨s_lload_n C (by decide +kernel : decode c_X7_behindEvening 23 = .ok (.lload_n 1, 1)) rfl rfl rfl, ?_⟩
  refine List.forall_mem_cons.mpr ⟨s_aload_n C (by decide +kernel : decode c_X7_behindEvening 24 = .ok (.aload_n 0, 1)) rfl rfl rfl, ?_⟩
  refine List.forall_mem_cons.mpr ⟨s_getf C (by decide +kernel : decode c_X7_behindEvening 25 = .ok (.getfield 15, 3)) rfl rfl em_cl_X7 (by decide) ew102 rfl, ?_⟩
  refine List.forall_mem_cons.mpr ⟨s_iload C (by decide +kernel : decode c_X7_behindEvening 28 = .ok (.iload 4, 2)) rfl rfl, ?_⟩
  refine List.forall_mem_cons.mpr ⟨s_iald C (by decide +kernel : decode c_X7_behindEvening 30 = .ok (.iaload, 1)) rfl rfl, ?_⟩
  refine List.forall_mem_cons.mpr ⟨s_aload_n C (by decide +kernel : decode c_X7_behindEvening 31 = .ok (.aload_n 0, 1)) rfl rfl rfl, ?_⟩
  refine List.forall_mem_cons.mpr ⟨s_getf C (by decide +kernel : decode c_X7_behindEvening 32 = .ok (.getfield 18, 3)) rfl rfl em_cl_X7 (by decide) ew103 rfl, ?_⟩
  refine List.forall_mem_cons.mpr ⟨s_iload C (by decide +kernel : decode c_X7_behindEvening 35 = .ok (.iload 4, 2)) rfl rfl, ?_⟩
  refine List.forall_mem_cons.mpr ⟨s_iald C (by decide +kernel : decode c_X7_behindEvening 37 = .ok (.iaload, 1)) rfl rfl, ?_⟩
  refine List.forall_mem_cons.mpr ⟨s_callV C hFok hF (ct_X7_behindTalk l D dA σ) ⟨rfl, rfl⟩ ew438 em_cl_X7 ew435 ew436 ew437 ew5 ⟨by decide, by decide, by decide +kernel⟩ ⟨by decide, by decide⟩ (by decide +kernel : decode c_X7_behindEvening 38 = .ok (.invokevirtual 126, 3)) rfl rfl ⟨Nat.zero_le _, Nat.zero_le _⟩, ?_⟩
  refine List.forall_mem_cons.mpr ⟨s_lret C (by decide +kernel : decode c_X7_behindEvening 41 = .ok (.lreturn, 1)) hret hlk ⟨Nat.le_refl 0, Nat.le_refl 0⟩, ?_⟩
  exact fun _ h => absurd h List.not_mem_nil
end
section
/-! ===== Town: what writes ===== -/
def sp_X7_begin : em_Sp := fun av hp Q => ∃ pe ki mi se we lea mst pa fi sd ev un ma ea co ca clt, av = [.ref 0] ∧ hp = (wT pe ki mi se we lea mst pa fi sd ev un ma ea co ca clt) ∧ Q none (wT (0) ki (0) (0) (0) (2) (4) (0) fi sd (0) (0) ma ea (0) ca clt)
def T_X7_begin : List (Nat × em_Op) := [(0, o_aload 0 1), (1, o_iconst 0 2), (2, o_putI 2 0 5), (5, o_aload 0 6), (6, o_lconst 0 7), (7, o_putL 2 2 10), (10, o_aload 0 11), (11, o_lconst 0 12), (12, o_putL 2 3 15), (15, o_aload 0 16), (16, o_iconst 0 17), (17, o_putI 2 4 20), (20, o_aload 0 21), (21, o_iconst 2 22), (22, o_putI 2 5 25), (25, o_aload 0 26), (26, o_iconst 4 27), (27, o_putI 2 6 30), (30, o_aload 0 31), (31, o_iconst 0 32), (32, o_putI 2 7 35), (35, o_aload 0 36), (36, o_iconst 0 37), (37, o_putI 2 10 40), (40, o_aload 0 41), (41, o_iconst 0 42), (42, o_putI 2 11 45), (45, o_aload 0 46), (46, o_iconst 0 47), (47, o_putI 2 14 50), (50, o_vret)]
theorem me_X7_begin : em_Me T_X7_begin 1 sp_X7_begin := by
  intro Q K hK hle av hp hs
  obtain ⟨pe, ki, mi, se, we, lea, mst, pa, fi, sd, ev, un, ma, ea, co, ca, clt, rfl, rfl, hq⟩ := hs
  exact ⟨Nat.le_of_ble_eq_true rfl, hK 0 99 0 _ _ _ hq⟩
abbrev rm_X7_begin : Room := { frames := 0, cells := 0, slots := 0, locals := 0 }
set_option maxRecDepth 100000 in
set_option maxHeartbeats 4000000 in
theorem ct_X7_begin (l : Launch) (D : va_G) (dA : Nat → ClassId) (σ : Nat → Nat) : em_CT l D em_cl dA σ (em_F σ) y_X7_begin c_X7_begin 1 (Option.none : Option ClassFile.FieldType) rm_X7_begin (sp_X7_begin ) := by
  refine em_CT_of (T := T_X7_begin ) (em_F_ok σ) (by decide) (fun p e s m args below meth c A ρ Q C hFok hF hret hlk hin => ?_) (me_X7_begin )
  unfold T_X7_begin
  refine List.forall_mem_cons.mpr ⟨s_aload_n C (by decide +kernel : decode c_X7_begin 0 = .ok (.aload_n 0, 1)) rfl rfl rfl, ?_⟩
  refine List.forall_mem_cons.mpr ⟨s_iconst C (by decide +kernel : decode c_X7_begin 1 = .ok (.iconst 0, 1)) rfl rfl (by decide), ?_⟩
  refine List.forall_mem_cons.mpr ⟨s_putI C (by decide +kernel : decode c_X7_begin 2 = .ok (.putfield 38, 3)) rfl rfl em_cl_X7 (by decide) ew85 rfl (by decide) (by decide +kernel), ?_⟩
  refine List.forall_mem_cons.mpr ⟨s_aload_n C (by decide +kernel : decode c_X7_begin 5 = .ok (.aload_n 0, 1)) rfl rfl rfl, ?_⟩
  refine List.forall_mem_cons.mpr ⟨s_lconst C (by decide +kernel : decode c_X7_begin 6 = .ok (.lconst 0, 1)) rfl rfl (by decide), ?_⟩
  refine List.forall_mem_cons.mpr ⟨s_putL C (by decide +kernel : decode c_X7_begin 7 = .ok (.putfield 42, 3)) rfl rfl em_cl_X7 (by decide) ew91 rfl (by decide) (by decide +kernel), ?_⟩
  refine List.forall_mem_cons.mpr ⟨s_aload_n C (by decide +kernel : decode c_X7_begin 10 = .ok (.aload_n 0, 1)) rfl rfl rfl, ?_⟩
  refine List.forall_mem_cons.mpr ⟨s_lconst C (by decide +kernel : decode c_X7_begin 11 = .ok (.lconst 0, 1)) rfl rfl (by decide), ?_⟩
  refine List.forall_mem_cons.mpr ⟨s_putL C (by decide +kernel : decode c_X7_begin 12 = .ok (.putfield 46, 3)) rfl rfl em_cl_X7 (by decide) ew95 rfl (by decide) (by decide +kernel), ?_⟩
  refine List.forall_mem_cons.mpr ⟨s_aload_n C (by decide +kernel : decode c_X7_begin 15 = .ok (.aload_n 0, 1)) rfl rfl rfl, ?_⟩
  refine List.forall_mem_cons.mpr ⟨s_iconst C (by decide +kernel : decode c_X7_begin 16 = .ok (.iconst 0, 1)) rfl rfl (by decide), ?_⟩
  refine List.forall_mem_cons.mpr ⟨s_putI C (by decide +kernel : decode c_X7_begin 17 = .ok (.putfield 49, 3)) rfl rfl em_cl_X7 (by decide) ew97 rfl (by decide) (by decide +kernel), ?_⟩
  refine List.forall_mem_cons.mpr ⟨s_aload_n C (by decide +kernel : decode c_X7_begin 20 = .ok (.aload_n 0, 1)) rfl rfl rfl, ?_⟩
  refine List.forall_mem_cons.mpr ⟨s_iconst C (by decide +kernel : decode c_X7_begin 21 = .ok (.iconst 2, 1)) rfl rfl (by decide), ?_⟩
  refine List.forall_mem_cons.mpr ⟨s_putI C (by decide +kernel : decode c_X7_begin 22 = .ok (.putfield 52, 3)) rfl rfl em_cl_X7 (by decide) ew98 rfl (by decide) (by decide +kernel), ?_⟩
  refine List.forall_mem_cons.mpr ⟨s_aload_n C (by decide +kernel : decode c_X7_begin 25 = .ok (.aload_n 0, 1)) rfl rfl rfl, ?_⟩
  refine List.forall_mem_cons.mpr ⟨s_iconst C (by decide +kernel : decode c_X7_begin 26 = .ok (.iconst 4, 1)) rfl rfl (by decide), ?_⟩
  refine List.forall_mem_cons.mpr ⟨s_putI C (by decide +kernel : decode c_X7_begin 27 = .ok (.putfield 55, 3)) rfl rfl em_cl_X7 (by decide) ew99 rfl (by decide) (by decide +kernel), ?_⟩
  refine List.forall_mem_cons.mpr ⟨s_aload_n C (by decide +kernel : decode c_X7_begin 30 = .ok (.aload_n 0, 1)) rfl rfl rfl, ?_⟩
  refine List.forall_mem_cons.mpr ⟨s_iconst C (by decide +kernel : decode c_X7_begin 31 = .ok (.iconst 0, 1)) rfl rfl (by decide), ?_⟩
  refine List.forall_mem_cons.mpr ⟨s_putI C (by decide +kernel : decode c_X7_begin 32 = .ok (.putfield 58, 3)) rfl rfl em_cl_X7 (by decide) ew100 rfl (by decide) (by decide +kernel), ?_⟩
  refine List.forall_mem_cons.mpr ⟨s_aload_n C (by decide +kernel : decode c_X7_begin 35 = .ok (.aload_n 0, 1)) rfl rfl rfl, ?_⟩
  refine List.forall_mem_cons.mpr ⟨s_iconst C (by decide +kernel : decode c_X7_begin 36 = .ok (.iconst 0, 1)) rfl rfl (by decide), ?_⟩
  refine List.forall_mem_cons.mpr ⟨s_putI C (by decide +kernel : decode c_X7_begin 37 = .ok (.putfield 61, 3)) rfl rfl em_cl_X7 (by decide) ew105 rfl (by decide) (by decide +kernel), ?_⟩
  refine List.forall_mem_cons.mpr ⟨s_aload_n C (by decide +kernel : decode c_X7_begin 40 = .ok (.aload_n 0, 1)) rfl rfl rfl, ?_⟩
  refine List.forall_mem_cons.mpr ⟨s_iconst C (by decide +kernel : decode c_X7_begin 41 = .ok (.iconst 0, 1)) rfl rfl (by decide), ?_⟩
  refine List.forall_mem_cons.mpr ⟨s_putI C (by decide +kernel : decode c_X7_begin 42 = .ok (.putfield 64, 3)) rfl rfl em_cl_X7 (by decide) ew107 rfl (by decide) (by decide +kernel), ?_⟩
  refine List.forall_mem_cons.mpr ⟨s_aload_n C (by decide +kernel : decode c_X7_begin 45 = .ok (.aload_n 0, 1)) rfl rfl rfl, ?_⟩
  refine List.forall_mem_cons.mpr ⟨s_iconst C (by decide +kernel : decode c_X7_begin 46 = .ok (.iconst 0, 1)) rfl rfl (by decide), ?_⟩
  refine List.forall_mem_cons.mpr ⟨s_putI C (by decide +kernel : decode c_X7_begin 47 = .ok (.putfield 67, 3)) rfl rfl em_cl_X7 (by decide) ew111 rfl (by decide) (by decide +kernel), ?_⟩
  refine List.forall_mem_cons.mpr ⟨s_vret C (by decide +kernel : decode c_X7_begin 50 = .ok (.return_, 1)) hret hlk ⟨Nat.le_refl 0, Nat.le_refl 0⟩, ?_⟩
  exact fun _ h => absurd h List.not_mem_nil
def sp_X7_welcome : em_Sp := fun av hp Q => ∃ pe ki mi se we lea mst pa fi sd ev un ma ea co ca clt k o n, av = [.ref 0, .int k, .int o] ∧ hp = (wT pe ki mi se we lea mst pa fi sd ev un ma ea co ca clt) ∧ pe = nI n ∧ n ≤ 6 ∧ (¬ (isk k ∧ iss o) → Q (some (.int (-2))) hp) ∧ (isk k → iss o → n = 6 → Q (some (.int (-4))) hp) ∧ (isk k → iss o → n < 6 → Q (some (.int (nI n))) (wT (nI (n + 1)) (upd ki n k) (mw mi (nI n) o) (mw se (nI n) o) we lea mst pa fi sd ev (0) ma ea co ca clt))
def T_X7_welcome : List (Nat × em_Op) := [(0, o_iload 1 1), (1, o_call 1 none (sp_X3_isKind) 4), (4, o_ifeq 14 7), (7, o_iload 2 8), (8, o_call 1 none (sp_X9_isSet) 11), (11, o_ifne 17 14), (14, o_iconst (-2) 16), (16, o_iret), (17, o_aload 0 18), (18, o_getf 2 0 21), (21, o_iconst 6 23), (23, o_icmplt 29 26), (26, o_iconst (-4) 28), (28, o_iret), (29, o_aload 0 30), (30, o_getf 2 0 33), (33, o_istore 3 34), (34, o_aload 0 35), (35, o_dup 36), (36, o_getf 2 0 39), (39, o_iconst 1 40), (40, o_iadd 41), (41, o_putI 2 0 44), (44, o_aload 0 45), (45, o_getf 2 1 48), (48, o_iload 3 49), (49, o_iload 1 50), (50, o_iast 51), (51, o_aload 0 52), (52, o_aload 0 53), (53, o_getf 2 2 56), (56, o_iload 3 57), (57, o_iload 2 58), (58, o_call 3 none (sp_X5_with) 61), (61, o_putL 2 2 64), (64, o_aload 0 65), (65, o_aload 0 66), (66, o_getf 2 3 69), (69, o_iload 3 70), (70, o_iload 2 71), (71, o_call 3 none (sp_X5_with) 74), (74, o_putL 2 3 77), (77, o_aload 0 78), (78, o_iconst 0 79), (79, o_putI 2 11 82), (82, o_iload 3 83), (83, o_iret)]
theorem me_X7_welcome : em_Me T_X7_welcome 4 sp_X7_welcome := by
  intro Q K hK hle av hp hs
  obtain ⟨pe, ki, mi, se, we, lea, mst, pa, fi, sd, ev, un, ma, ea, co, ca, clt, k, o, n, rfl, rfl, rfl, hn, hb, hf, hq⟩ := hs
  refine ⟨Nat.le_of_ble_eq_true rfl, ?_⟩
  refine hK 0 99 0 _ _ _ ?_
  refine ⟨_, rfl, fun z1 => ?_, fun z1 => ?_⟩
  · refine ⟨fun z => absurd z (by decide), fun _ => ?_⟩
    refine ⟨_, rfl, fun z2 => ?_, fun z2 => ?_⟩
    · refine ⟨fun _ => ?_, fun z => absurd z (by decide)⟩
      refine ⟨fun z3 => ?_, fun z3 => ?_⟩
      · have h6 : n < 6 := (nI_ltI (b := 6) (by omega) (by omega)).mp z3
        refine ⟨n, rfl, by omega, _, _, _, rfl, _, _, _, rfl, ?_⟩
        have := hq z1 z2 h6
        rw [← nI_1] at this
        exact this
      · have h6 : n = 6 := by
          have : ¬ n < 6 := fun y => z3 (nI_lt (b := 6) y (by omega))
          omega
        exact hf z1 z2 h6
    · exact ⟨fun z => absurd rfl z, fun _ => hb (fun y => z2 y.2)⟩
  · exact ⟨fun _ => hb (fun y => z1 y.1), fun z => absurd z (by decide)⟩
abbrev rm_X7_welcome : Room := { frames := 1, cells := 0, slots := 0, locals := 24 }
set_option maxRecDepth 100000 in
set_option maxHeartbeats 4000000 in
theorem ct_X7_welcome (l : Launch) (D : va_G) (dA : Nat → ClassId) (σ : Nat → Nat) : em_CT l D em_cl dA σ (em_F σ) y_X7_welcome c_X7_welcome 4 (Option.some ClassFile.FieldType.int) rm_X7_welcome (sp_X7_welcome ) := by
  refine em_CT_of (T := T_X7_welcome ) (em_F_ok σ) (by decide) (fun p e s m args below meth c A ρ Q C hFok hF hret hlk hin => ?_) (me_X7_welcome )
  unfold T_X7_welcome
  refine List.forall_mem_cons.mpr ⟨s_iload_n C (by decide +kernel : decode c_X7_welcome 0 = .ok (.iload_n 1, 1)) rfl rfl rfl, ?_⟩
  refine List.forall_mem_cons.mpr ⟨s_callS C hFok hF (ct_X3_isKind l D dA σ) ⟨rfl, rfl⟩ ew184 ew182 ew183 ew7 ⟨by decide, by decide, by decide +kernel⟩ ⟨by decide, by decide⟩ (by decide +kernel : decode c_X7_welcome 1 = .ok (.invokestatic 80, 3)) rfl rfl ⟨Nat.zero_le _, Nat.zero_le _⟩, ?_⟩
  refine List.forall_mem_cons.mpr ⟨s_ifeq C (by decide +kernel : decode c_X7_welcome 4 = .ok (.ifCond .eq 10, 3)) (by decide) rfl rfl rfl, ?_⟩
  refine List.forall_mem_cons.mpr ⟨s_iload_n C (by decide +kernel : decode c_X7_welcome 7 = .ok (.iload_n 2, 1)) rfl rfl rfl, ?_⟩
  refine List.forall_mem_cons.mpr ⟨s_callSN C hFok hF (ct_X9_isSet l D dA σ) ⟨rfl, rfl⟩ ew187 (em_F_nest (host := "WedApart") hF () (by decide +kernel)) ew186 ew1 ⟨by decide, by decide, by decide +kernel⟩ ⟨by decide, by decide⟩ (by decide +kernel : decode c_X7_welcome 8 = .ok (.invokestatic 85, 3)) rfl rfl ⟨Nat.zero_le _, Nat.zero_le _⟩, ?_⟩
  refine List.forall_mem_cons.mpr ⟨s_ifne C (by decide +kernel : decode c_X7_welcome 11 = .ok (.ifCond .ne 6, 3)) (by decide) rfl rfl rfl, ?_⟩
  refine List.forall_mem_cons.mpr ⟨s_bipush C (by decide +kernel : decode c_X7_welcome 14 = .ok (.bipush (-2), 2)) rfl rfl (by decide), ?_⟩
  refine List.forall_mem_cons.mpr ⟨s_iret C (by decide +kernel : decode c_X7_welcome 16 = .ok (.ireturn, 1)) hret hlk ⟨Nat.le_refl 0, Nat.le_refl 0⟩, ?_⟩
  refine List.forall_mem_cons.mpr ⟨s_aload_n C (by decide +kernel : decode c_X7_welcome 17 = .ok (.aload_n 0, 1)) rfl rfl rfl, ?_⟩
  refine List.forall_mem_cons.mpr ⟨s_getf C (by decide +kernel : decode c_X7_welcome 18 = .ok (.getfield 38, 3)) rfl rfl em_cl_X7 (by decide) ew85 rfl, ?_⟩
  refine List.forall_mem_cons.mpr ⟨s_bipush C (by decide +kernel : decode c_X7_welcome 21 = .ok (.bipush 6, 2)) rfl rfl (by decide), ?_⟩
  refine List.forall_mem_cons.mpr ⟨s_icmplt C (by decide +kernel : decode c_X7_welcome 23 = .ok (.if_icmp .lt 6, 3)) (by decide) rfl rfl rfl, ?_⟩
  refine List.forall_mem_cons.mpr ⟨s_bipush C (by decide +kernel : decode c_X7_welcome 26 = .ok (.bipush (-4), 2)) rfl rfl (by decide), ?_⟩
  refine List.forall_mem_cons.mpr ⟨s_iret C (by decide +kernel : decode c_X7_welcome 28 = .ok (.ireturn, 1)) hret hlk ⟨Nat.le_refl 0, Nat.le_refl 0⟩, ?_⟩
  refine List.forall_mem_cons.mpr ⟨s_aload_n C (by decide +kernel : decode c_X7_welcome 29 = .ok (.aload_n 0, 1)) rfl rfl rfl, ?_⟩
  refine List.forall_mem_cons.mpr ⟨s_getf C (by decide +kernel : decode c_X7_welcome 30 = .ok (.getfield 38, 3)) rfl rfl em_cl_X7 (by decide) ew85 rfl, ?_⟩
  refine List.forall_mem_cons.mpr ⟨s_istore_n C (by decide +kernel : decode c_X7_welcome 33 = .ok (.istore_n 3, 1)) rfl rfl rfl (by decide), ?_⟩
  refine List.forall_mem_cons.mpr ⟨s_aload_n C (by decide +kernel : decode c_X7_welcome 34 = .ok (.aload_n 0, 1)) rfl rfl rfl, ?_⟩
  refine List.forall_mem_cons.mpr ⟨s_dup C (by decide +kernel : decode c_X7_welcome 35 = .ok (.dup, 1)) rfl rfl, ?_⟩
  refine List.forall_mem_cons.mpr ⟨s_getf C (by decide +kernel : decode c_X7_welcome 36 = .ok (.getfield 38, 3)) rfl rfl em_cl_X7 (by decide) ew85 rfl, ?_⟩
  refine List.forall_mem_cons.mpr ⟨s_iconst C (by decide +kernel : decode c_X7_welcome 39 = .ok (.iconst 1, 1)) rfl rfl (by decide), ?_⟩
  refine List.forall_mem_cons.mpr ⟨s_iadd C (by decide +kernel : decode c_X7_welcome 40 = .ok (.iadd, 1)) rfl rfl, ?_⟩
  refine List.forall_mem_cons.mpr ⟨s_putI C (by decide +kernel : decode c_X7_welcome 41 = .ok (.putfield 38, 3)) rfl rfl em_cl_X7 (by decide) ew85 rfl (by decide) (by decide +kernel), ?_⟩
  refine List.forall_mem_cons.mpr ⟨s_aload_n C (by decide +kernel : decode c_X7_welcome 44 = .ok (.aload_n 0, 1)) rfl rfl rfl, ?_⟩
  refine List.forall_mem_cons.mpr ⟨s_getf C (by decide +kernel : decode c_X7_welcome 45 = .ok (.getfield 9, 3)) rfl rfl em_cl_X7 (by decide) ew89 rfl, ?_⟩
  refine List.forall_mem_cons.mpr ⟨s_iload_n C (by decide +kernel : decode c_X7_welcome 48 = .ok (.iload_n 3, 1)) rfl rfl rfl, ?_⟩
  refine List.forall_mem_cons.mpr ⟨s_iload_n C (by decide +kernel : decode c_X7_welcome 49 = .ok (.iload_n 1, 1)) rfl rfl rfl, ?_⟩
  refine List.forall_mem_cons.mpr ⟨s_iast C (by decide +kernel : decode c_X7_welcome 50 = .ok (.iastore, 1)) rfl rfl, ?_⟩
  refine List.forall_mem_cons.mpr ⟨s_aload_n C (by decide +kernel : decode c_X7_welcome 51 = .ok (.aload_n 0, 1)) rfl rfl rfl, ?_⟩
  refine List.forall_mem_cons.mpr ⟨s_aload_n C (by decide +kernel : decode c_X7_welcome 52 = .ok (.aload_n 0, 1)) rfl rfl rfl, ?_⟩
  refine List.forall_mem_cons.mpr ⟨s_getf C (by decide +kernel : decode c_X7_welcome 53 = .ok (.getfield 42, 3)) rfl rfl em_cl_X7 (by decide) ew91 rfl, ?_⟩
  refine List.forall_mem_cons.mpr ⟨s_iload_n C (by decide +kernel : decode c_X7_welcome 56 = .ok (.iload_n 3, 1)) rfl rfl rfl, ?_⟩
  refine List.forall_mem_cons.mpr ⟨s_iload_n C (by decide +kernel : decode c_X7_welcome 57 = .ok (.iload_n 2, 1)) rfl rfl rfl, ?_⟩
  refine List.forall_mem_cons.mpr ⟨s_callS C hFok hF (ct_X5_with l D dA σ) ⟨rfl, rfl⟩ ew190 ew188 ew189 ew8 ⟨by decide, by decide, by decide +kernel⟩ ⟨by decide, by decide⟩ (by decide +kernel : decode c_X7_welcome 58 = .ok (.invokestatic 88, 3)) rfl rfl ⟨Nat.zero_le _, Nat.zero_le _⟩, ?_⟩
  refine List.forall_mem_cons.mpr ⟨s_putL C (by decide +kernel : decode c_X7_welcome 61 = .ok (.putfield 42, 3)) rfl rfl em_cl_X7 (by decide) ew91 rfl (by decide) (by decide +kernel), ?_⟩
  refine List.forall_mem_cons.mpr ⟨s_aload_n C (by decide +kernel : decode c_X7_welcome 64 = .ok (.aload_n 0, 1)) rfl rfl rfl, ?_⟩
  refine List.forall_mem_cons.mpr ⟨s_aload_n C (by decide +kernel : decode c_X7_welcome 65 = .ok (.aload_n 0, 1)) rfl rfl rfl, ?_⟩
  refine List.forall_mem_cons.mpr ⟨s_getf C (by decide +kernel : decode c_X7_welcome 66 = .ok (.getfield 46, 3)) rfl rfl em_cl_X7 (by decide) ew95 rfl, ?_⟩
  refine List.forall_mem_cons.mpr ⟨s_iload_n C (by decide +kernel : decode c_X7_welcome 69 = .ok (.iload_n 3, 1)) rfl rfl rfl, ?_⟩
  refine List.forall_mem_cons.mpr ⟨s_iload_n C (by decide +kernel : decode c_X7_welcome 70 = .ok (.iload_n 2, 1)) rfl rfl rfl, ?_⟩
  refine List.forall_mem_cons.mpr ⟨s_callS C hFok hF (ct_X5_with l D dA σ) ⟨rfl, rfl⟩ ew190 ew188 ew189 ew8 ⟨by decide, by decide, by decide +kernel⟩ ⟨by decide, by decide⟩ (by decide +kernel : decode c_X7_welcome 71 = .ok (.invokestatic 88, 3)) rfl rfl ⟨Nat.zero_le _, Nat.zero_le _⟩, ?_⟩
  refine List.forall_mem_cons.mpr ⟨s_putL C (by decide +kernel : decode c_X7_welcome 74 = .ok (.putfield 46, 3)) rfl rfl em_cl_X7 (by decide) ew95 rfl (by decide) (by decide +kernel), ?_⟩
  refine List.forall_mem_cons.mpr ⟨s_aload_n C (by decide +kernel : decode c_X7_welcome 77 = .ok (.aload_n 0, 1)) rfl rfl rfl, ?_⟩
  refine List.forall_mem_cons.mpr ⟨s_iconst C (by decide +kernel : decode c_X7_welcome 78 = .ok (.iconst 0, 1)) rfl rfl (by decide), ?_⟩
  refine List.forall_mem_cons.mpr ⟨s_putI C (by decide +kernel : decode c_X7_welcome 79 = .ok (.putfield 64, 3)) rfl rfl em_cl_X7 (by decide) ew107 rfl (by decide) (by decide +kernel), ?_⟩
  refine List.forall_mem_cons.mpr ⟨s_iload_n C (by decide +kernel : decode c_X7_welcome 82 = .ok (.iload_n 3, 1)) rfl rfl rfl, ?_⟩
  refine List.forall_mem_cons.mpr ⟨s_iret C (by decide +kernel : decode c_X7_welcome 83 = .ok (.ireturn, 1)) hret hlk ⟨Nat.le_refl 0, Nat.le_refl 0⟩, ?_⟩
  exact fun _ h => absurd h List.not_mem_nil
def sp_X7_tell : em_Sp := fun av hp Q => ∃ pe ki mi se we lea mst pa fi sd ev un ma ea co ca clt p o, av = [.ref 0, .int p, .int o] ∧ hp = (wT pe ki mi se we lea mst pa fi sd ev un ma ea co ca clt) ∧ Q (some (.int (mo mi p))) (wT pe ki (mw mi p o) se we lea mst pa fi sd ev (0) ma ea co ca clt)
def T_X7_tell : List (Nat × em_Op) := [(0, o_aload 0 1), (1, o_getf 2 2 4), (4, o_iload 1 5), (5, o_call 2 none (sp_X5_of) 8), (8, o_istore 3 9), (9, o_aload 0 10), (10, o_aload 0 11), (11, o_getf 2 2 14), (14, o_iload 1 15), (15, o_iload 2 16), (16, o_call 3 none (sp_X5_with) 19), (19, o_putL 2 2 22), (22, o_aload 0 23), (23, o_iconst 0 24), (24, o_putI 2 11 27), (27, o_iload 3 28), (28, o_iret)]
theorem me_X7_tell : em_Me T_X7_tell 4 sp_X7_tell := by
  intro Q K hK hle av hp hs
  obtain ⟨pe, ki, mi, se, we, lea, mst, pa, fi, sd, ev, un, ma, ea, co, ca, clt, p, o, rfl, rfl, hq⟩ := hs
  exact ⟨Nat.le_of_ble_eq_true rfl, hK 0 99 0 _ _ _ ⟨_, _, rfl, _, _, _, rfl, hq⟩⟩
abbrev rm_X7_tell : Room := { frames := 1, cells := 0, slots := 0, locals := 24 }
set_option maxRecDepth 100000 in
set_option maxHeartbeats 4000000 in
theorem ct_X7_tell (l : Launch) (D : va_G) (dA : Nat → ClassId) (σ : Nat → Nat) : em_CT l D em_cl dA σ (em_F σ) y_X7_tell c_X7_tell 4 (Option.some ClassFile.FieldType.int) rm_X7_tell (sp_X7_tell ) := by
  refine em_CT_of (T := T_X7_tell ) (em_F_ok σ) (by decide) (fun p e s m args below meth c A ρ Q C hFok hF hret hlk hin => ?_) (me_X7_tell )
  unfold T_X7_tell
  refine List.forall_mem_cons.mpr ⟨s_aload_n C (by decide +kernel : decode c_X7_tell 0 = .ok (.aload_n 0, 1)) rfl rfl rfl, ?_⟩
  refine List.forall_mem_cons.mpr ⟨s_getf C (by decide +kernel : decode c_X7_tell 1 = .ok (.getfield 42, 3)) rfl rfl em_cl_X7 (by decide) ew91 rfl, ?_⟩
  refine List.forall_mem_cons.mpr ⟨s_iload_n C (by decide +kernel : decode c_X7_tell 4 = .ok (.iload_n 1, 1)) rfl rfl rfl, ?_⟩
  refine List.forall_mem_cons.mpr ⟨s_callS C hFok hF (ct_X5_of l D dA σ) ⟨rfl, rfl⟩ ew216 ew214 ew215 ew8 ⟨by decide, by decide, by decide +kernel⟩ ⟨by decide, by decide⟩ (by decide +kernel : decode c_X7_tell 5 = .ok (.invokestatic 94, 3)) rfl rfl ⟨Nat.zero_le _, Nat.zero_le _⟩, ?_⟩
  refine List.forall_mem_cons.mpr ⟨s_istore_n C (by decide +kernel : decode c_X7_tell 8 = .ok (.istore_n 3, 1)) rfl rfl rfl (by decide), ?_⟩
  refine List.forall_mem_cons.mpr ⟨s_aload_n C (by decide +kernel : decode c_X7_tell 9 = .ok (.aload_n 0, 1)) rfl rfl rfl, ?_⟩
  refine List.forall_mem_cons.mpr ⟨s_aload_n C (by decide +kernel : decode c_X7_tell 10 = .ok (.aload_n 0, 1)) rfl rfl rfl, ?_⟩
  refine List.forall_mem_cons.mpr ⟨s_getf C (by decide +kernel : decode c_X7_tell 11 = .ok (.getfield 42, 3)) rfl rfl em_cl_X7 (by decide) ew91 rfl, ?_⟩
  refine List.forall_mem_cons.mpr ⟨s_iload_n C (by decide +kernel : decode c_X7_tell 14 = .ok (.iload_n 1, 1)) rfl rfl rfl, ?_⟩
  refine List.forall_mem_cons.mpr ⟨s_iload_n C (by decide +kernel : decode c_X7_tell 15 = .ok (.iload_n 2, 1)) rfl rfl rfl, ?_⟩
  refine List.forall_mem_cons.mpr ⟨s_callS C hFok hF (ct_X5_with l D dA σ) ⟨rfl, rfl⟩ ew190 ew188 ew189 ew8 ⟨by decide, by decide, by decide +kernel⟩ ⟨by decide, by decide⟩ (by decide +kernel : decode c_X7_tell 16 = .ok (.invokestatic 88, 3)) rfl rfl ⟨Nat.zero_le _, Nat.zero_le _⟩, ?_⟩
  refine List.forall_mem_cons.mpr ⟨s_putL C (by decide +kernel : decode c_X7_tell 19 = .ok (.putfield 42, 3)) rfl rfl em_cl_X7 (by decide) ew91 rfl (by decide) (by decide +kernel), ?_⟩
  refine List.forall_mem_cons.mpr ⟨s_aload_n C (by decide +kernel : decode c_X7_tell 22 = .ok (.aload_n 0, 1)) rfl rfl rfl, ?_⟩
  refine List.forall_mem_cons.mpr ⟨s_iconst C (by decide +kernel : decode c_X7_tell 23 = .ok (.iconst 0, 1)) rfl rfl (by decide), ?_⟩
  refine List.forall_mem_cons.mpr ⟨s_putI C (by decide +kernel : decode c_X7_tell 24 = .ok (.putfield 64, 3)) rfl rfl em_cl_X7 (by decide) ew107 rfl (by decide) (by decide +kernel), ?_⟩
  refine List.forall_mem_cons.mpr ⟨s_iload_n C (by decide +kernel : decode c_X7_tell 27 = .ok (.iload_n 3, 1)) rfl rfl rfl, ?_⟩
  refine List.forall_mem_cons.mpr ⟨s_iret C (by decide +kernel : decode c_X7_tell 28 = .ok (.ireturn, 1)) hret hlk ⟨Nat.le_refl 0, Nat.le_refl 0⟩, ?_⟩
  exact fun _ h => absurd h List.not_mem_nil
def sp_X7_turn : em_Sp := fun av hp Q => ∃ pe ki mi se we lea mst pa fi sd ev un ma ea co ca clt p k n, av = [.ref 0, .int p, .int k] ∧ hp = (wT pe ki mi se we lea mst pa fi sd ev un ma ea co ca clt) ∧ pe = nI n ∧ n ≤ 6 ∧ (¬ hs pe p → Q (some (.int (-2))) hp) ∧ (∀ j, p = nI j → j < n → Q (some (.int (ki j))) (wT pe (upd ki j k) mi se we lea mst pa fi sd ev un ma ea co ca clt))
def T_X7_turn : List (Nat × em_Op) := [(0, o_aload 0 1), (1, o_iload 1 2), (2, o_call 2 (some 2) (sp_X7_has) 5), (5, o_ifne 11 8), (8, o_iconst (-2) 10), (10, o_iret), (11, o_aload 0 12), (12, o_getf 2 1 15), (15, o_iload 1 16), (16, o_aldI 0 17), (17, o_istore 3 18), (18, o_aload 0 19), (19, o_getf 2 1 22), (22, o_iload 1 23), (23, o_iload 2 24), (24, o_iast 25), (25, o_iload 3 26), (26, o_iret)]
theorem me_X7_turn : em_Me T_X7_turn 4 sp_X7_turn := by
  intro Q K hK hle av hp hs
  obtain ⟨pe, ki, mi, se, we, lea, mst, pa, fi, sd, ev, un, ma, ea, co, ca, clt, p, k, n, rfl, rfl, rfl, hn, hb, hq⟩ := hs
  refine ⟨Nat.le_of_ble_eq_true rfl, ?_⟩
  refine hK 0 99 0 _ _ _ ?_
  refine ⟨_, _, _, _, _, _, _, _, _, _, _, _, _, _, _, _, _, _, rfl, rfl, fun z1 => ?_, fun z1 => ?_⟩
  · refine ⟨fun _ => ?_, fun z => absurd z (by decide)⟩
    obtain ⟨j, hj, rfl⟩ := nI_at rfl z1
    exact ⟨j, rfl, by omega, j, rfl, by omega, hq j rfl hj⟩
  · exact ⟨fun z => absurd rfl z, fun _ => hb z1⟩
abbrev rm_X7_turn : Room := { frames := 1, cells := 0, slots := 0, locals := 21 }
set_option maxRecDepth 100000 in
set_option maxHeartbeats 4000000 in
theorem ct_X7_turn (l : Launch) (D : va_G) (dA : Nat → ClassId) (σ : Nat → Nat) : em_CT l D em_cl dA σ (em_F σ) y_X7_turn c_X7_turn 4 (Option.some ClassFile.FieldType.int) rm_X7_turn (sp_X7_turn ) := by
  refine em_CT_of (T := T_X7_turn ) (em_F_ok σ) (by decide) (fun p e s m args below meth c A ρ Q C hFok hF hret hlk hin => ?_) (me_X7_turn )
  unfold T_X7_turn
  refine List.forall_mem_cons.mpr ⟨s_aload_n C (by decide +kernel : decode c_X7_turn 0 = .ok (.aload_n 0, 1)) rfl rfl rfl, ?_⟩
  refine List.forall_mem_cons.mpr ⟨s_iload_n C (by decide +kernel : decode c_X7_turn 1 = .ok (.iload_n 1, 1)) rfl rfl rfl, ?_⟩
  refine List.forall_mem_cons.mpr ⟨s_callV C hFok hF (ct_X7_has l D dA σ) ⟨rfl, rfl⟩ ew208 em_cl_X7 ew226 ew206 ew207 ew5 ⟨by decide, by decide, by decide +kernel⟩ ⟨by decide, by decide⟩ (by decide +kernel : decode c_X7_turn 2 = .ok (.invokevirtual 76, 3)) rfl rfl ⟨Nat.zero_le _, Nat.zero_le _⟩, ?_⟩
  refine List.forall_mem_cons.mpr ⟨s_ifne C (by decide +kernel : decode c_X7_turn 5 = .ok (.ifCond .ne 6, 3)) (by decide) rfl rfl rfl, ?_⟩
  refine List.forall_mem_cons.mpr ⟨s_bipush C (by decide +kernel : decode c_X7_turn 8 = .ok (.bipush (-2), 2)) rfl rfl (by decide), ?_⟩
  refine List.forall_mem_cons.mpr ⟨s_iret C (by decide +kernel : decode c_X7_turn 10 = .ok (.ireturn, 1)) hret hlk ⟨Nat.le_refl 0, Nat.le_refl 0⟩, ?_⟩
  refine List.forall_mem_cons.mpr ⟨s_aload_n C (by decide +kernel : decode c_X7_turn 11 = .ok (.aload_n 0, 1)) rfl rfl rfl, ?_⟩
  refine List.forall_mem_cons.mpr ⟨s_getf C (by decide +kernel : decode c_X7_turn 12 = .ok (.getfield 9, 3)) rfl rfl em_cl_X7 (by decide) ew89 rfl, ?_⟩
  refine List.forall_mem_cons.mpr ⟨s_iload_n C (by decide +kernel : decode c_X7_turn 15 = .ok (.iload_n 1, 1)) rfl rfl rfl, ?_⟩
  refine List.forall_mem_cons.mpr ⟨s_iald C (by decide +kernel : decode c_X7_turn 16 = .ok (.iaload, 1)) rfl rfl, ?_⟩
  refine List.forall_mem_cons.mpr ⟨s_istore_n C (by decide +kernel : decode c_X7_turn 17 = .ok (.istore_n 3, 1)) rfl rfl rfl (by decide), ?_⟩
  refine List.forall_mem_cons.mpr ⟨s_aload_n C (by decide +kernel : decode c_X7_turn 18 = .ok (.aload_n 0, 1)) rfl rfl rfl, ?_⟩
  refine List.forall_mem_cons.mpr ⟨s_getf C (by decide +kernel : decode c_X7_turn 19 = .ok (.getfield 9, 3)) rfl rfl em_cl_X7 (by decide) ew89 rfl, ?_⟩
  refine List.forall_mem_cons.mpr ⟨s_iload_n C (by decide +kernel : decode c_X7_turn 22 = .ok (.iload_n 1, 1)) rfl rfl rfl, ?_⟩
  refine List.forall_mem_cons.mpr ⟨s_iload_n C (by decide +kernel : decode c_X7_turn 23 = .ok (.iload_n 2, 1)) rfl rfl rfl, ?_⟩
  refine List.forall_mem_cons.mpr ⟨s_iast C (by decide +kernel : decode c_X7_turn 24 = .ok (.iastore, 1)) rfl rfl, ?_⟩
  refine List.forall_mem_cons.mpr ⟨s_iload_n C (by decide +kernel : decode c_X7_turn 25 = .ok (.iload_n 3, 1)) rfl rfl rfl, ?_⟩
  refine List.forall_mem_cons.mpr ⟨s_iret C (by decide +kernel : decode c_X7_turn 26 = .ok (.ireturn, 1)) hret hlk ⟨Nat.le_refl 0, Nat.le_refl 0⟩, ?_⟩
  exact fun _ h => absurd h List.not_mem_nil
def sp_X7_weigh : em_Sp := fun av hp Q => ∃ pe ki mi se we lea mst pa fi sd ev un ma ea co ca clt x, av = [.ref 0, .int x] ∧ hp = (wT pe ki mi se we lea mst pa fi sd ev un ma ea co ca clt) ∧ (¬ iss x → Q (some (.int (-2))) hp) ∧ (iss x → Q (some (.int we)) (wT pe ki mi se (x) lea mst pa fi sd ev un ma ea co ca clt))
def T_X7_weigh : List (Nat × em_Op) := [(0, o_iload 1 1), (1, o_call 1 none (sp_X9_isSet) 4), (4, o_ifne 10 7), (7, o_iconst (-2) 9), (9, o_iret), (10, o_aload 0 11), (11, o_getf 2 4 14), (14, o_istore 2 15), (15, o_aload 0 16), (16, o_iload 1 17), (17, o_putI 2 4 20), (20, o_iload 2 21), (21, o_iret)]
theorem me_X7_weigh : em_Me T_X7_weigh 3 sp_X7_weigh := by
  intro Q K hK hle av hp hs
  obtain ⟨pe, ki, mi, se, we, lea, mst, pa, fi, sd, ev, un, ma, ea, co, ca, clt, x, rfl, rfl, hb, hq⟩ := hs
  refine ⟨Nat.le_of_ble_eq_true rfl, ?_⟩
  refine hK 0 99 0 _ _ _ ?_
  refine ⟨_, rfl, fun z1 => ?_, fun z1 => ?_⟩
  · exact ⟨fun _ => hq z1, fun z => absurd z (by decide)⟩
  · exact ⟨fun z => absurd rfl z, fun _ => hb z1⟩
abbrev rm_X7_weigh : Room := { frames := 1, cells := 0, slots := 0, locals := 20 }
set_option maxRecDepth 100000 in
set_option maxHeartbeats 4000000 in
theorem ct_X7_weigh (l : Launch) (D : va_G) (dA : Nat → ClassId) (σ : Nat → Nat) : em_CT l D em_cl dA σ (em_F σ) y_X7_weigh c_X7_weigh 3 (Option.some ClassFile.FieldType.int) rm_X7_weigh (sp_X7_weigh ) := by
  refine em_CT_of (T := T_X7_weigh ) (em_F_ok σ) (by decide) (fun p e s m args below meth c A ρ Q C hFok hF hret hlk hin => ?_) (me_X7_weigh )
  unfold T_X7_weigh
  refine List.forall_mem_cons.mpr ⟨s_iload_n C (by decide +kernel : decode c_X7_weigh 0 = .ok (.iload_n 1, 1)) rfl rfl rfl, ?_⟩
  refine List.forall_mem_cons.mpr ⟨s_callSN C hFok hF (ct_X9_isSet l D dA σ) ⟨rfl, rfl⟩ ew187 (em_F_nest (host := "WedApart") hF () (by decide +kernel)) ew186 ew1 ⟨by decide, by decide, by decide +kernel⟩ ⟨by decide, by decide⟩ (by decide +kernel : decode c_X7_weigh 1 = .ok (.invokestatic 85, 3)) rfl rfl ⟨Nat.zero_le _, Nat.zero_le _⟩, ?_⟩
  refine List.forall_mem_cons.mpr ⟨s_ifne C (by decide +kernel : decode c_X7_weigh 4 = .ok (.ifCond .ne 6, 3)) (by decide) rfl rfl rfl, ?_⟩
  refine List.forall_mem_cons.mpr ⟨s_bipush C (by decide +kernel : decode c_X7_weigh 7 = .ok (.bipush (-2), 2)) rfl rfl (by decide), ?_⟩
  refine List.forall_mem_cons.mpr ⟨s_iret C (by decide +kernel : decode c_X7_weigh 9 = .ok (.ireturn, 1)) hret hlk ⟨Nat.le_refl 0, Nat.le_refl 0⟩, ?_⟩
  refine List.forall_mem_cons.mpr ⟨s_aload_n C (by decide +kernel : decode c_X7_weigh 10 = .ok (.aload_n 0, 1)) rfl rfl rfl, ?_⟩
  refine List.forall_mem_cons.mpr ⟨s_getf C (by decide +kernel : decode c_X7_weigh 11 = .ok (.getfield 49, 3)) rfl rfl em_cl_X7 (by decide) ew97 rfl, ?_⟩
  refine List.forall_mem_cons.mpr ⟨s_istore_n C (by decide +kernel : decode c_X7_weigh 14 = .ok (.istore_n 2, 1)) rfl rfl rfl (by decide), ?_⟩
  refine List.forall_mem_cons.mpr ⟨s_aload_n C (by decide +kernel : decode c_X7_weigh 15 = .ok (.aload_n 0, 1)) rfl rfl rfl, ?_⟩
  refine List.forall_mem_cons.mpr ⟨s_iload_n C (by decide +kernel : decode c_X7_weigh 16 = .ok (.iload_n 1, 1)) rfl rfl rfl, ?_⟩
  refine List.forall_mem_cons.mpr ⟨s_putI C (by decide +kernel : decode c_X7_weigh 17 = .ok (.putfield 49, 3)) rfl rfl em_cl_X7 (by decide) ew97 rfl (by decide) (by decide +kernel), ?_⟩
  refine List.forall_mem_cons.mpr ⟨s_iload_n C (by decide +kernel : decode c_X7_weigh 20 = .ok (.iload_n 2, 1)) rfl rfl rfl, ?_⟩
  refine List.forall_mem_cons.mpr ⟨s_iret C (by decide +kernel : decode c_X7_weigh 21 = .ok (.ireturn, 1)) hret hlk ⟨Nat.le_refl 0, Nat.le_refl 0⟩, ?_⟩
  exact fun _ h => absurd h List.not_mem_nil
def prm (a b : Int32) : Prop := ¬ a < 0 ∧ ¬ 20 < b ∧ a ≤ b
def sp_X7_permit : em_Sp := fun av hp Q => ∃ pe ki mi se we lea mst pa fi sd ev un ma ea co ca clt a b, av = [.ref 0, .int a, .int b] ∧ hp = (wT pe ki mi se we lea mst pa fi sd ev un ma ea co ca clt) ∧ (¬ prm a b → Q (some (.int (-2))) hp) ∧ (prm a b → Q (some (.int (100 * lea + mst))) (wT pe ki mi se we (a) (b) pa fi sd ev un ma ea co ca clt))
def T_X7_permit : List (Nat × em_Op) := [(0, o_iload 1 1), (1, o_iflt 15 4), (4, o_iload 2 5), (5, o_iconst 20 7), (7, o_icmpgt 15 10), (10, o_iload 1 11), (11, o_iload 2 12), (12, o_icmple 18 15), (15, o_iconst (-2) 17), (17, o_iret), (18, o_iconst 100 20), (20, o_aload 0 21), (21, o_getf 2 5 24), (24, o_imul 25), (25, o_aload 0 26), (26, o_getf 2 6 29), (29, o_iadd 30), (30, o_istore 3 31), (31, o_aload 0 32), (32, o_iload 1 33), (33, o_putI 2 5 36), (36, o_aload 0 37), (37, o_iload 2 38), (38, o_putI 2 6 41), (41, o_iload 3 42), (42, o_iret)]
theorem me_X7_permit : em_Me T_X7_permit 4 sp_X7_permit := by
  intro Q K hK hle av hp hs
  obtain ⟨pe, ki, mi, se, we, lea, mst, pa, fi, sd, ev, un, ma, ea, co, ca, clt, a, b, rfl, rfl, hb, hq⟩ := hs
  refine ⟨Nat.le_of_ble_eq_true rfl, ?_⟩
  refine hK 0 99 0 _ _ _ ?_
  refine ⟨fun z1 => ?_, fun z1 => ⟨fun z2 => ?_, fun z2 => ⟨fun z3 => ?_, fun z3 => ?_⟩⟩⟩
  · exact hb (fun y => y.1 z1)
  · exact hb (fun y => y.2.1 z2)
  · exact hq ⟨z1, z2, z3⟩
  · exact hb (fun y => z3 y.2.2)
abbrev rm_X7_permit : Room := { frames := 0, cells := 0, slots := 0, locals := 0 }
set_option maxRecDepth 100000 in
set_option maxHeartbeats 4000000 in
theorem ct_X7_permit (l : Launch) (D : va_G) (dA : Nat → ClassId) (σ : Nat → Nat) : em_CT l D em_cl dA σ (em_F σ) y_X7_permit c_X7_permit 4 (Option.some ClassFile.FieldType.int) rm_X7_permit (sp_X7_permit ) := by
  refine em_CT_of (T := T_X7_permit ) (em_F_ok σ) (by decide) (fun p e s m args below meth c A ρ Q C hFok hF hret hlk hin => ?_) (me_X7_permit )
  unfold T_X7_permit
  refine List.forall_mem_cons.mpr ⟨s_iload_n C (by decide +kernel : decode c_X7_permit 0 = .ok (.iload_n 1, 1)) rfl rfl rfl, ?_⟩
  refine List.forall_mem_cons.mpr ⟨s_iflt C (by decide +kernel : decode c_X7_permit 1 = .ok (.ifCond .lt 14, 3)) (by decide) rfl rfl rfl, ?_⟩
  refine List.forall_mem_cons.mpr ⟨s_iload_n C (by decide +kernel : decode c_X7_permit 4 = .ok (.iload_n 2, 1)) rfl rfl rfl, ?_⟩
  refine List.forall_mem_cons.mpr ⟨s_bipush C (by decide +kernel : decode c_X7_permit 5 = .ok (.bipush 20, 2)) rfl rfl (by decide), ?_⟩
  refine List.forall_mem_cons.mpr ⟨s_icmpgt C (by decide +kernel : decode c_X7_permit 7 = .ok (.if_icmp .gt 8, 3)) (by decide) rfl rfl rfl, ?_⟩
  refine List.forall_mem_cons.mpr ⟨s_iload_n C (by decide +kernel : decode c_X7_permit 10 = .ok (.iload_n 1, 1)) rfl rfl rfl, ?_⟩
  refine List.forall_mem_cons.mpr ⟨s_iload_n C (by decide +kernel : decode c_X7_permit 11 = .ok (.iload_n 2, 1)) rfl rfl rfl, ?_⟩
  refine List.forall_mem_cons.mpr ⟨s_icmple C (by decide +kernel : decode c_X7_permit 12 = .ok (.if_icmp .le 6, 3)) (by decide) rfl rfl rfl, ?_⟩
  refine List.forall_mem_cons.mpr ⟨s_bipush C (by decide +kernel : decode c_X7_permit 15 = .ok (.bipush (-2), 2)) rfl rfl (by decide), ?_⟩
  refine List.forall_mem_cons.mpr ⟨s_iret C (by decide +kernel : decode c_X7_permit 17 = .ok (.ireturn, 1)) hret hlk ⟨Nat.le_refl 0, Nat.le_refl 0⟩, ?_⟩
  refine List.forall_mem_cons.mpr ⟨s_bipush C (by decide +kernel : decode c_X7_permit 18 = .ok (.bipush 100, 2)) rfl rfl (by decide), ?_⟩
  refine List.forall_mem_cons.mpr ⟨s_aload_n C (by decide +kernel : decode c_X7_permit 20 = .ok (.aload_n 0, 1)) rfl rfl rfl, ?_⟩
  refine List.forall_mem_cons.mpr ⟨s_getf C (by decide +kernel : decode c_X7_permit 21 = .ok (.getfield 52, 3)) rfl rfl em_cl_X7 (by decide) ew98 rfl, ?_⟩
  refine List.forall_mem_cons.mpr ⟨s_imul C (by decide +kernel : decode c_X7_permit 24 = .ok (.imul, 1)) rfl rfl, ?_⟩
  refine List.forall_mem_cons.mpr ⟨s_aload_n C (by decide +kernel : decode c_X7_permit 25 = .ok (.aload_n 0, 1)) rfl rfl rfl, ?_⟩
  refine List.forall_mem_cons.mpr ⟨s_getf C (by decide +kernel : decode c_X7_permit 26 = .ok (.getfield 55, 3)) rfl rfl em_cl_X7 (by decide) ew99 rfl, ?_⟩
  refine List.forall_mem_cons.mpr ⟨s_iadd C (by decide +kernel : decode c_X7_permit 29 = .ok (.iadd, 1)) rfl rfl, ?_⟩
  refine List.forall_mem_cons.mpr ⟨s_istore_n C (by decide +kernel : decode c_X7_permit 30 = .ok (.istore_n 3, 1)) rfl rfl rfl (by decide), ?_⟩
  refine List.forall_mem_cons.mpr ⟨s_aload_n C (by decide +kernel : decode c_X7_permit 31 = .ok (.aload_n 0, 1)) rfl rfl rfl, ?_⟩
  refine List.forall_mem_cons.mpr ⟨s_iload_n C (by decide +kernel : decode c_X7_permit 32 = .ok (.iload_n 1, 1)) rfl rfl rfl, ?_⟩
  refine List.forall_mem_cons.mpr ⟨s_putI C (by decide +kernel : decode c_X7_permit 33 = .ok (.putfield 52, 3)) rfl rfl em_cl_X7 (by decide) ew98 rfl (by decide) (by decide +kernel), ?_⟩
  refine List.forall_mem_cons.mpr ⟨s_aload_n C (by decide +kernel : decode c_X7_permit 36 = .ok (.aload_n 0, 1)) rfl rfl rfl, ?_⟩
  refine List.forall_mem_cons.mpr ⟨s_iload_n C (by decide +kernel : decode c_X7_permit 37 = .ok (.iload_n 2, 1)) rfl rfl rfl, ?_⟩
  refine List.forall_mem_cons.mpr ⟨s_putI C (by decide +kernel : decode c_X7_permit 38 = .ok (.putfield 55, 3)) rfl rfl em_cl_X7 (by decide) ew99 rfl (by decide) (by decide +kernel), ?_⟩
  refine List.forall_mem_cons.mpr ⟨s_iload_n C (by decide +kernel : decode c_X7_permit 41 = .ok (.iload_n 3, 1)) rfl rfl rfl, ?_⟩
  refine List.forall_mem_cons.mpr ⟨s_iret C (by decide +kernel : decode c_X7_permit 42 = .ok (.ireturn, 1)) hret hlk ⟨Nat.le_refl 0, Nat.le_refl 0⟩, ?_⟩
  exact fun _ h => absurd h List.not_mem_nil
def sp_X7_arrange : em_Sp := fun av hp Q => ∃ pe ki mi se we lea mst pa fi sd ev un ma ea co ca clt a b np, av = [.ref 0, .int a, .int b] ∧ hp = (wT pe ki mi se we lea mst pa fi sd ev un ma ea co ca clt) ∧ pa = nI np ∧ np ≤ 8 ∧ (¬ h2 pe a b → Q (some (.int (-2))) hp) ∧ (h2 pe a b → np = 8 → Q (some (.int (-4))) hp) ∧ (h2 pe a b → np < 8 → Q (some (.int (nI np))) (wT pe ki mi se we lea mst (nI (np + 1)) (upd fi np a) (upd sd np b) ev un ma ea co ca clt))
def T_X7_arrange : List (Nat × em_Op) := [(0, o_aload 0 1), (1, o_iload 1 2), (2, o_iload 2 3), (3, o_call 3 (some 2) (sp_X7_hasTwo) 6), (6, o_ifne 12 9), (9, o_iconst (-2) 11), (11, o_iret), (12, o_aload 0 13), (13, o_getf 2 7 16), (16, o_iconst 8 18), (18, o_icmplt 24 21), (21, o_iconst (-4) 23), (23, o_iret), (24, o_aload 0 25), (25, o_getf 2 7 28), (28, o_istore 3 29), (29, o_aload 0 30), (30, o_dup 31), (31, o_getf 2 7 34), (34, o_iconst 1 35), (35, o_iadd 36), (36, o_putI 2 7 39), (39, o_aload 0 40), (40, o_getf 2 8 43), (43, o_iload 3 44), (44, o_iload 1 45), (45, o_iast 46), (46, o_aload 0 47), (47, o_getf 2 9 50), (50, o_iload 3 51), (51, o_iload 2 52), (52, o_iast 53), (53, o_iload 3 54), (54, o_iret)]
theorem me_X7_arrange : em_Me T_X7_arrange 4 sp_X7_arrange := by
  intro Q K hK hle av hp hs
  obtain ⟨pe, ki, mi, se, we, lea, mst, pa, fi, sd, ev, un, ma, ea, co, ca, clt, a, b, np, rfl, rfl, rfl, hn, hb, hf, hq⟩ := hs
  refine ⟨Nat.le_of_ble_eq_true rfl, ?_⟩
  refine hK 0 99 0 _ _ _ ?_
  refine ⟨_, _, _, _, _, _, _, _, _, _, _, _, _, _, _, _, _, _, _, rfl, rfl, fun z1 => ?_, fun z1 => ?_⟩
  · refine ⟨fun _ => ?_, fun z => absurd z (by decide)⟩
    refine ⟨fun z3 => ?_, fun z3 => ?_⟩
    · have h6 : np < 8 := (nI_ltI (b := 8) (by omega) (by omega)).mp z3
      have := hq z1 h6
      rw [← nI_1] at this
      exact ⟨np, rfl, by omega, np, rfl, by omega, this⟩
    · have h6 : np = 8 := by
        have : ¬ np < 8 := fun y => z3 (nI_lt (b := 8) y (by omega))
        omega
      exact hf z1 h6
  · exact ⟨fun z => absurd rfl z, fun _ => hb z1⟩
abbrev rm_X7_arrange : Room := { frames := 2, cells := 0, slots := 0, locals := 43 }
set_option maxRecDepth 100000 in
set_option maxHeartbeats 4000000 in
theorem ct_X7_arrange (l : Launch) (D : va_G) (dA : Nat → ClassId) (σ : Nat → Nat) : em_CT l D em_cl dA σ (em_F σ) y_X7_arrange c_X7_arrange 4 (Option.some ClassFile.FieldType.int) rm_X7_arrange (sp_X7_arrange ) := by
  refine em_CT_of (T := T_X7_arrange ) (em_F_ok σ) (by decide) (fun p e s m args below meth c A ρ Q C hFok hF hret hlk hin => ?_) (me_X7_arrange )
  unfold T_X7_arrange
  refine List.forall_mem_cons.mpr ⟨s_aload_n C (by decide +kernel : decode c_X7_arrange 0 = .ok (.aload_n 0, 1)) rfl rfl rfl, ?_⟩
  refine List.forall_mem_cons.mpr ⟨s_iload_n C (by decide +kernel : decode c_X7_arrange 1 = .ok (.iload_n 1, 1)) rfl rfl rfl, ?_⟩
  refine List.forall_mem_cons.mpr ⟨s_iload_n C (by decide +kernel : decode c_X7_arrange 2 = .ok (.iload_n 2, 1)) rfl rfl rfl, ?_⟩
  refine List.forall_mem_cons.mpr ⟨s_callV C hFok hF (ct_X7_hasTwo l D dA σ) ⟨rfl, rfl⟩ ew254 em_cl_X7 ew251 ew252 ew253 ew5 ⟨by decide, by decide, by decide +kernel⟩ ⟨by decide, by decide⟩ (by decide +kernel : decode c_X7_arrange 3 = .ok (.invokevirtual 98, 3)) rfl rfl ⟨Nat.zero_le _, Nat.zero_le _⟩, ?_⟩
  refine List.forall_mem_cons.mpr ⟨s_ifne C (by decide +kernel : decode c_X7_arrange 6 = .ok (.ifCond .ne 6, 3)) (by decide) rfl rfl rfl, ?_⟩
  refine List.forall_mem_cons.mpr ⟨s_bipush C (by decide +kernel : decode c_X7_arrange 9 = .ok (.bipush (-2), 2)) rfl rfl (by decide), ?_⟩
  refine List.forall_mem_cons.mpr ⟨s_iret C (by decide +kernel : decode c_X7_arrange 11 = .ok (.ireturn, 1)) hret hlk ⟨Nat.le_refl 0, Nat.le_refl 0⟩, ?_⟩
  refine List.forall_mem_cons.mpr ⟨s_aload_n C (by decide +kernel : decode c_X7_arrange 12 = .ok (.aload_n 0, 1)) rfl rfl rfl, ?_⟩
  refine List.forall_mem_cons.mpr ⟨s_getf C (by decide +kernel : decode c_X7_arrange 13 = .ok (.getfield 58, 3)) rfl rfl em_cl_X7 (by decide) ew100 rfl, ?_⟩
  refine List.forall_mem_cons.mpr ⟨s_bipush C (by decide +kernel : decode c_X7_arrange 16 = .ok (.bipush 8, 2)) rfl rfl (by decide), ?_⟩
  refine List.forall_mem_cons.mpr ⟨s_icmplt C (by decide +kernel : decode c_X7_arrange 18 = .ok (.if_icmp .lt 6, 3)) (by decide) rfl rfl rfl, ?_⟩
  refine List.forall_mem_cons.mpr ⟨s_bipush C (by decide +kernel : decode c_X7_arrange 21 = .ok (.bipush (-4), 2)) rfl rfl (by decide), ?_⟩
  refine List.forall_mem_cons.mpr ⟨s_iret C (by decide +kernel : decode c_X7_arrange 23 = .ok (.ireturn, 1)) hret hlk ⟨Nat.le_refl 0, Nat.le_refl 0⟩, ?_⟩
  refine List.forall_mem_cons.mpr ⟨s_aload_n C (by decide +kernel : decode c_X7_arrange 24 = .ok (.aload_n 0, 1)) rfl rfl rfl, ?_⟩
  refine List.forall_mem_cons.mpr ⟨s_getf C (by decide +kernel : decode c_X7_arrange 25 = .ok (.getfield 58, 3)) rfl rfl em_cl_X7 (by decide) ew100 rfl, ?_⟩
  refine List.forall_mem_cons.mpr ⟨s_istore_n C (by decide +kernel : decode c_X7_arrange 28 = .ok (.istore_n 3, 1)) rfl rfl rfl (by decide), ?_⟩
  refine List.forall_mem_cons.mpr ⟨s_aload_n C (by decide +kernel : decode c_X7_arrange 29 = .ok (.aload_n 0, 1)) rfl rfl rfl, ?_⟩
  refine List.forall_mem_cons.mpr ⟨s_dup C (by decide +kernel : decode c_X7_arrange 30 = .ok (.dup, 1)) rfl rfl, ?_⟩
  refine List.forall_mem_cons.mpr ⟨s_getf C (by decide +kernel : decode c_X7_arrange 31 = .ok (.getfield 58, 3)) rfl rfl em_cl_X7 (by decide) ew100 rfl, ?_⟩
  refine List.forall_mem_cons.mpr ⟨s_iconst C (by decide +kernel : decode c_X7_arrange 34 = .ok (.iconst 1, 1)) rfl rfl (by decide), ?_⟩
  refine List.forall_mem_cons.mpr ⟨s_iadd C (by decide +kernel : decode c_X7_arrange 35 = .ok (.iadd, 1)) rfl rfl, ?_⟩
  refine List.forall_mem_cons.mpr ⟨s_putI C (by decide +kernel : decode c_X7_arrange 36 = .ok (.putfield 58, 3)) rfl rfl em_cl_X7 (by decide) ew100 rfl (by decide) (by decide +kernel), ?_⟩
  refine List.forall_mem_cons.mpr ⟨s_aload_n C (by decide +kernel : decode c_X7_arrange 39 = .ok (.aload_n 0, 1)) rfl rfl rfl, ?_⟩
  refine List.forall_mem_cons.mpr ⟨s_getf C (by decide +kernel : decode c_X7_arrange 40 = .ok (.getfield 15, 3)) rfl rfl em_cl_X7 (by decide) ew102 rfl, ?_⟩
  refine List.forall_mem_cons.mpr ⟨s_iload_n C (by decide +kernel : decode c_X7_arrange 43 = .ok (.iload_n 3, 1)) rfl rfl rfl, ?_⟩
  refine List.forall_mem_cons.mpr ⟨s_iload_n C (by decide +kernel : decode c_X7_arrange 44 = .ok (.iload_n 1, 1)) rfl rfl rfl, ?_⟩
  refine List.forall_mem_cons.mpr ⟨s_iast C (by decide +kernel : decode c_X7_arrange 45 = .ok (.iastore, 1)) rfl rfl, ?_⟩
  refine List.forall_mem_cons.mpr ⟨s_aload_n C (by decide +kernel : decode c_X7_arrange 46 = .ok (.aload_n 0, 1)) rfl rfl rfl, ?_⟩
  refine List.forall_mem_cons.mpr ⟨s_getf C (by decide +kernel : decode c_X7_arrange 47 = .ok (.getfield 18, 3)) rfl rfl em_cl_X7 (by decide) ew103 rfl, ?_⟩
  refine List.forall_mem_cons.mpr ⟨s_iload_n C (by decide +kernel : decode c_X7_arrange 50 = .ok (.iload_n 3, 1)) rfl rfl rfl, ?_⟩
  refine List.forall_mem_cons.mpr ⟨s_iload_n C (by decide +kernel : decode c_X7_arrange 51 = .ok (.iload_n 2, 1)) rfl rfl rfl, ?_⟩
  refine List.forall_mem_cons.mpr ⟨s_iast C (by decide +kernel : decode c_X7_arrange 52 = .ok (.iastore, 1)) rfl rfl, ?_⟩
  refine List.forall_mem_cons.mpr ⟨s_iload_n C (by decide +kernel : decode c_X7_arrange 53 = .ok (.iload_n 3, 1)) rfl rfl rfl, ?_⟩
  refine List.forall_mem_cons.mpr ⟨s_iret C (by decide +kernel : decode c_X7_arrange 54 = .ok (.ireturn, 1)) hret hlk ⟨Nat.le_refl 0, Nat.le_refl 0⟩, ?_⟩
  exact fun _ h => absurd h List.not_mem_nil
theorem nar_bool {l : Int32} (h : l = 0 ∨ l = 1) : vp_nar .boolean l = l := by rcases h with h | h <;> subst h <;> rfl
def rng20 (x : Int32) : Prop := ¬ x < 0 ∧ x ≤ 20
def sp_X7_note : em_Sp := fun av hp Q => ∃ pe ki mi se we lea mst pa fi sd ev un ma ea co ca clt x l nc, av = [.ref 0, .int x, .int l] ∧ hp = (wT pe ki mi se we lea mst pa fi sd ev un ma ea co ca clt) ∧ (l = 0 ∨ l = 1) ∧ co = nI nc ∧ nc ≤ 10 ∧ (¬ rng20 x → Q (some (.int (-2))) hp) ∧ (rng20 x → nc = 10 → Q (some (.int (-4))) hp) ∧ (rng20 x → nc < 10 → Q (some (.int (nI (nc + 1)))) (wT pe ki mi se we lea mst pa fi sd ev un ma ea (nI (nc + 1)) (upd ca nc x) (upd clt nc l)))
def T_X7_note : List (Nat × em_Op) := [(0, o_iload 1 1), (1, o_iflt 10 4), (4, o_iload 1 5), (5, o_iconst 20 7), (7, o_icmple 13 10), (10, o_iconst (-2) 12), (12, o_iret), (13, o_aload 0 14), (14, o_getf 2 14 17), (17, o_iconst 10 19), (19, o_icmplt 25 22), (22, o_iconst (-4) 24), (24, o_iret), (25, o_aload 0 26), (26, o_getf 2 15 29), (29, o_aload 0 30), (30, o_getf 2 14 33), (33, o_iload 1 34), (34, o_iast 35), (35, o_aload 0 36), (36, o_getf 2 16 39), (39, o_aload 0 40), (40, o_getf 2 14 43), (43, o_iload 2 44), (44, o_zast 45), (45, o_aload 0 46), (46, o_dup 47), (47, o_getf 2 14 50), (50, o_iconst 1 51), (51, o_iadd 52), (52, o_putI 2 14 55), (55, o_aload 0 56), (56, o_getf 2 14 59), (59, o_iret)]
theorem me_X7_note : em_Me T_X7_note 3 sp_X7_note := by
  intro Q K hK hle av hp hs
  obtain ⟨pe, ki, mi, se, we, lea, mst, pa, fi, sd, ev, un, ma, ea, co, ca, clt, x, l, nc, rfl, rfl, hl, rfl, hn, hb, hf, hq⟩ := hs
  refine ⟨Nat.le_of_ble_eq_true rfl, ?_⟩
  have ok : rng20 x → K 13 [some (.ref 0), some (.int x), some (.int l)] [] (wT pe ki mi se we lea mst pa fi sd ev un ma ea (nI nc) ca clt) := by
    intro hr
    refine hK 7 99 13 _ _ _ ?_
    refine ⟨fun z3 => ?_, fun z3 => ?_⟩
    · have h6 : nc < 10 := (nI_ltI (b := 10) (by omega) (by omega)).mp z3
      have := hq hr h6
      rw [← nI_1] at this
      refine ⟨nc, rfl, by omega, nc, rfl, by omega, ?_⟩
      rw [← nar_bool hl] at this
      exact this
    · have h6 : nc = 10 := by
        have : ¬ nc < 10 := fun y => z3 (nI_lt (b := 10) y (by omega))
        omega
      exact hf hr h6
  refine hK 0 7 0 _ _ _ ?_
  refine ⟨fun z1 => ?_, fun z1 => ⟨fun z2 => ?_, fun z2 => ?_⟩⟩
  · exact hb (fun y => y.1 z1)
  · exact ok ⟨z1, z2⟩
  · exact hb (fun y => z2 y.2)
abbrev rm_X7_note : Room := { frames := 0, cells := 0, slots := 0, locals := 0 }
set_option maxRecDepth 100000 in
set_option maxHeartbeats 4000000 in
theorem ct_X7_note (l : Launch) (D : va_G) (dA : Nat → ClassId) (σ : Nat → Nat) : em_CT l D em_cl dA σ (em_F σ) y_X7_note c_X7_note 3 (Option.some ClassFile.FieldType.int) rm_X7_note (sp_X7_note ) := by
  refine em_CT_of (T := T_X7_note ) (em_F_ok σ) (by decide) (fun p e s m args below meth c A ρ Q C hFok hF hret hlk hin => ?_) (me_X7_note )
  unfold T_X7_note
  refine List.forall_mem_cons.mpr ⟨s_iload_n C (by decide +kernel : decode c_X7_note 0 = .ok (.iload_n 1, 1)) rfl rfl rfl, ?_⟩
  refine List.forall_mem_cons.mpr ⟨s_iflt C (by decide +kernel : decode c_X7_note 1 = .ok (.ifCond .lt 9, 3)) (by decide) rfl rfl rfl, ?_⟩
  refine List.forall_mem_cons.mpr ⟨s_iload_n C (by decide +kernel : decode c_X7_note 4 = .ok (.iload_n 1, 1)) rfl rfl rfl, ?_⟩
  refine List.forall_mem_cons.mpr ⟨s_bipush C (by decide +kernel : decode c_X7_note 5 = .ok (.bipush 20, 2)) rfl rfl (by decide), ?_⟩
  refine List.forall_mem_cons.mpr ⟨s_icmple C (by decide +kernel : decode c_X7_note 7 = .ok (.if_icmp .le 6, 3)) (by decide) rfl rfl rfl, ?_⟩
  refine List.forall_mem_cons.mpr ⟨s_bipush C (by decide +kernel : decode c_X7_note 10 = .ok (.bipush (-2), 2)) rfl rfl (by decide), ?_⟩
  refine List.forall_mem_cons.mpr ⟨s_iret C (by decide +kernel : decode c_X7_note 12 = .ok (.ireturn, 1)) hret hlk ⟨Nat.le_refl 0, Nat.le_refl 0⟩, ?_⟩
  refine List.forall_mem_cons.mpr ⟨s_aload_n C (by decide +kernel : decode c_X7_note 13 = .ok (.aload_n 0, 1)) rfl rfl rfl, ?_⟩
  refine List.forall_mem_cons.mpr ⟨s_getf C (by decide +kernel : decode c_X7_note 14 = .ok (.getfield 67, 3)) rfl rfl em_cl_X7 (by decide) ew111 rfl, ?_⟩
  refine List.forall_mem_cons.mpr ⟨s_bipush C (by decide +kernel : decode c_X7_note 17 = .ok (.bipush 10, 2)) rfl rfl (by decide), ?_⟩
  refine List.forall_mem_cons.mpr ⟨s_icmplt C (by decide +kernel : decode c_X7_note 19 = .ok (.if_icmp .lt 6, 3)) (by decide) rfl rfl rfl, ?_⟩
  refine List.forall_mem_cons.mpr ⟨s_bipush C (by decide +kernel : decode c_X7_note 22 = .ok (.bipush (-4), 2)) rfl rfl (by decide), ?_⟩
  refine List.forall_mem_cons.mpr ⟨s_iret C (by decide +kernel : decode c_X7_note 24 = .ok (.ireturn, 1)) hret hlk ⟨Nat.le_refl 0, Nat.le_refl 0⟩, ?_⟩
  refine List.forall_mem_cons.mpr ⟨s_aload_n C (by decide +kernel : decode c_X7_note 25 = .ok (.aload_n 0, 1)) rfl rfl rfl, ?_⟩
  refine List.forall_mem_cons.mpr ⟨s_getf C (by decide +kernel : decode c_X7_note 26 = .ok (.getfield 28, 3)) rfl rfl em_cl_X7 (by decide) ew113 rfl, ?_⟩
  refine List.forall_mem_cons.mpr ⟨s_aload_n C (by decide +kernel : decode c_X7_note 29 = .ok (.aload_n 0, 1)) rfl rfl rfl, ?_⟩
  refine List.forall_mem_cons.mpr ⟨s_getf C (by decide +kernel : decode c_X7_note 30 = .ok (.getfield 67, 3)) rfl rfl em_cl_X7 (by decide) ew111 rfl, ?_⟩
  refine List.forall_mem_cons.mpr ⟨s_iload_n C (by decide +kernel : decode c_X7_note 33 = .ok (.iload_n 1, 1)) rfl rfl rfl, ?_⟩
  refine List.forall_mem_cons.mpr ⟨s_iast C (by decide +kernel : decode c_X7_note 34 = .ok (.iastore, 1)) rfl rfl, ?_⟩
  refine List.forall_mem_cons.mpr ⟨s_aload_n C (by decide +kernel : decode c_X7_note 35 = .ok (.aload_n 0, 1)) rfl rfl rfl, ?_⟩
  refine List.forall_mem_cons.mpr ⟨s_getf C (by decide +kernel : decode c_X7_note 36 = .ok (.getfield 31, 3)) rfl rfl em_cl_X7 (by decide) ew114 rfl, ?_⟩
  refine List.forall_mem_cons.mpr ⟨s_aload_n C (by decide +kernel : decode c_X7_note 39 = .ok (.aload_n 0, 1)) rfl rfl rfl, ?_⟩
  refine List.forall_mem_cons.mpr ⟨s_getf C (by decide +kernel : decode c_X7_note 40 = .ok (.getfield 67, 3)) rfl rfl em_cl_X7 (by decide) ew111 rfl, ?_⟩
  refine List.forall_mem_cons.mpr ⟨s_iload_n C (by decide +kernel : decode c_X7_note 43 = .ok (.iload_n 2, 1)) rfl rfl rfl, ?_⟩
  refine List.forall_mem_cons.mpr ⟨s_zast C (by decide +kernel : decode c_X7_note 44 = .ok (.bastore, 1)) rfl rfl, ?_⟩
  refine List.forall_mem_cons.mpr ⟨s_aload_n C (by decide +kernel : decode c_X7_note 45 = .ok (.aload_n 0, 1)) rfl rfl rfl, ?_⟩
  refine List.forall_mem_cons.mpr ⟨s_dup C (by decide +kernel : decode c_X7_note 46 = .ok (.dup, 1)) rfl rfl, ?_⟩
  refine List.forall_mem_cons.mpr ⟨s_getf C (by decide +kernel : decode c_X7_note 47 = .ok (.getfield 67, 3)) rfl rfl em_cl_X7 (by decide) ew111 rfl, ?_⟩
  refine List.forall_mem_cons.mpr ⟨s_iconst C (by decide +kernel : decode c_X7_note 50 = .ok (.iconst 1, 1)) rfl rfl (by decide), ?_⟩
  refine List.forall_mem_cons.mpr ⟨s_iadd C (by decide +kernel : decode c_X7_note 51 = .ok (.iadd, 1)) rfl rfl, ?_⟩
  refine List.forall_mem_cons.mpr ⟨s_putI C (by decide +kernel : decode c_X7_note 52 = .ok (.putfield 67, 3)) rfl rfl em_cl_X7 (by decide) ew111 rfl (by decide) (by decide +kernel), ?_⟩
  refine List.forall_mem_cons.mpr ⟨s_aload_n C (by decide +kernel : decode c_X7_note 55 = .ok (.aload_n 0, 1)) rfl rfl rfl, ?_⟩
  refine List.forall_mem_cons.mpr ⟨s_getf C (by decide +kernel : decode c_X7_note 56 = .ok (.getfield 67, 3)) rfl rfl em_cl_X7 (by decide) ew111 rfl, ?_⟩
  refine List.forall_mem_cons.mpr ⟨s_iret C (by decide +kernel : decode c_X7_note 59 = .ok (.ireturn, 1)) hret hlk ⟨Nat.le_refl 0, Nat.le_refl 0⟩, ?_⟩
  exact fun _ h => absurd h List.not_mem_nil
def ins (x a b : Int32) : Int32 := if ¬ x < a ∧ ¬ b < x then 1 else 0
def cft (ca clt : Nat → Int32) (nc : Nat) (a b : Int32) : Prop := ∀ j, j < nc → ins (ca j) a b = clt j
def sp_X7_couplesFit : em_Sp := fun av hp Q => ∃ pe ki mi se we lea mst pa fi sd ev un ma ea co ca clt a b nc, av = [.ref 0, .int a, .int b] ∧ hp = (wT pe ki mi se we lea mst pa fi sd ev un ma ea co ca clt) ∧ co = nI nc ∧ nc ≤ 10 ∧ (cft ca clt nc a b → Q (some (.int 1)) hp) ∧ (¬ cft ca clt nc a b → Q (some (.int 0)) hp)
def T_X7_couplesFit : List (Nat × em_Op) := [(0, o_iconst 0 1), (1, o_istore 3 2), (2, o_iload 3 3), (3, o_aload 0 4), (4, o_getf 2 14 7), (7, o_icmpge 56 10), (10, o_aload 0 11), (11, o_getf 2 15 14), (14, o_iload 3 15), (15, o_aldI 0 16), (16, o_iload 1 17), (17, o_icmplt 34 20), (20, o_aload 0 21), (21, o_getf 2 15 24), (24, o_iload 3 25), (25, o_aldI 0 26), (26, o_iload 2 27), (27, o_icmpgt 34 30), (30, o_iconst 1 31), (31, o_goto 35), (34, o_iconst 0 35), (35, o_istore 4 37), (37, o_iload 4 39), (39, o_aload 0 40), (40, o_getf 2 16 43), (43, o_iload 3 44), (44, o_aldI 3 45), (45, o_icmpeq 50 48), (48, o_iconst 0 49), (49, o_zret), (50, o_iinc 3 1 53), (53, o_goto 2), (56, o_iconst 1 57), (57, o_zret)]
theorem me_X7_couplesFit : em_Me T_X7_couplesFit 5 sp_X7_couplesFit := by
  intro Q K hK hle av hp hs
  obtain ⟨pe, ki, mi, se, we, lea, mst, pa, fi, sd, ev, un, ma, ea, co, ca, clt, a, b, nc, rfl, rfl, rfl, hn, hq1, hq0⟩ := hs
  refine ⟨Nat.le_of_ble_eq_true rfl, ?_⟩
  have loop : ∀ (d i : Nat), i + d = nc → (∀ j, j < i → ins (ca j) a b = clt j) → K 2 [some (.ref 0), some (.int a), some (.int b), some (.int (nI i)), none] [] (wT pe ki mi se we lea mst pa fi sd ev un ma ea (nI nc) ca clt) := by
    intro d
    induction d with
    | zero =>
      intro i hi hj
      have hi : i = nc := by omega
      subst hi
      refine hK 2 99 2 _ _ _ ?_
      exact ⟨fun _ => ⟨Or.inr rfl, hq1 hj⟩, fun h => absurd (nI_le (Nat.le_refl i) (by omega)) h⟩
    | succ d ih =>
      intro i hi hj
      have fin : ∀ y, y = ins (ca i) a b → K 35 [some (.ref 0), some (.int a), some (.int b), some (.int (nI i)), none] [.int y] (wT pe ki mi se we lea mst pa fi sd ev un ma ea (nI nc) ca clt) := by
        intro y hy
        refine hK 21 99 35 _ _ _ ?_
        refine ⟨i, rfl, by omega, ?_⟩
        refine ⟨fun z => ?_, fun z => ?_⟩
        · have := ih (i + 1) (by omega) (fun j h => by
            rcases (by omega : j < i ∨ j = i) with q | q
            · exact hj j q
            · subst q; rw [← hy]; exact z)
          rw [← nI_1] at this
          exact hle _ _ _ _ _ (by exact ⟨rfl, rfl, rfl, rfl, trivial⟩) this
        · exact ⟨Or.inl rfl, hq0 (fun q => z (by rw [hy]; exact q i (by omega)))⟩
      refine hK 2 19 2 _ _ _ ?_
      refine ⟨fun h => absurd h (nI_ge (by omega) (by omega)), fun _ => ?_⟩
      refine ⟨i, rfl, by omega, ?_⟩
      refine ⟨fun z => ?_, fun z => ⟨i, rfl, by omega, fun z2 => ?_, fun z2 => ?_⟩⟩
      · exact hle _ _ _ _ _ (by exact ⟨rfl, rfl, rfl, rfl, trivial⟩) (fin 0 (by rw [ins, if_neg (fun q => q.1 z)]))
      · exact hle _ _ _ _ _ (by exact ⟨rfl, rfl, rfl, rfl, trivial⟩) (fin 0 (by rw [ins, if_neg (fun q => q.2 z2)]))
      · exact hle _ _ _ _ _ (by exact ⟨rfl, rfl, rfl, rfl, trivial⟩) (fin 1 (by rw [ins, if_pos ⟨z, z2⟩]))
  exact hK 0 2 0 _ _ _ (loop nc 0 (by omega) (fun j h => by omega))
abbrev rm_X7_couplesFit : Room := { frames := 0, cells := 0, slots := 0, locals := 0 }
set_option maxRecDepth 100000 in
set_option maxHeartbeats 4000000 in
theorem ct_X7_couplesFit (l : Launch) (D : va_G) (dA : Nat → ClassId) (σ : Nat → Nat) : em_CT l D em_cl dA σ (em_F σ) y_X7_couplesFit c_X7_couplesFit 5 (Option.some ClassFile.FieldType.boolean) rm_X7_couplesFit (sp_X7_couplesFit ) := by
  refine em_CT_of (T := T_X7_couplesFit ) (em_F_ok σ) (by decide) (fun p e s m args below meth c A ρ Q C hFok hF hret hlk hin => ?_) (me_X7_couplesFit )
  unfold T_X7_couplesFit
  refine List.forall_mem_cons.mpr ⟨s_iconst C (by decide +kernel : decode c_X7_couplesFit 0 = .ok (.iconst 0, 1)) rfl rfl (by decide), ?_⟩
  refine List.forall_mem_cons.mpr ⟨s_istore_n C (by decide +kernel : decode c_X7_couplesFit 1 = .ok (.istore_n 3, 1)) rfl rfl rfl (by decide), ?_⟩
  refine List.forall_mem_cons.mpr ⟨s_iload_n C (by decide +kernel : decode c_X7_couplesFit 2 = .ok (.iload_n 3, 1)) rfl rfl rfl, ?_⟩
  refine List.forall_mem_cons.mpr ⟨s_aload_n C (by decide +kernel : decode c_X7_couplesFit 3 = .ok (.aload_n 0, 1)) rfl rfl rfl, ?_⟩
  refine List.forall_mem_cons.mpr ⟨s_getf C (by decide +kernel : decode c_X7_couplesFit 4 = .ok (.getfield 67, 3)) rfl rfl em_cl_X7 (by decide) ew111 rfl, ?_⟩
  refine List.forall_mem_cons.mpr ⟨s_icmpge C (by decide +kernel : decode c_X7_couplesFit 7 = .ok (.if_icmp .ge 49, 3)) (by decide) rfl rfl rfl, ?_⟩
  refine List.forall_mem_cons.mpr ⟨s_aload_n C (by decide +kernel : decode c_X7_couplesFit 10 = .ok (.aload_n 0, 1)) rfl rfl rfl, ?_⟩
  refine List.forall_mem_cons.mpr ⟨s_getf C (by decide +kernel : decode c_X7_couplesFit 11 = .ok (.getfield 28, 3)) rfl rfl em_cl_X7 (by decide) ew113 rfl, ?_⟩
  refine List.forall_mem_cons.mpr ⟨s_iload_n C (by decide +kernel : decode c_X7_couplesFit 14 = .ok (.iload_n 3, 1)) rfl rfl rfl, ?_⟩
  refine List.forall_mem_cons.mpr ⟨s_iald C (by decide +kernel : decode c_X7_couplesFit 15 = .ok (.iaload, 1)) rfl rfl, ?_⟩
  refine List.forall_mem_cons.mpr ⟨s_iload_n C (by decide +kernel : decode c_X7_couplesFit 16 = .ok (.iload_n 1, 1)) rfl rfl rfl, ?_⟩
  refine List.forall_mem_cons.mpr ⟨s_icmplt C (by decide +kernel : decode c_X7_couplesFit 17 = .ok (.if_icmp .lt 17, 3)) (by decide) rfl rfl rfl, ?_⟩
  refine List.forall_mem_cons.mpr ⟨s_aload_n C (by decide +kernel : decode c_X7_couplesFit 20 = .ok (.aload_n 0, 1)) rfl rfl rfl, ?_⟩
  refine List.forall_mem_cons.mpr ⟨s_getf C (by decide +kernel : decode c_X7_couplesFit 21 = .ok (.getfield 28, 3)) rfl rfl em_cl_X7 (by decide) ew113 rfl, ?_⟩
  refine List.forall_mem_cons.mpr ⟨s_iload_n C (by decide +kernel : decode c_X7_couplesFit 24 = .ok (.iload_n 3, 1)) rfl rfl rfl, ?_⟩
  refine List.forall_mem_cons.mpr ⟨s_iald C (by decide +kernel : decode c_X7_couplesFit 25 = .ok (.iaload, 1)) rfl rfl, ?_⟩
  refine List.forall_mem_cons.mpr ⟨s_iload_n C (by decide +kernel : decode c_X7_couplesFit 26 = .ok (.iload_n 2, 1)) rfl rfl rfl, ?_⟩
  refine List.forall_mem_cons.mpr ⟨s_icmpgt C (by decide +kernel : decode c_X7_couplesFit 27 = .ok (.if_icmp .gt 7, 3)) (by decide) rfl rfl rfl, ?_⟩
  refine List.forall_mem_cons.mpr ⟨s_iconst C (by decide +kernel : decode c_X7_couplesFit 30 = .ok (.iconst 1, 1)) rfl rfl (by decide), ?_⟩
  refine List.forall_mem_cons.mpr ⟨s_goto C (by decide +kernel : decode c_X7_couplesFit 31 = .ok (.goto 4, 3)) (by decide) rfl, ?_⟩
  refine List.forall_mem_cons.mpr ⟨s_iconst C (by decide +kernel : decode c_X7_couplesFit 34 = .ok (.iconst 0, 1)) rfl rfl (by decide), ?_⟩
  refine List.forall_mem_cons.mpr ⟨s_istore C (by decide +kernel : decode c_X7_couplesFit 35 = .ok (.istore 4, 2)) rfl rfl (by decide), ?_⟩
  refine List.forall_mem_cons.mpr ⟨s_iload C (by decide +kernel : decode c_X7_couplesFit 37 = .ok (.iload 4, 2)) rfl rfl, ?_⟩
  refine List.forall_mem_cons.mpr ⟨s_aload_n C (by decide +kernel : decode c_X7_couplesFit 39 = .ok (.aload_n 0, 1)) rfl rfl rfl, ?_⟩
  refine List.forall_mem_cons.mpr ⟨s_getf C (by decide +kernel : decode c_X7_couplesFit 40 = .ok (.getfield 31, 3)) rfl rfl em_cl_X7 (by decide) ew114 rfl, ?_⟩
  refine List.forall_mem_cons.mpr ⟨s_iload_n C (by decide +kernel : decode c_X7_couplesFit 43 = .ok (.iload_n 3, 1)) rfl rfl rfl, ?_⟩
  refine List.forall_mem_cons.mpr ⟨s_zald C (by decide +kernel : decode c_X7_couplesFit 44 = .ok (.baload, 1)) rfl rfl, ?_⟩
  refine List.forall_mem_cons.mpr ⟨s_icmpeq C (by decide +kernel : decode c_X7_couplesFit 45 = .ok (.if_icmp .eq 5, 3)) (by decide) rfl rfl rfl, ?_⟩
  refine List.forall_mem_cons.mpr ⟨s_iconst C (by decide +kernel : decode c_X7_couplesFit 48 = .ok (.iconst 0, 1)) rfl rfl (by decide), ?_⟩
  refine List.forall_mem_cons.mpr ⟨s_zret C (by decide +kernel : decode c_X7_couplesFit 49 = .ok (.ireturn, 1)) hret hlk ⟨Nat.le_refl 0, Nat.le_refl 0⟩, ?_⟩
  refine List.forall_mem_cons.mpr ⟨s_iinc C (by decide +kernel : decode c_X7_couplesFit 50 = .ok (.iinc 3 1, 3)) rfl rfl (by decide) (by decide), ?_⟩
  refine List.forall_mem_cons.mpr ⟨s_goto C (by decide +kernel : decode c_X7_couplesFit 53 = .ok (.goto (-51), 3)) (by decide) rfl, ?_⟩
  refine List.forall_mem_cons.mpr ⟨s_iconst C (by decide +kernel : decode c_X7_couplesFit 56 = .ok (.iconst 1, 1)) rfl rfl (by decide), ?_⟩
  refine List.forall_mem_cons.mpr ⟨s_zret C (by decide +kernel : decode c_X7_couplesFit 57 = .ok (.ireturn, 1)) hret hlk ⟨Nat.le_refl 0, Nat.le_refl 0⟩, ?_⟩
  exact fun _ h => absurd h List.not_mem_nil
def rmL (f : Nat → Int64) (n : Nat) (x : Int64) : Nat → Int64 := if n < 12 then vp_updL f n x else vp_updL (va_cpy f f 1 0 11) 11 x
def rmI (f : Nat → Int32) (n : Nat) (x : Int32) : Nat → Int32 := if n < 12 then upd f n x else upd (va_cpy f f 1 0 11) 11 x
def rmN (n : Nat) : Nat := if n < 12 then n + 1 else 12
def sp_X7_remember : em_Sp := fun av hp Q => ∃ pe ki mi se we lea mst pa fi sd ev un ma ea co ca clt nu, av = [.ref 0] ∧ hp = (wT pe ki mi se we lea mst pa fi sd ev un ma ea co ca clt) ∧ un = nI nu ∧ nu ≤ 12 ∧ Q none (wT pe ki mi se we lea mst pa fi sd ev (nI (rmN nu)) (rmL ma nu mi) (rmI ea nu ev) co ca clt)
def T_X7_remember : List (Nat × em_Op) := [(0, o_aload 0 1), (1, o_getf 2 11 4), (4, o_iconst 12 6), (6, o_icmplt 49 9), (9, o_aload 0 10), (10, o_iconst 11 12), (12, o_putI 2 11 15), (15, o_aload 0 16), (16, o_getf 2 12 19), (19, o_iconst 1 20), (20, o_aload 0 21), (21, o_getf 2 12 24), (24, o_iconst 0 25), (25, o_aload 0 26), (26, o_getf 2 11 29), (29, o_acopyL 32), (32, o_aload 0 33), (33, o_getf 2 13 36), (36, o_iconst 1 37), (37, o_aload 0 38), (38, o_getf 2 13 41), (41, o_iconst 0 42), (42, o_aload 0 43), (43, o_getf 2 11 46), (46, o_acopyI 49), (49, o_aload 0 50), (50, o_getf 2 12 53), (53, o_aload 0 54), (54, o_getf 2 11 57), (57, o_aload 0 58), (58, o_getf 2 2 61), (61, o_last 62), (62, o_aload 0 63), (63, o_getf 2 13 66), (66, o_aload 0 67), (67, o_getf 2 11 70), (70, o_aload 0 71), (71, o_getf 2 10 74), (74, o_iast 75), (75, o_aload 0 76), (76, o_dup 77), (77, o_getf 2 11 80), (80, o_iconst 1 81), (81, o_iadd 82), (82, o_putI 2 11 85), (85, o_vret)]
theorem me_X7_remember : em_Me T_X7_remember 1 sp_X7_remember := by
  intro Q K hK hle av hp hs
  obtain ⟨pe, ki, mi, se, we, lea, mst, pa, fi, sd, ev, un, ma, ea, co, ca, clt, nu, rfl, rfl, rfl, hn, hq⟩ := hs
  refine ⟨Nat.le_of_ble_eq_true rfl, ?_⟩
  refine hK 0 99 0 _ _ _ ?_
  refine ⟨fun z => ?_, fun z => ?_⟩
  · have h12 : nu < 12 := (nI_ltI (b := 12) (by omega) (by omega)).mp z
    rw [rmL, rmI, rmN, if_pos h12, if_pos h12, if_pos h12, ← nI_1] at hq
    exact ⟨nu, rfl, h12, nu, rfl, h12, hq⟩
  · have h12 : ¬ nu < 12 := fun y => z (nI_lt (b := 12) y (by omega))
    rw [rmL, rmI, rmN, if_neg h12, if_neg h12, if_neg h12] at hq
    exact ⟨1, 0, 11, rfl, rfl, rfl, by decide, by decide, 1, 0, 11, rfl, rfl, rfl, by decide, by decide, 11, rfl, by decide, 11, rfl, by decide, hq⟩
abbrev rm_X7_remember : Room := { frames := 1, cells := 0, slots := 0, locals := 60 }
set_option maxRecDepth 100000 in
set_option maxHeartbeats 4000000 in
theorem ct_X7_remember (l : Launch) (D : va_G) (dA : Nat → ClassId) (σ : Nat → Nat) : em_CT l D em_cl dA σ (em_F σ) y_X7_remember c_X7_remember 1 (Option.none : Option ClassFile.FieldType) rm_X7_remember (sp_X7_remember ) := by
  refine em_CT_of (T := T_X7_remember ) (em_F_ok σ) (by decide) (fun p e s m args below meth c A ρ Q C hFok hF hret hlk hin => ?_) (me_X7_remember )
  unfold T_X7_remember
  refine List.forall_mem_cons.mpr ⟨s_aload_n C (by decide +kernel : decode c_X7_remember 0 = .ok (.aload_n 0, 1)) rfl rfl rfl, ?_⟩
  refine List.forall_mem_cons.mpr ⟨s_getf C (by decide +kernel : decode c_X7_remember 1 = .ok (.getfield 64, 3)) rfl rfl em_cl_X7 (by decide) ew107 rfl, ?_⟩
  refine List.forall_mem_cons.mpr ⟨s_bipush C (by decide +kernel : decode c_X7_remember 4 = .ok (.bipush 12, 2)) rfl rfl (by decide), ?_⟩
  refine List.forall_mem_cons.mpr ⟨s_icmplt C (by decide +kernel : decode c_X7_remember 6 = .ok (.if_icmp .lt 43, 3)) (by decide) rfl rfl rfl, ?_⟩
  refine List.forall_mem_cons.mpr ⟨s_aload_n C (by decide +kernel : decode c_X7_remember 9 = .ok (.aload_n 0, 1)) rfl rfl rfl, ?_⟩
  refine List.forall_mem_cons.mpr ⟨s_bipush C (by decide +kernel : decode c_X7_remember 10 = .ok (.bipush 11, 2)) rfl rfl (by decide), ?_⟩
  refine List.forall_mem_cons.mpr ⟨s_putI C (by decide +kernel : decode c_X7_remember 12 = .ok (.putfield 64, 3)) rfl rfl em_cl_X7 (by decide) ew107 rfl (by decide) (by decide +kernel), ?_⟩
  refine List.forall_mem_cons.mpr ⟨s_aload_n C (by decide +kernel : decode c_X7_remember 15 = .ok (.aload_n 0, 1)) rfl rfl rfl, ?_⟩
  refine List.forall_mem_cons.mpr ⟨s_getf C (by decide +kernel : decode c_X7_remember 16 = .ok (.getfield 21, 3)) rfl rfl em_cl_X7 (by decide) ew109 rfl, ?_⟩
  refine List.forall_mem_cons.mpr ⟨s_iconst C (by decide +kernel : decode c_X7_remember 19 = .ok (.iconst 1, 1)) rfl rfl (by decide), ?_⟩
  refine List.forall_mem_cons.mpr ⟨s_aload_n C (by decide +kernel : decode c_X7_remember 20 = .ok (.aload_n 0, 1)) rfl rfl rfl, ?_⟩
  refine List.forall_mem_cons.mpr ⟨s_getf C (by decide +kernel : decode c_X7_remember 21 = .ok (.getfield 21, 3)) rfl rfl em_cl_X7 (by decide) ew109 rfl, ?_⟩
  refine List.forall_mem_cons.mpr ⟨s_iconst C (by decide +kernel : decode c_X7_remember 24 = .ok (.iconst 0, 1)) rfl rfl (by decide), ?_⟩
  refine List.forall_mem_cons.mpr ⟨s_aload_n C (by decide +kernel : decode c_X7_remember 25 = .ok (.aload_n 0, 1)) rfl rfl rfl, ?_⟩
  refine List.forall_mem_cons.mpr ⟨s_getf C (by decide +kernel : decode c_X7_remember 26 = .ok (.getfield 64, 3)) rfl rfl em_cl_X7 (by decide) ew107 rfl, ?_⟩
  refine List.forall_mem_cons.mpr ⟨s_acopyL C ew428 ew430 ew429 ew14 ⟨by decide, by decide⟩ (by decide +kernel : decode c_X7_remember 29 = .ok (.invokestatic 70, 3)) rfl rfl, ?_⟩
  refine List.forall_mem_cons.mpr ⟨s_aload_n C (by decide +kernel : decode c_X7_remember 32 = .ok (.aload_n 0, 1)) rfl rfl rfl, ?_⟩
  refine List.forall_mem_cons.mpr ⟨s_getf C (by decide +kernel : decode c_X7_remember 33 = .ok (.getfield 25, 3)) rfl rfl em_cl_X7 (by decide) ew110 rfl, ?_⟩
  refine List.forall_mem_cons.mpr ⟨s_iconst C (by decide +kernel : decode c_X7_remember 36 = .ok (.iconst 1, 1)) rfl rfl (by decide), ?_⟩
  refine List.forall_mem_cons.mpr ⟨s_aload_n C (by decide +kernel : decode c_X7_remember 37 = .ok (.aload_n 0, 1)) rfl rfl rfl, ?_⟩
  refine List.forall_mem_cons.mpr ⟨s_getf C (by decide +kernel : decode c_X7_remember 38 = .ok (.getfield 25, 3)) rfl rfl em_cl_X7 (by decide) ew110 rfl, ?_⟩
  refine List.forall_mem_cons.mpr ⟨s_iconst C (by decide +kernel : decode c_X7_remember 41 = .ok (.iconst 0, 1)) rfl rfl (by decide), ?_⟩
  refine List.forall_mem_cons.mpr ⟨s_aload_n C (by decide +kernel : decode c_X7_remember 42 = .ok (.aload_n 0, 1)) rfl rfl rfl, ?_⟩
  refine List.forall_mem_cons.mpr ⟨s_getf C (by decide +kernel : decode c_X7_remember 43 = .ok (.getfield 64, 3)) rfl rfl em_cl_X7 (by decide) ew107 rfl, ?_⟩
  refine List.forall_mem_cons.mpr ⟨s_acopyI C ew428 ew430 ew429 ew14 ⟨by decide, by decide⟩ (by decide +kernel : decode c_X7_remember 46 = .ok (.invokestatic 70, 3)) rfl rfl, ?_⟩
  refine List.forall_mem_cons.mpr ⟨s_aload_n C (by decide +kernel : decode c_X7_remember 49 = .ok (.aload_n 0, 1)) rfl rfl rfl, ?_⟩
  refine List.forall_mem_cons.mpr ⟨s_getf C (by decide +kernel : decode c_X7_remember 50 = .ok (.getfield 21, 3)) rfl rfl em_cl_X7 (by decide) ew109 rfl, ?_⟩
  refine List.forall_mem_cons.mpr ⟨s_aload_n C (by decide +kernel : decode c_X7_remember 53 = .ok (.aload_n 0, 1)) rfl rfl rfl, ?_⟩
  refine List.forall_mem_cons.mpr ⟨s_getf C (by decide +kernel : decode c_X7_remember 54 = .ok (.getfield 64, 3)) rfl rfl em_cl_X7 (by decide) ew107 rfl, ?_⟩
  refine List.forall_mem_cons.mpr ⟨s_aload_n C (by decide +kernel : decode c_X7_remember 57 = .ok (.aload_n 0, 1)) rfl rfl rfl, ?_⟩
  refine List.forall_mem_cons.mpr ⟨s_getf C (by decide +kernel : decode c_X7_remember 58 = .ok (.getfield 42, 3)) rfl rfl em_cl_X7 (by decide) ew91 rfl, ?_⟩
  refine List.forall_mem_cons.mpr ⟨s_last C (by decide +kernel : decode c_X7_remember 61 = .ok (.lastore, 1)) rfl rfl, ?_⟩
  refine List.forall_mem_cons.mpr ⟨s_aload_n C (by decide +kernel : decode c_X7_remember 62 = .ok (.aload_n 0, 1)) rfl rfl rfl, ?_⟩
  refine List.forall_mem_cons.mpr ⟨s_getf C (by decide +kernel : decode c_X7_remember 63 = .ok (.getfield 25, 3)) rfl rfl em_cl_X7 (by decide) ew110 rfl, ?_⟩
  refine List.forall_mem_cons.mpr ⟨s_aload_n C (by decide +kernel : decode c_X7_remember 66 = .ok (.aload_n 0, 1)) rfl rfl rfl, ?_⟩
  refine List.forall_mem_cons.mpr ⟨s_getf C (by decide +kernel : decode c_X7_remember 67 = .ok (.getfield 64, 3)) rfl rfl em_cl_X7 (by decide) ew107 rfl, ?_⟩
  refine List.forall_mem_cons.mpr ⟨s_aload_n C (by decide +kernel : decode c_X7_remember 70 = .ok (.aload_n 0, 1)) rfl rfl rfl, ?_⟩
  refine List.forall_mem_cons.mpr ⟨s_getf C (by decide +kernel : decode c_X7_remember 71 = .ok (.getfield 61, 3)) rfl rfl em_cl_X7 (by decide) ew105 rfl, ?_⟩
  refine List.forall_mem_cons.mpr ⟨s_iast C (by decide +kernel : decode c_X7_remember 74 = .ok (.iastore, 1)) rfl rfl, ?_⟩
  refine List.forall_mem_cons.mpr ⟨s_aload_n C (by decide +kernel : decode c_X7_remember 75 = .ok (.aload_n 0, 1)) rfl rfl rfl, ?_⟩
  refine List.forall_mem_cons.mpr ⟨s_dup C (by decide +kernel : decode c_X7_remember 76 = .ok (.dup, 1)) rfl rfl, ?_⟩
  refine List.forall_mem_cons.mpr ⟨s_getf C (by decide +kernel : decode c_X7_remember 77 = .ok (.getfield 64, 3)) rfl rfl em_cl_X7 (by decide) ew107 rfl, ?_⟩
  refine List.forall_mem_cons.mpr ⟨s_iconst C (by decide +kernel : decode c_X7_remember 80 = .ok (.iconst 1, 1)) rfl rfl (by decide), ?_⟩
  refine List.forall_mem_cons.mpr ⟨s_iadd C (by decide +kernel : decode c_X7_remember 81 = .ok (.iadd, 1)) rfl rfl, ?_⟩
  refine List.forall_mem_cons.mpr ⟨s_putI C (by decide +kernel : decode c_X7_remember 82 = .ok (.putfield 64, 3)) rfl rfl em_cl_X7 (by decide) ew107 rfl (by decide) (by decide +kernel), ?_⟩
  refine List.forall_mem_cons.mpr ⟨s_vret C (by decide +kernel : decode c_X7_remember 85 = .ok (.return_, 1)) hret hlk ⟨Nat.le_refl 0, Nat.le_refl 0⟩, ?_⟩
  exact fun _ h => absurd h List.not_mem_nil
def sp_X7_takeBack : em_Sp := fun av hp Q => ∃ pe ki mi se we lea mst pa fi sd ev un ma ea co ca clt nu, av = [.ref 0] ∧ hp = (wT pe ki mi se we lea mst pa fi sd ev un ma ea co ca clt) ∧ un = nI nu ∧ nu ≤ 12 ∧ (nu = 0 → Q (some (.int 0)) hp) ∧ (∀ k, nu = k + 1 → Q (some (.int 1)) (wT pe ki (ma k) se we lea mst pa fi sd (ea k) (nI k) ma ea co ca clt))
def T_X7_takeBack : List (Nat × em_Op) := [(0, o_aload 0 1), (1, o_getf 2 11 4), (4, o_iconst 1 5), (5, o_icmpge 10 8), (8, o_iconst 0 9), (9, o_zret), (10, o_aload 0 11), (11, o_dup 12), (12, o_getf 2 11 15), (15, o_iconst 1 16), (16, o_isub 17), (17, o_putI 2 11 20), (20, o_aload 0 21), (21, o_aload 0 22), (22, o_getf 2 12 25), (25, o_aload 0 26), (26, o_getf 2 11 29), (29, o_aldL 1 30), (30, o_putL 2 2 33), (33, o_aload 0 34), (34, o_aload 0 35), (35, o_getf 2 13 38), (38, o_aload 0 39), (39, o_getf 2 11 42), (42, o_aldI 0 43), (43, o_putI 2 10 46), (46, o_iconst 1 47), (47, o_zret)]
theorem me_X7_takeBack : em_Me T_X7_takeBack 1 sp_X7_takeBack := by
  intro Q K hK hle av hp hs
  obtain ⟨pe, ki, mi, se, we, lea, mst, pa, fi, sd, ev, un, ma, ea, co, ca, clt, nu, rfl, rfl, rfl, hn, hq0, hq1⟩ := hs
  refine ⟨Nat.le_of_ble_eq_true rfl, ?_⟩
  refine hK 0 99 0 _ _ _ ?_
  refine ⟨fun z => ?_, fun z => ?_⟩
  · have h1 : 1 ≤ nu := (nI_leI (a := 1) (by omega) (by omega)).mp z
    obtain ⟨k, rfl⟩ : ∃ k, nu = k + 1 := ⟨nu - 1, by omega⟩
    have := hq1 k rfl
    rw [← nI_pred] at this
    exact ⟨k, nI_pred k, by omega, k, nI_pred k, by omega, Or.inr rfl, this⟩
  · have h1 : ¬ 1 ≤ nu := fun y => z (nI_le (a := 1) y (by omega))
    exact ⟨Or.inl rfl, hq0 (by omega)⟩
abbrev rm_X7_takeBack : Room := { frames := 0, cells := 0, slots := 0, locals := 0 }
set_option maxRecDepth 100000 in
set_option maxHeartbeats 4000000 in
theorem ct_X7_takeBack (l : Launch) (D : va_G) (dA : Nat → ClassId) (σ : Nat → Nat) : em_CT l D em_cl dA σ (em_F σ) y_X7_takeBack c_X7_takeBack 1 (Option.some ClassFile.FieldType.boolean) rm_X7_takeBack (sp_X7_takeBack ) := by
  refine em_CT_of (T := T_X7_takeBack ) (em_F_ok σ) (by decide) (fun p e s m args below meth c A ρ Q C hFok hF hret hlk hin => ?_) (me_X7_takeBack )
  unfold T_X7_takeBack
  refine List.forall_mem_cons.mpr ⟨s_aload_n C (by decide +kernel : decode c_X7_takeBack 0 = .ok (.aload_n 0, 1)) rfl rfl rfl, ?_⟩
  refine List.forall_mem_cons.mpr ⟨s_getf C (by decide +kernel : decode c_X7_takeBack 1 = .ok (.getfield 64, 3)) rfl rfl em_cl_X7 (by decide) ew107 rfl, ?_⟩
  refine List.forall_mem_cons.mpr ⟨s_iconst C (by decide +kernel : decode c_X7_takeBack 4 = .ok (.iconst 1, 1)) rfl rfl (by decide), ?_⟩
  refine List.forall_mem_cons.mpr ⟨s_icmpge C (by decide +kernel : decode c_X7_takeBack 5 = .ok (.if_icmp .ge 5, 3)) (by decide) rfl rfl rfl, ?_⟩
  refine List.forall_mem_cons.mpr ⟨s_iconst C (by decide +kernel : decode c_X7_takeBack 8 = .ok (.iconst 0, 1)) rfl rfl (by decide), ?_⟩
  refine List.forall_mem_cons.mpr ⟨s_zret C (by decide +kernel : decode c_X7_takeBack 9 = .ok (.ireturn, 1)) hret hlk ⟨Nat.le_refl 0, Nat.le_refl 0⟩, ?_⟩
  refine List.forall_mem_cons.mpr ⟨s_aload_n C (by decide +kernel : decode c_X7_takeBack 10 = .ok (.aload_n 0, 1)) rfl rfl rfl, ?_⟩
  refine List.forall_mem_cons.mpr ⟨s_dup C (by decide +kernel : decode c_X7_takeBack 11 = .ok (.dup, 1)) rfl rfl, ?_⟩
  refine List.forall_mem_cons.mpr ⟨s_getf C (by decide +kernel : decode c_X7_takeBack 12 = .ok (.getfield 64, 3)) rfl rfl em_cl_X7 (by decide) ew107 rfl, ?_⟩
  refine List.forall_mem_cons.mpr ⟨s_iconst C (by decide +kernel : decode c_X7_takeBack 15 = .ok (.iconst 1, 1)) rfl rfl (by decide), ?_⟩
  refine List.forall_mem_cons.mpr ⟨s_isub C (by decide +kernel : decode c_X7_takeBack 16 = .ok (.isub, 1)) rfl rfl, ?_⟩
  refine List.forall_mem_cons.mpr ⟨s_putI C (by decide +kernel : decode c_X7_takeBack 17 = .ok (.putfield 64, 3)) rfl rfl em_cl_X7 (by decide) ew107 rfl (by decide) (by decide +kernel), ?_⟩
  refine List.forall_mem_cons.mpr ⟨s_aload_n C (by decide +kernel : decode c_X7_takeBack 20 = .ok (.aload_n 0, 1)) rfl rfl rfl, ?_⟩
  refine List.forall_mem_cons.mpr ⟨s_aload_n C (by decide +kernel : decode c_X7_takeBack 21 = .ok (.aload_n 0, 1)) rfl rfl rfl, ?_⟩
  refine List.forall_mem_cons.mpr ⟨s_getf C (by decide +kernel : decode c_X7_takeBack 22 = .ok (.getfield 21, 3)) rfl rfl em_cl_X7 (by decide) ew109 rfl, ?_⟩
  refine List.forall_mem_cons.mpr ⟨s_aload_n C (by decide +kernel : decode c_X7_takeBack 25 = .ok (.aload_n 0, 1)) rfl rfl rfl, ?_⟩
  refine List.forall_mem_cons.mpr ⟨s_getf C (by decide +kernel : decode c_X7_takeBack 26 = .ok (.getfield 64, 3)) rfl rfl em_cl_X7 (by decide) ew107 rfl, ?_⟩
  refine List.forall_mem_cons.mpr ⟨s_lald C (by decide +kernel : decode c_X7_takeBack 29 = .ok (.laload, 1)) rfl rfl, ?_⟩
  refine List.forall_mem_cons.mpr ⟨s_putL C (by decide +kernel : decode c_X7_takeBack 30 = .ok (.putfield 42, 3)) rfl rfl em_cl_X7 (by decide) ew91 rfl (by decide) (by decide +kernel), ?_⟩
  refine List.forall_mem_cons.mpr ⟨s_aload_n C (by decide +kernel : decode c_X7_takeBack 33 = .ok (.aload_n 0, 1)) rfl rfl rfl, ?_⟩
  refine List.forall_mem_cons.mpr ⟨s_aload_n C (by decide +kernel : decode c_X7_takeBack 34 = .ok (.aload_n 0, 1)) rfl rfl rfl, ?_⟩
  refine List.forall_mem_cons.mpr ⟨s_getf C (by decide +kernel : decode c_X7_takeBack 35 = .ok (.getfield 25, 3)) rfl rfl em_cl_X7 (by decide) ew110 rfl, ?_⟩
  refine List.forall_mem_cons.mpr ⟨s_aload_n C (by decide +kernel : decode c_X7_takeBack 38 = .ok (.aload_n 0, 1)) rfl rfl rfl, ?_⟩
  refine List.forall_mem_cons.mpr ⟨s_getf C (by decide +kernel : decode c_X7_takeBack 39 = .ok (.getfield 64, 3)) rfl rfl em_cl_X7 (by decide) ew107 rfl, ?_⟩
  refine List.forall_mem_cons.mpr ⟨s_iald C (by decide +kernel : decode c_X7_takeBack 42 = .ok (.iaload, 1)) rfl rfl, ?_⟩
  refine List.forall_mem_cons.mpr ⟨s_putI C (by decide +kernel : decode c_X7_takeBack 43 = .ok (.putfield 61, 3)) rfl rfl em_cl_X7 (by decide) ew105 rfl (by decide) (by decide +kernel), ?_⟩
  refine List.forall_mem_cons.mpr ⟨s_iconst C (by decide +kernel : decode c_X7_takeBack 46 = .ok (.iconst 1, 1)) rfl rfl (by decide), ?_⟩
  refine List.forall_mem_cons.mpr ⟨s_zret C (by decide +kernel : decode c_X7_takeBack 47 = .ok (.ireturn, 1)) hret hlk ⟨Nat.le_refl 0, Nat.le_refl 0⟩, ?_⟩
  exact fun _ h => absurd h List.not_mem_nil
def hx (h : Int64) (x : Int32) : Int64 := 31 * h + x.toInt64
def adP (ki : Nat → Int32) (mi se : Int64) (h : Int64) : Nat → Int64
  | 0 => h
  | i + 1 => hx (hx (hx (adP ki mi se h i) (ki i)) (mo mi (nI i))) (mo se (nI i))
def adC (f g : Nat → Int32) (h : Int64) : Nat → Int64
  | 0 => h
  | i + 1 => hx (hx (adC f g h i) (f i)) (g i)
def bz (x : Int32) : Int32 := if x = 0 then 0 else 1
def sp_X7_addTo : em_Sp := fun av hp Q => ∃ pe ki mi se we lea mst pa fi sd ev un ma ea co ca clt h n np nc, av = [.ref 0, .long h] ∧ hp = (wT pe ki mi se we lea mst pa fi sd ev un ma ea co ca clt) ∧ pe = nI n ∧ n ≤ 6 ∧ pa = nI np ∧ np ≤ 8 ∧ co = nI nc ∧ nc ≤ 10 ∧ Q (some (.long (adC ca (fun j => bz (clt j)) (adC fi sd (adP ki mi se (hx (hx (hx h we) lea) mst) n) np) nc))) hp
def T_X7_addTo : List (Nat × em_Op) := [(0, o_lconst 31 3), (3, o_lload 1 4), (4, o_lmul 5), (5, o_aload 0 6), (6, o_getf 2 4 9), (9, o_i2l 10), (10, o_ladd 11), (11, o_lstore 3 12), (12, o_lconst 31 15), (15, o_lload 3 16), (16, o_lmul 17), (17, o_aload 0 18), (18, o_getf 2 5 21), (21, o_i2l 22), (22, o_ladd 23), (23, o_lstore 3 24), (24, o_lconst 31 27), (27, o_lload 3 28), (28, o_lmul 29), (29, o_aload 0 30), (30, o_getf 2 6 33), (33, o_i2l 34), (34, o_ladd 35), (35, o_lstore 3 36), (36, o_iconst 0 37), (37, o_istore 5 39), (39, o_iload 5 41), (41, o_aload 0 42), (42, o_getf 2 0 45), (45, o_icmpge 103 48), (48, o_lconst 31 51), (51, o_lload 3 52), (52, o_lmul 53), (53, o_aload 0 54), (54, o_getf 2 1 57), (57, o_iload 5 59), (59, o_aldI 0 60), (60, o_i2l 61), (61, o_ladd 62), (62, o_lstore 3 63), (63, o_lconst 31 66), (66, o_lload 3 67), (67, o_lmul 68), (68, o_aload 0 69), (69, o_getf 2 2 72), (72, o_iload 5 74), (74, o_call 2 none (sp_X5_of) 77), (77, o_i2l 78), (78, o_ladd 79), (79, o_lstore 3 80), (80, o_lconst 31 83), (83, o_lload 3 84), (84, o_lmul 85), (85, o_aload 0 86), (86, o_getf 2 3 89), (89, o_iload 5 91), (91, o_call 2 none (sp_X5_of) 94), (94, o_i2l 95), (95, o_ladd 96), (96, o_lstore 3 97), (97, o_iinc 5 1 100), (100, o_goto 39), (103, o_iconst 0 104), (104, o_istore 5 106), (106, o_iload 5 108), (108, o_aload 0 109), (109, o_getf 2 7 112), (112, o_icmpge 151 115), (115, o_lconst 31 118), (118, o_lload 3 119), (119, o_lmul 120), (120, o_aload 0 121), (121, o_getf 2 8 124), (124, o_iload 5 126), (126, o_aldI 0 127), (127, o_i2l 128), (128, o_ladd 129), (129, o_lstore 3 130), (130, o_lconst 31 133), (133, o_lload 3 134), (134, o_lmul 135), (135, o_aload 0 136), (136, o_getf 2 9 139), (139, o_iload 5 141), (141, o_aldI 0 142), (142, o_i2l 143), (143, o_ladd 144), (144, o_lstore 3 145), (145, o_iinc 5 1 148), (148, o_goto 106), (151, o_iconst 0 152), (152, o_istore 5 154), (154, o_iload 5 156), (156, o_aload 0 157), (157, o_getf 2 14 160), (160, o_icmpge 207 163), (163, o_lconst 31 166), (166, o_lload 3 167), (167, o_lmul 168), (168, o_aload 0 169), (169, o_getf 2 15 172), (172, o_iload 5 174), (174, o_aldI 0 175), (175, o_i2l 176), (176, o_ladd 177), (177, o_lstore 3 178), (178, o_lconst 31 181), (181, o_lload 3 182), (182, o_lmul 183), (183, o_aload 0 184), (184, o_getf 2 16 187), (187, o_iload 5 189), (189, o_aldI 3 190), (190, o_ifeq 197 193), (193, o_iconst 1 194), (194, o_goto 198), (197, o_iconst 0 198), (198, o_i2l 199), (199, o_ladd 200), (200, o_lstore 3 201), (201, o_iinc 5 1 204), (204, o_goto 154), (207, o_lload 3 208), (208, o_lret)]
theorem me_X7_addTo : em_Me T_X7_addTo 6 sp_X7_addTo := by
  intro Q K hK hle av hp hs
  obtain ⟨pe, ki, mi, se, we, lea, mst, pa, fi, sd, ev, un, ma, ea, co, ca, clt, h, n, np, nc, rfl, rfl, rfl, hn, rfl, hnp, rfl, hnc, hq⟩ := hs
  refine ⟨Nat.le_of_ble_eq_true rfl, ?_⟩
  generalize hA : adP ki mi se (hx (hx (hx h we) lea) mst) n = hP at hq
  generalize hB : adC fi sd hP np = hC at hq
  have l3 : ∀ (d i : Nat), i + d = nc → K 154 [some (.ref 0), some (.long h), none, some (.long (adC ca (fun j => bz (clt j)) hC i)), none, some (.int (nI i))] [] (wT (nI n) ki mi se we lea mst (nI np) fi sd ev un ma ea (nI nc) ca clt) := by
    intro d
    induction d with
    | zero =>
      intro i hi
      have hi : i = nc := by omega
      subst hi
      refine hK 92 99 154 _ _ _ ?_
      exact ⟨fun _ => hq, fun z => absurd (nI_le (Nat.le_refl i) (by omega)) z⟩
    | succ d ih =>
      intro i hi
      have := ih (i + 1) (by omega)
      rw [← nI_1] at this
      refine hK 92 99 154 _ _ _ ?_
      refine ⟨fun z => absurd z (nI_ge (by omega) (by omega)), fun _ => ?_⟩
      refine ⟨i, rfl, by omega, i, rfl, by omega, fun z => ?_, fun z => ?_⟩
      · rw [adC, show bz (clt i) = 0 from if_pos z] at this
        exact this
      · rw [adC, show bz (clt i) = 1 from if_neg z] at this
        exact this
  have l2 : ∀ (d i : Nat), i + d = np → K 106 [some (.ref 0), some (.long h), none, some (.long (adC fi sd hP i)), none, some (.int (nI i))] [] (wT (nI n) ki mi se we lea mst (nI np) fi sd ev un ma ea (nI nc) ca clt) := by
    intro d
    induction d with
    | zero =>
      intro i hi
      have hi : i = np := by omega
      subst hi
      have := l3 nc 0 (by omega)
      refine hK 64 28 106 _ _ _ ?_
      refine ⟨fun _ => ?_, fun z => absurd (nI_le (Nat.le_refl i) (by omega)) z⟩
      rw [hB]
      exact this
    | succ d ih =>
      intro i hi
      have := ih (i + 1) (by omega)
      rw [← nI_1] at this
      refine hK 64 28 106 _ _ _ ?_
      exact ⟨fun z => absurd z (nI_ge (by omega) (by omega)), fun _ => ⟨i, rfl, by omega, i, rfl, by omega, this⟩⟩
  have l1 : ∀ (d i : Nat), i + d = n → K 39 [some (.ref 0), some (.long h), none, some (.long (adP ki mi se (hx (hx (hx h we) lea) mst) i)), none, some (.int (nI i))] [] (wT (nI n) ki mi se we lea mst (nI np) fi sd ev un ma ea (nI nc) ca clt) := by
    intro d
    induction d with
    | zero =>
      intro i hi
      have hi : i = n := by omega
      subst hi
      have := l2 np 0 (by omega)
      refine hK 26 38 39 _ _ _ ?_
      refine ⟨fun _ => ?_, fun z => absurd (nI_le (Nat.le_refl i) (by omega)) z⟩
      rw [hA]
      exact this
    | succ d ih =>
      intro i hi
      have := ih (i + 1) (by omega)
      rw [← nI_1] at this
      refine hK 26 38 39 _ _ _ ?_
      exact ⟨fun z => absurd z (nI_ge (by omega) (by omega)), fun _ => ⟨i, rfl, by omega, _, _, rfl, _, _, rfl, this⟩⟩
  exact hK 0 26 0 _ _ _ (l1 n 0 (by omega))
abbrev rm_X7_addTo : Room := { frames := 1, cells := 0, slots := 0, locals := 22 }
set_option maxRecDepth 100000 in
set_option maxHeartbeats 4000000 in
theorem ct_X7_addTo (l : Launch) (D : va_G) (dA : Nat → ClassId) (σ : Nat → Nat) : em_CT l D em_cl dA σ (em_F σ) y_X7_addTo c_X7_addTo 6 (Option.some ClassFile.FieldType.long) rm_X7_addTo (sp_X7_addTo ) := by
  refine em_CT_of (T := T_X7_addTo ) (em_F_ok σ) (by decide) (fun p e s m args below meth c A ρ Q C hFok hF hret hlk hin => ?_) (me_X7_addTo )
  unfold T_X7_addTo
  refine List.forall_mem_cons.mpr ⟨s_ldc2 C (by decide +kernel : decode c_X7_addTo 0 = .ok (.ldc2_w 129, 3)) rfl rfl ew686, ?_⟩
  refine List.forall_mem_cons.mpr ⟨s_lload_n C (by decide +kernel : decode c_X7_addTo 3 = .ok (.lload_n 1, 1)) rfl rfl rfl, ?_⟩
  refine List.forall_mem_cons.mpr ⟨s_lmul C (by decide +kernel : decode c_X7_addTo 4 = .ok (.lmul, 1)) rfl rfl, ?_⟩
  refine List.forall_mem_cons.mpr ⟨s_aload_n C (by decide +kernel : decode c_X7_addTo 5 = .ok (.aload_n 0, 1)) rfl rfl rfl, ?_⟩
  refine List.forall_mem_cons.mpr ⟨s_getf C (by decide +kernel : decode c_X7_addTo 6 = .ok (.getfield 49, 3)) rfl rfl em_cl_X7 (by decide) ew97 rfl, ?_⟩
  refine List.forall_mem_cons.mpr ⟨s_i2l C (by decide +kernel : decode c_X7_addTo 9 = .ok (.i2l, 1)) rfl rfl, ?_⟩
  refine List.forall_mem_cons.mpr ⟨s_ladd C (by decide +kernel : decode c_X7_addTo 10 = .ok (.ladd, 1)) rfl rfl, ?_⟩
  refine List.forall_mem_cons.mpr ⟨s_lstore_n C (by decide +kernel : decode c_X7_addTo 11 = .ok (.lstore_n 3, 1)) rfl rfl rfl (by decide), ?_⟩
  refine List.forall_mem_cons.mpr ⟨s_ldc2 C (by decide +kernel : decode c_X7_addTo 12 = .ok (.ldc2_w 129, 3)) rfl rfl ew686, ?_⟩
  refine List.forall_mem_cons.mpr ⟨s_lload_n C (by decide +kernel : decode c_X7_addTo 15 = .ok (.lload_n 3, 1)) rfl rfl rfl, ?_⟩
  refine List.forall_mem_cons.mpr ⟨s_lmul C (by decide +kernel : decode c_X7_addTo 16 = .ok (.lmul, 1)) rfl rfl, ?_⟩
  refine List.forall_mem_cons.mpr ⟨s_aload_n C (by decide +kernel : decode c_X7_addTo 17 = .ok (.aload_n 0, 1)) rfl rfl rfl, ?_⟩
  refine List.forall_mem_cons.mpr ⟨s_getf C (by decide +kernel : decode c_X7_addTo 18 = .ok (.getfield 52, 3)) rfl rfl em_cl_X7 (by decide) ew98 rfl, ?_⟩
  refine List.forall_mem_cons.mpr ⟨s_i2l C (by decide +kernel : decode c_X7_addTo 21 = .ok (.i2l, 1)) rfl rfl, ?_⟩
  refine List.forall_mem_cons.mpr ⟨s_ladd C (by decide +kernel : decode c_X7_addTo 22 = .ok (.ladd, 1)) rfl rfl, ?_⟩
  refine List.forall_mem_cons.mpr ⟨s_lstore_n C (by decide +kernel : decode c_X7_addTo 23 = .ok (.lstore_n 3, 1)) rfl rfl rfl (by decide), ?_⟩
  refine List.forall_mem_cons.mpr ⟨s_ldc2 C (by decide +kernel : decode c_X7_addTo 24 = .ok (.ldc2_w 129, 3)) rfl rfl ew686, ?_⟩
  refine List.forall_mem_cons.mpr ⟨s_lload_n C (by decide +kernel : decode c_X7_addTo 27 = .ok (.lload_n 3, 1)) rfl rfl rfl, ?_⟩
  refine List.forall_mem_cons.mpr ⟨s_lmul C (by decide +kernel : decode c_X7_addTo 28 = .ok (.lmul, 1)) rfl rfl, ?_⟩
  refine List.forall_mem_cons.mpr ⟨s_aload_n C (by decide +kernel : decode c_X7_addTo 29 = .ok (.aload_n 0, 1)) rfl rfl rfl, ?_⟩
  refine List.forall_mem_cons.mpr ⟨s_getf C (by decide +kernel : decode c_X7_addTo 30 = .ok (.getfield 55, 3)) rfl rfl em_cl_X7 (by decide) ew99 rfl, ?_⟩
  refine List.forall_mem_cons.mpr ⟨s_i2l C (by decide +kernel : decode c_X7_addTo 33 = .ok (.i2l, 1)) rfl rfl, ?_⟩
  refine List.forall_mem_cons.mpr ⟨s_ladd C (by decide +kernel : decode c_X7_addTo 34 = .ok (.ladd, 1)) rfl rfl, ?_⟩
  refine List.forall_mem_cons.mpr ⟨s_lstore_n C (by decide +kernel : decode c_X7_addTo 35 = .ok (.lstore_n 3, 1)) rfl rfl rfl (by decide), ?_⟩
  refine List.forall_mem_cons.mpr ⟨s_iconst C (by decide +kernel : decode c_X7_addTo 36 = .ok (.iconst 0, 1)) rfl rfl (by decide), ?_⟩
  refine List.forall_mem_cons.mpr ⟨s_istore C (by decide +kernel : decode c_X7_addTo 37 = .ok (.istore 5, 2)) rfl rfl (by decide), ?_⟩
  refine List.forall_mem_cons.mpr ⟨s_iload C (by decide +kernel : decode c_X7_addTo 39 = .ok (.iload 5, 2)) rfl rfl, ?_⟩
  refine List.forall_mem_cons.mpr ⟨s_aload_n C (by decide +kernel : decode c_X7_addTo 41 = .ok (.aload_n 0, 1)) rfl rfl rfl, ?_⟩
  refine List.forall_mem_cons.mpr ⟨s_getf C (by decide +kernel : decode c_X7_addTo 42 = .ok (.getfield 38, 3)) rfl rfl em_cl_X7 (by decide) ew85 rfl, ?_⟩
  refine List.forall_mem_cons.mpr ⟨s_icmpge C (by decide +kernel : decode c_X7_addTo 45 = .ok (.if_icmp .ge 58, 3)) (by decide) rfl rfl rfl, ?_⟩
  refine List.forall_mem_cons.mpr ⟨s_ldc2 C (by decide +kernel : decode c_X7_addTo 48 = .ok (.ldc2_w 129, 3)) rfl rfl ew686, ?_⟩
  refine List.forall_mem_cons.mpr ⟨s_lload_n C (by decide +kernel : decode c_X7_addTo 51 = .ok (.lload_n 3, 1)) rfl rfl rfl, ?_⟩
  refine List.forall_mem_cons.mpr ⟨s_lmul C (by decide +kernel : decode c_X7_addTo 52 = .ok (.lmul, 1)) rfl rfl, ?_⟩
  refine List.forall_mem_cons.mpr ⟨s_aload_n C (by decide +kernel : decode c_X7_addTo 53 = .ok (.aload_n 0, 1)) rfl rfl rfl, ?_⟩
  refine List.forall_mem_cons.mpr ⟨s_getf C (by decide +kernel : decode c_X7_addTo 54 = .ok (.getfield 9, 3)) rfl rfl em_cl_X7 (by decide) ew89 rfl, ?_⟩
  refine List.forall_mem_cons.mpr ⟨s_iload C (by decide +kernel : decode c_X7_addTo 57 = .ok (.iload 5, 2)) rfl rfl, ?_⟩
  refine List.forall_mem_cons.mpr ⟨s_iald C (by decide +kernel : decode c_X7_addTo 59 = .ok (.iaload, 1)) rfl rfl, ?_⟩
  refine List.forall_mem_cons.mpr ⟨s_i2l C (by decide +kernel : decode c_X7_addTo 60 = .ok (.i2l, 1)) rfl rfl, ?_⟩
  refine List.forall_mem_cons.mpr ⟨s_ladd C (by decide +kernel : decode c_X7_addTo 61 = .ok (.ladd, 1)) rfl rfl, ?_⟩
  refine List.forall_mem_cons.mpr ⟨s_lstore_n C (by decide +kernel : decode c_X7_addTo 62 = .ok (.lstore_n 3, 1)) rfl rfl rfl (by decide), ?_⟩
  refine List.forall_mem_cons.mpr ⟨s_ldc2 C (by decide +kernel : decode c_X7_addTo 63 = .ok (.ldc2_w 129, 3)) rfl rfl ew686, ?_⟩
  refine List.forall_mem_cons.mpr ⟨s_lload_n C (by decide +kernel : decode c_X7_addTo 66 = .ok (.lload_n 3, 1)) rfl rfl rfl, ?_⟩
  refine List.forall_mem_cons.mpr ⟨s_lmul C (by decide +kernel : decode c_X7_addTo 67 = .ok (.lmul, 1)) rfl rfl, ?_⟩
  refine List.forall_mem_cons.mpr ⟨s_aload_n C (by decide +kernel : decode c_X7_addTo 68 = .ok (.aload_n 0, 1)) rfl rfl rfl, ?_⟩
  refine List.forall_mem_cons.mpr ⟨s_getf C (by decide +kernel : decode c_X7_addTo 69 = .ok (.getfield 42, 3)) rfl rfl em_cl_X7 (by decide) ew91 rfl, ?_⟩
  refine List.forall_mem_cons.mpr ⟨s_iload C (by decide +kernel : decode c_X7_addTo 72 = .ok (.iload 5, 2)) rfl rfl, ?_⟩
  refine List.forall_mem_cons.mpr ⟨s_callS C hFok hF (ct_X5_of l D dA σ) ⟨rfl, rfl⟩ ew216 ew214 ew215 ew8 ⟨by decide, by decide, by decide +kernel⟩ ⟨by decide, by decide⟩ (by decide +kernel : decode c_X7_addTo 74 = .ok (.invokestatic 94, 3)) rfl rfl ⟨Nat.zero_le _, Nat.zero_le _⟩, ?_⟩
  refine List.forall_mem_cons.mpr ⟨s_i2l C (by decide +kernel : decode c_X7_addTo 77 = .ok (.i2l, 1)) rfl rfl, ?_⟩
  refine List.forall_mem_cons.mpr ⟨s_ladd C (by decide +kernel : decode c_X7_addTo 78 = .ok (.ladd, 1)) rfl rfl, ?_⟩
  refine List.forall_mem_cons.mpr ⟨s_lstore_n C (by decide +kernel : decode c_X7_addTo 79 = .ok (.lstore_n 3, 1)) rfl rfl rfl (by decide), ?_⟩
  refine List.forall_mem_cons.mpr ⟨s_ldc2 C (by decide +kernel : decode c_X7_addTo 80 = .ok (.ldc2_w 129, 3)) rfl rfl ew686, ?_⟩
  refine List.forall_mem_cons.mpr ⟨s_lload_n C (by decide +kernel : decode c_X7_addTo 83 = .ok (.lload_n 3, 1)) rfl rfl rfl, ?_⟩
  refine List.forall_mem_cons.mpr ⟨s_lmul C (by decide +kernel : decode c_X7_addTo 84 = .ok (.lmul, 1)) rfl rfl, ?_⟩
  refine List.forall_mem_cons.mpr ⟨s_aload_n C (by decide +kernel : decode c_X7_addTo 85 = .ok (.aload_n 0, 1)) rfl rfl rfl, ?_⟩
  refine List.forall_mem_cons.mpr ⟨s_getf C (by decide +kernel : decode c_X7_addTo 86 = .ok (.getfield 46, 3)) rfl rfl em_cl_X7 (by decide) ew95 rfl, ?_⟩
  refine List.forall_mem_cons.mpr ⟨s_iload C (by decide +kernel : decode c_X7_addTo 89 = .ok (.iload 5, 2)) rfl rfl, ?_⟩
  refine List.forall_mem_cons.mpr ⟨s_callS C hFok hF (ct_X5_of l D dA σ) ⟨rfl, rfl⟩ ew216 ew214 ew215 ew8 ⟨by decide, by decide, by decide +kernel⟩ ⟨by decide, by decide⟩ (by decide +kernel : decode c_X7_addTo 91 = .ok (.invokestatic 94, 3)) rfl rfl ⟨Nat.zero_le _, Nat.zero_le _⟩, ?_⟩
  refine List.forall_mem_cons.mpr ⟨s_i2l C (by decide +kernel : decode c_X7_addTo 94 = .ok (.i2l, 1)) rfl rfl, ?_⟩
  refine List.forall_mem_cons.mpr ⟨s_ladd C (by decide +kernel : decode c_X7_addTo 95 = .ok (.ladd, 1)) rfl rfl, ?_⟩
  refine List.forall_mem_cons.mpr ⟨s_lstore_n C (by decide +kernel : decode c_X7_addTo 96 = .ok (.lstore_n 3, 1)) rfl rfl rfl (by decide), ?_⟩
  refine List.forall_mem_cons.mpr ⟨s_iinc C (by decide +kernel : decode c_X7_addTo 97 = .ok (.iinc 5 1, 3)) rfl rfl (by decide) (by decide), ?_⟩
  refine List.forall_mem_cons.mpr ⟨s_goto C (by decide +kernel : decode c_X7_addTo 100 = .ok (.goto (-61), 3)) (by decide) rfl, ?_⟩
  refine List.forall_mem_cons.mpr ⟨s_iconst C (by decide +kernel : decode c_X7_addTo 103 = .ok (.iconst 0, 1)) rfl rfl (by decide), ?_⟩
  refine List.forall_mem_cons.mpr ⟨s_istore C (by decide +kernel : decode c_X7_addTo 104 = .ok (.istore 5, 2)) rfl rfl (by decide), ?_⟩
  refine List.forall_mem_cons.mpr ⟨s_iload C (by decide +kernel : decode c_X7_addTo 106 = .ok (.iload 5, 2)) rfl rfl, ?_⟩
  refine List.forall_mem_cons.mpr ⟨s_aload_n C (by decide +kernel : decode c_X7_addTo 108 = .ok (.aload_n 0, 1)) rfl rfl rfl, ?_⟩
  refine List.forall_mem_cons.mpr ⟨s_getf C (by decide +kernel : decode c_X7_addTo 109 = .ok (.getfield 58, 3)) rfl rfl em_cl_X7 (by decide) ew100 rfl, ?_⟩
  refine List.forall_mem_cons.mpr ⟨s_icmpge C (by decide +kernel : decode c_X7_addTo 112 = .ok (.if_icmp .ge 39, 3)) (by decide) rfl rfl rfl, ?_⟩
  refine List.forall_mem_cons.mpr ⟨s_ldc2 C (by decide +kernel : decode c_X7_addTo 115 = .ok (.ldc2_w 129, 3)) rfl rfl ew686, ?_⟩
  refine List.forall_mem_cons.mpr ⟨s_lload_n C (by decide +kernel : decode c_X7_addTo 118 = .ok (.lload_n 3, 1)) rfl rfl rfl, ?_⟩
  refine List.forall_mem_cons.mpr ⟨s_lmul C (by decide +kernel : decode c_X7_addTo 119 = .ok (.lmul, 1)) rfl rfl, ?_⟩
  refine List.forall_mem_cons.mpr ⟨s_aload_n C (by decide +kernel : decode c_X7_addTo 120 = .ok (.aload_n 0, 1)) rfl rfl rfl, ?_⟩
  refine List.forall_mem_cons.mpr ⟨s_getf C (by decide +kernel : decode c_X7_addTo 121 = .ok (.getfield 15, 3)) rfl rfl em_cl_X7 (by decide) ew102 rfl, ?_⟩
  refine List.forall_mem_cons.mpr ⟨s_iload C (by decide +kernel : decode c_X7_addTo 124 = .ok (.iload 5, 2)) rfl rfl, ?_⟩
  refine List.forall_mem_cons.mpr ⟨s_iald C (by decide +kernel : decode c_X7_addTo 126 = .ok (.iaload, 1)) rfl rfl, ?_⟩
  refine List.forall_mem_cons.mpr ⟨s_i2l C (by decide +kernel : decode c_X7_addTo 127 = .ok (.i2l, 1)) rfl rfl, ?_⟩
  refine List.forall_mem_cons.mpr ⟨s_ladd C (by decide +kernel : decode c_X7_addTo 128 = .ok (.ladd, 1)) rfl rfl, ?_⟩
  refine List.forall_mem_cons.mpr ⟨s_lstore_n C (by decide +kernel : decode c_X7_addTo 129 = .ok (.lstore_n 3, 1)) rfl rfl rfl (by decide), ?_⟩
  refine List.forall_mem_cons.mpr ⟨s_ldc2 C (by decide +kernel : decode c_X7_addTo 130 = .ok (.ldc2_w 129, 3)) rfl rfl ew686, ?_⟩
  refine List.forall_mem_cons.mpr ⟨s_lload_n C (by decide +kernel : decode c_X7_addTo 133 = .ok (.lload_n 3, 1)) rfl rfl rfl, ?_⟩
  refine List.forall_mem_cons.mpr ⟨s_lmul C (by decide +kernel : decode c_X7_addTo 134 = .ok (.lmul, 1)) rfl rfl, ?_⟩
  refine List.forall_mem_cons.mpr ⟨s_aload_n C (by decide +kernel : decode c_X7_addTo 135 = .ok (.aload_n 0, 1)) rfl rfl rfl, ?_⟩
  refine List.forall_mem_cons.mpr ⟨s_getf C (by decide +kernel : decode c_X7_addTo 136 = .ok (.getfield 18, 3)) rfl rfl em_cl_X7 (by decide) ew103 rfl, ?_⟩
  refine List.forall_mem_cons.mpr ⟨s_iload C (by decide +kernel : decode c_X7_addTo 139 = .ok (.iload 5, 2)) rfl rfl, ?_⟩
  refine List.forall_mem_cons.mpr ⟨s_iald C (by decide +kernel : decode c_X7_addTo 141 = .ok (.iaload, 1)) rfl rfl, ?_⟩
  refine List.forall_mem_cons.mpr ⟨s_i2l C (by decide +kernel : decode c_X7_addTo 142 = .ok (.i2l, 1)) rfl rfl, ?_⟩
  refine List.forall_mem_cons.mpr ⟨s_ladd C (by decide +kernel : decode c_X7_addTo 143 = .ok (.ladd, 1)) rfl rfl, ?_⟩
  refine List.forall_mem_cons.mpr ⟨s_lstore_n C (by decide +kernel : decode c_X7_addTo 144 = .ok (.lstore_n 3, 1)) rfl rfl rfl (by decide), ?_⟩
  refine List.forall_mem_cons.mpr ⟨s_iinc C (by decide +kernel : decode c_X7_addTo 145 = .ok (.iinc 5 1, 3)) rfl rfl (by decide) (by decide), ?_⟩
  refine List.forall_mem_cons.mpr ⟨s_goto C (by decide +kernel : decode c_X7_addTo 148 = .ok (.goto (-42), 3)) (by decide) rfl, ?_⟩
  refine List.forall_mem_cons.mpr ⟨s_iconst C (by decide +kernel : decode c_X7_addTo 151 = .ok (.iconst 0, 1)) rfl rfl (by decide), ?_⟩
  refine List.forall_mem_cons.mpr ⟨s_istore C (by decide +kernel : decode c_X7_addTo 152 = .ok (.istore 5, 2)) rfl rfl (by decide), ?_⟩
  refine List.forall_mem_cons.mpr ⟨s_iload C (by decide +kernel : decode c_X7_addTo 154 = .ok (.iload 5, 2)) rfl rfl, ?_⟩
  refine List.forall_mem_cons.mpr ⟨s_aload_n C (by decide +kernel : decode c_X7_addTo 156 = .ok (.aload_n 0, 1)) rfl rfl rfl, ?_⟩
  refine List.forall_mem_cons.mpr ⟨s_getf C (by decide +kernel : decode c_X7_addTo 157 = .ok (.getfield 67, 3)) rfl rfl em_cl_X7 (by decide) ew111 rfl, ?_⟩
  refine List.forall_mem_cons.mpr ⟨s_icmpge C (by decide +kernel : decode c_X7_addTo 160 = .ok (.if_icmp .ge 47, 3)) (by decide) rfl rfl rfl, ?_⟩
  refine List.forall_mem_cons.mpr ⟨s_ldc2 C (by decide +kernel : decode c_X7_addTo 163 = .ok (.ldc2_w 129, 3)) rfl rfl ew686, ?_⟩
  refine List.forall_mem_cons.mpr ⟨s_lload_n C (by decide +kernel : decode c_X7_addTo 166 = .ok (.lload_n 3, 1)) rfl rfl rfl, ?_⟩
  refine List.forall_mem_cons.mpr ⟨s_lmul C (by decide +kernel : decode c_X7_addTo 167 = .ok (.lmul, 1)) rfl rfl, ?_⟩
  refine List.forall_mem_cons.mpr ⟨s_aload_n C (by decide +kernel : decode c_X7_addTo 168 = .ok (.aload_n 0, 1)) rfl rfl rfl, ?_⟩
  refine List.forall_mem_cons.mpr ⟨s_getf C (by decide +kernel : decode c_X7_addTo 169 = .ok (.getfield 28, 3)) rfl rfl em_cl_X7 (by decide) ew113 rfl, ?_⟩
  refine List.forall_mem_cons.mpr ⟨s_iload C (by decide +kernel : decode c_X7_addTo 172 = .ok (.iload 5, 2)) rfl rfl, ?_⟩
  refine List.forall_mem_cons.mpr ⟨s_iald C (by decide +kernel : decode c_X7_addTo 174 = .ok (.iaload, 1)) rfl rfl, ?_⟩
  refine List.forall_mem_cons.mpr ⟨s_i2l C (by decide +kernel : decode c_X7_addTo 175 = .ok (.i2l, 1)) rfl rfl, ?_⟩
  refine List.forall_mem_cons.mpr ⟨s_ladd C (by decide +kernel : decode c_X7_addTo 176 = .ok (.ladd, 1)) rfl rfl, ?_⟩
  refine List.forall_mem_cons.mpr ⟨s_lstore_n C (by decide +kernel : decode c_X7_addTo 177 = .ok (.lstore_n 3, 1)) rfl rfl rfl (by decide), ?_⟩
  refine List.forall_mem_cons.mpr ⟨s_ldc2 C (by decide +kernel : decode c_X7_addTo 178 = .ok (.ldc2_w 129, 3)) rfl rfl ew686, ?_⟩
  refine List.forall_mem_cons.mpr ⟨s_lload_n C (by decide +kernel : decode c_X7_addTo 181 = .ok (.lload_n 3, 1)) rfl rfl rfl, ?_⟩
  refine List.forall_mem_cons.mpr ⟨s_lmul C (by decide +kernel : decode c_X7_addTo 182 = .ok (.lmul, 1)) rfl rfl, ?_⟩
  refine List.forall_mem_cons.mpr ⟨s_aload_n C (by decide +kernel : decode c_X7_addTo 183 = .ok (.aload_n 0, 1)) rfl rfl rfl, ?_⟩
  refine List.forall_mem_cons.mpr ⟨s_getf C (by decide +kernel : decode c_X7_addTo 184 = .ok (.getfield 31, 3)) rfl rfl em_cl_X7 (by decide) ew114 rfl, ?_⟩
  refine List.forall_mem_cons.mpr ⟨s_iload C (by decide +kernel : decode c_X7_addTo 187 = .ok (.iload 5, 2)) rfl rfl, ?_⟩
  refine List.forall_mem_cons.mpr ⟨s_zald C (by decide +kernel : decode c_X7_addTo 189 = .ok (.baload, 1)) rfl rfl, ?_⟩
  refine List.forall_mem_cons.mpr ⟨s_ifeq C (by decide +kernel : decode c_X7_addTo 190 = .ok (.ifCond .eq 7, 3)) (by decide) rfl rfl rfl, ?_⟩
  refine List.forall_mem_cons.mpr ⟨s_iconst C (by decide +kernel : decode c_X7_addTo 193 = .ok (.iconst 1, 1)) rfl rfl (by decide), ?_⟩
  refine List.forall_mem_cons.mpr ⟨s_goto C (by decide +kernel : decode c_X7_addTo 194 = .ok (.goto 4, 3)) (by decide) rfl, ?_⟩
  refine List.forall_mem_cons.mpr ⟨s_iconst C (by decide +kernel : decode c_X7_addTo 197 = .ok (.iconst 0, 1)) rfl rfl (by decide), ?_⟩
  refine List.forall_mem_cons.mpr ⟨s_i2l C (by decide +kernel : decode c_X7_addTo 198 = .ok (.i2l, 1)) rfl rfl, ?_⟩
  refine List.forall_mem_cons.mpr ⟨s_ladd C (by decide +kernel : decode c_X7_addTo 199 = .ok (.ladd, 1)) rfl rfl, ?_⟩
  refine List.forall_mem_cons.mpr ⟨s_lstore_n C (by decide +kernel : decode c_X7_addTo 200 = .ok (.lstore_n 3, 1)) rfl rfl rfl (by decide), ?_⟩
  refine List.forall_mem_cons.mpr ⟨s_iinc C (by decide +kernel : decode c_X7_addTo 201 = .ok (.iinc 5 1, 3)) rfl rfl (by decide) (by decide), ?_⟩
  refine List.forall_mem_cons.mpr ⟨s_goto C (by decide +kernel : decode c_X7_addTo 204 = .ok (.goto (-50), 3)) (by decide) rfl, ?_⟩
  refine List.forall_mem_cons.mpr ⟨s_lload_n C (by decide +kernel : decode c_X7_addTo 207 = .ok (.lload_n 3, 1)) rfl rfl rfl, ?_⟩
  refine List.forall_mem_cons.mpr ⟨s_lret C (by decide +kernel : decode c_X7_addTo 208 = .ok (.lreturn, 1)) hret hlk ⟨Nat.le_refl 0, Nat.le_refl 0⟩, ?_⟩
  exact fun _ h => absurd h List.not_mem_nil
end
section
/-! ===== Marriages ===== -/
def mxI (x y : Int32) : Int32 := if x < y then y else x
def bitL (a b : Int32) : Int64 := 1 <<< ((6 * a + b).toInt64 &&& 63)
def sp_X4_bit : em_Sp := fun av hp Q => ∃ a b, av = [.int a, .int b] ∧ Q (some (.long (bitL a b))) hp
def T_X4_bit : List (Nat × em_Op) := [(0, o_lconst 1 1), (1, o_iconst 6 3), (3, o_iload 0 4), (4, o_imul 5), (5, o_iload 1 6), (6, o_iadd 7), (7, o_lshl 8), (8, o_lret)]
theorem me_X4_bit : em_Me T_X4_bit 2 sp_X4_bit := by
  intro Q K hK hle av hp hs
  obtain ⟨a, b, rfl, hq⟩ := hs
  exact ⟨Nat.le_of_ble_eq_true rfl, hK 0 99 0 _ _ _ hq⟩
abbrev rm_X4_bit : Room := { frames := 0, cells := 0, slots := 0, locals := 0 }
set_option maxRecDepth 100000 in
set_option maxHeartbeats 4000000 in
theorem ct_X4_bit (l : Launch) (D : va_G) (dA : Nat → ClassId) (σ : Nat → Nat) : em_CT l D em_cl dA σ (em_F σ) y_X4_bit c_X4_bit 2 (Option.some ClassFile.FieldType.long) rm_X4_bit (sp_X4_bit ) := by
  refine em_CT_of (T := T_X4_bit ) (em_F_ok σ) (by decide) (fun p e s m args below meth c A ρ Q C hFok hF hret hlk hin => ?_) (me_X4_bit )
  unfold T_X4_bit
  refine List.forall_mem_cons.mpr ⟨s_lconst C (by decide +kernel : decode c_X4_bit 0 = .ok (.lconst 1, 1)) rfl rfl (by decide), ?_⟩
  refine List.forall_mem_cons.mpr ⟨s_bipush C (by decide +kernel : decode c_X4_bit 1 = .ok (.bipush 6, 2)) rfl rfl (by decide), ?_⟩
  refine List.forall_mem_cons.mpr ⟨s_iload_n C (by decide +kernel : decode c_X4_bit 3 = .ok (.iload_n 0, 1)) rfl rfl rfl, ?_⟩
  refine List.forall_mem_cons.mpr ⟨s_imul C (by decide +kernel : decode c_X4_bit 4 = .ok (.imul, 1)) rfl rfl, ?_⟩
  refine List.forall_mem_cons.mpr ⟨s_iload_n C (by decide +kernel : decode c_X4_bit 5 = .ok (.iload_n 1, 1)) rfl rfl rfl, ?_⟩
  refine List.forall_mem_cons.mpr ⟨s_iadd C (by decide +kernel : decode c_X4_bit 6 = .ok (.iadd, 1)) rfl rfl, ?_⟩
  refine List.forall_mem_cons.mpr ⟨s_lshl C (by decide +kernel : decode c_X4_bit 7 = .ok (.lshl, 1)) rfl rfl, ?_⟩
  refine List.forall_mem_cons.mpr ⟨s_lret C (by decide +kernel : decode c_X4_bit 8 = .ok (.lreturn, 1)) hret hlk ⟨Nat.le_refl 0, Nat.le_refl 0⟩, ?_⟩
  exact fun _ h => absurd h List.not_mem_nil
def fre (pr : Int64) (tk p o : Int32) : Prop := ¬ lg_cmp (pr &&& bitL p o) 0 = 0 ∧ (tk >>> (o &&& 31)) &&& 1 = 0
def sp_X4_isFree : em_Sp := fun av hp Q => ∃ pr tk p o, av = [.long pr, .int tk, .int p, .int o] ∧ (fre pr tk p o → Q (some (.int 1)) hp) ∧ (¬ fre pr tk p o → Q (some (.int 0)) hp)
def T_X4_isFree : List (Nat × em_Op) := [(0, o_lload 0 1), (1, o_iload 3 2), (2, o_iload 4 4), (4, o_call 2 none (sp_X4_bit) 7), (7, o_land 8), (8, o_lconst 0 9), (9, o_lcmp 10), (10, o_ifeq 26 13), (13, o_iload 2 14), (14, o_iload 4 16), (16, o_ishr 17), (17, o_iconst 1 18), (18, o_iand 19), (19, o_ifne 26 22), (22, o_iconst 1 23), (23, o_goto 27), (26, o_iconst 0 27), (27, o_zret)]
theorem me_X4_isFree : em_Me T_X4_isFree 5 sp_X4_isFree := by
  intro Q K hK hle av hp hs
  obtain ⟨pr, tk, p, o, rfl, h1, h0⟩ := hs
  refine ⟨Nat.le_of_ble_eq_true rfl, hK 0 99 0 _ _ _ ?_⟩
  refine ⟨_, _, rfl, fun z => ⟨Or.inl rfl, h0 (fun y => y.1 z)⟩, fun z => ⟨fun z2 => ⟨Or.inl rfl, h0 (fun y => z2 y.2)⟩, fun z2 => ⟨Or.inr rfl, h1 ⟨z, z2⟩⟩⟩⟩
abbrev rm_X4_isFree : Room := { frames := 1, cells := 0, slots := 0, locals := 21 }
set_option maxRecDepth 100000 in
set_option maxHeartbeats 4000000 in
theorem ct_X4_isFree (l : Launch) (D : va_G) (dA : Nat → ClassId) (σ : Nat → Nat) : em_CT l D em_cl dA σ (em_F σ) y_X4_isFree c_X4_isFree 5 (Option.some ClassFile.FieldType.boolean) rm_X4_isFree (sp_X4_isFree ) := by
  refine em_CT_of (T := T_X4_isFree ) (em_F_ok σ) (by decide) (fun p e s m args below meth c A ρ Q C hFok hF hret hlk hin => ?_) (me_X4_isFree )
  unfold T_X4_isFree
  refine List.forall_mem_cons.mpr ⟨s_lload_n C (by decide +kernel : decode c_X4_isFree 0 = .ok (.lload_n 0, 1)) rfl rfl rfl, ?_⟩
  refine List.forall_mem_cons.mpr ⟨s_iload_n C (by decide +kernel : decode c_X4_isFree 1 = .ok (.iload_n 3, 1)) rfl rfl rfl, ?_⟩
  refine List.forall_mem_cons.mpr ⟨s_iload C (by decide +kernel : decode c_X4_isFree 2 = .ok (.iload 4, 2)) rfl rfl, ?_⟩
  refine List.forall_mem_cons.mpr ⟨s_callS C hFok hF (ct_X4_bit l D dA σ) ⟨rfl, rfl⟩ ew534 ew542 ew533 ew16 ⟨by decide, by decide, by decide +kernel⟩ ⟨by decide, by decide⟩ (by decide +kernel : decode c_X4_isFree 4 = .ok (.invokestatic 28, 3)) rfl rfl ⟨Nat.zero_le _, Nat.zero_le _⟩, ?_⟩
  refine List.forall_mem_cons.mpr ⟨s_land C (by decide +kernel : decode c_X4_isFree 7 = .ok (.land, 1)) rfl rfl, ?_⟩
  refine List.forall_mem_cons.mpr ⟨s_lconst C (by decide +kernel : decode c_X4_isFree 8 = .ok (.lconst 0, 1)) rfl rfl (by decide), ?_⟩
  refine List.forall_mem_cons.mpr ⟨s_lcmp C (by decide +kernel : decode c_X4_isFree 9 = .ok (.lcmp, 1)) rfl rfl, ?_⟩
  refine List.forall_mem_cons.mpr ⟨s_ifeq C (by decide +kernel : decode c_X4_isFree 10 = .ok (.ifCond .eq 16, 3)) (by decide) rfl rfl rfl, ?_⟩
  refine List.forall_mem_cons.mpr ⟨s_iload_n C (by decide +kernel : decode c_X4_isFree 13 = .ok (.iload_n 2, 1)) rfl rfl rfl, ?_⟩
  refine List.forall_mem_cons.mpr ⟨s_iload C (by decide +kernel : decode c_X4_isFree 14 = .ok (.iload 4, 2)) rfl rfl, ?_⟩
  refine List.forall_mem_cons.mpr ⟨s_ishr C (by decide +kernel : decode c_X4_isFree 16 = .ok (.ishr, 1)) rfl rfl, ?_⟩
  refine List.forall_mem_cons.mpr ⟨s_iconst C (by decide +kernel : decode c_X4_isFree 17 = .ok (.iconst 1, 1)) rfl rfl (by decide), ?_⟩
  refine List.forall_mem_cons.mpr ⟨s_iand C (by decide +kernel : decode c_X4_isFree 18 = .ok (.iand, 1)) rfl rfl, ?_⟩
  refine List.forall_mem_cons.mpr ⟨s_ifne C (by decide +kernel : decode c_X4_isFree 19 = .ok (.ifCond .ne 7, 3)) (by decide) rfl rfl rfl, ?_⟩
  refine List.forall_mem_cons.mpr ⟨s_iconst C (by decide +kernel : decode c_X4_isFree 22 = .ok (.iconst 1, 1)) rfl rfl (by decide), ?_⟩
  refine List.forall_mem_cons.mpr ⟨s_goto C (by decide +kernel : decode c_X4_isFree 23 = .ok (.goto 4, 3)) (by decide) rfl, ?_⟩
  refine List.forall_mem_cons.mpr ⟨s_iconst C (by decide +kernel : decode c_X4_isFree 26 = .ok (.iconst 0, 1)) rfl rfl (by decide), ?_⟩
  refine List.forall_mem_cons.mpr ⟨s_zret C (by decide +kernel : decode c_X4_isFree 27 = .ok (.ireturn, 1)) hret hlk ⟨Nat.le_refl 0, Nat.le_refl 0⟩, ?_⟩
  exact fun _ h => absurd h List.not_mem_nil
def freB (pr : Int64) (tk : Int32) (p o : Nat) : Bool := decide (¬ lg_cmp (pr &&& bitL (nI p) (nI o)) 0 = 0 ∧ (tk >>> (nI o &&& 31)) &&& 1 = 0)
theorem freB_t {pr : Int64} {tk : Int32} {p o : Nat} (h : fre pr tk (nI p) (nI o)) : freB pr tk p o = true := decide_eq_true h
theorem freB_f {pr : Int64} {tk : Int32} {p o : Nat} (h : ¬ fre pr tk (nI p) (nI o)) : freB pr tk p o = false := decide_eq_false h
def bor (tk : Int32) (o : Nat) : Int32 := tk ||| ((1 : Int32) <<< (nI o &&& 31))
def mmL (pr : Int64) (tk : Int32) (p : Nat) (f : Int32 → Int32) (b0 : Int32) : Nat → Int32
  | 0 => b0
  | k + 1 => if freB pr tk p (p + 1 + k) = true then mxI (mmL pr tk p f b0 k) (1 + f (bor tk (p + 1 + k))) else mmL pr tk p f b0 k
def mmo (pr : Int64) : Nat → Int32 → Int32
  | 0, _ => 0
  | d + 1, tk => if (tk >>> (nI (5 - d) &&& 31)) &&& 1 = 1 then mmo pr d tk else mmL pr tk (5 - d) (mmo pr d) (mmo pr d tk) d
def sp_X4_most (d : Nat) : em_Sp := fun av hp Q => ∃ pr tk p, av = [.long pr, .int tk, .int (nI p)] ∧ p ≤ 6 ∧ 6 ≤ p + d ∧ Q (some (.int (mmo pr (6 - p) tk))) hp
def sp_X4_mostP : Nat → em_Sp
  | 0 => spF
  | d + 1 => sp_X4_most d
def T_X4_most (sp : em_Sp) : List (Nat × em_Op) := [(0, o_iload 3 1), (1, o_iconst 6 3), (3, o_icmplt 8 6), (6, o_iconst 0 7), (7, o_iret), (8, o_lload 0 9), (9, o_iload 2 10), (10, o_iload 3 11), (11, o_iconst 1 12), (12, o_iadd 13), (13, o_call 3 none (sp) 16), (16, o_istore 4 18), (18, o_iload 2 19), (19, o_iload 3 20), (20, o_ishr 21), (21, o_iconst 1 22), (22, o_iand 23), (23, o_iconst 1 24), (24, o_icmpne 30 27), (27, o_iload 4 29), (29, o_iret), (30, o_iload 3 31), (31, o_iconst 1 32), (32, o_iadd 33), (33, o_istore 5 35), (35, o_iload 5 37), (37, o_iconst 6 39), (39, o_icmpge 81 42), (42, o_lload 0 43), (43, o_iload 2 44), (44, o_iload 3 45), (45, o_iload 5 47), (47, o_call 4 none (sp_X4_isFree) 50), (50, o_ifeq 75 53), (53, o_iload 4 55), (55, o_iconst 1 56), (56, o_lload 0 57), (57, o_iload 2 58), (58, o_iconst 1 59), (59, o_iload 5 61), (61, o_ishl 62), (62, o_ior 63), (63, o_iload 3 64), (64, o_iconst 1 65), (65, o_iadd 66), (66, o_call 3 none (sp) 69), (69, o_iadd 70), (70, o_max 73), (73, o_istore 4 75), (75, o_iinc 5 1 78), (78, o_goto 35), (81, o_iload 4 83), (83, o_iret)]
theorem me_X4_most : ∀ d, em_Me (T_X4_most (sp_X4_mostP d)) 6 (sp_X4_most d) := by
  intro d Q K hK hle av hp hs
  obtain ⟨pr, tk, p, rfl, hp6, hd, hq⟩ := hs
  refine ⟨Nat.le_of_ble_eq_true rfl, ?_⟩
  refine hK 0 25 0 _ _ _ ?_
  refine ⟨fun h => ?_, fun h => ?_⟩
  · have h6 : p < 6 := (nI_ltI (b := 6) (by omega) (by omega)).mp h
    obtain ⟨d, rfl⟩ : ∃ d', d = d' + 1 := ⟨d - 1, by omega⟩
    obtain ⟨k, hk⟩ : ∃ k, p = 5 - k ∧ k ≤ 5 := ⟨5 - p, by omega, by omega⟩
    obtain ⟨hk, hk5⟩ := hk
    have e6 : 6 - p = k + 1 := by omega
    rw [e6, mmo] at hq
    refine ⟨pr, tk, p + 1, by rw [nI_1], by omega, by omega, ?_⟩
    rw [show 6 - (p + 1) = k by omega]
    rw [← hk] at hq
    refine ⟨fun h2 => ?_, fun h2 => ?_⟩
    · rw [if_neg h2] at hq
      have loop : ∀ (r j : Nat), j + r = k → K 35 [some (.long pr), none, some (.int tk), some (.int (nI p)), some (.int (mmL pr tk p (mmo pr k) (mmo pr k tk) j)), some (.int (nI (p + 1 + j)))] [] hp := by
        intro r
        induction r with
        | zero =>
          intro j hj
          have hj : j = k := by omega
          subst hj
          refine hK 25 99 35 _ _ _ ?_
          exact ⟨fun _ => hq, fun z => absurd (nI_le (a := 6) (b := p + 1 + j) (by omega) (by omega)) z⟩
        | succ r ih =>
          intro j hj
          have := ih (j + 1) (by omega)
          rw [show p + 1 + (j + 1) = (p + 1 + j) + 1 by omega, ← nI_1] at this
          refine hK 25 99 35 _ _ _ ?_
          refine ⟨fun z => absurd z (nI_ge (a := p + 1 + j) (b := 6) (by omega) (by omega)), fun _ => ?_⟩
          refine ⟨_, _, _, _, rfl, fun z => ?_, fun z => ?_⟩
          · refine ⟨fun z => absurd z (by decide), fun _ => ?_⟩
            rw [mmL, if_pos (freB_t z)] at this
            refine ⟨pr, bor tk (p + 1 + j), p + 1, by rw [nI_1]; rfl, by omega, by omega, ?_⟩
            rw [show 6 - (p + 1) = k by omega]
            exact this
          · refine ⟨fun _ => ?_, fun z => absurd z (by decide)⟩
            rw [mmL, if_neg (by rw [freB_f z]; exact Bool.false_ne_true)] at this
            exact this
      have := loop k 0 (by omega)
      rw [show p + 1 + 0 = p + 1 by omega, ← nI_1] at this
      exact this
    · rw [if_pos h2] at hq
      exact hq
  · have h6 : p = 6 := by
      have : ¬ p < 6 := fun y => h (nI_lt (b := 6) y (by omega))
      omega
    subst h6
    exact hq
def rm_X4_most (d : Nat) : Room := { frames := 2 + d, cells := 0, slots := 0, locals := 45 + d * 25 }
set_option maxRecDepth 100000 in
set_option maxHeartbeats 4000000 in
theorem snd_X4_most (l : Launch) (D : va_G) (dA : Nat → ClassId) (σ : Nat → Nat) (sp : em_Sp) (rmc rm : Room) (hrec : em_CT l D em_cl dA σ (em_F σ) y_X4_most c_X4_most 6 (Option.some ClassFile.FieldType.int) rmc sp) (hrz : rmc.cells = 0 ∧ rmc.slots = 0) (hR : rmc.frames + 1 ≤ rm.frames ∧ 8 + (6 + 11) + rmc.locals ≤ rm.locals) (hR2 : 2 ≤ rm.frames ∧ 45 ≤ rm.locals) (p : Program) (e : Env) (s : State) (m : MethodId) (args : Array Value) (below : List Frame) (meth : Method) (c : Code) (A : Nat → Prop) (ρ : Nat → Nat) (Q : em_Q) (C : em_Cx p s m args c D em_cl A 6 (em_tys dA) c_X4_most y_X4_most.cls) (hFok : em_Fok (em_F σ)) (hF : em_F σ A s s.heap) (hret : meth.sig.returnType = (Option.some ClassFile.FieldType.int)) (hlk : meth.locks = false) : ∀ q ∈ T_X4_most sp, em_Snd p l e rm s m args below meth c D em_cl dA σ A 6 (fun _ => (0, 0)) (fun ρ' => ρ' = ρ) (MQ below (em_Qc D em_cl dA σ (fun ρ' => ρ' = ρ) Q A) args s 0 0 A) Q q.1 q.2 := by
  unfold T_X4_most
  refine List.forall_mem_cons.mpr ⟨s_iload_n C (by decide +kernel : decode c_X4_most 0 = .ok (.iload_n 3, 1)) rfl rfl rfl, ?_⟩
  refine List.forall_mem_cons.mpr ⟨s_bipush C (by decide +kernel : decode c_X4_most 1 = .ok (.bipush 6, 2)) rfl rfl (by decide), ?_⟩
  refine List.forall_mem_cons.mpr ⟨s_icmplt C (by decide +kernel : decode c_X4_most 3 = .ok (.if_icmp .lt 5, 3)) (by decide) rfl rfl rfl, ?_⟩
  refine List.forall_mem_cons.mpr ⟨s_iconst C (by decide +kernel : decode c_X4_most 6 = .ok (.iconst 0, 1)) rfl rfl (by decide), ?_⟩
  refine List.forall_mem_cons.mpr ⟨s_iret C (by decide +kernel : decode c_X4_most 7 = .ok (.ireturn, 1)) hret hlk ⟨Nat.le_refl 0, Nat.le_refl 0⟩, ?_⟩
  refine List.forall_mem_cons.mpr ⟨s_lload_n C (by decide +kernel : decode c_X4_most 8 = .ok (.lload_n 0, 1)) rfl rfl rfl, ?_⟩
  refine List.forall_mem_cons.mpr ⟨s_iload_n C (by decide +kernel : decode c_X4_most 9 = .ok (.iload_n 2, 1)) rfl rfl rfl, ?_⟩
  refine List.forall_mem_cons.mpr ⟨s_iload_n C (by decide +kernel : decode c_X4_most 10 = .ok (.iload_n 3, 1)) rfl rfl rfl, ?_⟩
  refine List.forall_mem_cons.mpr ⟨s_iconst C (by decide +kernel : decode c_X4_most 11 = .ok (.iconst 1, 1)) rfl rfl (by decide), ?_⟩
  refine List.forall_mem_cons.mpr ⟨s_iadd C (by decide +kernel : decode c_X4_most 12 = .ok (.iadd, 1)) rfl rfl, ?_⟩
  refine List.forall_mem_cons.mpr ⟨s_callS C hFok hF (hrec) hrz ew537 ew538 ew536 ew16 ⟨by decide, by decide, by decide +kernel⟩ hR (by decide +kernel : decode c_X4_most 13 = .ok (.invokestatic 9, 3)) rfl rfl ⟨Nat.zero_le _, Nat.zero_le _⟩, ?_⟩
  refine List.forall_mem_cons.mpr ⟨s_istore C (by decide +kernel : decode c_X4_most 16 = .ok (.istore 4, 2)) rfl rfl (by decide), ?_⟩
  refine List.forall_mem_cons.mpr ⟨s_iload_n C (by decide +kernel : decode c_X4_most 18 = .ok (.iload_n 2, 1)) rfl rfl rfl, ?_⟩
  refine List.forall_mem_cons.mpr ⟨s_iload_n C (by decide +kernel : decode c_X4_most 19 = .ok (.iload_n 3, 1)) rfl rfl rfl, ?_⟩
  refine List.forall_mem_cons.mpr ⟨s_ishr C (by decide +kernel : decode c_X4_most 20 = .ok (.ishr, 1)) rfl rfl, ?_⟩
  refine List.forall_mem_cons.mpr ⟨s_iconst C (by decide +kernel : decode c_X4_most 21 = .ok (.iconst 1, 1)) rfl rfl (by decide), ?_⟩
  refine List.forall_mem_cons.mpr ⟨s_iand C (by decide +kernel : decode c_X4_most 22 = .ok (.iand, 1)) rfl rfl, ?_⟩
  refine List.forall_mem_cons.mpr ⟨s_iconst C (by decide +kernel : decode c_X4_most 23 = .ok (.iconst 1, 1)) rfl rfl (by decide), ?_⟩
  refine List.forall_mem_cons.mpr ⟨s_icmpne C (by decide +kernel : decode c_X4_most 24 = .ok (.if_icmp .ne 6, 3)) (by decide) rfl rfl rfl, ?_⟩
  refine List.forall_mem_cons.mpr ⟨s_iload C (by decide +kernel : decode c_X4_most 27 = .ok (.iload 4, 2)) rfl rfl, ?_⟩
  refine List.forall_mem_cons.mpr ⟨s_iret C (by decide +kernel : decode c_X4_most 29 = .ok (.ireturn, 1)) hret hlk ⟨Nat.le_refl 0, Nat.le_refl 0⟩, ?_⟩
  refine List.forall_mem_cons.mpr ⟨s_iload_n C (by decide +kernel : decode c_X4_most 30 = .ok (.iload_n 3, 1)) rfl rfl rfl, ?_⟩
  refine List.forall_mem_cons.mpr ⟨s_iconst C (by decide +kernel : decode c_X4_most 31 = .ok (.iconst 1, 1)) rfl rfl (by decide), ?_⟩
  refine List.forall_mem_cons.mpr ⟨s_iadd C (by decide +kernel : decode c_X4_most 32 = .ok (.iadd, 1)) rfl rfl, ?_⟩
  refine List.forall_mem_cons.mpr ⟨s_istore C (by decide +kernel : decode c_X4_most 33 = .ok (.istore 5, 2)) rfl rfl (by decide), ?_⟩
  refine List.forall_mem_cons.mpr ⟨s_iload C (by decide +kernel : decode c_X4_most 35 = .ok (.iload 5, 2)) rfl rfl, ?_⟩
  refine List.forall_mem_cons.mpr ⟨s_bipush C (by decide +kernel : decode c_X4_most 37 = .ok (.bipush 6, 2)) rfl rfl (by decide), ?_⟩
  refine List.forall_mem_cons.mpr ⟨s_icmpge C (by decide +kernel : decode c_X4_most 39 = .ok (.if_icmp .ge 42, 3)) (by decide) rfl rfl rfl, ?_⟩
  refine List.forall_mem_cons.mpr ⟨s_lload_n C (by decide +kernel : decode c_X4_most 42 = .ok (.lload_n 0, 1)) rfl rfl rfl, ?_⟩
  refine List.forall_mem_cons.mpr ⟨s_iload_n C (by decide +kernel : decode c_X4_most 43 = .ok (.iload_n 2, 1)) rfl rfl rfl, ?_⟩
  refine List.forall_mem_cons.mpr ⟨s_iload_n C (by decide +kernel : decode c_X4_most 44 = .ok (.iload_n 3, 1)) rfl rfl rfl, ?_⟩
  refine List.forall_mem_cons.mpr ⟨s_iload C (by decide +kernel : decode c_X4_most 45 = .ok (.iload 5, 2)) rfl rfl, ?_⟩
  refine List.forall_mem_cons.mpr ⟨s_callS C hFok hF (ct_X4_isFree l D dA σ) ⟨rfl, rfl⟩ ew541 ew539 ew540 ew16 ⟨by decide, by decide, by decide +kernel⟩ ⟨Nat.le_trans (by decide) hR2.1, Nat.le_trans (by decide) hR2.2⟩ (by decide +kernel : decode c_X4_most 47 = .ok (.invokestatic 15, 3)) rfl rfl ⟨Nat.zero_le _, Nat.zero_le _⟩, ?_⟩
  refine List.forall_mem_cons.mpr ⟨s_ifeq C (by decide +kernel : decode c_X4_most 50 = .ok (.ifCond .eq 25, 3)) (by decide) rfl rfl rfl, ?_⟩
  refine List.forall_mem_cons.mpr ⟨s_iload C (by decide +kernel : decode c_X4_most 53 = .ok (.iload 4, 2)) rfl rfl, ?_⟩
  refine List.forall_mem_cons.mpr ⟨s_iconst C (by decide +kernel : decode c_X4_most 55 = .ok (.iconst 1, 1)) rfl rfl (by decide), ?_⟩
  refine List.forall_mem_cons.mpr ⟨s_lload_n C (by decide +kernel : decode c_X4_most 56 = .ok (.lload_n 0, 1)) rfl rfl rfl, ?_⟩
  refine List.forall_mem_cons.mpr ⟨s_iload_n C (by decide +kernel : decode c_X4_most 57 = .ok (.iload_n 2, 1)) rfl rfl rfl, ?_⟩
  refine List.forall_mem_cons.mpr ⟨s_iconst C (by decide +kernel : decode c_X4_most 58 = .ok (.iconst 1, 1)) rfl rfl (by decide), ?_⟩
  refine List.forall_mem_cons.mpr ⟨s_iload C (by decide +kernel : decode c_X4_most 59 = .ok (.iload 5, 2)) rfl rfl, ?_⟩
  refine List.forall_mem_cons.mpr ⟨s_ishl C (by decide +kernel : decode c_X4_most 61 = .ok (.ishl, 1)) rfl rfl, ?_⟩
  refine List.forall_mem_cons.mpr ⟨s_ior C (by decide +kernel : decode c_X4_most 62 = .ok (.ior, 1)) rfl rfl, ?_⟩
  refine List.forall_mem_cons.mpr ⟨s_iload_n C (by decide +kernel : decode c_X4_most 63 = .ok (.iload_n 3, 1)) rfl rfl rfl, ?_⟩
  refine List.forall_mem_cons.mpr ⟨s_iconst C (by decide +kernel : decode c_X4_most 64 = .ok (.iconst 1, 1)) rfl rfl (by decide), ?_⟩
  refine List.forall_mem_cons.mpr ⟨s_iadd C (by decide +kernel : decode c_X4_most 65 = .ok (.iadd, 1)) rfl rfl, ?_⟩
  refine List.forall_mem_cons.mpr ⟨s_callS C hFok hF (hrec) hrz ew537 ew538 ew536 ew16 ⟨by decide, by decide, by decide +kernel⟩ hR (by decide +kernel : decode c_X4_most 66 = .ok (.invokestatic 9, 3)) rfl rfl ⟨Nat.zero_le _, Nat.zero_le _⟩, ?_⟩
  refine List.forall_mem_cons.mpr ⟨s_iadd C (by decide +kernel : decode c_X4_most 69 = .ok (.iadd, 1)) rfl rfl, ?_⟩
  refine List.forall_mem_cons.mpr ⟨s_max C ew543 ew501 ew15 ew502 ⟨Nat.le_trans (by decide) hR2.1, Nat.le_trans (by decide) hR2.2⟩ ⟨Nat.zero_le _, Nat.zero_le _⟩ (by decide +kernel : decode c_X4_most 70 = .ok (.invokestatic 19, 3)) rfl rfl, ?_⟩
  refine List.forall_mem_cons.mpr ⟨s_istore C (by decide +kernel : decode c_X4_most 73 = .ok (.istore 4, 2)) rfl rfl (by decide), ?_⟩
  refine List.forall_mem_cons.mpr ⟨s_iinc C (by decide +kernel : decode c_X4_most 75 = .ok (.iinc 5 1, 3)) rfl rfl (by decide) (by decide), ?_⟩
  refine List.forall_mem_cons.mpr ⟨s_goto C (by decide +kernel : decode c_X4_most 78 = .ok (.goto (-43), 3)) (by decide) rfl, ?_⟩
  refine List.forall_mem_cons.mpr ⟨s_iload C (by decide +kernel : decode c_X4_most 81 = .ok (.iload 4, 2)) rfl rfl, ?_⟩
  refine List.forall_mem_cons.mpr ⟨s_iret C (by decide +kernel : decode c_X4_most 83 = .ok (.ireturn, 1)) hret hlk ⟨Nat.le_refl 0, Nat.le_refl 0⟩, ?_⟩
  exact fun _ h => absurd h List.not_mem_nil
theorem ct_X4_most (l : Launch) (D : va_G) (dA : Nat → ClassId) (σ : Nat → Nat) : ∀ d : Nat, em_CT l D em_cl dA σ (em_F σ) y_X4_most c_X4_most 6 (Option.some ClassFile.FieldType.int) (rm_X4_most d) (sp_X4_most d)
  | 0 => em_CT_of (T := T_X4_most spF) (em_F_ok σ) (by decide) (fun p e s m args below meth c A ρ Q C hFok hF hret hlk hin => snd_X4_most l D dA σ spF ⟨0, 0, 0, 0⟩ _ em_CT_F ⟨rfl, rfl⟩ ⟨by decide, by decide⟩ ⟨by decide, by decide⟩ p e s m args below meth c A ρ Q C hFok hF hret hlk) (me_X4_most 0)
  | d + 1 => em_CT_of (T := T_X4_most (sp_X4_most d)) (em_F_ok σ) (by decide) (fun p e s m args below meth c A ρ Q C hFok hF hret hlk hin => snd_X4_most l D dA σ (sp_X4_most d) (rm_X4_most d) _ (ct_X4_most l D dA σ d) ⟨rfl, rfl⟩ ⟨by show 2 + d + 1 ≤ 2 + (d + 1); omega, by show 8 + (6 + 11) + (45 + d * 25) ≤ 45 + (d + 1) * 25; omega⟩ ⟨by show 2 ≤ 2 + (d + 1); omega, by show 45 ≤ 45 + (d + 1) * 25; omega⟩ p e s m args below meth c A ρ Q C hFok hF hret hlk) (me_X4_most (d + 1))
def fcL (pr : Int64) (d : Nat) (tk : Int32) (p : Nat) (best : Int32) : Nat → Int32
  | 0 => -1
  | r + 1 => if freB pr tk p (5 - r) = true ∧ 1 + mmo pr d (bor tk (5 - r)) = best then nI (5 - r) else fcL pr d tk p best r
def fch (pr : Int64) (d : Nat) (tk : Int32) : Int32 := if mmo pr d tk = mmo pr (d + 1) tk then -1 else fcL pr d tk (5 - d) (mmo pr (d + 1) tk) d
def sp_X4_firstChoice : em_Sp := fun av hp Q => ∃ pr tk p d, av = [.long pr, .int tk, .int (nI p)] ∧ p + d = 5 ∧ Q (some (.int (fch pr d tk))) hp
def T_X4_firstChoice : List (Nat × em_Op) := [(0, o_lload 0 1), (1, o_iload 2 2), (2, o_iload 3 3), (3, o_call 3 none (sp_X4_most 6) 6), (6, o_istore 4 8), (8, o_lload 0 9), (9, o_iload 2 10), (10, o_iload 3 11), (11, o_iconst 1 12), (12, o_iadd 13), (13, o_call 3 none (sp_X4_most 6) 16), (16, o_iload 4 18), (18, o_icmpne 23 21), (21, o_iconst (-1) 22), (22, o_iret), (23, o_iload 3 24), (24, o_iconst 1 25), (25, o_iadd 26), (26, o_istore 5 28), (28, o_iload 5 30), (30, o_iconst 6 32), (32, o_icmpge 79 35), (35, o_lload 0 36), (36, o_iload 2 37), (37, o_iload 3 38), (38, o_iload 5 40), (40, o_call 4 none (sp_X4_isFree) 43), (43, o_istore 6 45), (45, o_iload 6 47), (47, o_ifeq 73 50), (50, o_iconst 1 51), (51, o_lload 0 52), (52, o_iload 2 53), (53, o_iconst 1 54), (54, o_iload 5 56), (56, o_ishl 57), (57, o_ior 58), (58, o_iload 3 59), (59, o_iconst 1 60), (60, o_iadd 61), (61, o_call 3 none (sp_X4_most 6) 64), (64, o_iadd 65), (65, o_iload 4 67), (67, o_icmpne 73 70), (70, o_iload 5 72), (72, o_iret), (73, o_iinc 5 1 76), (76, o_goto 28), (79, o_iconst (-1) 80), (80, o_iret)]
theorem me_X4_firstChoice : em_Me T_X4_firstChoice 7 sp_X4_firstChoice := by
  intro Q K hK hle av hp hs
  obtain ⟨pr, tk, p, d, rfl, hd, hq⟩ := hs
  refine ⟨Nat.le_of_ble_eq_true rfl, ?_⟩
  refine hK 0 19 0 _ _ _ ?_
  refine ⟨pr, tk, p, rfl, by omega, by omega, pr, tk, p + 1, by rw [nI_1], by omega, by omega, ?_⟩
  rw [show 6 - (p + 1) = d by omega, show 6 - p = d + 1 by omega]
  rw [fch, show 5 - d = p by omega] at hq
  refine ⟨fun h => ?_, fun h => ?_⟩
  · rw [if_neg h] at hq
    generalize hB : mmo pr (d + 1) tk = best at hq ⊢
    have loop : ∀ (r : Nat), r ≤ d → fcL pr d tk p best d = fcL pr d tk p best r → K 28 [some (.long pr), none, some (.int tk), some (.int (nI p)), some (.int best), some (.int (nI (6 - r))), none] [] hp := by
      intro r
      induction r with
      | zero =>
        intro hr he
        rw [he] at hq
        refine hK 19 99 28 _ _ _ ?_
        exact ⟨fun _ => hq, fun z => absurd (nI_le (a := 6) (b := 6) (by omega) (by omega)) z⟩
      | succ r ih =>
        intro hr he
        have e9 : 6 - (r + 1) = 5 - r := by omega
        rw [e9]
        have skip : ¬ (freB pr tk p (5 - r) = true ∧ 1 + mmo pr d (bor tk (5 - r)) = best) → ∀ x, K 73 [some (.long pr), none, some (.int tk), some (.int (nI p)), some (.int best), some (.int (nI (5 - r))), x] [] hp := by
          intro hz x
          have := ih (by omega) (by rw [he, fcL, if_neg hz])
          rw [show 6 - r = (5 - r) + 1 by omega, ← nI_1] at this
          exact hK 46 2 73 _ _ _ (hle _ _ _ _ _ (by repeat (first | exact trivial | refine ⟨rfl, ?_⟩)) this)
        refine hK 19 27 28 _ _ _ ?_
        refine ⟨fun z => absurd z (nI_ge (a := 5 - r) (b := 6) (by omega) (by omega)), fun _ => ?_⟩
        refine ⟨_, _, _, _, rfl, fun z => ?_, fun z => ?_⟩
        · refine ⟨fun z => absurd z (by decide), fun _ => ?_⟩
          refine ⟨pr, bor tk (5 - r), p + 1, by rw [nI_1]; rfl, by omega, by omega, ?_⟩
          rw [show 6 - (p + 1) = d by omega]
          refine ⟨fun z2 => ?_, fun z2 => ?_⟩
          · exact skip (fun y => z2 y.2) _
          · rw [he, fcL, if_pos ⟨freB_t z, z2⟩] at hq
            exact hq
        · refine ⟨fun _ => ?_, fun z => absurd z (by decide)⟩
          exact skip (fun y => by rw [freB_f z] at y; exact Bool.false_ne_true y.1) _
    have := loop d (Nat.le_refl d) rfl
    rw [show 6 - d = p + 1 by omega, ← nI_1] at this
    exact hle _ _ _ _ _ (by repeat (first | exact trivial | refine ⟨rfl, ?_⟩)) this
  · rw [if_pos h] at hq
    exact hq
abbrev rm_X4_firstChoice : Room := { frames := 9, cells := 0, slots := 0, locals := 220 }
set_option maxRecDepth 100000 in
set_option maxHeartbeats 4000000 in
theorem ct_X4_firstChoice (l : Launch) (D : va_G) (dA : Nat → ClassId) (σ : Nat → Nat) : em_CT l D em_cl dA σ (em_F σ) y_X4_firstChoice c_X4_firstChoice 7 (Option.some ClassFile.FieldType.int) rm_X4_firstChoice (sp_X4_firstChoice ) := by
  refine em_CT_of (T := T_X4_firstChoice ) (em_F_ok σ) (by decide) (fun p e s m args below meth c A ρ Q C hFok hF hret hlk hin => ?_) (me_X4_firstChoice )
  unfold T_X4_firstChoice
  refine List.forall_mem_cons.mpr ⟨s_lload_n C (by decide +kernel : decode c_X4_firstChoice 0 = .ok (.lload_n 0, 1)) rfl rfl rfl, ?_⟩
  refine List.forall_mem_cons.mpr ⟨s_iload_n C (by decide +kernel : decode c_X4_firstChoice 1 = .ok (.iload_n 2, 1)) rfl rfl rfl, ?_⟩
  refine List.forall_mem_cons.mpr ⟨s_iload_n C (by decide +kernel : decode c_X4_firstChoice 2 = .ok (.iload_n 3, 1)) rfl rfl rfl, ?_⟩
  refine List.forall_mem_cons.mpr ⟨s_callS C hFok hF (ct_X4_most l D dA σ 6) ⟨rfl, rfl⟩ ew537 ew538 ew536 ew16 ⟨by decide, by decide, by decide +kernel⟩ ⟨by decide, by decide⟩ (by decide +kernel : decode c_X4_firstChoice 3 = .ok (.invokestatic 9, 3)) rfl rfl ⟨Nat.zero_le _, Nat.zero_le _⟩, ?_⟩
  refine List.forall_mem_cons.mpr ⟨s_istore C (by decide +kernel : decode c_X4_firstChoice 6 = .ok (.istore 4, 2)) rfl rfl (by decide), ?_⟩
  refine List.forall_mem_cons.mpr ⟨s_lload_n C (by decide +kernel : decode c_X4_firstChoice 8 = .ok (.lload_n 0, 1)) rfl rfl rfl, ?_⟩
  refine List.forall_mem_cons.mpr ⟨s_iload_n C (by decide +kernel : decode c_X4_firstChoice 9 = .ok (.iload_n 2, 1)) rfl rfl rfl, ?_⟩
  refine List.forall_mem_cons.mpr ⟨s_iload_n C (by decide +kernel : decode c_X4_firstChoice 10 = .ok (.iload_n 3, 1)) rfl rfl rfl, ?_⟩
  refine List.forall_mem_cons.mpr ⟨s_iconst C (by decide +kernel : decode c_X4_firstChoice 11 = .ok (.iconst 1, 1)) rfl rfl (by decide), ?_⟩
  refine List.forall_mem_cons.mpr ⟨s_iadd C (by decide +kernel : decode c_X4_firstChoice 12 = .ok (.iadd, 1)) rfl rfl, ?_⟩
  refine List.forall_mem_cons.mpr ⟨s_callS C hFok hF (ct_X4_most l D dA σ 6) ⟨rfl, rfl⟩ ew537 ew538 ew536 ew16 ⟨by decide, by decide, by decide +kernel⟩ ⟨by decide, by decide⟩ (by decide +kernel : decode c_X4_firstChoice 13 = .ok (.invokestatic 9, 3)) rfl rfl ⟨Nat.zero_le _, Nat.zero_le _⟩, ?_⟩
  refine List.forall_mem_cons.mpr ⟨s_iload C (by decide +kernel : decode c_X4_firstChoice 16 = .ok (.iload 4, 2)) rfl rfl, ?_⟩
  refine List.forall_mem_cons.mpr ⟨s_icmpne C (by decide +kernel : decode c_X4_firstChoice 18 = .ok (.if_icmp .ne 5, 3)) (by decide) rfl rfl rfl, ?_⟩
  refine List.forall_mem_cons.mpr ⟨s_iconst C (by decide +kernel : decode c_X4_firstChoice 21 = .ok (.iconst (-1), 1)) rfl rfl (by decide), ?_⟩
  refine List.forall_mem_cons.mpr ⟨s_iret C (by decide +kernel : decode c_X4_firstChoice 22 = .ok (.ireturn, 1)) hret hlk ⟨Nat.le_refl 0, Nat.le_refl 0⟩, ?_⟩
  refine List.forall_mem_cons.mpr ⟨s_iload_n C (by decide +kernel : decode c_X4_firstChoice 23 = .ok (.iload_n 3, 1)) rfl rfl rfl, ?_⟩
  refine List.forall_mem_cons.mpr ⟨s_iconst C (by decide +kernel : decode c_X4_firstChoice 24 = .ok (.iconst 1, 1)) rfl rfl (by decide), ?_⟩
  refine List.forall_mem_cons.mpr ⟨s_iadd C (by decide +kernel : decode c_X4_firstChoice 25 = .ok (.iadd, 1)) rfl rfl, ?_⟩
  refine List.forall_mem_cons.mpr ⟨s_istore C (by decide +kernel : decode c_X4_firstChoice 26 = .ok (.istore 5, 2)) rfl rfl (by decide), ?_⟩
  refine List.forall_mem_cons.mpr ⟨s_iload C (by decide +kernel : decode c_X4_firstChoice 28 = .ok (.iload 5, 2)) rfl rfl, ?_⟩
  refine List.forall_mem_cons.mpr ⟨s_bipush C (by decide +kernel : decode c_X4_firstChoice 30 = .ok (.bipush 6, 2)) rfl rfl (by decide), ?_⟩
  refine List.forall_mem_cons.mpr ⟨s_icmpge C (by decide +kernel : decode c_X4_firstChoice 32 = .ok (.if_icmp .ge 47, 3)) (by decide) rfl rfl rfl, ?_⟩
  refine List.forall_mem_cons.mpr ⟨s_lload_n C (by decide +kernel : decode c_X4_firstChoice 35 = .ok (.lload_n 0, 1)) rfl rfl rfl, ?_⟩
  refine List.forall_mem_cons.mpr ⟨s_iload_n C (by decide +kernel : decode c_X4_firstChoice 36 = .ok (.iload_n 2, 1)) rfl rfl rfl, ?_⟩
  refine List.forall_mem_cons.mpr ⟨s_iload_n C (by decide +kernel : decode c_X4_firstChoice 37 = .ok (.iload_n 3, 1)) rfl rfl rfl, ?_⟩
  refine List.forall_mem_cons.mpr ⟨s_iload C (by decide +kernel : decode c_X4_firstChoice 38 = .ok (.iload 5, 2)) rfl rfl, ?_⟩
  refine List.forall_mem_cons.mpr ⟨s_callS C hFok hF (ct_X4_isFree l D dA σ) ⟨rfl, rfl⟩ ew541 ew539 ew540 ew16 ⟨by decide, by decide, by decide +kernel⟩ ⟨by decide, by decide⟩ (by decide +kernel : decode c_X4_firstChoice 40 = .ok (.invokestatic 15, 3)) rfl rfl ⟨Nat.zero_le _, Nat.zero_le _⟩, ?_⟩
  refine List.forall_mem_cons.mpr ⟨s_istore C (by decide +kernel : decode c_X4_firstChoice 43 = .ok (.istore 6, 2)) rfl rfl (by decide), ?_⟩
  refine List.forall_mem_cons.mpr ⟨s_iload C (by decide +kernel : decode c_X4_firstChoice 45 = .ok (.iload 6, 2)) rfl rfl, ?_⟩
  refine List.forall_mem_cons.mpr ⟨s_ifeq C (by decide +kernel : decode c_X4_firstChoice 47 = .ok (.ifCond .eq 26, 3)) (by decide) rfl rfl rfl, ?_⟩
  refine List.forall_mem_cons.mpr ⟨s_iconst C (by decide +kernel : decode c_X4_firstChoice 50 = .ok (.iconst 1, 1)) rfl rfl (by decide), ?_⟩
  refine List.forall_mem_cons.mpr ⟨s_lload_n C (by decide +kernel : decode c_X4_firstChoice 51 = .ok (.lload_n 0, 1)) rfl rfl rfl, ?_⟩
  refine List.forall_mem_cons.mpr ⟨s_iload_n C (by decide +kernel : decode c_X4_firstChoice 52 = .ok (.iload_n 2, 1)) rfl rfl rfl, ?_⟩
  refine List.forall_mem_cons.mpr ⟨s_iconst C (by decide +kernel : decode c_X4_firstChoice 53 = .ok (.iconst 1, 1)) rfl rfl (by decide), ?_⟩
  refine List.forall_mem_cons.mpr ⟨s_iload C (by decide +kernel : decode c_X4_firstChoice 54 = .ok (.iload 5, 2)) rfl rfl, ?_⟩
  refine List.forall_mem_cons.mpr ⟨s_ishl C (by decide +kernel : decode c_X4_firstChoice 56 = .ok (.ishl, 1)) rfl rfl, ?_⟩
  refine List.forall_mem_cons.mpr ⟨s_ior C (by decide +kernel : decode c_X4_firstChoice 57 = .ok (.ior, 1)) rfl rfl, ?_⟩
  refine List.forall_mem_cons.mpr ⟨s_iload_n C (by decide +kernel : decode c_X4_firstChoice 58 = .ok (.iload_n 3, 1)) rfl rfl rfl, ?_⟩
  refine List.forall_mem_cons.mpr ⟨s_iconst C (by decide +kernel : decode c_X4_firstChoice 59 = .ok (.iconst 1, 1)) rfl rfl (by decide), ?_⟩
  refine List.forall_mem_cons.mpr ⟨s_iadd C (by decide +kernel : decode c_X4_firstChoice 60 = .ok (.iadd, 1)) rfl rfl, ?_⟩
  refine List.forall_mem_cons.mpr ⟨s_callS C hFok hF (ct_X4_most l D dA σ 6) ⟨rfl, rfl⟩ ew537 ew538 ew536 ew16 ⟨by decide, by decide, by decide +kernel⟩ ⟨by decide, by decide⟩ (by decide +kernel : decode c_X4_firstChoice 61 = .ok (.invokestatic 9, 3)) rfl rfl ⟨Nat.zero_le _, Nat.zero_le _⟩, ?_⟩
  refine List.forall_mem_cons.mpr ⟨s_iadd C (by decide +kernel : decode c_X4_firstChoice 64 = .ok (.iadd, 1)) rfl rfl, ?_⟩
  refine List.forall_mem_cons.mpr ⟨s_iload C (by decide +kernel : decode c_X4_firstChoice 65 = .ok (.iload 4, 2)) rfl rfl, ?_⟩
  refine List.forall_mem_cons.mpr ⟨s_icmpne C (by decide +kernel : decode c_X4_firstChoice 67 = .ok (.if_icmp .ne 6, 3)) (by decide) rfl rfl rfl, ?_⟩
  refine List.forall_mem_cons.mpr ⟨s_iload C (by decide +kernel : decode c_X4_firstChoice 70 = .ok (.iload 5, 2)) rfl rfl, ?_⟩
  refine List.forall_mem_cons.mpr ⟨s_iret C (by decide +kernel : decode c_X4_firstChoice 72 = .ok (.ireturn, 1)) hret hlk ⟨Nat.le_refl 0, Nat.le_refl 0⟩, ?_⟩
  refine List.forall_mem_cons.mpr ⟨s_iinc C (by decide +kernel : decode c_X4_firstChoice 73 = .ok (.iinc 5 1, 3)) rfl rfl (by decide) (by decide), ?_⟩
  refine List.forall_mem_cons.mpr ⟨s_goto C (by decide +kernel : decode c_X4_firstChoice 76 = .ok (.goto (-48), 3)) (by decide) rfl, ?_⟩
  refine List.forall_mem_cons.mpr ⟨s_iconst C (by decide +kernel : decode c_X4_firstChoice 79 = .ok (.iconst (-1), 1)) rfl rfl (by decide), ?_⟩
  refine List.forall_mem_cons.mpr ⟨s_iret C (by decide +kernel : decode c_X4_firstChoice 80 = .ok (.ireturn, 1)) hret hlk ⟨Nat.le_refl 0, Nat.le_refl 0⟩, ?_⟩
  exact fun _ h => absurd h List.not_mem_nil
def spo (pr : Int64) (w : Nat) : Nat → Int32 → Int32
  | 0, _ => -1
  | r + 1, tk => if (tk >>> (nI (w - r) &&& 31)) &&& 1 = 0 then
      (if r = 0 then fch pr (5 - (w - r)) tk else if fch pr (5 - (w - r)) tk = nI w then nI (w - r) else if fch pr (5 - (w - r)) tk = -1 then spo pr w r tk else spo pr w r (tk ||| ((1 : Int32) <<< (fch pr (5 - (w - r)) tk &&& 31))))
    else spo pr w r tk
def sp_X4_spouse : em_Sp := fun av hp Q => ∃ pr w, av = [.long pr, .int (nI w)] ∧ w < 6 ∧ Q (some (.int (spo pr w (w + 1) 0))) hp
def T_X4_spouse : List (Nat × em_Op) := [(0, o_iconst 0 1), (1, o_istore 3 2), (2, o_iconst 0 3), (3, o_istore 4 5), (5, o_iload 4 7), (7, o_iload 2 8), (8, o_icmpgt 66 11), (11, o_iload 3 12), (12, o_iload 4 14), (14, o_ishr 15), (15, o_iconst 1 16), (16, o_iand 17), (17, o_ifne 60 20), (20, o_lload 0 21), (21, o_iload 3 22), (22, o_iload 4 24), (24, o_call 3 none (sp_X4_firstChoice) 27), (27, o_istore 5 29), (29, o_iload 4 31), (31, o_iload 2 32), (32, o_icmpne 38 35), (35, o_iload 5 37), (37, o_iret), (38, o_iload 5 40), (40, o_iload 2 41), (41, o_icmpne 47 44), (44, o_iload 4 46), (46, o_iret), (47, o_iload 5 49), (49, o_iconst (-1) 50), (50, o_icmpeq 60 53), (53, o_iload 3 54), (54, o_iconst 1 55), (55, o_iload 5 57), (57, o_ishl 58), (58, o_ior 59), (59, o_istore 3 60), (60, o_iinc 4 1 63), (63, o_goto 5), (66, o_iconst (-1) 67), (67, o_iret)]
theorem me_X4_spouse : em_Me T_X4_spouse 6 sp_X4_spouse := by
  intro Q K hK hle av hp hs
  obtain ⟨pr, w, rfl, hw, hq⟩ := hs
  refine ⟨Nat.le_of_ble_eq_true rfl, ?_⟩
  obtain ⟨V, hV⟩ : ∃ V, V = spo pr w (w + 1) 0 := ⟨_, rfl⟩
  rw [← hV] at hq
  have loop : ∀ (r : Nat) (tk : Int32), r ≤ w + 1 → V = spo pr w r tk → K 5 [some (.long pr), none, some (.int (nI w)), some (.int tk), some (.int (nI (w + 1 - r))), none] [] hp := by
    intro r
    induction r with
    | zero =>
      intro tk hr he
      rw [he] at hq
      refine hK 4 99 5 _ _ _ ?_
      exact ⟨fun _ => hq, fun z => absurd (nI_lt (a := w) (b := w + 1) (by omega) (by omega)) z⟩
    | succ r ih =>
      intro tk hr he
      rw [show w + 1 - (r + 1) = w - r by omega]
      have next : ∀ (tk2 : Int32) x, V = spo pr w r tk2 → K 60 [some (.long pr), none, some (.int (nI w)), some (.int tk2), some (.int (nI (w - r))), x] [] hp := by
        intro tk2 x h2
        have := ih tk2 (by omega) h2
        rw [show w + 1 - r = (w - r) + 1 by omega, ← nI_1] at this
        exact hK 37 2 60 _ _ _ (hle _ _ _ _ _ (by repeat (first | exact trivial | refine ⟨rfl, ?_⟩)) this)
      rw [spo] at he
      refine hK 4 33 5 _ _ _ ?_
      refine ⟨fun z => absurd z (nI_nlt (a := w) (b := w - r) (by omega) (by omega)), fun _ => ?_⟩
      refine ⟨fun z => ?_, fun z => ?_⟩
      · rw [if_neg z] at he
        exact next tk _ he
      · rw [if_pos z] at he
        refine ⟨pr, tk, w - r, 5 - (w - r), rfl, by omega, ?_⟩
        refine ⟨fun z2 => ?_, fun z2 => ?_⟩
        · have hr0 : ¬ r = 0 := fun y => z2 (by rw [y, Nat.sub_zero])
          rw [if_neg hr0] at he
          refine ⟨fun z3 => ?_, fun z3 => ?_⟩
          · rw [if_neg z3] at he
            refine ⟨fun z4 => ?_, fun z4 => ?_⟩
            · rw [if_pos z4] at he
              exact next tk _ he
            · rw [if_neg z4] at he
              exact next _ _ he
          · rw [if_pos z3] at he
            rw [he] at hq
            exact hq
        · have hr0 : r = 0 := by
            have := (nI_eq (a := w - r) (b := w) (by omega) (by omega)).mp z2
            omega
          rw [if_pos hr0] at he
          rw [he] at hq
          exact hq
  have := loop (w + 1) 0 (Nat.le_refl _) hV
  rw [Nat.sub_self] at this
  exact hK 0 4 0 _ _ _ this
abbrev rm_X4_spouse : Room := { frames := 10, cells := 0, slots := 0, locals := 246 }
set_option maxRecDepth 100000 in
set_option maxHeartbeats 4000000 in
theorem ct_X4_spouse (l : Launch) (D : va_G) (dA : Nat → ClassId) (σ : Nat → Nat) : em_CT l D em_cl dA σ (em_F σ) y_X4_spouse c_X4_spouse 6 (Option.some ClassFile.FieldType.int) rm_X4_spouse (sp_X4_spouse ) := by
  refine em_CT_of (T := T_X4_spouse ) (em_F_ok σ) (by decide) (fun p e s m args below meth c A ρ Q C hFok hF hret hlk hin => ?_) (me_X4_spouse )
  unfold T_X4_spouse
  refine List.forall_mem_cons.mpr ⟨s_iconst C (by decide +kernel : decode c_X4_spouse 0 = .ok (.iconst 0, 1)) rfl rfl (by decide), ?_⟩
  refine List.forall_mem_cons.mpr ⟨s_istore_n C (by decide +kernel : decode c_X4_spouse 1 = .ok (.istore_n 3, 1)) rfl rfl rfl (by decide), ?_⟩
  refine List.forall_mem_cons.mpr ⟨s_iconst C (by decide +kernel : decode c_X4_spouse 2 = .ok (.iconst 0, 1)) rfl rfl (by decide), ?_⟩
  refine List.forall_mem_cons.mpr ⟨s_istore C (by decide +kernel : decode c_X4_spouse 3 = .ok (.istore 4, 2)) rfl rfl (by decide), ?_⟩
  refine List.forall_mem_cons.mpr ⟨s_iload C (by decide +kernel : decode c_X4_spouse 5 = .ok (.iload 4, 2)) rfl rfl, ?_⟩
  refine List.forall_mem_cons.mpr ⟨s_iload_n C (by decide +kernel : decode c_X4_spouse 7 = .ok (.iload_n 2, 1)) rfl rfl rfl, ?_⟩
  refine List.forall_mem_cons.mpr ⟨s_icmpgt C (by decide +kernel : decode c_X4_spouse 8 = .ok (.if_icmp .gt 58, 3)) (by decide) rfl rfl rfl, ?_⟩
  refine List.forall_mem_cons.mpr ⟨s_iload_n C (by decide +kernel : decode c_X4_spouse 11 = .ok (.iload_n 3, 1)) rfl rfl rfl, ?_⟩
  refine List.forall_mem_cons.mpr ⟨s_iload C (by decide +kernel : decode c_X4_spouse 12 = .ok (.iload 4, 2)) rfl rfl, ?_⟩
  refine List.forall_mem_cons.mpr ⟨s_ishr C (by decide +kernel : decode c_X4_spouse 14 = .ok (.ishr, 1)) rfl rfl, ?_⟩
  refine List.forall_mem_cons.mpr ⟨s_iconst C (by decide +kernel : decode c_X4_spouse 15 = .ok (.iconst 1, 1)) rfl rfl (by decide), ?_⟩
  refine List.forall_mem_cons.mpr ⟨s_iand C (by decide +kernel : decode c_X4_spouse 16 = .ok (.iand, 1)) rfl rfl, ?_⟩
  refine List.forall_mem_cons.mpr ⟨s_ifne C (by decide +kernel : decode c_X4_spouse 17 = .ok (.ifCond .ne 43, 3)) (by decide) rfl rfl rfl, ?_⟩
  refine List.forall_mem_cons.mpr ⟨s_lload_n C (by decide +kernel : decode c_X4_spouse 20 = .ok (.lload_n 0, 1)) rfl rfl rfl, ?_⟩
  refine List.forall_mem_cons.mpr ⟨s_iload_n C (by decide +kernel : decode c_X4_spouse 21 = .ok (.iload_n 3, 1)) rfl rfl rfl, ?_⟩
  refine List.forall_mem_cons.mpr ⟨s_iload C (by decide +kernel : decode c_X4_spouse 22 = .ok (.iload 4, 2)) rfl rfl, ?_⟩
  refine List.forall_mem_cons.mpr ⟨s_callS C hFok hF (ct_X4_firstChoice l D dA σ) ⟨rfl, rfl⟩ ew549 ew547 ew548 ew16 ⟨by decide, by decide, by decide +kernel⟩ ⟨by decide, by decide⟩ (by decide +kernel : decode c_X4_spouse 24 = .ok (.invokestatic 25, 3)) rfl rfl ⟨Nat.zero_le _, Nat.zero_le _⟩, ?_⟩
  refine List.forall_mem_cons.mpr ⟨s_istore C (by decide +kernel : decode c_X4_spouse 27 = .ok (.istore 5, 2)) rfl rfl (by decide), ?_⟩
  refine List.forall_mem_cons.mpr ⟨s_iload C (by decide +kernel : decode c_X4_spouse 29 = .ok (.iload 4, 2)) rfl rfl, ?_⟩
  refine List.forall_mem_cons.mpr ⟨s_iload_n C (by decide +kernel : decode c_X4_spouse 31 = .ok (.iload_n 2, 1)) rfl rfl rfl, ?_⟩
  refine List.forall_mem_cons.mpr ⟨s_icmpne C (by decide +kernel : decode c_X4_spouse 32 = .ok (.if_icmp .ne 6, 3)) (by decide) rfl rfl rfl, ?_⟩
  refine List.forall_mem_cons.mpr ⟨s_iload C (by decide +kernel : decode c_X4_spouse 35 = .ok (.iload 5, 2)) rfl rfl, ?_⟩
  refine List.forall_mem_cons.mpr ⟨s_iret C (by decide +kernel : decode c_X4_spouse 37 = .ok (.ireturn, 1)) hret hlk ⟨Nat.le_refl 0, Nat.le_refl 0⟩, ?_⟩
  refine List.forall_mem_cons.mpr ⟨s_iload C (by decide +kernel : decode c_X4_spouse 38 = .ok (.iload 5, 2)) rfl rfl, ?_⟩
  refine List.forall_mem_cons.mpr ⟨s_iload_n C (by decide +kernel : decode c_X4_spouse 40 = .ok (.iload_n 2, 1)) rfl rfl rfl, ?_⟩
  refine List.forall_mem_cons.mpr ⟨s_icmpne C (by decide +kernel : decode c_X4_spouse 41 = .ok (.if_icmp .ne 6, 3)) (by decide) rfl rfl rfl, ?_⟩
  refine List.forall_mem_cons.mpr ⟨s_iload C (by decide +kernel : decode c_X4_spouse 44 = .ok (.iload 4, 2)) rfl rfl, ?_⟩
  refine List.forall_mem_cons.mpr ⟨s_iret C (by decide +kernel : decode c_X4_spouse 46 = .ok (.ireturn, 1)) hret hlk ⟨Nat.le_refl 0, Nat.le_refl 0⟩, ?_⟩
  refine List.forall_mem_cons.mpr ⟨s_iload C (by decide +kernel : decode c_X4_spouse 47 = .ok (.iload 5, 2)) rfl rfl, ?_⟩
  refine List.forall_mem_cons.mpr ⟨s_iconst C (by decide +kernel : decode c_X4_spouse 49 = .ok (.iconst (-1), 1)) rfl rfl (by decide), ?_⟩
  refine List.forall_mem_cons.mpr ⟨s_icmpeq C (by decide +kernel : decode c_X4_spouse 50 = .ok (.if_icmp .eq 10, 3)) (by decide) rfl rfl rfl, ?_⟩
  refine List.forall_mem_cons.mpr ⟨s_iload_n C (by decide +kernel : decode c_X4_spouse 53 = .ok (.iload_n 3, 1)) rfl rfl rfl, ?_⟩
  refine List.forall_mem_cons.mpr ⟨s_iconst C (by decide +kernel : decode c_X4_spouse 54 = .ok (.iconst 1, 1)) rfl rfl (by decide), ?_⟩
  refine List.forall_mem_cons.mpr ⟨s_iload C (by decide +kernel : decode c_X4_spouse 55 = .ok (.iload 5, 2)) rfl rfl, ?_⟩
  refine List.forall_mem_cons.mpr ⟨s_ishl C (by decide +kernel : decode c_X4_spouse 57 = .ok (.ishl, 1)) rfl rfl, ?_⟩
  refine List.forall_mem_cons.mpr ⟨s_ior C (by decide +kernel : decode c_X4_spouse 58 = .ok (.ior, 1)) rfl rfl, ?_⟩
  refine List.forall_mem_cons.mpr ⟨s_istore_n C (by decide +kernel : decode c_X4_spouse 59 = .ok (.istore_n 3, 1)) rfl rfl rfl (by decide), ?_⟩
  refine List.forall_mem_cons.mpr ⟨s_iinc C (by decide +kernel : decode c_X4_spouse 60 = .ok (.iinc 4 1, 3)) rfl rfl (by decide) (by decide), ?_⟩
  refine List.forall_mem_cons.mpr ⟨s_goto C (by decide +kernel : decode c_X4_spouse 63 = .ok (.goto (-58), 3)) (by decide) rfl, ?_⟩
  refine List.forall_mem_cons.mpr ⟨s_iconst C (by decide +kernel : decode c_X4_spouse 66 = .ok (.iconst (-1), 1)) rfl rfl (by decide), ?_⟩
  refine List.forall_mem_cons.mpr ⟨s_iret C (by decide +kernel : decode c_X4_spouse 67 = .ok (.ireturn, 1)) hret hlk ⟨Nat.le_refl 0, Nat.le_refl 0⟩, ?_⟩
  exact fun _ h => absurd h List.not_mem_nil
end
section
/-! ===== Table ===== -/
def tbL (n : Nat) (s : Int32) (g : Nat → Int32) : Nat → Int32
  | 0 => 0
  | k + 1 => if (s >>> (nI (k + 1) &&& 31)) &&& 1 = 0 then mxI (tbL n s g k) (g (k + 1)) else tbL n s g k
def tbm (n : Nat) (ki : Nat → Int32) (we lea mst : Int32) : Nat → Int32 → Nat → Int64 → Int32
  | 0, _, la, m => nI (cU2 (mwB we lea mst (btN n ki we m la 0)) n n)
  | d + 1, s, la, m => tbL n s (fun x => tbm n ki we lea mst d (bor s x) x (btN n ki we m la x)) (n - 1)
def sp_X6_most (d : Nat) : em_Sp := fun av hp Q => ∃ pe ki mi se we lea mst pa fi sd ev un ma ea co ca clt m s la pl n, av = [.ref 0, .long m, .int s, .int (nI la), .int (nI pl)] ∧ hp = (wT pe ki mi se we lea mst pa fi sd ev un ma ea co ca clt) ∧ pe = nI n ∧ n ≤ 6 ∧ la < 6 ∧ pl ≤ 7 ∧ n ≤ pl + d ∧ Q (some (.int (tbm n ki we lea mst (n - pl) s la m))) hp
def sp_X6_mostP : Nat → em_Sp
  | 0 => spF
  | d + 1 => sp_X6_most d
def T_X6_most (sp : em_Sp) : List (Nat × em_Op) := [(0, o_iload 5 2), (2, o_aload 0 3), (3, o_getf 2 0 6), (6, o_icmplt 22 9), (9, o_aload 0 10), (10, o_aload 0 11), (11, o_lload 1 12), (12, o_iload 4 14), (14, o_iconst 0 15), (15, o_call 4 (some 2) (sp_X7_behindTalk2) 18), (18, o_call 2 (some 2) (sp_X7_lawfulPairs) 21), (21, o_iret), (22, o_iconst 0 23), (23, o_istore 6 25), (25, o_iconst 1 26), (26, o_istore 7 28), (28, o_iload 7 30), (30, o_aload 0 31), (31, o_getf 2 0 34), (34, o_icmpge 88 37), (37, o_iload 3 38), (38, o_iload 7 40), (40, o_ishr 41), (41, o_iconst 1 42), (42, o_iand 43), (43, o_ifne 82 46), (46, o_aload 0 47), (47, o_lload 1 48), (48, o_iload 4 50), (50, o_iload 7 52), (52, o_call 4 (some 2) (sp_X7_behindTalk2) 55), (55, o_lstore 8 57), (57, o_iload 6 59), (59, o_aload 0 60), (60, o_lload 8 62), (62, o_iload 3 63), (63, o_iconst 1 64), (64, o_iload 7 66), (66, o_ishl 67), (67, o_ior 68), (68, o_iload 7 70), (70, o_iload 5 72), (72, o_iconst 1 73), (73, o_iadd 74), (74, o_call 5 none (sp) 77), (77, o_max 80), (80, o_istore 6 82), (82, o_iinc 7 1 85), (85, o_goto 28), (88, o_iload 6 90), (90, o_iret)]
theorem me_X6_most : ∀ d, em_Me (T_X6_most (sp_X6_mostP d)) 10 (sp_X6_most d) := by
  intro d Q K hK hle av hp hs
  obtain ⟨pe, ki, mi, se, we, lea, mst, pa, fi, sd, ev, un, ma, ea, co, ca, clt, m, s, la, pl, n, rfl, rfl, rfl, hn, hla, hpl, hd, hq⟩ := hs
  refine ⟨Nat.le_of_ble_eq_true rfl, ?_⟩
  refine hK 0 16 0 _ _ _ ?_
  refine ⟨fun h => ?_, fun h => ?_⟩
  · have h6 : pl < n := (nI_ltI (by omega) (by omega)).mp h
    obtain ⟨d, rfl⟩ : ∃ d', d = d' + 1 := ⟨d - 1, by omega⟩
    obtain ⟨k, hk⟩ : ∃ k, n - pl = k + 1 := ⟨n - pl - 1, by omega⟩
    rw [hk, tbm] at hq
    generalize hG : (fun x => tbm n ki we lea mst k (bor s x) x (btN n ki we m la x)) = g at hq
    have loop : ∀ (r j : Nat), j + r = n - 1 → K 28 [some (.ref 0), some (.long m), none, some (.int s), some (.int (nI la)), some (.int (nI pl)), some (.int (tbL n s g j)), some (.int (nI (1 + j))), none, none] [] (wT (nI n) ki mi se we lea mst pa fi sd ev un ma ea co ca clt) := by
      intro r
      induction r with
      | zero =>
        intro j hj
        have hj : j = n - 1 := by omega
        subst hj
        refine hK 16 9999 28 _ _ _ ?_
        exact ⟨fun _ => hq, fun z => absurd (nI_le (a := n) (b := 1 + (n - 1)) (by omega) (by omega)) z⟩
      | succ r ih =>
        intro j hj
        have next : ∀ x y v, v = tbL n s g (j + 1) → K 82 [some (.ref 0), some (.long m), none, some (.int s), some (.int (nI la)), some (.int (nI pl)), some (.int v), some (.int (nI (1 + j))), x, y] [] (wT (nI n) ki mi se we lea mst pa fi sd ev un ma ea co ca clt) := by
          intro x y v hv
          subst hv
          have := ih (j + 1) (by omega)
          rw [show 1 + (j + 1) = (1 + j) + 1 by omega, ← nI_1] at this
          exact hK 47 2 82 _ _ _ (hle _ _ _ _ _ (by repeat (first | exact trivial | refine ⟨rfl, ?_⟩)) this)
        refine hK 16 31 28 _ _ _ ?_
        refine ⟨fun z => absurd z (nI_ge (a := 1 + j) (b := n) (by omega) (by omega)), fun _ => ?_⟩
        refine ⟨fun z => ?_, fun z => ?_⟩
        · exact next _ _ _ (by rw [tbL, if_neg (by rw [Nat.add_comm j 1]; exact z)])
        · refine ⟨_, _, _, _, _, _, _, _, _, _, _, _, _, _, _, _, _, m, la, 1 + j, n, rfl, rfl, rfl, hn, by omega, by omega, ?_⟩
          refine ⟨_, _, _, _, _, _, _, _, _, _, _, _, _, _, _, _, _, _, bor s (1 + j), 1 + j, pl + 1, n, by rw [nI_1]; rfl, rfl, rfl, hn, by omega, by omega, by omega, ?_⟩
          refine next _ _ _ ?_
          have e : tbL n s g (j + 1) = mxI (tbL n s g j) (g (j + 1)) := by rw [tbL, if_pos (by rw [Nat.add_comm j 1]; exact z)]
          rw [e]
          show mxI _ _ = mxI _ _
          rw [show n - (pl + 1) = k by omega, Nat.add_comm 1 j, ← hG]
    have := loop (n - 1) 0 (by omega)
    exact hle _ _ _ _ _ (by repeat (first | exact trivial | refine ⟨rfl, ?_⟩)) this
  · have h6 : ¬ pl < n := fun y => h (nI_lt y (by omega))
    rw [show n - pl = 0 by omega, tbm] at hq
    exact ⟨_, _, _, _, _, _, _, _, _, _, _, _, _, _, _, _, _, m, la, 0, n, rfl, rfl, rfl, hn, by omega, by omega, _, _, _, _, _, _, _, _, _, _, _, _, _, _, _, _, _, _, n, rfl, rfl, rfl, hn, hq⟩
def rm_X6_most (d : Nat) : Room := { frames := 5 + d, cells := 0, slots := 0, locals := 126 + d * 29 }
set_option maxRecDepth 100000 in
set_option maxHeartbeats 4000000 in
theorem snd_X6_most (l : Launch) (D : va_G) (dA : Nat → ClassId) (σ : Nat → Nat) (sp : em_Sp) (rmc rm : Room) (hrec : em_CT l D em_cl dA σ (em_F σ) y_X6_most c_X6_most 10 (Option.some ClassFile.FieldType.int) rmc sp) (hrz : rmc.cells = 0 ∧ rmc.slots = 0) (hR : rmc.frames + 1 ≤ rm.frames ∧ 8 + (10 + 11) + rmc.locals ≤ rm.locals) (hR2 : 5 ≤ rm.frames ∧ 126 ≤ rm.locals) (p : Program) (e : Env) (s : State) (m : MethodId) (args : Array Value) (below : List Frame) (meth : Method) (c : Code) (A : Nat → Prop) (ρ : Nat → Nat) (Q : em_Q) (C : em_Cx p s m args c D em_cl A 10 (em_tys dA) c_X6_most y_X6_most.cls) (hFok : em_Fok (em_F σ)) (hF : em_F σ A s s.heap) (hret : meth.sig.returnType = (Option.some ClassFile.FieldType.int)) (hlk : meth.locks = false) : ∀ q ∈ T_X6_most sp, em_Snd p l e rm s m args below meth c D em_cl dA σ A 10 (fun _ => (0, 0)) (fun ρ' => ρ' = ρ) (MQ below (em_Qc D em_cl dA σ (fun ρ' => ρ' = ρ) Q A) args s 0 0 A) Q q.1 q.2 := by
  unfold T_X6_most
  refine List.forall_mem_cons.mpr ⟨s_iload C (by decide +kernel : decode c_X6_most 0 = .ok (.iload 5, 2)) rfl rfl, ?_⟩
  refine List.forall_mem_cons.mpr ⟨s_aload_n C (by decide +kernel : decode c_X6_most 2 = .ok (.aload_n 0, 1)) rfl rfl rfl, ?_⟩
  refine List.forall_mem_cons.mpr ⟨s_getf C (by decide +kernel : decode c_X6_most 3 = .ok (.getfield 7, 3)) rfl rfl em_cl_X7 (by decide) ew86 rfl, ?_⟩
  refine List.forall_mem_cons.mpr ⟨s_icmplt C (by decide +kernel : decode c_X6_most 6 = .ok (.if_icmp .lt 16, 3)) (by decide) rfl rfl rfl, ?_⟩
  refine List.forall_mem_cons.mpr ⟨s_aload_n C (by decide +kernel : decode c_X6_most 9 = .ok (.aload_n 0, 1)) rfl rfl rfl, ?_⟩
  refine List.forall_mem_cons.mpr ⟨s_aload_n C (by decide +kernel : decode c_X6_most 10 = .ok (.aload_n 0, 1)) rfl rfl rfl, ?_⟩
  refine List.forall_mem_cons.mpr ⟨s_lload_n C (by decide +kernel : decode c_X6_most 11 = .ok (.lload_n 1, 1)) rfl rfl rfl, ?_⟩
  refine List.forall_mem_cons.mpr ⟨s_iload C (by decide +kernel : decode c_X6_most 12 = .ok (.iload 4, 2)) rfl rfl, ?_⟩
  refine List.forall_mem_cons.mpr ⟨s_iconst C (by decide +kernel : decode c_X6_most 14 = .ok (.iconst 0, 1)) rfl rfl (by decide), ?_⟩
  refine List.forall_mem_cons.mpr ⟨s_callV C hFok hF (ct_X7_behindTalk2 l D dA σ) ⟨rfl, rfl⟩ ew438 em_cl_X7 ew597 ew436 ew437 ew5 ⟨by decide, by decide, by decide +kernel⟩ ⟨Nat.le_trans (by decide) hR2.1, Nat.le_trans (by decide) hR2.2⟩ (by decide +kernel : decode c_X6_most 15 = .ok (.invokevirtual 13, 3)) rfl rfl ⟨Nat.zero_le _, Nat.zero_le _⟩, ?_⟩
  refine List.forall_mem_cons.mpr ⟨s_callV C hFok hF (ct_X7_lawfulPairs l D dA σ) ⟨rfl, rfl⟩ ew601 em_cl_X7 ew598 ew599 ew600 ew5 ⟨by decide, by decide, by decide +kernel⟩ ⟨Nat.le_trans (by decide) hR2.1, Nat.le_trans (by decide) hR2.2⟩ (by decide +kernel : decode c_X6_most 18 = .ok (.invokevirtual 17, 3)) rfl rfl ⟨Nat.zero_le _, Nat.zero_le _⟩, ?_⟩
  refine List.forall_mem_cons.mpr ⟨s_iret C (by decide +kernel : decode c_X6_most 21 = .ok (.ireturn, 1)) hret hlk ⟨Nat.le_refl 0, Nat.le_refl 0⟩, ?_⟩
  refine List.forall_mem_cons.mpr ⟨s_iconst C (by decide +kernel : decode c_X6_most 22 = .ok (.iconst 0, 1)) rfl rfl (by decide), ?_⟩
  refine List.forall_mem_cons.mpr ⟨s_istore C (by decide +kernel : decode c_X6_most 23 = .ok (.istore 6, 2)) rfl rfl (by decide), ?_⟩
  refine List.forall_mem_cons.mpr ⟨s_iconst C (by decide +kernel : decode c_X6_most 25 = .ok (.iconst 1, 1)) rfl rfl (by decide), ?_⟩
  refine List.forall_mem_cons.mpr ⟨s_istore C (by decide +kernel : decode c_X6_most 26 = .ok (.istore 7, 2)) rfl rfl (by decide), ?_⟩
  refine List.forall_mem_cons.mpr ⟨s_iload C (by decide +kernel : decode c_X6_most 28 = .ok (.iload 7, 2)) rfl rfl, ?_⟩
  refine List.forall_mem_cons.mpr ⟨s_aload_n C (by decide +kernel : decode c_X6_most 30 = .ok (.aload_n 0, 1)) rfl rfl rfl, ?_⟩
  refine List.forall_mem_cons.mpr ⟨s_getf C (by decide +kernel : decode c_X6_most 31 = .ok (.getfield 7, 3)) rfl rfl em_cl_X7 (by decide) ew86 rfl, ?_⟩
  refine List.forall_mem_cons.mpr ⟨s_icmpge C (by decide +kernel : decode c_X6_most 34 = .ok (.if_icmp .ge 54, 3)) (by decide) rfl rfl rfl, ?_⟩
  refine List.forall_mem_cons.mpr ⟨s_iload_n C (by decide +kernel : decode c_X6_most 37 = .ok (.iload_n 3, 1)) rfl rfl rfl, ?_⟩
  refine List.forall_mem_cons.mpr ⟨s_iload C (by decide +kernel : decode c_X6_most 38 = .ok (.iload 7, 2)) rfl rfl, ?_⟩
  refine List.forall_mem_cons.mpr ⟨s_ishr C (by decide +kernel : decode c_X6_most 40 = .ok (.ishr, 1)) rfl rfl, ?_⟩
  refine List.forall_mem_cons.mpr ⟨s_iconst C (by decide +kernel : decode c_X6_most 41 = .ok (.iconst 1, 1)) rfl rfl (by decide), ?_⟩
  refine List.forall_mem_cons.mpr ⟨s_iand C (by decide +kernel : decode c_X6_most 42 = .ok (.iand, 1)) rfl rfl, ?_⟩
  refine List.forall_mem_cons.mpr ⟨s_ifne C (by decide +kernel : decode c_X6_most 43 = .ok (.ifCond .ne 39, 3)) (by decide) rfl rfl rfl, ?_⟩
  refine List.forall_mem_cons.mpr ⟨s_aload_n C (by decide +kernel : decode c_X6_most 46 = .ok (.aload_n 0, 1)) rfl rfl rfl, ?_⟩
  refine List.forall_mem_cons.mpr ⟨s_lload_n C (by decide +kernel : decode c_X6_most 47 = .ok (.lload_n 1, 1)) rfl rfl rfl, ?_⟩
  refine List.forall_mem_cons.mpr ⟨s_iload C (by decide +kernel : decode c_X6_most 48 = .ok (.iload 4, 2)) rfl rfl, ?_⟩
  refine List.forall_mem_cons.mpr ⟨s_iload C (by decide +kernel : decode c_X6_most 50 = .ok (.iload 7, 2)) rfl rfl, ?_⟩
  refine List.forall_mem_cons.mpr ⟨s_callV C hFok hF (ct_X7_behindTalk2 l D dA σ) ⟨rfl, rfl⟩ ew438 em_cl_X7 ew597 ew436 ew437 ew5 ⟨by decide, by decide, by decide +kernel⟩ ⟨Nat.le_trans (by decide) hR2.1, Nat.le_trans (by decide) hR2.2⟩ (by decide +kernel : decode c_X6_most 52 = .ok (.invokevirtual 13, 3)) rfl rfl ⟨Nat.zero_le _, Nat.zero_le _⟩, ?_⟩
  refine List.forall_mem_cons.mpr ⟨s_lstore C (by decide +kernel : decode c_X6_most 55 = .ok (.lstore 8, 2)) rfl rfl (by decide), ?_⟩
  refine List.forall_mem_cons.mpr ⟨s_iload C (by decide +kernel : decode c_X6_most 57 = .ok (.iload 6, 2)) rfl rfl, ?_⟩
  refine List.forall_mem_cons.mpr ⟨s_aload_n C (by decide +kernel : decode c_X6_most 59 = .ok (.aload_n 0, 1)) rfl rfl rfl, ?_⟩
  refine List.forall_mem_cons.mpr ⟨s_lload C (by decide +kernel : decode c_X6_most 60 = .ok (.lload 8, 2)) rfl rfl, ?_⟩
  refine List.forall_mem_cons.mpr ⟨s_iload_n C (by decide +kernel : decode c_X6_most 62 = .ok (.iload_n 3, 1)) rfl rfl rfl, ?_⟩
  refine List.forall_mem_cons.mpr ⟨s_iconst C (by decide +kernel : decode c_X6_most 63 = .ok (.iconst 1, 1)) rfl rfl (by decide), ?_⟩
  refine List.forall_mem_cons.mpr ⟨s_iload C (by decide +kernel : decode c_X6_most 64 = .ok (.iload 7, 2)) rfl rfl, ?_⟩
  refine List.forall_mem_cons.mpr ⟨s_ishl C (by decide +kernel : decode c_X6_most 66 = .ok (.ishl, 1)) rfl rfl, ?_⟩
  refine List.forall_mem_cons.mpr ⟨s_ior C (by decide +kernel : decode c_X6_most 67 = .ok (.ior, 1)) rfl rfl, ?_⟩
  refine List.forall_mem_cons.mpr ⟨s_iload C (by decide +kernel : decode c_X6_most 68 = .ok (.iload 7, 2)) rfl rfl, ?_⟩
  refine List.forall_mem_cons.mpr ⟨s_iload C (by decide +kernel : decode c_X6_most 70 = .ok (.iload 5, 2)) rfl rfl, ?_⟩
  refine List.forall_mem_cons.mpr ⟨s_iconst C (by decide +kernel : decode c_X6_most 72 = .ok (.iconst 1, 1)) rfl rfl (by decide), ?_⟩
  refine List.forall_mem_cons.mpr ⟨s_iadd C (by decide +kernel : decode c_X6_most 73 = .ok (.iadd, 1)) rfl rfl, ?_⟩
  refine List.forall_mem_cons.mpr ⟨s_callS C hFok hF (hrec) hrz ew596 ew602 ew595 ew18 ⟨by decide, by decide, by decide +kernel⟩ hR (by decide +kernel : decode c_X6_most 74 = .ok (.invokestatic 21, 3)) rfl rfl ⟨Nat.zero_le _, Nat.zero_le _⟩, ?_⟩
  refine List.forall_mem_cons.mpr ⟨s_max C ew603 ew501 ew15 ew502 ⟨Nat.le_trans (by decide) hR2.1, Nat.le_trans (by decide) hR2.2⟩ ⟨Nat.zero_le _, Nat.zero_le _⟩ (by decide +kernel : decode c_X6_most 77 = .ok (.invokestatic 27, 3)) rfl rfl, ?_⟩
  refine List.forall_mem_cons.mpr ⟨s_istore C (by decide +kernel : decode c_X6_most 80 = .ok (.istore 6, 2)) rfl rfl (by decide), ?_⟩
  refine List.forall_mem_cons.mpr ⟨s_iinc C (by decide +kernel : decode c_X6_most 82 = .ok (.iinc 7 1, 3)) rfl rfl (by decide) (by decide), ?_⟩
  refine List.forall_mem_cons.mpr ⟨s_goto C (by decide +kernel : decode c_X6_most 85 = .ok (.goto (-57), 3)) (by decide) rfl, ?_⟩
  refine List.forall_mem_cons.mpr ⟨s_iload C (by decide +kernel : decode c_X6_most 88 = .ok (.iload 6, 2)) rfl rfl, ?_⟩
  refine List.forall_mem_cons.mpr ⟨s_iret C (by decide +kernel : decode c_X6_most 90 = .ok (.ireturn, 1)) hret hlk ⟨Nat.le_refl 0, Nat.le_refl 0⟩, ?_⟩
  exact fun _ h => absurd h List.not_mem_nil
theorem ct_X6_most (l : Launch) (D : va_G) (dA : Nat → ClassId) (σ : Nat → Nat) : ∀ d : Nat, em_CT l D em_cl dA σ (em_F σ) y_X6_most c_X6_most 10 (Option.some ClassFile.FieldType.int) (rm_X6_most d) (sp_X6_most d)
  | 0 => em_CT_of (T := T_X6_most spF) (em_F_ok σ) (by decide) (fun p e s m args below meth c A ρ Q C hFok hF hret hlk hin => snd_X6_most l D dA σ spF ⟨0, 0, 0, 0⟩ _ em_CT_F ⟨rfl, rfl⟩ ⟨by decide, by decide⟩ ⟨by decide, by decide⟩ p e s m args below meth c A ρ Q C hFok hF hret hlk) (me_X6_most 0)
  | d + 1 => em_CT_of (T := T_X6_most (sp_X6_most d)) (em_F_ok σ) (by decide) (fun p e s m args below meth c A ρ Q C hFok hF hret hlk hin => snd_X6_most l D dA σ (sp_X6_most d) (rm_X6_most d) _ (ct_X6_most l D dA σ d) ⟨rfl, rfl⟩ ⟨by show 5 + d + 1 ≤ 5 + (d + 1); omega, by show 8 + (10 + 11) + (126 + d * 29) ≤ 126 + (d + 1) * 29; omega⟩ ⟨by show 5 ≤ 5 + (d + 1); omega, by show 126 ≤ 126 + (d + 1) * 29; omega⟩ p e s m args below meth c A ρ Q C hFok hF hret hlk) (me_X6_most (d + 1))
def tfL (n : Nat) (s : Int32) (g : Nat → Int32) (best : Int32) : Nat → Nat
  | 0 => 0
  | r + 1 => if (s >>> (nI (n - (r + 1)) &&& 31)) &&& 1 = 0 ∧ g (n - (r + 1)) = best then n - (r + 1) else tfL n s g best r
/-- who sits at place pl, n - pl = d + 1 -/
def tfc (n : Nat) (ki : Nat → Int32) (we lea mst : Int32) (d : Nat) (s : Int32) (la : Nat) (m : Int64) : Nat :=
  tfL n s (fun x => tbm n ki we lea mst d (bor s x) x (btN n ki we m la x)) (tbm n ki we lea mst (d + 1) s la m) (n - 1)
def sp_X6_firstChoice : em_Sp := fun av hp Q => ∃ pe ki mi se we lea mst pa fi sd ev un ma ea co ca clt m s la pl n d, av = [.ref 0, .long m, .int s, .int (nI la), .int (nI pl)] ∧ hp = (wT pe ki mi se we lea mst pa fi sd ev un ma ea co ca clt) ∧ pe = nI n ∧ n ≤ 6 ∧ la < 6 ∧ pl + d + 1 = n ∧ Q (some (.int (nI (tfc n ki we lea mst d s la m)))) hp
def T_X6_firstChoice : List (Nat × em_Op) := [(0, o_aload 0 1), (1, o_lload 1 2), (2, o_iload 3 3), (3, o_iload 4 5), (5, o_iload 5 7), (7, o_call 5 none (sp_X6_most 6) 10), (10, o_istore 6 12), (12, o_iconst 1 13), (13, o_istore 7 15), (15, o_iload 7 17), (17, o_aload 0 18), (18, o_getf 2 0 21), (21, o_icmpge 76 24), (24, o_iload 3 25), (25, o_iload 7 27), (27, o_ishr 28), (28, o_iconst 1 29), (29, o_iand 30), (30, o_ifne 70 33), (33, o_aload 0 34), (34, o_lload 1 35), (35, o_iload 4 37), (37, o_iload 7 39), (39, o_call 4 (some 2) (sp_X7_behindTalk2) 42), (42, o_lstore 8 44), (44, o_aload 0 45), (45, o_lload 8 47), (47, o_iload 3 48), (48, o_iconst 1 49), (49, o_iload 7 51), (51, o_ishl 52), (52, o_ior 53), (53, o_iload 7 55), (55, o_iload 5 57), (57, o_iconst 1 58), (58, o_iadd 59), (59, o_call 5 none (sp_X6_most 6) 62), (62, o_iload 6 64), (64, o_icmpne 70 67), (67, o_iload 7 69), (69, o_iret), (70, o_iinc 7 1 73), (73, o_goto 15), (76, o_iconst 0 77), (77, o_iret)]
theorem me_X6_firstChoice : em_Me T_X6_firstChoice 10 sp_X6_firstChoice := by
  intro Q K hK hle av hp hs
  obtain ⟨pe, ki, mi, se, we, lea, mst, pa, fi, sd, ev, un, ma, ea, co, ca, clt, m, s, la, pl, n, d, rfl, rfl, rfl, hn, hla, hd, hq⟩ := hs
  refine ⟨Nat.le_of_ble_eq_true rfl, ?_⟩
  refine hK 0 9 0 _ _ _ ?_
  refine ⟨_, _, _, _, _, _, _, _, _, _, _, _, _, _, _, _, _, _, _, la, pl, n, rfl, rfl, rfl, hn, hla, by omega, by omega, ?_⟩
  rw [show n - pl = d + 1 by omega]
  rw [tfc] at hq
  generalize hG : (fun x => tbm n ki we lea mst d (bor s x) x (btN n ki we m la x)) = g at hq
  generalize hB : tbm n ki we lea mst (d + 1) s la m = best at hq ⊢
  obtain ⟨V, hV⟩ : ∃ V, V = tfL n s g best (n - 1) := ⟨_, rfl⟩
  rw [← hV] at hq
  have loop : ∀ (r : Nat), r ≤ n - 1 → V = tfL n s g best r → K 15 [some (.ref 0), some (.long m), none, some (.int s), some (.int (nI la)), some (.int (nI pl)), some (.int best), some (.int (nI (n - r))), none, none] [] (wT (nI n) ki mi se we lea mst pa fi sd ev un ma ea co ca clt) := by
    intro r
    induction r with
    | zero =>
      intro hr hv
      rw [hv] at hq
      refine hK 9 9999 15 _ _ _ ?_
      exact ⟨fun _ => hq, fun z => absurd (nI_le (a := n) (b := n - 0) (by omega) (by omega)) z⟩
    | succ r ih =>
      intro hr hv
      have next : ¬ ((s >>> (nI (n - (r + 1)) &&& 31)) &&& 1 = 0 ∧ g (n - (r + 1)) = best) → ∀ x y, K 70 [some (.ref 0), some (.long m), none, some (.int s), some (.int (nI la)), some (.int (nI pl)), some (.int best), some (.int (nI (n - (r + 1)))), x, y] [] (wT (nI n) ki mi se we lea mst pa fi sd ev un ma ea co ca clt) := by
        intro hz x y
        have := ih (by omega) (by rw [hv, tfL, if_neg hz])
        rw [show n - r = (n - (r + 1)) + 1 by omega, ← nI_1] at this
        exact hK 41 2 70 _ _ _ (hle _ _ _ _ _ (by repeat (first | exact trivial | refine ⟨rfl, ?_⟩)) this)
      refine hK 9 32 15 _ _ _ ?_
      refine ⟨fun z => absurd z (nI_ge (a := n - (r + 1)) (b := n) (by omega) (by omega)), fun _ => ?_⟩
      refine ⟨fun z => ?_, fun z => ?_⟩
      · exact next (fun y => z y.1) _ _
      · refine ⟨_, _, _, _, _, _, _, _, _, _, _, _, _, _, _, _, _, m, la, n - (r + 1), n, rfl, rfl, rfl, hn, by omega, by omega, ?_⟩
        refine ⟨_, _, _, _, _, _, _, _, _, _, _, _, _, _, _, _, _, _, bor s (n - (r + 1)), n - (r + 1), pl + 1, n, by rw [nI_1]; rfl, rfl, rfl, hn, by omega, by omega, by omega, ?_⟩
        rw [show n - (pl + 1) = d by omega]
        have eg : tbm n ki we lea mst d (bor s (n - (r + 1))) (n - (r + 1)) (btN n ki we m la (n - (r + 1))) = g (n - (r + 1)) := by rw [← hG]
        rw [eg]
        refine ⟨fun z2 => ?_, fun z2 => ?_⟩
        · exact next (fun y => z2 y.2) _ _
        · rw [hv, tfL, if_pos ⟨z, z2⟩] at hq
          exact hq
  have := loop (n - 1) (Nat.le_refl _) hV
  rw [show n - (n - 1) = 1 by omega] at this
  exact hle _ _ _ _ _ (by repeat (first | exact trivial | refine ⟨rfl, ?_⟩)) this
abbrev rm_X6_firstChoice : Room := { frames := 12, cells := 0, slots := 0, locals := 329 }
set_option maxRecDepth 100000 in
set_option maxHeartbeats 4000000 in
theorem ct_X6_firstChoice (l : Launch) (D : va_G) (dA : Nat → ClassId) (σ : Nat → Nat) : em_CT l D em_cl dA σ (em_F σ) y_X6_firstChoice c_X6_firstChoice 10 (Option.some ClassFile.FieldType.int) rm_X6_firstChoice (sp_X6_firstChoice ) := by
  refine em_CT_of (T := T_X6_firstChoice ) (em_F_ok σ) (by decide) (fun p e s m args below meth c A ρ Q C hFok hF hret hlk hin => ?_) (me_X6_firstChoice )
  unfold T_X6_firstChoice
  refine List.forall_mem_cons.mpr ⟨s_aload_n C (by decide +kernel : decode c_X6_firstChoice 0 = .ok (.aload_n 0, 1)) rfl rfl rfl, ?_⟩
  refine List.forall_mem_cons.mpr ⟨s_lload_n C (by decide +kernel : decode c_X6_firstChoice 1 = .ok (.lload_n 1, 1)) rfl rfl rfl, ?_⟩
  refine List.forall_mem_cons.mpr ⟨s_iload_n C (by decide +kernel : decode c_X6_firstChoice 2 = .ok (.iload_n 3, 1)) rfl rfl rfl, ?_⟩
  refine List.forall_mem_cons.mpr ⟨s_iload C (by decide +kernel : decode c_X6_firstChoice 3 = .ok (.iload 4, 2)) rfl rfl, ?_⟩
  refine List.forall_mem_cons.mpr ⟨s_iload C (by decide +kernel : decode c_X6_firstChoice 5 = .ok (.iload 5, 2)) rfl rfl, ?_⟩
  refine List.forall_mem_cons.mpr ⟨s_callS C hFok hF (ct_X6_most l D dA σ 6) ⟨rfl, rfl⟩ ew596 ew602 ew595 ew18 ⟨by decide, by decide, by decide +kernel⟩ ⟨by decide, by decide⟩ (by decide +kernel : decode c_X6_firstChoice 7 = .ok (.invokestatic 21, 3)) rfl rfl ⟨Nat.zero_le _, Nat.zero_le _⟩, ?_⟩
  refine List.forall_mem_cons.mpr ⟨s_istore C (by decide +kernel : decode c_X6_firstChoice 10 = .ok (.istore 6, 2)) rfl rfl (by decide), ?_⟩
  refine List.forall_mem_cons.mpr ⟨s_iconst C (by decide +kernel : decode c_X6_firstChoice 12 = .ok (.iconst 1, 1)) rfl rfl (by decide), ?_⟩
  refine List.forall_mem_cons.mpr ⟨s_istore C (by decide +kernel : decode c_X6_firstChoice 13 = .ok (.istore 7, 2)) rfl rfl (by decide), ?_⟩
  refine List.forall_mem_cons.mpr ⟨s_iload C (by decide +kernel : decode c_X6_firstChoice 15 = .ok (.iload 7, 2)) rfl rfl, ?_⟩
  refine List.forall_mem_cons.mpr ⟨s_aload_n C (by decide +kernel : decode c_X6_firstChoice 17 = .ok (.aload_n 0, 1)) rfl rfl rfl, ?_⟩
  refine List.forall_mem_cons.mpr ⟨s_getf C (by decide +kernel : decode c_X6_firstChoice 18 = .ok (.getfield 7, 3)) rfl rfl em_cl_X7 (by decide) ew86 rfl, ?_⟩
  refine List.forall_mem_cons.mpr ⟨s_icmpge C (by decide +kernel : decode c_X6_firstChoice 21 = .ok (.if_icmp .ge 55, 3)) (by decide) rfl rfl rfl, ?_⟩
  refine List.forall_mem_cons.mpr ⟨s_iload_n C (by decide +kernel : decode c_X6_firstChoice 24 = .ok (.iload_n 3, 1)) rfl rfl rfl, ?_⟩
  refine List.forall_mem_cons.mpr ⟨s_iload C (by decide +kernel : decode c_X6_firstChoice 25 = .ok (.iload 7, 2)) rfl rfl, ?_⟩
  refine List.forall_mem_cons.mpr ⟨s_ishr C (by decide +kernel : decode c_X6_firstChoice 27 = .ok (.ishr, 1)) rfl rfl, ?_⟩
  refine List.forall_mem_cons.mpr ⟨s_iconst C (by decide +kernel : decode c_X6_firstChoice 28 = .ok (.iconst 1, 1)) rfl rfl (by decide), ?_⟩
  refine List.forall_mem_cons.mpr ⟨s_iand C (by decide +kernel : decode c_X6_firstChoice 29 = .ok (.iand, 1)) rfl rfl, ?_⟩
  refine List.forall_mem_cons.mpr ⟨s_ifne C (by decide +kernel : decode c_X6_firstChoice 30 = .ok (.ifCond .ne 40, 3)) (by decide) rfl rfl rfl, ?_⟩
  refine List.forall_mem_cons.mpr ⟨s_aload_n C (by decide +kernel : decode c_X6_firstChoice 33 = .ok (.aload_n 0, 1)) rfl rfl rfl, ?_⟩
  refine List.forall_mem_cons.mpr ⟨s_lload_n C (by decide +kernel : decode c_X6_firstChoice 34 = .ok (.lload_n 1, 1)) rfl rfl rfl, ?_⟩
  refine List.forall_mem_cons.mpr ⟨s_iload C (by decide +kernel : decode c_X6_firstChoice 35 = .ok (.iload 4, 2)) rfl rfl, ?_⟩
  refine List.forall_mem_cons.mpr ⟨s_iload C (by decide +kernel : decode c_X6_firstChoice 37 = .ok (.iload 7, 2)) rfl rfl, ?_⟩
  refine List.forall_mem_cons.mpr ⟨s_callV C hFok hF (ct_X7_behindTalk2 l D dA σ) ⟨rfl, rfl⟩ ew438 em_cl_X7 ew597 ew436 ew437 ew5 ⟨by decide, by decide, by decide +kernel⟩ ⟨by decide, by decide⟩ (by decide +kernel : decode c_X6_firstChoice 39 = .ok (.invokevirtual 13, 3)) rfl rfl ⟨Nat.zero_le _, Nat.zero_le _⟩, ?_⟩
  refine List.forall_mem_cons.mpr ⟨s_lstore C (by decide +kernel : decode c_X6_firstChoice 42 = .ok (.lstore 8, 2)) rfl rfl (by decide), ?_⟩
  refine List.forall_mem_cons.mpr ⟨s_aload_n C (by decide +kernel : decode c_X6_firstChoice 44 = .ok (.aload_n 0, 1)) rfl rfl rfl, ?_⟩
  refine List.forall_mem_cons.mpr ⟨s_lload C (by decide +kernel : decode c_X6_firstChoice 45 = .ok (.lload 8, 2)) rfl rfl, ?_⟩
  refine List.forall_mem_cons.mpr ⟨s_iload_n C (by decide +kernel : decode c_X6_firstChoice 47 = .ok (.iload_n 3, 1)) rfl rfl rfl, ?_⟩
  refine List.forall_mem_cons.mpr ⟨s_iconst C (by decide +kernel : decode c_X6_firstChoice 48 = .ok (.iconst 1, 1)) rfl rfl (by decide), ?_⟩
  refine List.forall_mem_cons.mpr ⟨s_iload C (by decide +kernel : decode c_X6_firstChoice 49 = .ok (.iload 7, 2)) rfl rfl, ?_⟩
  refine List.forall_mem_cons.mpr ⟨s_ishl C (by decide +kernel : decode c_X6_firstChoice 51 = .ok (.ishl, 1)) rfl rfl, ?_⟩
  refine List.forall_mem_cons.mpr ⟨s_ior C (by decide +kernel : decode c_X6_firstChoice 52 = .ok (.ior, 1)) rfl rfl, ?_⟩
  refine List.forall_mem_cons.mpr ⟨s_iload C (by decide +kernel : decode c_X6_firstChoice 53 = .ok (.iload 7, 2)) rfl rfl, ?_⟩
  refine List.forall_mem_cons.mpr ⟨s_iload C (by decide +kernel : decode c_X6_firstChoice 55 = .ok (.iload 5, 2)) rfl rfl, ?_⟩
  refine List.forall_mem_cons.mpr ⟨s_iconst C (by decide +kernel : decode c_X6_firstChoice 57 = .ok (.iconst 1, 1)) rfl rfl (by decide), ?_⟩
  refine List.forall_mem_cons.mpr ⟨s_iadd C (by decide +kernel : decode c_X6_firstChoice 58 = .ok (.iadd, 1)) rfl rfl, ?_⟩
  refine List.forall_mem_cons.mpr ⟨s_callS C hFok hF (ct_X6_most l D dA σ 6) ⟨rfl, rfl⟩ ew596 ew602 ew595 ew18 ⟨by decide, by decide, by decide +kernel⟩ ⟨by decide, by decide⟩ (by decide +kernel : decode c_X6_firstChoice 59 = .ok (.invokestatic 21, 3)) rfl rfl ⟨Nat.zero_le _, Nat.zero_le _⟩, ?_⟩
  refine List.forall_mem_cons.mpr ⟨s_iload C (by decide +kernel : decode c_X6_firstChoice 62 = .ok (.iload 6, 2)) rfl rfl, ?_⟩
  refine List.forall_mem_cons.mpr ⟨s_icmpne C (by decide +kernel : decode c_X6_firstChoice 64 = .ok (.if_icmp .ne 6, 3)) (by decide) rfl rfl rfl, ?_⟩
  refine List.forall_mem_cons.mpr ⟨s_iload C (by decide +kernel : decode c_X6_firstChoice 67 = .ok (.iload 7, 2)) rfl rfl, ?_⟩
  refine List.forall_mem_cons.mpr ⟨s_iret C (by decide +kernel : decode c_X6_firstChoice 69 = .ok (.ireturn, 1)) hret hlk ⟨Nat.le_refl 0, Nat.le_refl 0⟩, ?_⟩
  refine List.forall_mem_cons.mpr ⟨s_iinc C (by decide +kernel : decode c_X6_firstChoice 70 = .ok (.iinc 7 1, 3)) rfl rfl (by decide) (by decide), ?_⟩
  refine List.forall_mem_cons.mpr ⟨s_goto C (by decide +kernel : decode c_X6_firstChoice 73 = .ok (.goto (-58), 3)) (by decide) rfl, ?_⟩
  refine List.forall_mem_cons.mpr ⟨s_iconst C (by decide +kernel : decode c_X6_firstChoice 76 = .ok (.iconst 0, 1)) rfl rfl (by decide), ?_⟩
  refine List.forall_mem_cons.mpr ⟨s_iret C (by decide +kernel : decode c_X6_firstChoice 77 = .ok (.ireturn, 1)) hret hlk ⟨Nat.le_refl 0, Nat.le_refl 0⟩, ?_⟩
  exact fun _ h => absurd h List.not_mem_nil
/-- who sits at a place: r places on from place w + 1 - r -/
def tsi (n : Nat) (ki : Nat → Int32) (we lea mst : Int32) (w : Nat) : Nat → Int32 → Nat → Int64 → Nat
  | 0, _, la, _ => la
  | r + 1, s, la, m => tsi n ki we lea mst w r (bor s (tfc n ki we lea mst (n - (w - r) - 1) s la m)) (tfc n ki we lea mst (n - (w - r) - 1) s la m) (btN n ki we m la (tfc n ki we lea mst (n - (w - r) - 1) s la m))
theorem tfL_lt {n : Nat} {s : Int32} {g : Nat → Int32} {best : Int32} (hn : 0 < n) : ∀ r, r ≤ n → tfL n s g best r < n
  | 0, _ => hn
  | r + 1, h => by
    rw [tfL]
    split
    · omega
    · exact tfL_lt hn r (by omega)
theorem tfc_lt {n : Nat} {ki : Nat → Int32} {we lea mst : Int32} {d : Nat} {s : Int32} {la : Nat} {m : Int64} (hn : 0 < n) : tfc n ki we lea mst d s la m < n := tfL_lt hn _ (by omega)
def sp_X6_sitter : em_Sp := fun av hp Q => ∃ pe ki mi se we lea mst pa fi sd ev un ma ea co ca clt w n, av = [.ref 0, .int (nI w)] ∧ hp = (wT pe ki mi se we lea mst pa fi sd ev un ma ea co ca clt) ∧ pe = nI n ∧ n ≤ 6 ∧ w < n ∧ Q (some (.int (nI (tsi n ki we lea mst w w 1 0 mi)))) hp
def T_X6_sitter : List (Nat × em_Op) := [(0, o_aload 0 1), (1, o_getf 2 2 4), (4, o_lstore 2 5), (5, o_iconst 1 6), (6, o_istore 4 8), (8, o_iconst 0 9), (9, o_istore 5 11), (11, o_iconst 1 12), (12, o_istore 6 14), (14, o_iload 6 16), (16, o_iload 1 17), (17, o_icmpgt 62 20), (20, o_aload 0 21), (21, o_lload 2 22), (22, o_iload 4 24), (24, o_iload 5 26), (26, o_iload 6 28), (28, o_call 5 none (sp_X6_firstChoice) 31), (31, o_istore 7 33), (33, o_aload 0 34), (34, o_lload 2 35), (35, o_iload 5 37), (37, o_iload 7 39), (39, o_call 4 (some 2) (sp_X7_behindTalk2) 42), (42, o_lstore 2 43), (43, o_iload 4 45), (45, o_iconst 1 46), (46, o_iload 7 48), (48, o_ishl 49), (49, o_ior 50), (50, o_istore 4 52), (52, o_iload 7 54), (54, o_istore 5 56), (56, o_iinc 6 1 59), (59, o_goto 14), (62, o_iload 5 64), (64, o_iret)]
theorem me_X6_sitter : em_Me T_X6_sitter 8 sp_X6_sitter := by
  intro Q K hK hle av hp hs
  obtain ⟨pe, ki, mi, se, we, lea, mst, pa, fi, sd, ev, un, ma, ea, co, ca, clt, w, n, rfl, rfl, rfl, hn, hw, hq⟩ := hs
  refine ⟨Nat.le_of_ble_eq_true rfl, ?_⟩
  obtain ⟨V, hV⟩ : ∃ V, V = tsi n ki we lea mst w w 1 0 mi := ⟨_, rfl⟩
  rw [← hV] at hq
  have loop : ∀ (r : Nat) (s : Int32) (la : Nat) (m : Int64), r ≤ w → la < 6 → V = tsi n ki we lea mst w r s la m → K 14 [some (.ref 0), some (.int (nI w)), some (.long m), none, some (.int s), some (.int (nI la)), some (.int (nI (w + 1 - r))), none] [] (wT (nI n) ki mi se we lea mst pa fi sd ev un ma ea co ca clt) := by
    intro r
    induction r with
    | zero =>
      intro s la m hr hla hv
      rw [hv] at hq
      refine hK 9 9999 14 _ _ _ ?_
      exact ⟨fun _ => hq, fun z => absurd (nI_lt (a := w) (b := w + 1 - 0) (by omega) (by omega)) z⟩
    | succ r ih =>
      intro s la m hr hla hv
      rw [show w + 1 - (r + 1) = w - r by omega]
      refine hK 9 9999 14 _ _ _ ?_
      refine ⟨fun z => absurd z (nI_nlt (a := w) (b := w - r) (by omega) (by omega)), fun _ => ?_⟩
      refine ⟨_, _, _, _, _, _, _, _, _, _, _, _, _, _, _, _, _, _, _, la, w - r, n, n - (w - r) - 1, rfl, rfl, rfl, hn, hla, by omega, ?_⟩
      have hlt : tfc n ki we lea mst (n - (w - r) - 1) s la m < n := tfc_lt (by omega)
      rw [tsi] at hv
      generalize tfc n ki we lea mst (n - (w - r) - 1) s la m = T at hlt hv ⊢
      refine ⟨_, _, _, _, _, _, _, _, _, _, _, _, _, _, _, _, _, m, la, T, n, rfl, rfl, rfl, hn, by omega, by omega, ?_⟩
      have := ih _ T _ (by omega) (by omega) hv
      rw [show w + 1 - r = (w - r) + 1 by omega, ← nI_1] at this
      exact hle _ _ _ _ _ (by repeat (first | exact trivial | refine ⟨rfl, ?_⟩)) this
  have := loop w 1 0 mi (Nat.le_refl _) (by omega) hV
  rw [show w + 1 - w = 1 by omega] at this
  exact hK 0 9 0 _ _ _ this
abbrev rm_X6_sitter : Room := { frames := 13, cells := 0, slots := 0, locals := 358 }
set_option maxRecDepth 100000 in
set_option maxHeartbeats 4000000 in
theorem ct_X6_sitter (l : Launch) (D : va_G) (dA : Nat → ClassId) (σ : Nat → Nat) : em_CT l D em_cl dA σ (em_F σ) y_X6_sitter c_X6_sitter 8 (Option.some ClassFile.FieldType.int) rm_X6_sitter (sp_X6_sitter ) := by
  refine em_CT_of (T := T_X6_sitter ) (em_F_ok σ) (by decide) (fun p e s m args below meth c A ρ Q C hFok hF hret hlk hin => ?_) (me_X6_sitter )
  unfold T_X6_sitter
  refine List.forall_mem_cons.mpr ⟨s_aload_n C (by decide +kernel : decode c_X6_sitter 0 = .ok (.aload_n 0, 1)) rfl rfl rfl, ?_⟩
  refine List.forall_mem_cons.mpr ⟨s_getf C (by decide +kernel : decode c_X6_sitter 1 = .ok (.getfield 33, 3)) rfl rfl em_cl_X7 (by decide) ew93 rfl, ?_⟩
  refine List.forall_mem_cons.mpr ⟨s_lstore_n C (by decide +kernel : decode c_X6_sitter 4 = .ok (.lstore_n 2, 1)) rfl rfl rfl (by decide), ?_⟩
  refine List.forall_mem_cons.mpr ⟨s_iconst C (by decide +kernel : decode c_X6_sitter 5 = .ok (.iconst 1, 1)) rfl rfl (by decide), ?_⟩
  refine List.forall_mem_cons.mpr ⟨s_istore C (by decide +kernel : decode c_X6_sitter 6 = .ok (.istore 4, 2)) rfl rfl (by decide), ?_⟩
  refine List.forall_mem_cons.mpr ⟨s_iconst C (by decide +kernel : decode c_X6_sitter 8 = .ok (.iconst 0, 1)) rfl rfl (by decide), ?_⟩
  refine List.forall_mem_cons.mpr ⟨s_istore C (by decide +kernel : decode c_X6_sitter 9 = .ok (.istore 5, 2)) rfl rfl (by decide), ?_⟩
  refine List.forall_mem_cons.mpr ⟨s_iconst C (by decide +kernel : decode c_X6_sitter 11 = .ok (.iconst 1, 1)) rfl rfl (by decide), ?_⟩
  refine List.forall_mem_cons.mpr ⟨s_istore C (by decide +kernel : decode c_X6_sitter 12 = .ok (.istore 6, 2)) rfl rfl (by decide), ?_⟩
  refine List.forall_mem_cons.mpr ⟨s_iload C (by decide +kernel : decode c_X6_sitter 14 = .ok (.iload 6, 2)) rfl rfl, ?_⟩
  refine List.forall_mem_cons.mpr ⟨s_iload_n C (by decide +kernel : decode c_X6_sitter 16 = .ok (.iload_n 1, 1)) rfl rfl rfl, ?_⟩
  refine List.forall_mem_cons.mpr ⟨s_icmpgt C (by decide +kernel : decode c_X6_sitter 17 = .ok (.if_icmp .gt 45, 3)) (by decide) rfl rfl rfl, ?_⟩
  refine List.forall_mem_cons.mpr ⟨s_aload_n C (by decide +kernel : decode c_X6_sitter 20 = .ok (.aload_n 0, 1)) rfl rfl rfl, ?_⟩
  refine List.forall_mem_cons.mpr ⟨s_lload_n C (by decide +kernel : decode c_X6_sitter 21 = .ok (.lload_n 2, 1)) rfl rfl rfl, ?_⟩
  refine List.forall_mem_cons.mpr ⟨s_iload C (by decide +kernel : decode c_X6_sitter 22 = .ok (.iload 4, 2)) rfl rfl, ?_⟩
  refine List.forall_mem_cons.mpr ⟨s_iload C (by decide +kernel : decode c_X6_sitter 24 = .ok (.iload 5, 2)) rfl rfl, ?_⟩
  refine List.forall_mem_cons.mpr ⟨s_iload C (by decide +kernel : decode c_X6_sitter 26 = .ok (.iload 6, 2)) rfl rfl, ?_⟩
  refine List.forall_mem_cons.mpr ⟨s_callS C hFok hF (ct_X6_firstChoice l D dA σ) ⟨rfl, rfl⟩ ew609 ew607 ew608 ew18 ⟨by decide, by decide, by decide +kernel⟩ ⟨by decide, by decide⟩ (by decide +kernel : decode c_X6_sitter 28 = .ok (.invokestatic 37, 3)) rfl rfl ⟨Nat.zero_le _, Nat.zero_le _⟩, ?_⟩
  refine List.forall_mem_cons.mpr ⟨s_istore C (by decide +kernel : decode c_X6_sitter 31 = .ok (.istore 7, 2)) rfl rfl (by decide), ?_⟩
  refine List.forall_mem_cons.mpr ⟨s_aload_n C (by decide +kernel : decode c_X6_sitter 33 = .ok (.aload_n 0, 1)) rfl rfl rfl, ?_⟩
  refine List.forall_mem_cons.mpr ⟨s_lload_n C (by decide +kernel : decode c_X6_sitter 34 = .ok (.lload_n 2, 1)) rfl rfl rfl, ?_⟩
  refine List.forall_mem_cons.mpr ⟨s_iload C (by decide +kernel : decode c_X6_sitter 35 = .ok (.iload 5, 2)) rfl rfl, ?_⟩
  refine List.forall_mem_cons.mpr ⟨s_iload C (by decide +kernel : decode c_X6_sitter 37 = .ok (.iload 7, 2)) rfl rfl, ?_⟩
  refine List.forall_mem_cons.mpr ⟨s_callV C hFok hF (ct_X7_behindTalk2 l D dA σ) ⟨rfl, rfl⟩ ew438 em_cl_X7 ew597 ew436 ew437 ew5 ⟨by decide, by decide, by decide +kernel⟩ ⟨by decide, by decide⟩ (by decide +kernel : decode c_X6_sitter 39 = .ok (.invokevirtual 13, 3)) rfl rfl ⟨Nat.zero_le _, Nat.zero_le _⟩, ?_⟩
  refine List.forall_mem_cons.mpr ⟨s_lstore_n C (by decide +kernel : decode c_X6_sitter 42 = .ok (.lstore_n 2, 1)) rfl rfl rfl (by decide), ?_⟩
  refine List.forall_mem_cons.mpr ⟨s_iload C (by decide +kernel : decode c_X6_sitter 43 = .ok (.iload 4, 2)) rfl rfl, ?_⟩
  refine List.forall_mem_cons.mpr ⟨s_iconst C (by decide +kernel : decode c_X6_sitter 45 = .ok (.iconst 1, 1)) rfl rfl (by decide), ?_⟩
  refine List.forall_mem_cons.mpr ⟨s_iload C (by decide +kernel : decode c_X6_sitter 46 = .ok (.iload 7, 2)) rfl rfl, ?_⟩
  refine List.forall_mem_cons.mpr ⟨s_ishl C (by decide +kernel : decode c_X6_sitter 48 = .ok (.ishl, 1)) rfl rfl, ?_⟩
  refine List.forall_mem_cons.mpr ⟨s_ior C (by decide +kernel : decode c_X6_sitter 49 = .ok (.ior, 1)) rfl rfl, ?_⟩
  refine List.forall_mem_cons.mpr ⟨s_istore C (by decide +kernel : decode c_X6_sitter 50 = .ok (.istore 4, 2)) rfl rfl (by decide), ?_⟩
  refine List.forall_mem_cons.mpr ⟨s_iload C (by decide +kernel : decode c_X6_sitter 52 = .ok (.iload 7, 2)) rfl rfl, ?_⟩
  refine List.forall_mem_cons.mpr ⟨s_istore C (by decide +kernel : decode c_X6_sitter 54 = .ok (.istore 5, 2)) rfl rfl (by decide), ?_⟩
  refine List.forall_mem_cons.mpr ⟨s_iinc C (by decide +kernel : decode c_X6_sitter 56 = .ok (.iinc 6 1, 3)) rfl rfl (by decide) (by decide), ?_⟩
  refine List.forall_mem_cons.mpr ⟨s_goto C (by decide +kernel : decode c_X6_sitter 59 = .ok (.goto (-45), 3)) (by decide) rfl, ?_⟩
  refine List.forall_mem_cons.mpr ⟨s_iload C (by decide +kernel : decode c_X6_sitter 62 = .ok (.iload 5, 2)) rfl rfl, ?_⟩
  refine List.forall_mem_cons.mpr ⟨s_iret C (by decide +kernel : decode c_X6_sitter 64 = .ok (.ireturn, 1)) hret hlk ⟨Nat.le_refl 0, Nat.le_refl 0⟩, ?_⟩
  exact fun _ h => absurd h List.not_mem_nil
/-! ===== Dinners ===== -/
def sp_X1_third : em_Sp := fun av hp Q => ∃ d, av = [.int (nI d)] ∧ d ≤ 12 ∧ (d = 0 → Q (some (.int (-1))) hp) ∧ (0 < d → Q (some (.int (nI ((d - 1) % 6)))) hp)
def T_X1_third : List (Nat × em_Op) := [(0, o_iload 0 1), (1, o_iconst 1 2), (2, o_isub 3), (3, o_iconst 6 5), (5, o_irem 6), (6, o_iret)]
theorem me_X1_third : em_Me T_X1_third 1 sp_X1_third := by
  intro Q K hK hle av hp hs
  obtain ⟨d, rfl, hd, h0, h1⟩ := hs
  refine ⟨Nat.le_of_ble_eq_true rfl, hK 0 9999 0 _ _ _ ?_⟩
  refine ⟨by decide, ?_⟩
  rcases Nat.eq_zero_or_pos d with z | z
  · subst z
    exact h0 rfl
  · have := h1 z
    rw [← pk_rem (a := d - 1) (d := 6) (by omega) (by omega) (by omega), ← pk_sub z] at this
    exact this
abbrev rm_X1_third : Room := { frames := 0, cells := 0, slots := 0, locals := 0 }
set_option maxRecDepth 100000 in
set_option maxHeartbeats 4000000 in
theorem ct_X1_third (l : Launch) (D : va_G) (dA : Nat → ClassId) (σ : Nat → Nat) : em_CT l D em_cl dA σ (em_F σ) y_X1_third c_X1_third 1 (Option.some ClassFile.FieldType.int) rm_X1_third (sp_X1_third ) := by
  refine em_CT_of (T := T_X1_third ) (em_F_ok σ) (by decide) (fun p e s m args below meth c A ρ Q C hFok hF hret hlk hin => ?_) (me_X1_third )
  unfold T_X1_third
  refine List.forall_mem_cons.mpr ⟨s_iload_n C (by decide +kernel : decode c_X1_third 0 = .ok (.iload_n 0, 1)) rfl rfl rfl, ?_⟩
  refine List.forall_mem_cons.mpr ⟨s_iconst C (by decide +kernel : decode c_X1_third 1 = .ok (.iconst 1, 1)) rfl rfl (by decide), ?_⟩
  refine List.forall_mem_cons.mpr ⟨s_isub C (by decide +kernel : decode c_X1_third 2 = .ok (.isub, 1)) rfl rfl, ?_⟩
  refine List.forall_mem_cons.mpr ⟨s_bipush C (by decide +kernel : decode c_X1_third 3 = .ok (.bipush 6, 2)) rfl rfl (by decide), ?_⟩
  refine List.forall_mem_cons.mpr ⟨s_irem C (by decide +kernel : decode c_X1_third 5 = .ok (.irem, 1)) rfl rfl, ?_⟩
  refine List.forall_mem_cons.mpr ⟨s_iret C (by decide +kernel : decode c_X1_third 6 = .ok (.ireturn, 1)) hret hlk ⟨Nat.le_refl 0, Nat.le_refl 0⟩, ?_⟩
  exact fun _ h => absurd h List.not_mem_nil
def cbe (n a b d : Nat) : Prop := d = 0 ∨ ((d - 1) % 6 < n ∧ (d - 1) % 6 ≠ a ∧ (d - 1) % 6 ≠ b)
def sp_X1_canBe : em_Sp := fun av hp Q => ∃ pe ki mi se we lea mst pa fi sd ev un ma ea co ca clt a b d n, av = [.ref 0, .int (nI a), .int (nI b), .int (nI d)] ∧ hp = (wT pe ki mi se we lea mst pa fi sd ev un ma ea co ca clt) ∧ pe = nI n ∧ n ≤ 6 ∧ a < 6 ∧ b < 6 ∧ d ≤ 12 ∧ (cbe n a b d → Q (some (.int 1)) hp) ∧ (¬ cbe n a b d → Q (some (.int 0)) hp)
def T_X1_canBe : List (Nat × em_Op) := [(0, o_iload 3 1), (1, o_call 1 none (sp_X1_third) 4), (4, o_istore 4 6), (6, o_iload 3 7), (7, o_ifeq 31 10), (10, o_aload 0 11), (11, o_iload 4 13), (13, o_call 2 (some 2) (sp_X7_has) 16), (16, o_ifeq 35 19), (19, o_iload 4 21), (21, o_iload 1 22), (22, o_icmpeq 35 25), (25, o_iload 4 27), (27, o_iload 2 28), (28, o_icmpeq 35 31), (31, o_iconst 1 32), (32, o_goto 36), (35, o_iconst 0 36), (36, o_zret)]
theorem me_X1_canBe : em_Me T_X1_canBe 5 sp_X1_canBe := by
  intro Q K hK hle av hp hs
  obtain ⟨pe, ki, mi, se, we, lea, mst, pa, fi, sd, ev, un, ma, ea, co, ca, clt, a, b, d, n, rfl, rfl, rfl, hn, ha, hb, hd, h1, h0⟩ := hs
  refine ⟨Nat.le_of_ble_eq_true rfl, hK 0 9999 0 _ _ _ ?_⟩
  refine ⟨d, rfl, hd, fun z => ?_, fun z => ?_⟩
  · subst z
    exact ⟨fun _ => ⟨Or.inr rfl, h1 (Or.inl rfl)⟩, fun z => absurd rfl z⟩
  · have hlt := Nat.mod_lt (d - 1) (show 6 > 0 by omega)
    refine ⟨fun y => absurd y (nI_ne0 z (by omega)), fun _ => ?_⟩
    refine ⟨_, _, _, _, _, _, _, _, _, _, _, _, _, _, _, _, _, _, rfl, rfl, fun z1 => ?_, fun z1 => ?_⟩
    · refine ⟨fun y => absurd y (by decide), fun _ => ?_⟩
      have k1 : (d - 1) % 6 < n := by
        rcases Nat.lt_or_ge ((d - 1) % 6) n with q | q
        · exact q
        · exact absurd z1 (not_hs q (by omega))
      refine ⟨fun y => ⟨Or.inl rfl, h0 ?_⟩, fun y => ⟨fun x => ⟨Or.inl rfl, h0 ?_⟩, fun x => ⟨Or.inr rfl, h1 (Or.inr ⟨k1, fun q => y (by rw [q]), fun q => x (by rw [q])⟩)⟩⟩⟩
      · have := (nI_eq (by omega) (by omega)).mp y
        rintro (q | ⟨q1, q2, q3⟩)
        · omega
        · exact q2 this
      · have := (nI_eq (by omega) (by omega)).mp x
        rintro (q | ⟨q1, q2, q3⟩)
        · omega
        · exact q3 this
    · refine ⟨fun _ => ⟨Or.inl rfl, h0 ?_⟩, fun y => absurd y (by decide)⟩
      rintro (q | ⟨q1, q2, q3⟩)
      · omega
      · exact z1 (hs_nI q1 (by omega))
abbrev rm_X1_canBe : Room := { frames := 1, cells := 0, slots := 0, locals := 21 }
set_option maxRecDepth 100000 in
set_option maxHeartbeats 4000000 in
theorem ct_X1_canBe (l : Launch) (D : va_G) (dA : Nat → ClassId) (σ : Nat → Nat) : em_CT l D em_cl dA σ (em_F σ) y_X1_canBe c_X1_canBe 5 (Option.some ClassFile.FieldType.boolean) rm_X1_canBe (sp_X1_canBe ) := by
  refine em_CT_of (T := T_X1_canBe ) (em_F_ok σ) (by decide) (fun p e s m args below meth c A ρ Q C hFok hF hret hlk hin => ?_) (me_X1_canBe )
  unfold T_X1_canBe
  refine List.forall_mem_cons.mpr ⟨s_iload_n C (by decide +kernel : decode c_X1_canBe 0 = .ok (.iload_n 3, 1)) rfl rfl rfl, ?_⟩
  refine List.forall_mem_cons.mpr ⟨s_callS C hFok hF (ct_X1_third l D dA σ) ⟨rfl, rfl⟩ ew563 ew561 ew562 ew17 ⟨by decide, by decide, by decide +kernel⟩ ⟨by decide, by decide⟩ (by decide +kernel : decode c_X1_canBe 1 = .ok (.invokestatic 40, 3)) rfl rfl ⟨Nat.zero_le _, Nat.zero_le _⟩, ?_⟩
  refine List.forall_mem_cons.mpr ⟨s_istore C (by decide +kernel : decode c_X1_canBe 4 = .ok (.istore 4, 2)) rfl rfl (by decide), ?_⟩
  refine List.forall_mem_cons.mpr ⟨s_iload_n C (by decide +kernel : decode c_X1_canBe 6 = .ok (.iload_n 3, 1)) rfl rfl rfl, ?_⟩
  refine List.forall_mem_cons.mpr ⟨s_ifeq C (by decide +kernel : decode c_X1_canBe 7 = .ok (.ifCond .eq 24, 3)) (by decide) rfl rfl rfl, ?_⟩
  refine List.forall_mem_cons.mpr ⟨s_aload_n C (by decide +kernel : decode c_X1_canBe 10 = .ok (.aload_n 0, 1)) rfl rfl rfl, ?_⟩
  refine List.forall_mem_cons.mpr ⟨s_iload C (by decide +kernel : decode c_X1_canBe 11 = .ok (.iload 4, 2)) rfl rfl, ?_⟩
  refine List.forall_mem_cons.mpr ⟨s_callV C hFok hF (ct_X7_has l D dA σ) ⟨rfl, rfl⟩ ew208 em_cl_X7 ew564 ew206 ew207 ew5 ⟨by decide, by decide, by decide +kernel⟩ ⟨by decide, by decide⟩ (by decide +kernel : decode c_X1_canBe 13 = .ok (.invokevirtual 44, 3)) rfl rfl ⟨Nat.zero_le _, Nat.zero_le _⟩, ?_⟩
  refine List.forall_mem_cons.mpr ⟨s_ifeq C (by decide +kernel : decode c_X1_canBe 16 = .ok (.ifCond .eq 19, 3)) (by decide) rfl rfl rfl, ?_⟩
  refine List.forall_mem_cons.mpr ⟨s_iload C (by decide +kernel : decode c_X1_canBe 19 = .ok (.iload 4, 2)) rfl rfl, ?_⟩
  refine List.forall_mem_cons.mpr ⟨s_iload_n C (by decide +kernel : decode c_X1_canBe 21 = .ok (.iload_n 1, 1)) rfl rfl rfl, ?_⟩
  refine List.forall_mem_cons.mpr ⟨s_icmpeq C (by decide +kernel : decode c_X1_canBe 22 = .ok (.if_icmp .eq 13, 3)) (by decide) rfl rfl rfl, ?_⟩
  refine List.forall_mem_cons.mpr ⟨s_iload C (by decide +kernel : decode c_X1_canBe 25 = .ok (.iload 4, 2)) rfl rfl, ?_⟩
  refine List.forall_mem_cons.mpr ⟨s_iload_n C (by decide +kernel : decode c_X1_canBe 27 = .ok (.iload_n 2, 1)) rfl rfl rfl, ?_⟩
  refine List.forall_mem_cons.mpr ⟨s_icmpeq C (by decide +kernel : decode c_X1_canBe 28 = .ok (.if_icmp .eq 7, 3)) (by decide) rfl rfl rfl, ?_⟩
  refine List.forall_mem_cons.mpr ⟨s_iconst C (by decide +kernel : decode c_X1_canBe 31 = .ok (.iconst 1, 1)) rfl rfl (by decide), ?_⟩
  refine List.forall_mem_cons.mpr ⟨s_goto C (by decide +kernel : decode c_X1_canBe 32 = .ok (.goto 4, 3)) (by decide) rfl, ?_⟩
  refine List.forall_mem_cons.mpr ⟨s_iconst C (by decide +kernel : decode c_X1_canBe 35 = .ok (.iconst 0, 1)) rfl rfl (by decide), ?_⟩
  refine List.forall_mem_cons.mpr ⟨s_zret C (by decide +kernel : decode c_X1_canBe 36 = .ok (.ireturn, 1)) hret hlk ⟨Nat.le_refl 0, Nat.le_refl 0⟩, ?_⟩
  exact fun _ h => absurd h List.not_mem_nil
def bdn (n : Nat) (ki : Nat → Int32) (we : Int32) (a b d : Nat) (m : Int64) : Int64 := if d = 0 then m else btN n ki we m (if d ≤ 6 then a else b) ((d - 1) % 6)
def sp_X1_behindDinner : em_Sp := fun av hp Q => ∃ pe ki mi se we lea mst pa fi sd ev un ma ea co ca clt m a b d n, av = [.ref 0, .long m, .int (nI a), .int (nI b), .int (nI d)] ∧ hp = (wT pe ki mi se we lea mst pa fi sd ev un ma ea co ca clt) ∧ pe = nI n ∧ n ≤ 6 ∧ a < 6 ∧ b < 6 ∧ d ≤ 12 ∧ Q (some (.long (bdn n ki we a b d m))) hp
def T_X1_behindDinner : List (Nat × em_Op) := [(0, o_iload 5 2), (2, o_ifne 7 5), (5, o_lload 1 6), (6, o_lret), (7, o_aload 0 8), (8, o_lload 1 9), (9, o_iload 5 11), (11, o_iconst 6 13), (13, o_icmpgt 20 16), (16, o_iload 3 17), (17, o_goto 22), (20, o_iload 4 22), (22, o_iload 5 24), (24, o_call 1 none (sp_X1_third) 27), (27, o_call 4 (some 2) (sp_X7_behindTalk2) 30), (30, o_lret)]
theorem me_X1_behindDinner : em_Me T_X1_behindDinner 6 sp_X1_behindDinner := by
  intro Q K hK hle av hp hs
  obtain ⟨pe, ki, mi, se, we, lea, mst, pa, fi, sd, ev, un, ma, ea, co, ca, clt, m, a, b, d, n, rfl, rfl, rfl, hn, ha, hb, hd, hq⟩ := hs
  refine ⟨Nat.le_of_ble_eq_true rfl, hK 0 9999 0 _ _ _ ?_⟩
  have hlt := Nat.mod_lt (d - 1) (show 6 > 0 by omega)
  refine ⟨fun z => ?_, fun z => ?_⟩
  · have hd0 : 0 < d := by
      rcases Nat.eq_zero_or_pos d with q | q
      · subst q; exact absurd rfl z
      · exact q
    rw [bdn, if_neg (by omega)] at hq
    refine ⟨fun y => ?_, fun y => ?_⟩
    · have h6 : ¬ d ≤ 6 := by
        intro q
        exact nI_nlt (a := 6) (b := d) (by omega) (by omega) y
      rw [if_neg h6] at hq
      exact ⟨d, rfl, hd, fun q => by omega, fun _ => ⟨_, _, _, _, _, _, _, _, _, _, _, _, _, _, _, _, _, m, b, (d - 1) % 6, n, rfl, rfl, rfl, hn, by omega, by omega, hq⟩⟩
    · have h6 : d ≤ 6 := by
        rcases Nat.lt_or_ge 6 d with q | q
        · exact absurd (nI_lt (a := 6) (b := d) q (by omega)) y
        · exact q
      rw [if_pos h6] at hq
      exact ⟨d, rfl, hd, fun q => by omega, fun _ => ⟨_, _, _, _, _, _, _, _, _, _, _, _, _, _, _, _, _, m, a, (d - 1) % 6, n, rfl, rfl, rfl, hn, by omega, by omega, hq⟩⟩
  · have hd0 : d = 0 := (nI_eq (a := d) (b := 0) (by omega) (by omega)).mp z
    rw [bdn, if_pos hd0] at hq
    exact hq
abbrev rm_X1_behindDinner : Room := { frames := 5, cells := 0, slots := 0, locals := 126 }
set_option maxRecDepth 100000 in
set_option maxHeartbeats 4000000 in
theorem ct_X1_behindDinner (l : Launch) (D : va_G) (dA : Nat → ClassId) (σ : Nat → Nat) : em_CT l D em_cl dA σ (em_F σ) y_X1_behindDinner c_X1_behindDinner 6 (Option.some ClassFile.FieldType.long) rm_X1_behindDinner (sp_X1_behindDinner ) := by
  refine em_CT_of (T := T_X1_behindDinner ) (em_F_ok σ) (by decide) (fun p e s m args below meth c A ρ Q C hFok hF hret hlk hin => ?_) (me_X1_behindDinner )
  unfold T_X1_behindDinner
  refine List.forall_mem_cons.mpr ⟨s_iload C (by decide +kernel : decode c_X1_behindDinner 0 = .ok (.iload 5, 2)) rfl rfl, ?_⟩
  refine List.forall_mem_cons.mpr ⟨s_ifne C (by decide +kernel : decode c_X1_behindDinner 2 = .ok (.ifCond .ne 5, 3)) (by decide) rfl rfl rfl, ?_⟩
  refine List.forall_mem_cons.mpr ⟨s_lload_n C (by decide +kernel : decode c_X1_behindDinner 5 = .ok (.lload_n 1, 1)) rfl rfl rfl, ?_⟩
  refine List.forall_mem_cons.mpr ⟨s_lret C (by decide +kernel : decode c_X1_behindDinner 6 = .ok (.lreturn, 1)) hret hlk ⟨Nat.le_refl 0, Nat.le_refl 0⟩, ?_⟩
  refine List.forall_mem_cons.mpr ⟨s_aload_n C (by decide +kernel : decode c_X1_behindDinner 7 = .ok (.aload_n 0, 1)) rfl rfl rfl, ?_⟩
  refine List.forall_mem_cons.mpr ⟨s_lload_n C (by decide +kernel : decode c_X1_behindDinner 8 = .ok (.lload_n 1, 1)) rfl rfl rfl, ?_⟩
  refine List.forall_mem_cons.mpr ⟨s_iload C (by decide +kernel : decode c_X1_behindDinner 9 = .ok (.iload 5, 2)) rfl rfl, ?_⟩
  refine List.forall_mem_cons.mpr ⟨s_bipush C (by decide +kernel : decode c_X1_behindDinner 11 = .ok (.bipush 6, 2)) rfl rfl (by decide), ?_⟩
  refine List.forall_mem_cons.mpr ⟨s_icmpgt C (by decide +kernel : decode c_X1_behindDinner 13 = .ok (.if_icmp .gt 7, 3)) (by decide) rfl rfl rfl, ?_⟩
  refine List.forall_mem_cons.mpr ⟨s_iload_n C (by decide +kernel : decode c_X1_behindDinner 16 = .ok (.iload_n 3, 1)) rfl rfl rfl, ?_⟩
  refine List.forall_mem_cons.mpr ⟨s_goto C (by decide +kernel : decode c_X1_behindDinner 17 = .ok (.goto 5, 3)) (by decide) rfl, ?_⟩
  refine List.forall_mem_cons.mpr ⟨s_iload C (by decide +kernel : decode c_X1_behindDinner 20 = .ok (.iload 4, 2)) rfl rfl, ?_⟩
  refine List.forall_mem_cons.mpr ⟨s_iload C (by decide +kernel : decode c_X1_behindDinner 22 = .ok (.iload 5, 2)) rfl rfl, ?_⟩
  refine List.forall_mem_cons.mpr ⟨s_callS C hFok hF (ct_X1_third l D dA σ) ⟨rfl, rfl⟩ ew563 ew561 ew562 ew17 ⟨by decide, by decide, by decide +kernel⟩ ⟨by decide, by decide⟩ (by decide +kernel : decode c_X1_behindDinner 24 = .ok (.invokestatic 40, 3)) rfl rfl ⟨Nat.zero_le _, Nat.zero_le _⟩, ?_⟩
  refine List.forall_mem_cons.mpr ⟨s_callV C hFok hF (ct_X7_behindTalk2 l D dA σ) ⟨rfl, rfl⟩ ew438 em_cl_X7 ew557 ew436 ew437 ew5 ⟨by decide, by decide, by decide +kernel⟩ ⟨by decide, by decide⟩ (by decide +kernel : decode c_X1_behindDinner 27 = .ok (.invokevirtual 9, 3)) rfl rfl ⟨Nat.zero_le _, Nat.zero_le _⟩, ?_⟩
  refine List.forall_mem_cons.mpr ⟨s_lret C (by decide +kernel : decode c_X1_behindDinner 30 = .ok (.lreturn, 1)) hret hlk ⟨Nat.le_refl 0, Nat.le_refl 0⟩, ?_⟩
  exact fun _ h => absurd h List.not_mem_nil
def cbB (n a b d : Nat) : Bool := decide (d = 0 ∨ ((d - 1) % 6 < n ∧ (d - 1) % 6 ≠ a ∧ (d - 1) % 6 ≠ b))
theorem cbB_t {n a b d : Nat} (h : cbe n a b d) : cbB n a b d = true := decide_eq_true h
theorem cbB_f {n a b d : Nat} (h : ¬ cbe n a b d) : cbB n a b d = false := decide_eq_false h
def rwB (n a b : Nat) (we lea mst : Int32) (f : Nat → Int64) (d : Nat) : Bool := cbB n a b d && mwB we lea mst (f d) a b
def rwL (n a b : Nat) (we lea mst : Int32) (f : Nat → Int64) (g : Int64 → Nat) : Nat → Nat
  | 0 => 0
  | k + 1 => rwL n a b we lea mst f g k + (if rwB n a b we lea mst f k = true then g (f k) else 0)
def rws (n : Nat) (ki : Nat → Int32) (we lea mst : Int32) (a b : Nat) : Nat → Int64 → Nat
  | 0, _ => 1
  | l + 1, m => rwL n a b we lea mst (fun d => bdn n ki we a b d (btN n ki we m a b)) (rws n ki we lea mst a b l) 13
def sp_X1_rows (D9 : Nat) : em_Sp := fun av hp Q => ∃ pe ki mi se we lea mst pa fi sd ev un ma ea co ca clt m a b lf n, av = [.ref 0, .long m, .int (nI a), .int (nI b), .int (nI lf)] ∧ hp = (wT pe ki mi se we lea mst pa fi sd ev un ma ea co ca clt) ∧ pe = nI n ∧ n ≤ 6 ∧ a < 6 ∧ b < 6 ∧ lf ≤ D9 ∧ lf ≤ 4 ∧ Q (some (.int (nI (rws n ki we lea mst a b lf m)))) hp
def sp_X1_rowsP : Nat → em_Sp
  | 0 => spF
  | d + 1 => sp_X1_rows d
def T_X1_rows (sp : em_Sp) : List (Nat × em_Op) := [(0, o_iload 5 2), (2, o_ifgt 7 5), (5, o_iconst 1 6), (6, o_iret), (7, o_aload 0 8), (8, o_lload 1 9), (9, o_iload 3 10), (10, o_iload 4 12), (12, o_call 4 (some 2) (sp_X7_behindTalk2) 15), (15, o_lstore 6 17), (17, o_iconst 0 18), (18, o_istore 8 20), (20, o_iconst 0 21), (21, o_istore 9 23), (23, o_iload 9 25), (25, o_iconst 12 27), (27, o_icmpgt 91 30), (30, o_aload 0 31), (31, o_iload 3 32), (32, o_iload 4 34), (34, o_iload 9 36), (36, o_call 4 none (sp_X1_canBe) 39), (39, o_ifeq 85 42), (42, o_aload 0 43), (43, o_lload 6 45), (45, o_iload 3 46), (46, o_iload 4 48), (48, o_iload 9 50), (50, o_call 5 none (sp_X1_behindDinner) 53), (53, o_lstore 10 55), (55, o_aload 0 56), (56, o_lload 10 58), (58, o_iload 3 59), (59, o_iload 4 61), (61, o_call 4 (some 2) (sp_X7_mayWed) 64), (64, o_ifeq 85 67), (67, o_iload 8 69), (69, o_aload 0 70), (70, o_lload 10 72), (72, o_iload 3 73), (73, o_iload 4 75), (75, o_iload 5 77), (77, o_iconst 1 78), (78, o_isub 79), (79, o_call 5 none (sp) 82), (82, o_iadd 83), (83, o_istore 8 85), (85, o_iinc 9 1 88), (88, o_goto 23), (91, o_iload 8 93), (93, o_iret)]
theorem me_X1_rows : ∀ d, em_Me (T_X1_rows (sp_X1_rowsP d)) 12 (sp_X1_rows d) := by
  intro D9 Q K hK hle av hp hs
  obtain ⟨pe, ki, mi, se, we, lea, mst, pa, fi, sd, ev, un, ma, ea, co, ca, clt, m, a, b, lf, n, rfl, rfl, rfl, hn, ha, hb, hd, hl4, hq⟩ := hs
  refine ⟨Nat.le_of_ble_eq_true rfl, ?_⟩
  refine hK 0 14 0 _ _ _ ?_
  refine ⟨fun h => ?_, fun h => ?_⟩
  · have h6 : 0 < lf := (nI_ltI (a := 0) (by omega) (by omega)).mp h
    obtain ⟨D9, rfl⟩ : ∃ d', D9 = d' + 1 := ⟨D9 - 1, by omega⟩
    obtain ⟨k, rfl⟩ : ∃ k, lf = k + 1 := ⟨lf - 1, by omega⟩
    rw [rws] at hq
    refine ⟨_, _, _, _, _, _, _, _, _, _, _, _, _, _, _, _, _, m, a, b, n, rfl, rfl, rfl, hn, by omega, by omega, ?_⟩
    generalize hG : (fun d => bdn n ki we a b d (btN n ki we m a b)) = f at hq
    generalize hT : btN n ki we m a b = tl at hG
    have ef : ∀ j, bdn n ki we a b j tl = f j := fun j => by rw [← hG]
    generalize hR : rws n ki we lea mst a b k = g at hq
    have loop : ∀ (r j : Nat), j + r = 13 → K 23 [some (.ref 0), some (.long m), none, some (.int (nI a)), some (.int (nI b)), some (.int (nI (k + 1))), some (.long tl), none, some (.int (nI (rwL n a b we lea mst f g j))), some (.int (nI j)), none, none] [] (wT (nI n) ki mi se we lea mst pa fi sd ev un ma ea co ca clt) := by
      intro r
      induction r with
      | zero =>
        intro j hj
        have hj : j = 13 := by omega
        subst hj
        refine hK 14 9999 23 _ _ _ ?_
        exact ⟨fun _ => hq, fun z => absurd (nI_lt (a := 12) (b := 13) (by omega) (by omega)) z⟩
      | succ r ih =>
        intro j hj
        have next : ∀ x v, v = nI (rwL n a b we lea mst f g (j + 1)) → K 85 [some (.ref 0), some (.long m), none, some (.int (nI a)), some (.int (nI b)), some (.int (nI (k + 1))), some (.long tl), none, some (.int v), some (.int (nI j)), x, none] [] (wT (nI n) ki mi se we lea mst pa fi sd ev un ma ea co ca clt) := by
          intro x v hv
          subst hv
          have := ih (j + 1) (by omega)
          rw [← nI_1 j] at this
          exact hK 47 2 85 _ _ _ (hle _ _ _ _ _ (by repeat (first | exact trivial | refine ⟨rfl, ?_⟩)) this)
        refine hK 14 33 23 _ _ _ ?_
        refine ⟨fun z => absurd z (nI_nlt (a := 12) (b := j) (by omega) (by omega)), fun _ => ?_⟩
        refine ⟨_, _, _, _, _, _, _, _, _, _, _, _, _, _, _, _, _, a, b, j, n, rfl, rfl, rfl, hn, ha, hb, by omega, fun z => ?_, fun z => ?_⟩
        · refine ⟨fun y => absurd y (by decide), fun _ => ?_⟩
          refine ⟨_, _, _, _, _, _, _, _, _, _, _, _, _, _, _, _, _, tl, a, b, j, n, rfl, rfl, rfl, hn, ha, hb, by omega, ?_⟩
          rw [ef]
          refine ⟨_, _, _, _, _, _, _, _, _, _, _, _, _, _, _, _, _, _, _, _, rfl, rfl, fun z2 => ?_, fun z2 => ?_⟩
          · refine ⟨fun y => absurd y (by decide), fun _ => ?_⟩
            refine ⟨_, _, _, _, _, _, _, _, _, _, _, _, _, _, _, _, _, _, a, b, k, n, by rw [← nI_pred k], rfl, rfl, hn, ha, hb, by omega, by omega, ?_⟩
            refine next _ _ ?_
            rw [rwL, if_pos (by rw [rwB, cbB_t z, mwB_t z2]; rfl), ← nI_add, hR]
          · refine ⟨fun _ => ?_, fun y => absurd y (by decide)⟩
            refine next _ _ ?_
            rw [rwL, if_neg (by rw [rwB, mwB_f z2, Bool.and_false]; exact Bool.false_ne_true), Nat.add_zero]
        · refine ⟨fun _ => ?_, fun y => absurd y (by decide)⟩
          refine next _ _ ?_
          rw [rwL, if_neg (by rw [rwB, cbB_f z]; exact Bool.false_ne_true), Nat.add_zero]
    exact hle _ _ _ _ _ (by repeat (first | exact trivial | refine ⟨rfl, ?_⟩)) (loop 13 0 rfl)
  · have h6 : lf = 0 := by
      rcases Nat.eq_zero_or_pos lf with q | q
      · exact q
      · exact absurd (nI_lt (a := 0) (b := lf) q (by omega)) h
    subst h6
    exact hq
def rm_X1_rows (d : Nat) : Room := { frames := 6 + d, cells := 0, slots := 0, locals := 151 + d * 31 }
set_option maxRecDepth 100000 in
set_option maxHeartbeats 4000000 in
theorem snd_X1_rows (l : Launch) (D : va_G) (dA : Nat → ClassId) (σ : Nat → Nat) (sp : em_Sp) (rmc rm : Room) (hrec : em_CT l D em_cl dA σ (em_F σ) y_X1_rows c_X1_rows 12 (Option.some ClassFile.FieldType.int) rmc sp) (hrz : rmc.cells = 0 ∧ rmc.slots = 0) (hR : rmc.frames + 1 ≤ rm.frames ∧ 8 + (12 + 11) + rmc.locals ≤ rm.locals) (hR2 : 6 ≤ rm.frames ∧ 151 ≤ rm.locals) (p : Program) (e : Env) (s : State) (m : MethodId) (args : Array Value) (below : List Frame) (meth : Method) (c : Code) (A : Nat → Prop) (ρ : Nat → Nat) (Q : em_Q) (C : em_Cx p s m args c D em_cl A 12 (em_tys dA) c_X1_rows y_X1_rows.cls) (hFok : em_Fok (em_F σ)) (hF : em_F σ A s s.heap) (hret : meth.sig.returnType = (Option.some ClassFile.FieldType.int)) (hlk : meth.locks = false) : ∀ q ∈ T_X1_rows sp, em_Snd p l e rm s m args below meth c D em_cl dA σ A 12 (fun _ => (0, 0)) (fun ρ' => ρ' = ρ) (MQ below (em_Qc D em_cl dA σ (fun ρ' => ρ' = ρ) Q A) args s 0 0 A) Q q.1 q.2 := by
  unfold T_X1_rows
  refine List.forall_mem_cons.mpr ⟨s_iload C (by decide +kernel : decode c_X1_rows 0 = .ok (.iload 5, 2)) rfl rfl, ?_⟩
  refine List.forall_mem_cons.mpr ⟨s_ifgt C (by decide +kernel : decode c_X1_rows 2 = .ok (.ifCond .gt 5, 3)) (by decide) rfl rfl rfl, ?_⟩
  refine List.forall_mem_cons.mpr ⟨s_iconst C (by decide +kernel : decode c_X1_rows 5 = .ok (.iconst 1, 1)) rfl rfl (by decide), ?_⟩
  refine List.forall_mem_cons.mpr ⟨s_iret C (by decide +kernel : decode c_X1_rows 6 = .ok (.ireturn, 1)) hret hlk ⟨Nat.le_refl 0, Nat.le_refl 0⟩, ?_⟩
  refine List.forall_mem_cons.mpr ⟨s_aload_n C (by decide +kernel : decode c_X1_rows 7 = .ok (.aload_n 0, 1)) rfl rfl rfl, ?_⟩
  refine List.forall_mem_cons.mpr ⟨s_lload_n C (by decide +kernel : decode c_X1_rows 8 = .ok (.lload_n 1, 1)) rfl rfl rfl, ?_⟩
  refine List.forall_mem_cons.mpr ⟨s_iload_n C (by decide +kernel : decode c_X1_rows 9 = .ok (.iload_n 3, 1)) rfl rfl rfl, ?_⟩
  refine List.forall_mem_cons.mpr ⟨s_iload C (by decide +kernel : decode c_X1_rows 10 = .ok (.iload 4, 2)) rfl rfl, ?_⟩
  refine List.forall_mem_cons.mpr ⟨s_callV C hFok hF (ct_X7_behindTalk2 l D dA σ) ⟨rfl, rfl⟩ ew438 em_cl_X7 ew557 ew436 ew437 ew5 ⟨by decide, by decide, by decide +kernel⟩ ⟨Nat.le_trans (by decide) hR2.1, Nat.le_trans (by decide) hR2.2⟩ (by decide +kernel : decode c_X1_rows 12 = .ok (.invokevirtual 9, 3)) rfl rfl ⟨Nat.zero_le _, Nat.zero_le _⟩, ?_⟩
  refine List.forall_mem_cons.mpr ⟨s_lstore C (by decide +kernel : decode c_X1_rows 15 = .ok (.lstore 6, 2)) rfl rfl (by decide), ?_⟩
  refine List.forall_mem_cons.mpr ⟨s_iconst C (by decide +kernel : decode c_X1_rows 17 = .ok (.iconst 0, 1)) rfl rfl (by decide), ?_⟩
  refine List.forall_mem_cons.mpr ⟨s_istore C (by decide +kernel : decode c_X1_rows 18 = .ok (.istore 8, 2)) rfl rfl (by decide), ?_⟩
  refine List.forall_mem_cons.mpr ⟨s_iconst C (by decide +kernel : decode c_X1_rows 20 = .ok (.iconst 0, 1)) rfl rfl (by decide), ?_⟩
  refine List.forall_mem_cons.mpr ⟨s_istore C (by decide +kernel : decode c_X1_rows 21 = .ok (.istore 9, 2)) rfl rfl (by decide), ?_⟩
  refine List.forall_mem_cons.mpr ⟨s_iload C (by decide +kernel : decode c_X1_rows 23 = .ok (.iload 9, 2)) rfl rfl, ?_⟩
  refine List.forall_mem_cons.mpr ⟨s_bipush C (by decide +kernel : decode c_X1_rows 25 = .ok (.bipush 12, 2)) rfl rfl (by decide), ?_⟩
  refine List.forall_mem_cons.mpr ⟨s_icmpgt C (by decide +kernel : decode c_X1_rows 27 = .ok (.if_icmp .gt 64, 3)) (by decide) rfl rfl rfl, ?_⟩
  refine List.forall_mem_cons.mpr ⟨s_aload_n C (by decide +kernel : decode c_X1_rows 30 = .ok (.aload_n 0, 1)) rfl rfl rfl, ?_⟩
  refine List.forall_mem_cons.mpr ⟨s_iload_n C (by decide +kernel : decode c_X1_rows 31 = .ok (.iload_n 3, 1)) rfl rfl rfl, ?_⟩
  refine List.forall_mem_cons.mpr ⟨s_iload C (by decide +kernel : decode c_X1_rows 32 = .ok (.iload 4, 2)) rfl rfl, ?_⟩
  refine List.forall_mem_cons.mpr ⟨s_iload C (by decide +kernel : decode c_X1_rows 34 = .ok (.iload 9, 2)) rfl rfl, ?_⟩
  refine List.forall_mem_cons.mpr ⟨s_callS C hFok hF (ct_X1_canBe l D dA σ) ⟨rfl, rfl⟩ ew560 ew558 ew559 ew17 ⟨by decide, by decide, by decide +kernel⟩ ⟨Nat.le_trans (by decide) hR2.1, Nat.le_trans (by decide) hR2.2⟩ (by decide +kernel : decode c_X1_rows 36 = .ok (.invokestatic 17, 3)) rfl rfl ⟨Nat.zero_le _, Nat.zero_le _⟩, ?_⟩
  refine List.forall_mem_cons.mpr ⟨s_ifeq C (by decide +kernel : decode c_X1_rows 39 = .ok (.ifCond .eq 46, 3)) (by decide) rfl rfl rfl, ?_⟩
  refine List.forall_mem_cons.mpr ⟨s_aload_n C (by decide +kernel : decode c_X1_rows 42 = .ok (.aload_n 0, 1)) rfl rfl rfl, ?_⟩
  refine List.forall_mem_cons.mpr ⟨s_lload C (by decide +kernel : decode c_X1_rows 43 = .ok (.lload 6, 2)) rfl rfl, ?_⟩
  refine List.forall_mem_cons.mpr ⟨s_iload_n C (by decide +kernel : decode c_X1_rows 45 = .ok (.iload_n 3, 1)) rfl rfl rfl, ?_⟩
  refine List.forall_mem_cons.mpr ⟨s_iload C (by decide +kernel : decode c_X1_rows 46 = .ok (.iload 4, 2)) rfl rfl, ?_⟩
  refine List.forall_mem_cons.mpr ⟨s_iload C (by decide +kernel : decode c_X1_rows 48 = .ok (.iload 9, 2)) rfl rfl, ?_⟩
  refine List.forall_mem_cons.mpr ⟨s_callS C hFok hF (ct_X1_behindDinner l D dA σ) ⟨rfl, rfl⟩ ew567 ew565 ew566 ew17 ⟨by decide, by decide, by decide +kernel⟩ ⟨Nat.le_trans (by decide) hR2.1, Nat.le_trans (by decide) hR2.2⟩ (by decide +kernel : decode c_X1_rows 50 = .ok (.invokestatic 21, 3)) rfl rfl ⟨Nat.zero_le _, Nat.zero_le _⟩, ?_⟩
  refine List.forall_mem_cons.mpr ⟨s_lstore C (by decide +kernel : decode c_X1_rows 53 = .ok (.lstore 10, 2)) rfl rfl (by decide), ?_⟩
  refine List.forall_mem_cons.mpr ⟨s_aload_n C (by decide +kernel : decode c_X1_rows 55 = .ok (.aload_n 0, 1)) rfl rfl rfl, ?_⟩
  refine List.forall_mem_cons.mpr ⟨s_lload C (by decide +kernel : decode c_X1_rows 56 = .ok (.lload 10, 2)) rfl rfl, ?_⟩
  refine List.forall_mem_cons.mpr ⟨s_iload_n C (by decide +kernel : decode c_X1_rows 58 = .ok (.iload_n 3, 1)) rfl rfl rfl, ?_⟩
  refine List.forall_mem_cons.mpr ⟨s_iload C (by decide +kernel : decode c_X1_rows 59 = .ok (.iload 4, 2)) rfl rfl, ?_⟩
  refine List.forall_mem_cons.mpr ⟨s_callV C hFok hF (ct_X7_mayWed l D dA σ) ⟨rfl, rfl⟩ ew404 em_cl_X7 ew568 ew402 ew403 ew5 ⟨by decide, by decide, by decide +kernel⟩ ⟨Nat.le_trans (by decide) hR2.1, Nat.le_trans (by decide) hR2.2⟩ (by decide +kernel : decode c_X1_rows 61 = .ok (.invokevirtual 25, 3)) rfl rfl ⟨Nat.zero_le _, Nat.zero_le _⟩, ?_⟩
  refine List.forall_mem_cons.mpr ⟨s_ifeq C (by decide +kernel : decode c_X1_rows 64 = .ok (.ifCond .eq 21, 3)) (by decide) rfl rfl rfl, ?_⟩
  refine List.forall_mem_cons.mpr ⟨s_iload C (by decide +kernel : decode c_X1_rows 67 = .ok (.iload 8, 2)) rfl rfl, ?_⟩
  refine List.forall_mem_cons.mpr ⟨s_aload_n C (by decide +kernel : decode c_X1_rows 69 = .ok (.aload_n 0, 1)) rfl rfl rfl, ?_⟩
  refine List.forall_mem_cons.mpr ⟨s_lload C (by decide +kernel : decode c_X1_rows 70 = .ok (.lload 10, 2)) rfl rfl, ?_⟩
  refine List.forall_mem_cons.mpr ⟨s_iload_n C (by decide +kernel : decode c_X1_rows 72 = .ok (.iload_n 3, 1)) rfl rfl rfl, ?_⟩
  refine List.forall_mem_cons.mpr ⟨s_iload C (by decide +kernel : decode c_X1_rows 73 = .ok (.iload 4, 2)) rfl rfl, ?_⟩
  refine List.forall_mem_cons.mpr ⟨s_iload C (by decide +kernel : decode c_X1_rows 75 = .ok (.iload 5, 2)) rfl rfl, ?_⟩
  refine List.forall_mem_cons.mpr ⟨s_iconst C (by decide +kernel : decode c_X1_rows 77 = .ok (.iconst 1, 1)) rfl rfl (by decide), ?_⟩
  refine List.forall_mem_cons.mpr ⟨s_isub C (by decide +kernel : decode c_X1_rows 78 = .ok (.isub, 1)) rfl rfl, ?_⟩
  refine List.forall_mem_cons.mpr ⟨s_callS C hFok hF (hrec) hrz ew556 ew569 ew555 ew17 ⟨by decide, by decide, by decide +kernel⟩ hR (by decide +kernel : decode c_X1_rows 79 = .ok (.invokestatic 29, 3)) rfl rfl ⟨Nat.zero_le _, Nat.zero_le _⟩, ?_⟩
  refine List.forall_mem_cons.mpr ⟨s_iadd C (by decide +kernel : decode c_X1_rows 82 = .ok (.iadd, 1)) rfl rfl, ?_⟩
  refine List.forall_mem_cons.mpr ⟨s_istore C (by decide +kernel : decode c_X1_rows 83 = .ok (.istore 8, 2)) rfl rfl (by decide), ?_⟩
  refine List.forall_mem_cons.mpr ⟨s_iinc C (by decide +kernel : decode c_X1_rows 85 = .ok (.iinc 9 1, 3)) rfl rfl (by decide) (by decide), ?_⟩
  refine List.forall_mem_cons.mpr ⟨s_goto C (by decide +kernel : decode c_X1_rows 88 = .ok (.goto (-65), 3)) (by decide) rfl, ?_⟩
  refine List.forall_mem_cons.mpr ⟨s_iload C (by decide +kernel : decode c_X1_rows 91 = .ok (.iload 8, 2)) rfl rfl, ?_⟩
  refine List.forall_mem_cons.mpr ⟨s_iret C (by decide +kernel : decode c_X1_rows 93 = .ok (.ireturn, 1)) hret hlk ⟨Nat.le_refl 0, Nat.le_refl 0⟩, ?_⟩
  exact fun _ h => absurd h List.not_mem_nil
theorem ct_X1_rows (l : Launch) (D : va_G) (dA : Nat → ClassId) (σ : Nat → Nat) : ∀ d : Nat, em_CT l D em_cl dA σ (em_F σ) y_X1_rows c_X1_rows 12 (Option.some ClassFile.FieldType.int) (rm_X1_rows d) (sp_X1_rows d)
  | 0 => em_CT_of (T := T_X1_rows spF) (em_F_ok σ) (by decide) (fun p e s m args below meth c A ρ Q C hFok hF hret hlk hin => snd_X1_rows l D dA σ spF ⟨0, 0, 0, 0⟩ _ em_CT_F ⟨rfl, rfl⟩ ⟨by decide, by decide⟩ ⟨by decide, by decide⟩ p e s m args below meth c A ρ Q C hFok hF hret hlk) (me_X1_rows 0)
  | d + 1 => em_CT_of (T := T_X1_rows (sp_X1_rows d)) (em_F_ok σ) (by decide) (fun p e s m args below meth c A ρ Q C hFok hF hret hlk hin => snd_X1_rows l D dA σ (sp_X1_rows d) (rm_X1_rows d) _ (ct_X1_rows l D dA σ d) ⟨rfl, rfl⟩ ⟨by show 6 + d + 1 ≤ 6 + (d + 1); omega, by show 8 + (12 + 11) + (151 + d * 31) ≤ 151 + (d + 1) * 31; omega⟩ ⟨by show 6 ≤ 6 + (d + 1); omega, by show 151 ≤ 151 + (d + 1) * 31; omega⟩ p e s m args below meth c A ρ Q C hFok hF hret hlk) (me_X1_rows (d + 1))
theorem rwL_le {n a b : Nat} {we lea mst : Int32} {f : Nat → Int64} {g : Int64 → Nat} {B : Nat} (hg : ∀ x, g x ≤ B) : ∀ k, rwL n a b we lea mst f g k ≤ k * B
  | 0 => by rw [rwL]; omega
  | k + 1 => by
    have := rwL_le (n := n) (a := a) (b := b) (we := we) (lea := lea) (mst := mst) (f := f) hg k
    have h2 := hg (f k)
    rw [rwL, Nat.add_mul]
    split <;> omega
theorem rws_le {n : Nat} {ki : Nat → Int32} {we lea mst : Int32} {a b : Nat} : ∀ l m, rws n ki we lea mst a b l m ≤ 13 ^ l
  | 0, m => by rw [rws]; omega
  | l + 1, m => by
    rw [rws]
    have := rwL_le (n := n) (a := a) (b := b) (we := we) (lea := lea) (mst := mst) (f := fun d => bdn n ki we a b d (btN n ki we m a b)) (g := rws n ki we lea mst a b l) (B := 13 ^ l) (fun x => rws_le l x) 13
    rw [Nat.pow_succ]
    omega
def frB (n : Nat) (ki : Nat → Int32) (we lea mst : Int32) (a b lf : Nat) (tl : Int64) (d : Nat) : Bool := rwB n a b we lea mst (fun d => bdn n ki we a b d tl) d && decide (0 < rws n ki we lea mst a b lf (bdn n ki we a b d tl))
def frL (P : Nat → Bool) : Nat → Option Nat
  | 0 => none
  | r + 1 => if P (12 - r) = true then some (12 - r) else frL P r
def oI : Option Nat → Int32
  | none => -1
  | some d => nI d
def sp_X1_first : em_Sp := fun av hp Q => ∃ pe ki mi se we lea mst pa fi sd ev un ma ea co ca clt tl a b lf n, av = [.ref 0, .long tl, .int (nI a), .int (nI b), .int (nI lf)] ∧ hp = (wT pe ki mi se we lea mst pa fi sd ev un ma ea co ca clt) ∧ pe = nI n ∧ n ≤ 6 ∧ a < 6 ∧ b < 6 ∧ lf ≤ 4 ∧ Q (some (.int (oI (frL (frB n ki we lea mst a b lf tl) 13)))) hp
def T_X1_first : List (Nat × em_Op) := [(0, o_iconst 0 1), (1, o_istore 6 3), (3, o_iload 6 5), (5, o_iconst 12 7), (7, o_icmpgt 69 10), (10, o_aload 0 11), (11, o_iload 3 12), (12, o_iload 4 14), (14, o_iload 6 16), (16, o_call 4 none (sp_X1_canBe) 19), (19, o_ifeq 63 22), (22, o_aload 0 23), (23, o_lload 1 24), (24, o_iload 3 25), (25, o_iload 4 27), (27, o_iload 6 29), (29, o_call 5 none (sp_X1_behindDinner) 32), (32, o_lstore 7 34), (34, o_aload 0 35), (35, o_lload 7 37), (37, o_iload 3 38), (38, o_iload 4 40), (40, o_call 4 (some 2) (sp_X7_mayWed) 43), (43, o_ifeq 63 46), (46, o_aload 0 47), (47, o_lload 7 49), (49, o_iload 3 50), (50, o_iload 4 52), (52, o_iload 5 54), (54, o_call 5 none (sp_X1_rows 4) 57), (57, o_ifle 63 60), (60, o_iload 6 62), (62, o_iret), (63, o_iinc 6 1 66), (66, o_goto 3), (69, o_iconst (-1) 70), (70, o_iret)]
theorem me_X1_first : em_Me T_X1_first 9 sp_X1_first := by
  intro Q K hK hle av hp hs
  obtain ⟨pe, ki, mi, se, we, lea, mst, pa, fi, sd, ev, un, ma, ea, co, ca, clt, tl, a, b, lf, n, rfl, rfl, rfl, hn, ha, hb, hl4, hq⟩ := hs
  refine ⟨Nat.le_of_ble_eq_true rfl, ?_⟩
  generalize hP : frB n ki we lea mst a b lf tl = P at hq
  obtain ⟨V, hV⟩ : ∃ V, V = frL P 13 := ⟨_, rfl⟩
  rw [← hV] at hq
  have loop : ∀ (r : Nat), r ≤ 13 → V = frL P r → K 3 [some (.ref 0), some (.long tl), none, some (.int (nI a)), some (.int (nI b)), some (.int (nI lf)), some (.int (nI (13 - r))), none, none] [] (wT (nI n) ki mi se we lea mst pa fi sd ev un ma ea co ca clt) := by
    intro r
    induction r with
    | zero =>
      intro hr hv
      rw [hv] at hq
      refine hK 2 9999 3 _ _ _ ?_
      exact ⟨fun _ => hq, fun z => absurd (nI_lt (a := 12) (b := 13) (by omega) (by omega)) z⟩
    | succ r ih =>
      intro hr hv
      rw [show 13 - (r + 1) = 12 - r by omega]
      have next : ¬ P (12 - r) = true → ∀ x, K 63 [some (.ref 0), some (.long tl), none, some (.int (nI a)), some (.int (nI b)), some (.int (nI lf)), some (.int (nI (12 - r))), x, none] [] (wT (nI n) ki mi se we lea mst pa fi sd ev un ma ea co ca clt) := by
        intro hz x
        have := ih (by omega) (by rw [hv, frL, if_neg hz])
        rw [show 13 - r = (12 - r) + 1 by omega, ← nI_1] at this
        exact hK 33 2 63 _ _ _ (hle _ _ _ _ _ (by repeat (first | exact trivial | refine ⟨rfl, ?_⟩)) this)
      have ep : P (12 - r) = (rwB n a b we lea mst (fun d => bdn n ki we a b d tl) (12 - r) && decide (0 < rws n ki we lea mst a b lf (bdn n ki we a b (12 - r) tl))) := by rw [← hP]; rfl
      refine hK 2 31 3 _ _ _ ?_
      refine ⟨fun z => absurd z (nI_nlt (a := 12) (b := 12 - r) (by omega) (by omega)), fun _ => ?_⟩
      refine ⟨_, _, _, _, _, _, _, _, _, _, _, _, _, _, _, _, _, a, b, 12 - r, n, rfl, rfl, rfl, hn, ha, hb, by omega, fun z => ?_, fun z => ?_⟩
      · refine ⟨fun y => absurd y (by decide), fun _ => ?_⟩
        refine ⟨_, _, _, _, _, _, _, _, _, _, _, _, _, _, _, _, _, tl, a, b, 12 - r, n, rfl, rfl, rfl, hn, ha, hb, by omega, ?_⟩
        refine ⟨_, _, _, _, _, _, _, _, _, _, _, _, _, _, _, _, _, _, _, _, rfl, rfl, fun z2 => ?_, fun z2 => ?_⟩
        · refine ⟨fun y => absurd y (by decide), fun _ => ?_⟩
          refine ⟨_, _, _, _, _, _, _, _, _, _, _, _, _, _, _, _, _, _, a, b, lf, n, rfl, rfl, rfl, hn, ha, hb, by omega, by omega, ?_⟩
          have hle9 : rws n ki we lea mst a b lf (bdn n ki we a b (12 - r) tl) ≤ 13 ^ 4 := Nat.le_trans (rws_le lf _) (Nat.pow_le_pow_right (by omega) hl4)
          refine ⟨fun z3 => ?_, fun z3 => ?_⟩
          · refine next (fun y => ?_) _
            rw [ep, Bool.and_eq_true, decide_eq_true_eq] at y
            exact absurd z3 (nI_nle y.2 (by omega))
          · have h0 : 0 < rws n ki we lea mst a b lf (bdn n ki we a b (12 - r) tl) := by
              rcases Nat.eq_zero_or_pos (rws n ki we lea mst a b lf (bdn n ki we a b (12 - r) tl)) with q | q
              · rw [q] at z3; exact absurd (by decide) z3
              · exact q
            have e1 : P (12 - r) = true := by
              rw [ep, decide_eq_true h0, Bool.and_true, rwB, cbB_t z]
              exact mwB_t z2
            rw [hv, frL, if_pos e1] at hq
            exact hq
        · refine ⟨fun _ => ?_, fun y => absurd y (by decide)⟩
          refine next (fun y => ?_) _
          rw [ep, rwB, mwB_f z2, Bool.and_false] at y
          exact Bool.false_ne_true y
      · refine ⟨fun _ => ?_, fun y => absurd y (by decide)⟩
        refine next (fun y => ?_) _
        rw [ep, rwB, cbB_f z] at y
        exact Bool.false_ne_true y
  exact hK 0 2 0 _ _ _ (loop 13 (Nat.le_refl _) hV)
abbrev rm_X1_first : Room := { frames := 11, cells := 0, slots := 0, locals := 306 }
set_option maxRecDepth 100000 in
set_option maxHeartbeats 4000000 in
theorem ct_X1_first (l : Launch) (D : va_G) (dA : Nat → ClassId) (σ : Nat → Nat) : em_CT l D em_cl dA σ (em_F σ) y_X1_first c_X1_first 9 (Option.some ClassFile.FieldType.int) rm_X1_first (sp_X1_first ) := by
  refine em_CT_of (T := T_X1_first ) (em_F_ok σ) (by decide) (fun p e s m args below meth c A ρ Q C hFok hF hret hlk hin => ?_) (me_X1_first )
  unfold T_X1_first
  refine List.forall_mem_cons.mpr ⟨s_iconst C (by decide +kernel : decode c_X1_first 0 = .ok (.iconst 0, 1)) rfl rfl (by decide), ?_⟩
  refine List.forall_mem_cons.mpr ⟨s_istore C (by decide +kernel : decode c_X1_first 1 = .ok (.istore 6, 2)) rfl rfl (by decide), ?_⟩
  refine List.forall_mem_cons.mpr ⟨s_iload C (by decide +kernel : decode c_X1_first 3 = .ok (.iload 6, 2)) rfl rfl, ?_⟩
  refine List.forall_mem_cons.mpr ⟨s_bipush C (by decide +kernel : decode c_X1_first 5 = .ok (.bipush 12, 2)) rfl rfl (by decide), ?_⟩
  refine List.forall_mem_cons.mpr ⟨s_icmpgt C (by decide +kernel : decode c_X1_first 7 = .ok (.if_icmp .gt 62, 3)) (by decide) rfl rfl rfl, ?_⟩
  refine List.forall_mem_cons.mpr ⟨s_aload_n C (by decide +kernel : decode c_X1_first 10 = .ok (.aload_n 0, 1)) rfl rfl rfl, ?_⟩
  refine List.forall_mem_cons.mpr ⟨s_iload_n C (by decide +kernel : decode c_X1_first 11 = .ok (.iload_n 3, 1)) rfl rfl rfl, ?_⟩
  refine List.forall_mem_cons.mpr ⟨s_iload C (by decide +kernel : decode c_X1_first 12 = .ok (.iload 4, 2)) rfl rfl, ?_⟩
  refine List.forall_mem_cons.mpr ⟨s_iload C (by decide +kernel : decode c_X1_first 14 = .ok (.iload 6, 2)) rfl rfl, ?_⟩
  refine List.forall_mem_cons.mpr ⟨s_callS C hFok hF (ct_X1_canBe l D dA σ) ⟨rfl, rfl⟩ ew560 ew558 ew559 ew17 ⟨by decide, by decide, by decide +kernel⟩ ⟨by decide, by decide⟩ (by decide +kernel : decode c_X1_first 16 = .ok (.invokestatic 17, 3)) rfl rfl ⟨Nat.zero_le _, Nat.zero_le _⟩, ?_⟩
  refine List.forall_mem_cons.mpr ⟨s_ifeq C (by decide +kernel : decode c_X1_first 19 = .ok (.ifCond .eq 44, 3)) (by decide) rfl rfl rfl, ?_⟩
  refine List.forall_mem_cons.mpr ⟨s_aload_n C (by decide +kernel : decode c_X1_first 22 = .ok (.aload_n 0, 1)) rfl rfl rfl, ?_⟩
  refine List.forall_mem_cons.mpr ⟨s_lload_n C (by decide +kernel : decode c_X1_first 23 = .ok (.lload_n 1, 1)) rfl rfl rfl, ?_⟩
  refine List.forall_mem_cons.mpr ⟨s_iload_n C (by decide +kernel : decode c_X1_first 24 = .ok (.iload_n 3, 1)) rfl rfl rfl, ?_⟩
  refine List.forall_mem_cons.mpr ⟨s_iload C (by decide +kernel : decode c_X1_first 25 = .ok (.iload 4, 2)) rfl rfl, ?_⟩
  refine List.forall_mem_cons.mpr ⟨s_iload C (by decide +kernel : decode c_X1_first 27 = .ok (.iload 6, 2)) rfl rfl, ?_⟩
  refine List.forall_mem_cons.mpr ⟨s_callS C hFok hF (ct_X1_behindDinner l D dA σ) ⟨rfl, rfl⟩ ew567 ew565 ew566 ew17 ⟨by decide, by decide, by decide +kernel⟩ ⟨by decide, by decide⟩ (by decide +kernel : decode c_X1_first 29 = .ok (.invokestatic 21, 3)) rfl rfl ⟨Nat.zero_le _, Nat.zero_le _⟩, ?_⟩
  refine List.forall_mem_cons.mpr ⟨s_lstore C (by decide +kernel : decode c_X1_first 32 = .ok (.lstore 7, 2)) rfl rfl (by decide), ?_⟩
  refine List.forall_mem_cons.mpr ⟨s_aload_n C (by decide +kernel : decode c_X1_first 34 = .ok (.aload_n 0, 1)) rfl rfl rfl, ?_⟩
  refine List.forall_mem_cons.mpr ⟨s_lload C (by decide +kernel : decode c_X1_first 35 = .ok (.lload 7, 2)) rfl rfl, ?_⟩
  refine List.forall_mem_cons.mpr ⟨s_iload_n C (by decide +kernel : decode c_X1_first 37 = .ok (.iload_n 3, 1)) rfl rfl rfl, ?_⟩
  refine List.forall_mem_cons.mpr ⟨s_iload C (by decide +kernel : decode c_X1_first 38 = .ok (.iload 4, 2)) rfl rfl, ?_⟩
  refine List.forall_mem_cons.mpr ⟨s_callV C hFok hF (ct_X7_mayWed l D dA σ) ⟨rfl, rfl⟩ ew404 em_cl_X7 ew568 ew402 ew403 ew5 ⟨by decide, by decide, by decide +kernel⟩ ⟨by decide, by decide⟩ (by decide +kernel : decode c_X1_first 40 = .ok (.invokevirtual 25, 3)) rfl rfl ⟨Nat.zero_le _, Nat.zero_le _⟩, ?_⟩
  refine List.forall_mem_cons.mpr ⟨s_ifeq C (by decide +kernel : decode c_X1_first 43 = .ok (.ifCond .eq 20, 3)) (by decide) rfl rfl rfl, ?_⟩
  refine List.forall_mem_cons.mpr ⟨s_aload_n C (by decide +kernel : decode c_X1_first 46 = .ok (.aload_n 0, 1)) rfl rfl rfl, ?_⟩
  refine List.forall_mem_cons.mpr ⟨s_lload C (by decide +kernel : decode c_X1_first 47 = .ok (.lload 7, 2)) rfl rfl, ?_⟩
  refine List.forall_mem_cons.mpr ⟨s_iload_n C (by decide +kernel : decode c_X1_first 49 = .ok (.iload_n 3, 1)) rfl rfl rfl, ?_⟩
  refine List.forall_mem_cons.mpr ⟨s_iload C (by decide +kernel : decode c_X1_first 50 = .ok (.iload 4, 2)) rfl rfl, ?_⟩
  refine List.forall_mem_cons.mpr ⟨s_iload C (by decide +kernel : decode c_X1_first 52 = .ok (.iload 5, 2)) rfl rfl, ?_⟩
  refine List.forall_mem_cons.mpr ⟨s_callS C hFok hF (ct_X1_rows l D dA σ 4) ⟨rfl, rfl⟩ ew556 ew569 ew555 ew17 ⟨by decide, by decide, by decide +kernel⟩ ⟨by decide, by decide⟩ (by decide +kernel : decode c_X1_first 54 = .ok (.invokestatic 29, 3)) rfl rfl ⟨Nat.zero_le _, Nat.zero_le _⟩, ?_⟩
  refine List.forall_mem_cons.mpr ⟨s_ifle C (by decide +kernel : decode c_X1_first 57 = .ok (.ifCond .le 6, 3)) (by decide) rfl rfl rfl, ?_⟩
  refine List.forall_mem_cons.mpr ⟨s_iload C (by decide +kernel : decode c_X1_first 60 = .ok (.iload 6, 2)) rfl rfl, ?_⟩
  refine List.forall_mem_cons.mpr ⟨s_iret C (by decide +kernel : decode c_X1_first 62 = .ok (.ireturn, 1)) hret hlk ⟨Nat.le_refl 0, Nat.le_refl 0⟩, ?_⟩
  refine List.forall_mem_cons.mpr ⟨s_iinc C (by decide +kernel : decode c_X1_first 63 = .ok (.iinc 6 1, 3)) rfl rfl (by decide) (by decide), ?_⟩
  refine List.forall_mem_cons.mpr ⟨s_goto C (by decide +kernel : decode c_X1_first 66 = .ok (.goto (-63), 3)) (by decide) rfl, ?_⟩
  refine List.forall_mem_cons.mpr ⟨s_iconst C (by decide +kernel : decode c_X1_first 69 = .ok (.iconst (-1), 1)) rfl rfl (by decide), ?_⟩
  refine List.forall_mem_cons.mpr ⟨s_iret C (by decide +kernel : decode c_X1_first 70 = .ok (.ireturn, 1)) hret hlk ⟨Nat.le_refl 0, Nat.le_refl 0⟩, ?_⟩
  exact fun _ h => absurd h List.not_mem_nil
def ofr (n : Nat) (ki : Nat → Int32) (we lea mst : Int32) (a b m : Nat) (i : Int32) : Nat → Int64 → Int32
  | 0, _ => -5
  | r + 1, ms => match frL (frB n ki we lea mst a b r (btN n ki we ms a b)) 13 with
    | none => -1
    | some d => if nI (m - (r + 1)) = i then nI d else ofr n ki we lea mst a b m i r (bdn n ki we a b d (btN n ki we ms a b))
theorem frL_lt {P : Nat → Bool} : ∀ r d, frL P r = some d → d ≤ 12
  | 0, d, h => by cases h
  | r + 1, d, h => by
    rw [frL] at h
    split at h
    · cases h; omega
    · exact frL_lt r d h
def sp_X1_ofFirstRow : em_Sp := fun av hp Q => ∃ pe ki mi se we lea mst pa fi sd ev un ma ea co ca clt a b m i n, av = [.ref 0, .int (nI a), .int (nI b), .int (nI m), .int i] ∧ hp = (wT pe ki mi se we lea mst pa fi sd ev un ma ea co ca clt) ∧ pe = nI n ∧ n ≤ 6 ∧ a < 6 ∧ b < 6 ∧ m ≤ 4 ∧ Q (some (.int (ofr n ki we lea mst a b m i m mi))) hp
def T_X1_ofFirstRow : List (Nat × em_Op) := [(0, o_aload 0 1), (1, o_getf 2 2 4), (4, o_lstore 5 6), (6, o_iconst 0 7), (7, o_istore 7 9), (9, o_iload 7 11), (11, o_iload 3 12), (12, o_icmpge 75 15), (15, o_aload 0 16), (16, o_lload 5 18), (18, o_iload 1 19), (19, o_iload 2 20), (20, o_call 4 (some 2) (sp_X7_behindTalk2) 23), (23, o_lstore 8 25), (25, o_aload 0 26), (26, o_lload 8 28), (28, o_iload 1 29), (29, o_iload 2 30), (30, o_iload 3 31), (31, o_iload 7 33), (33, o_isub 34), (34, o_iconst 1 35), (35, o_isub 36), (36, o_call 5 none (sp_X1_first) 39), (39, o_istore 10 41), (41, o_iload 10 43), (43, o_iconst (-1) 44), (44, o_icmpeq 54 47), (47, o_iload 7 49), (49, o_iload 4 51), (51, o_icmpne 57 54), (54, o_iload 10 56), (56, o_iret), (57, o_aload 0 58), (58, o_lload 8 60), (60, o_iload 1 61), (61, o_iload 2 62), (62, o_iload 10 64), (64, o_call 5 none (sp_X1_behindDinner) 67), (67, o_lstore 5 69), (69, o_iinc 7 1 72), (72, o_goto 9), (75, o_iconst (-5) 77), (77, o_iret)]
theorem me_X1_ofFirstRow : em_Me T_X1_ofFirstRow 11 sp_X1_ofFirstRow := by
  intro Q K hK hle av hp hs
  obtain ⟨pe, ki, mi, se, we, lea, mst, pa, fi, sd, ev, un, ma, ea, co, ca, clt, a, b, m, i, n, rfl, rfl, rfl, hn, ha, hb, hl4, hq⟩ := hs
  refine ⟨Nat.le_of_ble_eq_true rfl, ?_⟩
  obtain ⟨V, hV⟩ : ∃ V, V = ofr n ki we lea mst a b m i m mi := ⟨_, rfl⟩
  rw [← hV] at hq
  have loop : ∀ (r : Nat) (ms : Int64), r ≤ m → V = ofr n ki we lea mst a b m i r ms → K 9 [some (.ref 0), some (.int (nI a)), some (.int (nI b)), some (.int (nI m)), some (.int i), some (.long ms), none, some (.int (nI (m - r))), none, none, none] [] (wT (nI n) ki mi se we lea mst pa fi sd ev un ma ea co ca clt) := by
    intro r
    induction r with
    | zero =>
      intro ms hr hv
      rw [hv] at hq
      refine hK 5 9999 9 _ _ _ ?_
      exact ⟨fun _ => hq, fun z => absurd (nI_le (a := m) (b := m - 0) (by omega) (by omega)) z⟩
    | succ r ih =>
      intro ms hr hv
      rw [ofr] at hv
      refine hK 5 9999 9 _ _ _ ?_
      refine ⟨fun z => absurd z (nI_ge (a := m - (r + 1)) (b := m) (by omega) (by omega)), fun _ => ?_⟩
      refine ⟨_, _, _, _, _, _, _, _, _, _, _, _, _, _, _, _, _, ms, a, b, n, rfl, rfl, rfl, hn, by omega, by omega, ?_⟩
      have e9 : nI m - nI (m - (r + 1)) - 1 = nI r := by
        rw [pk_sub (by omega), show m - (m - (r + 1)) = r + 1 by omega, nI_pred]
      refine ⟨_, _, _, _, _, _, _, _, _, _, _, _, _, _, _, _, _, _, a, b, r, n, by rw [← e9], rfl, rfl, hn, ha, hb, by omega, ?_⟩
      cases hf : frL (frB n ki we lea mst a b r (btN n ki we ms a b)) 13 with
      | none =>
        rw [hf] at hv
        rw [hv] at hq
        exact ⟨fun _ => hq, fun z => absurd rfl z⟩
      | some d =>
        have hd := frL_lt 13 d hf
        rw [hf] at hv
        refine ⟨fun z => absurd z ?_, fun _ => ⟨fun z => ?_, fun z => ?_⟩⟩
        · intro q
          have : (nI d).toInt = ((-1 : Int32)).toInt := by
            have q' : nI d = -1 := q
            rw [q']
          rw [nI_toInt (by omega)] at this
          have h2 : ((-1 : Int32)).toInt = -1 := by decide
          omega
        · have hv' : V = ofr n ki we lea mst a b m i r (bdn n ki we a b d (btN n ki we ms a b)) := by
            rw [hv]
            exact if_neg z
          refine ⟨_, _, _, _, _, _, _, _, _, _, _, _, _, _, _, _, _, _, a, b, d, n, rfl, rfl, rfl, hn, ha, hb, hd, ?_⟩
          have := ih _ (by omega) hv'
          rw [show m - r = (m - (r + 1)) + 1 by omega, ← nI_1] at this
          exact hle _ _ _ _ _ (by repeat (first | exact trivial | refine ⟨rfl, ?_⟩)) this
        · have hv' : V = nI d := by
            rw [hv]
            exact if_pos z
          rw [hv'] at hq
          exact hq
  have := loop m mi (Nat.le_refl _) hV
  rw [Nat.sub_self] at this
  exact hK 0 5 0 _ _ _ this
abbrev rm_X1_ofFirstRow : Room := { frames := 12, cells := 0, slots := 0, locals := 334 }
set_option maxRecDepth 100000 in
set_option maxHeartbeats 4000000 in
theorem ct_X1_ofFirstRow (l : Launch) (D : va_G) (dA : Nat → ClassId) (σ : Nat → Nat) : em_CT l D em_cl dA σ (em_F σ) y_X1_ofFirstRow c_X1_ofFirstRow 11 (Option.some ClassFile.FieldType.int) rm_X1_ofFirstRow (sp_X1_ofFirstRow ) := by
  refine em_CT_of (T := T_X1_ofFirstRow ) (em_F_ok σ) (by decide) (fun p e s m args below meth c A ρ Q C hFok hF hret hlk hin => ?_) (me_X1_ofFirstRow )
  unfold T_X1_ofFirstRow
  refine List.forall_mem_cons.mpr ⟨s_aload_n C (by decide +kernel : decode c_X1_ofFirstRow 0 = .ok (.aload_n 0, 1)) rfl rfl rfl, ?_⟩
  refine List.forall_mem_cons.mpr ⟨s_getf C (by decide +kernel : decode c_X1_ofFirstRow 1 = .ok (.getfield 33, 3)) rfl rfl em_cl_X7 (by decide) ew92 rfl, ?_⟩
  refine List.forall_mem_cons.mpr ⟨s_lstore C (by decide +kernel : decode c_X1_ofFirstRow 4 = .ok (.lstore 5, 2)) rfl rfl (by decide), ?_⟩
  refine List.forall_mem_cons.mpr ⟨s_iconst C (by decide +kernel : decode c_X1_ofFirstRow 6 = .ok (.iconst 0, 1)) rfl rfl (by decide), ?_⟩
  refine List.forall_mem_cons.mpr ⟨s_istore C (by decide +kernel : decode c_X1_ofFirstRow 7 = .ok (.istore 7, 2)) rfl rfl (by decide), ?_⟩
  refine List.forall_mem_cons.mpr ⟨s_iload C (by decide +kernel : decode c_X1_ofFirstRow 9 = .ok (.iload 7, 2)) rfl rfl, ?_⟩
  refine List.forall_mem_cons.mpr ⟨s_iload_n C (by decide +kernel : decode c_X1_ofFirstRow 11 = .ok (.iload_n 3, 1)) rfl rfl rfl, ?_⟩
  refine List.forall_mem_cons.mpr ⟨s_icmpge C (by decide +kernel : decode c_X1_ofFirstRow 12 = .ok (.if_icmp .ge 63, 3)) (by decide) rfl rfl rfl, ?_⟩
  refine List.forall_mem_cons.mpr ⟨s_aload_n C (by decide +kernel : decode c_X1_ofFirstRow 15 = .ok (.aload_n 0, 1)) rfl rfl rfl, ?_⟩
  refine List.forall_mem_cons.mpr ⟨s_lload C (by decide +kernel : decode c_X1_ofFirstRow 16 = .ok (.lload 5, 2)) rfl rfl, ?_⟩
  refine List.forall_mem_cons.mpr ⟨s_iload_n C (by decide +kernel : decode c_X1_ofFirstRow 18 = .ok (.iload_n 1, 1)) rfl rfl rfl, ?_⟩
  refine List.forall_mem_cons.mpr ⟨s_iload_n C (by decide +kernel : decode c_X1_ofFirstRow 19 = .ok (.iload_n 2, 1)) rfl rfl rfl, ?_⟩
  refine List.forall_mem_cons.mpr ⟨s_callV C hFok hF (ct_X7_behindTalk2 l D dA σ) ⟨rfl, rfl⟩ ew438 em_cl_X7 ew557 ew436 ew437 ew5 ⟨by decide, by decide, by decide +kernel⟩ ⟨by decide, by decide⟩ (by decide +kernel : decode c_X1_ofFirstRow 20 = .ok (.invokevirtual 9, 3)) rfl rfl ⟨Nat.zero_le _, Nat.zero_le _⟩, ?_⟩
  refine List.forall_mem_cons.mpr ⟨s_lstore C (by decide +kernel : decode c_X1_ofFirstRow 23 = .ok (.lstore 8, 2)) rfl rfl (by decide), ?_⟩
  refine List.forall_mem_cons.mpr ⟨s_aload_n C (by decide +kernel : decode c_X1_ofFirstRow 25 = .ok (.aload_n 0, 1)) rfl rfl rfl, ?_⟩
  refine List.forall_mem_cons.mpr ⟨s_lload C (by decide +kernel : decode c_X1_ofFirstRow 26 = .ok (.lload 8, 2)) rfl rfl, ?_⟩
  refine List.forall_mem_cons.mpr ⟨s_iload_n C (by decide +kernel : decode c_X1_ofFirstRow 28 = .ok (.iload_n 1, 1)) rfl rfl rfl, ?_⟩
  refine List.forall_mem_cons.mpr ⟨s_iload_n C (by decide +kernel : decode c_X1_ofFirstRow 29 = .ok (.iload_n 2, 1)) rfl rfl rfl, ?_⟩
  refine List.forall_mem_cons.mpr ⟨s_iload_n C (by decide +kernel : decode c_X1_ofFirstRow 30 = .ok (.iload_n 3, 1)) rfl rfl rfl, ?_⟩
  refine List.forall_mem_cons.mpr ⟨s_iload C (by decide +kernel : decode c_X1_ofFirstRow 31 = .ok (.iload 7, 2)) rfl rfl, ?_⟩
  refine List.forall_mem_cons.mpr ⟨s_isub C (by decide +kernel : decode c_X1_ofFirstRow 33 = .ok (.isub, 1)) rfl rfl, ?_⟩
  refine List.forall_mem_cons.mpr ⟨s_iconst C (by decide +kernel : decode c_X1_ofFirstRow 34 = .ok (.iconst 1, 1)) rfl rfl (by decide), ?_⟩
  refine List.forall_mem_cons.mpr ⟨s_isub C (by decide +kernel : decode c_X1_ofFirstRow 35 = .ok (.isub, 1)) rfl rfl, ?_⟩
  refine List.forall_mem_cons.mpr ⟨s_callS C hFok hF (ct_X1_first l D dA σ) ⟨rfl, rfl⟩ ew575 ew573 ew574 ew17 ⟨by decide, by decide, by decide +kernel⟩ ⟨by decide, by decide⟩ (by decide +kernel : decode c_X1_ofFirstRow 36 = .ok (.invokestatic 37, 3)) rfl rfl ⟨Nat.zero_le _, Nat.zero_le _⟩, ?_⟩
  refine List.forall_mem_cons.mpr ⟨s_istore C (by decide +kernel : decode c_X1_ofFirstRow 39 = .ok (.istore 10, 2)) rfl rfl (by decide), ?_⟩
  refine List.forall_mem_cons.mpr ⟨s_iload C (by decide +kernel : decode c_X1_ofFirstRow 41 = .ok (.iload 10, 2)) rfl rfl, ?_⟩
  refine List.forall_mem_cons.mpr ⟨s_iconst C (by decide +kernel : decode c_X1_ofFirstRow 43 = .ok (.iconst (-1), 1)) rfl rfl (by decide), ?_⟩
  refine List.forall_mem_cons.mpr ⟨s_icmpeq C (by decide +kernel : decode c_X1_ofFirstRow 44 = .ok (.if_icmp .eq 10, 3)) (by decide) rfl rfl rfl, ?_⟩
  refine List.forall_mem_cons.mpr ⟨s_iload C (by decide +kernel : decode c_X1_ofFirstRow 47 = .ok (.iload 7, 2)) rfl rfl, ?_⟩
  refine List.forall_mem_cons.mpr ⟨s_iload C (by decide +kernel : decode c_X1_ofFirstRow 49 = .ok (.iload 4, 2)) rfl rfl, ?_⟩
  refine List.forall_mem_cons.mpr ⟨s_icmpne C (by decide +kernel : decode c_X1_ofFirstRow 51 = .ok (.if_icmp .ne 6, 3)) (by decide) rfl rfl rfl, ?_⟩
  refine List.forall_mem_cons.mpr ⟨s_iload C (by decide +kernel : decode c_X1_ofFirstRow 54 = .ok (.iload 10, 2)) rfl rfl, ?_⟩
  refine List.forall_mem_cons.mpr ⟨s_iret C (by decide +kernel : decode c_X1_ofFirstRow 56 = .ok (.ireturn, 1)) hret hlk ⟨Nat.le_refl 0, Nat.le_refl 0⟩, ?_⟩
  refine List.forall_mem_cons.mpr ⟨s_aload_n C (by decide +kernel : decode c_X1_ofFirstRow 57 = .ok (.aload_n 0, 1)) rfl rfl rfl, ?_⟩
  refine List.forall_mem_cons.mpr ⟨s_lload C (by decide +kernel : decode c_X1_ofFirstRow 58 = .ok (.lload 8, 2)) rfl rfl, ?_⟩
  refine List.forall_mem_cons.mpr ⟨s_iload_n C (by decide +kernel : decode c_X1_ofFirstRow 60 = .ok (.iload_n 1, 1)) rfl rfl rfl, ?_⟩
  refine List.forall_mem_cons.mpr ⟨s_iload_n C (by decide +kernel : decode c_X1_ofFirstRow 61 = .ok (.iload_n 2, 1)) rfl rfl rfl, ?_⟩
  refine List.forall_mem_cons.mpr ⟨s_iload C (by decide +kernel : decode c_X1_ofFirstRow 62 = .ok (.iload 10, 2)) rfl rfl, ?_⟩
  refine List.forall_mem_cons.mpr ⟨s_callS C hFok hF (ct_X1_behindDinner l D dA σ) ⟨rfl, rfl⟩ ew567 ew565 ew566 ew17 ⟨by decide, by decide, by decide +kernel⟩ ⟨by decide, by decide⟩ (by decide +kernel : decode c_X1_ofFirstRow 64 = .ok (.invokestatic 21, 3)) rfl rfl ⟨Nat.zero_le _, Nat.zero_le _⟩, ?_⟩
  refine List.forall_mem_cons.mpr ⟨s_lstore C (by decide +kernel : decode c_X1_ofFirstRow 67 = .ok (.lstore 5, 2)) rfl rfl (by decide), ?_⟩
  refine List.forall_mem_cons.mpr ⟨s_iinc C (by decide +kernel : decode c_X1_ofFirstRow 69 = .ok (.iinc 7 1, 3)) rfl rfl (by decide) (by decide), ?_⟩
  refine List.forall_mem_cons.mpr ⟨s_goto C (by decide +kernel : decode c_X1_ofFirstRow 72 = .ok (.goto (-63), 3)) (by decide) rfl, ?_⟩
  refine List.forall_mem_cons.mpr ⟨s_bipush C (by decide +kernel : decode c_X1_ofFirstRow 75 = .ok (.bipush (-5), 2)) rfl rfl (by decide), ?_⟩
  refine List.forall_mem_cons.mpr ⟨s_iret C (by decide +kernel : decode c_X1_ofFirstRow 77 = .ok (.ireturn, 1)) hret hlk ⟨Nat.le_refl 0, Nat.le_refl 0⟩, ?_⟩
  exact fun _ h => absurd h List.not_mem_nil
end
section
/-! ===== Course ===== -/
def wC (mm : Nat → Int64) (pe : Int32) (ki : Nat → Int32) (mi se : Int64) (we lea mst pa : Int32) (fi sd : Nat → Int32) (ev un : Int32) (ma : Nat → Int64) (ea : Nat → Int32) (co : Int32) (ca clt : Nat → Int32) : em_H :=
  [.inr (0, [.ref 1]), .inl (1, 201, .inr (.inl mm)), .inr (2, [.int pe, .ref 3, .long mi, .long se, .int we, .int lea, .int mst, .int pa, .ref 4, .ref 5, .int ev, .int un, .ref 6, .ref 7, .int co, .ref 8, .ref 9]), .inl (0, 6, .inl ki), .inl (0, 8, .inl fi), .inl (0, 8, .inl sd), .inl (1, 12, .inr (.inl ma)), .inl (0, 12, .inl ea), .inl (0, 10, .inl ca), .inl (3, 10, .inl clt)]
def wC2 (mm : Nat → Int64) : em_H := [.inr (0, [.ref 1]), .inl (1, 201, .inr (.inl mm))]
/-- the calendar's pairs are of people who are there -/
def calOk (n np : Nat) (fi sd : Nat → Int32) (fa fb : Nat → Nat) : Prop := ∀ k, k < np → fi k = nI (fa k) ∧ sd k = nI (fb k) ∧ fa k < n ∧ fb k < n ∧ fa k ≠ fb k
def evN (np : Nat) (ki : Nat → Int32) (we : Int32) (fa fb : Nat → Nat) (e : Nat) (m : Int64) : Int64 := if np = 0 then m else btk ki we m (fa (e % np)) (fb (e % np))
def csm (np : Nat) (ki : Nat → Int32) (we : Int32) (fa fb : Nat → Nat) (e0 : Nat) (m0 : Int64) : Nat → Int64
  | 0 => m0
  | t + 1 => evN np ki we fa fb (e0 + t) (csm np ki we fa fb e0 m0 t)
def sp_X0_follow : em_Sp := fun av hp Q => ∃ mm pe ki mi se we lea mst pa fi sd ev un ma ea co ca clt n np e0 fa fb, av = [.ref 0, .ref 2] ∧ hp = (wC mm pe ki mi se we lea mst pa fi sd ev un ma ea co ca clt) ∧ pe = nI n ∧ n ≤ 6 ∧ pa = nI np ∧ np ≤ 8 ∧ ev = nI e0 ∧ e0 < 2 ^ 20 ∧ calOk n np fi sd fa fb ∧ (∀ mm', (∀ t, t ≤ 200 → mm' t = csm np ki we fa fb e0 mi t) → Q none (wC (mm') pe ki mi se we lea mst pa fi sd ev un ma ea co ca clt))
def T_X0_follow : List (Nat × em_Op) := [(0, o_aload 0 1), (1, o_getf 0 0 4), (4, o_iconst 0 5), (5, o_aload 1 6), (6, o_getf 2 2 9), (9, o_last 10), (10, o_iconst 1 11), (11, o_istore 2 12), (12, o_iload 2 13), (13, o_iconst 200 16), (16, o_icmpgt 51 19), (19, o_aload 0 20), (20, o_getf 0 0 23), (23, o_iload 2 24), (24, o_aload 1 25), (25, o_aload 0 26), (26, o_getf 0 0 29), (29, o_iload 2 30), (30, o_iconst 1 31), (31, o_isub 32), (32, o_aldL 1 33), (33, o_aload 1 34), (34, o_getf 2 10 37), (37, o_iload 2 38), (38, o_iadd 39), (39, o_iconst 1 40), (40, o_isub 41), (41, o_callP 3 (some 2) [2, 3, 4, 5, 6, 7, 8, 9] (sp_X7_behindEvening) 44), (44, o_last 45), (45, o_iinc 2 1 48), (48, o_goto 12), (51, o_vret)]
theorem me_X0_follow : em_Me T_X0_follow 3 sp_X0_follow := by
  intro Q K hK hle av hp hs
  obtain ⟨mm, pe, ki, mi, se, we, lea, mst, pa, fi, sd, ev, un, ma, ea, co, ca, clt, n, np, e0, fa, fb, rfl, rfl, rfl, hn, rfl, hnp, rfl, he0, hcal, hq⟩ := hs
  refine ⟨Nat.le_of_ble_eq_true rfl, ?_⟩
  have loop : ∀ (r i : Nat) (mm' : Nat → Int64), i + r = 201 → 1 ≤ i → (∀ t, t < i → mm' t = csm np ki we fa fb e0 mi t) → K 12 [some (.ref 0), some (.ref 2), some (.int (nI i))] [] (wC (mm') (nI n) ki mi se we lea mst (nI np) fi sd (nI e0) un ma ea co ca clt) := by
    intro r
    induction r with
    | zero =>
      intro i mm' hi h1 hm
      have hi : i = 201 := by omega
      subst hi
      refine hK 8 9999 12 _ _ _ ?_
      exact ⟨fun _ => hq mm' (fun t ht => hm t (by omega)), fun z => absurd (nI_lt (a := 200) (b := 201) (by omega) (by omega)) z⟩
    | succ r ih =>
      intro i mm' hi h1 hm
      obtain ⟨j, rfl⟩ : ∃ j, i = j + 1 := ⟨i - 1, by omega⟩
      refine hK 8 9999 12 _ _ _ ?_
      refine ⟨fun z => absurd z (nI_nlt (a := 200) (b := j + 1) (by omega) (by omega)), fun _ => ?_⟩
      refine ⟨j, nI_pred j, by omega, ?_⟩
      have e1 : nI e0 + nI (j + 1) - 1 = nI (e0 + j) := by rw [nI_add, ← Nat.add_assoc, nI_pred]
      have fin : K 44 [some (.ref 0), some (.ref 2), some (.int (nI (j + 1)))] [.long (evN np ki we fa fb (e0 + j) (mm' j)), .int (nI (j + 1)), .ref 1] (wC (mm') (nI n) ki mi se we lea mst (nI np) fi sd (nI e0) un ma ea co ca clt) := by
        refine hK 28 3 44 _ _ _ ?_
        refine ⟨j + 1, rfl, by omega, ?_⟩
        have := ih (j + 1 + 1) (vp_updL mm' (j + 1) (evN np ki we fa fb (e0 + j) (mm' j))) (by omega) (by omega) (fun t ht => by
          by_cases hz : t = j + 1
          · subst hz
            rw [pk_uLs, csm, hm j (by omega)]
          · rw [pk_uLn hz, hm t (by omega)])
        rw [← nI_1 (j + 1)] at this
        exact this
      refine ⟨_, _, _, _, _, _, _, _, _, _, _, _, _, _, _, _, _, mm' j, e0 + j, n, np, by rw [← e1], rfl, rfl, hn, rfl, hnp, by omega, fun z => ?_, fun z => ?_⟩
      · rw [evN, if_pos z] at fin
        exact ⟨j + 1, rfl, by omega, by
          have := ih (j + 1 + 1) (vp_updL mm' (j + 1) (mm' j)) (by omega) (by omega) (fun t ht => by
            by_cases hz : t = j + 1
            · subst hz
              rw [pk_uLs, csm, evN, if_pos z, hm j (by omega)]
            · rw [pk_uLn hz, hm t (by omega)])
          rw [← nI_1 (j + 1)] at this
          exact this⟩
      · obtain ⟨c1, c2, c3, c4, c5⟩ := hcal _ (Nat.mod_lt (e0 + j) z)
        refine ⟨_, _, c1, c2, c3, c4, c5, ?_⟩
        exact ⟨j + 1, rfl, by omega, by
          have := ih (j + 1 + 1) (vp_updL mm' (j + 1) (btk ki we (mm' j) (fa ((e0 + j) % np)) (fb ((e0 + j) % np)))) (by omega) (by omega) (fun t ht => by
            by_cases hz : t = j + 1
            · subst hz
              rw [pk_uLs, csm, evN, if_neg (by omega), hm j (by omega)]
            · rw [pk_uLn hz, hm t (by omega)])
          rw [← nI_1 (j + 1)] at this
          exact this⟩
  refine hK 0 8 0 _ _ _ ?_
  refine ⟨0, rfl, by omega, ?_⟩
  exact loop 200 1 _ rfl (Nat.le_refl 1) (fun t ht => by
    have : t = 0 := by omega
    subst this
    rw [pk_uLs, csm])
abbrev rm_X0_follow : Room := { frames := 6, cells := 0, slots := 0, locals := 150 }
set_option maxRecDepth 100000 in
set_option maxHeartbeats 4000000 in
theorem ct_X0_follow (l : Launch) (D : va_G) (dA : Nat → ClassId) (σ : Nat → Nat) : em_CT l D em_cl dA σ (em_F σ) y_X0_follow c_X0_follow 3 (Option.none : Option ClassFile.FieldType) rm_X0_follow (sp_X0_follow ) := by
  refine em_CT_of (T := T_X0_follow ) (em_F_ok σ) (by decide) (fun p e s m args below meth c A ρ Q C hFok hF hret hlk hin => ?_) (me_X0_follow )
  unfold T_X0_follow
  refine List.forall_mem_cons.mpr ⟨s_aload_n C (by decide +kernel : decode c_X0_follow 0 = .ok (.aload_n 0, 1)) rfl rfl rfl, ?_⟩
  refine List.forall_mem_cons.mpr ⟨s_getf C (by decide +kernel : decode c_X0_follow 1 = .ok (.getfield 9, 3)) rfl rfl em_cl_X0 (by decide) ew54 rfl, ?_⟩
  refine List.forall_mem_cons.mpr ⟨s_iconst C (by decide +kernel : decode c_X0_follow 4 = .ok (.iconst 0, 1)) rfl rfl (by decide), ?_⟩
  refine List.forall_mem_cons.mpr ⟨s_aload_n C (by decide +kernel : decode c_X0_follow 5 = .ok (.aload_n 1, 1)) rfl rfl rfl, ?_⟩
  refine List.forall_mem_cons.mpr ⟨s_getf C (by decide +kernel : decode c_X0_follow 6 = .ok (.getfield 15, 3)) rfl rfl em_cl_X7 (by decide) ew90 rfl, ?_⟩
  refine List.forall_mem_cons.mpr ⟨s_last C (by decide +kernel : decode c_X0_follow 9 = .ok (.lastore, 1)) rfl rfl, ?_⟩
  refine List.forall_mem_cons.mpr ⟨s_iconst C (by decide +kernel : decode c_X0_follow 10 = .ok (.iconst 1, 1)) rfl rfl (by decide), ?_⟩
  refine List.forall_mem_cons.mpr ⟨s_istore_n C (by decide +kernel : decode c_X0_follow 11 = .ok (.istore_n 2, 1)) rfl rfl rfl (by decide), ?_⟩
  refine List.forall_mem_cons.mpr ⟨s_iload_n C (by decide +kernel : decode c_X0_follow 12 = .ok (.iload_n 2, 1)) rfl rfl rfl, ?_⟩
  refine List.forall_mem_cons.mpr ⟨s_sipush C (by decide +kernel : decode c_X0_follow 13 = .ok (.sipush 200, 3)) rfl rfl (by decide), ?_⟩
  refine List.forall_mem_cons.mpr ⟨s_icmpgt C (by decide +kernel : decode c_X0_follow 16 = .ok (.if_icmp .gt 35, 3)) (by decide) rfl rfl rfl, ?_⟩
  refine List.forall_mem_cons.mpr ⟨s_aload_n C (by decide +kernel : decode c_X0_follow 19 = .ok (.aload_n 0, 1)) rfl rfl rfl, ?_⟩
  refine List.forall_mem_cons.mpr ⟨s_getf C (by decide +kernel : decode c_X0_follow 20 = .ok (.getfield 9, 3)) rfl rfl em_cl_X0 (by decide) ew54 rfl, ?_⟩
  refine List.forall_mem_cons.mpr ⟨s_iload_n C (by decide +kernel : decode c_X0_follow 23 = .ok (.iload_n 2, 1)) rfl rfl rfl, ?_⟩
  refine List.forall_mem_cons.mpr ⟨s_aload_n C (by decide +kernel : decode c_X0_follow 24 = .ok (.aload_n 1, 1)) rfl rfl rfl, ?_⟩
  refine List.forall_mem_cons.mpr ⟨s_aload_n C (by decide +kernel : decode c_X0_follow 25 = .ok (.aload_n 0, 1)) rfl rfl rfl, ?_⟩
  refine List.forall_mem_cons.mpr ⟨s_getf C (by decide +kernel : decode c_X0_follow 26 = .ok (.getfield 9, 3)) rfl rfl em_cl_X0 (by decide) ew54 rfl, ?_⟩
  refine List.forall_mem_cons.mpr ⟨s_iload_n C (by decide +kernel : decode c_X0_follow 29 = .ok (.iload_n 2, 1)) rfl rfl rfl, ?_⟩
  refine List.forall_mem_cons.mpr ⟨s_iconst C (by decide +kernel : decode c_X0_follow 30 = .ok (.iconst 1, 1)) rfl rfl (by decide), ?_⟩
  refine List.forall_mem_cons.mpr ⟨s_isub C (by decide +kernel : decode c_X0_follow 31 = .ok (.isub, 1)) rfl rfl, ?_⟩
  refine List.forall_mem_cons.mpr ⟨s_lald C (by decide +kernel : decode c_X0_follow 32 = .ok (.laload, 1)) rfl rfl, ?_⟩
  refine List.forall_mem_cons.mpr ⟨s_aload_n C (by decide +kernel : decode c_X0_follow 33 = .ok (.aload_n 1, 1)) rfl rfl rfl, ?_⟩
  refine List.forall_mem_cons.mpr ⟨s_getf C (by decide +kernel : decode c_X0_follow 34 = .ok (.getfield 20, 3)) rfl rfl em_cl_X7 (by decide) ew104 rfl, ?_⟩
  refine List.forall_mem_cons.mpr ⟨s_iload_n C (by decide +kernel : decode c_X0_follow 37 = .ok (.iload_n 2, 1)) rfl rfl rfl, ?_⟩
  refine List.forall_mem_cons.mpr ⟨s_iadd C (by decide +kernel : decode c_X0_follow 38 = .ok (.iadd, 1)) rfl rfl, ?_⟩
  refine List.forall_mem_cons.mpr ⟨s_iconst C (by decide +kernel : decode c_X0_follow 39 = .ok (.iconst 1, 1)) rfl rfl (by decide), ?_⟩
  refine List.forall_mem_cons.mpr ⟨s_isub C (by decide +kernel : decode c_X0_follow 40 = .ok (.isub, 1)) rfl rfl, ?_⟩
  refine List.forall_mem_cons.mpr ⟨s_callPV C hFok hF (ct_X7_behindEvening l D dA σ) ⟨rfl, rfl⟩ ew434 em_cl_X7 ew482 ew432 ew433 ew5 ⟨by decide, by decide, by decide +kernel⟩ ⟨by decide, by decide⟩ (by decide +kernel : decode c_X0_follow 41 = .ok (.invokevirtual 24, 3)) rfl rfl ⟨Nat.zero_le _, Nat.zero_le _⟩ (by decide), ?_⟩
  refine List.forall_mem_cons.mpr ⟨s_last C (by decide +kernel : decode c_X0_follow 44 = .ok (.lastore, 1)) rfl rfl, ?_⟩
  refine List.forall_mem_cons.mpr ⟨s_iinc C (by decide +kernel : decode c_X0_follow 45 = .ok (.iinc 2 1, 3)) rfl rfl (by decide) (by decide), ?_⟩
  refine List.forall_mem_cons.mpr ⟨s_goto C (by decide +kernel : decode c_X0_follow 48 = .ok (.goto (-36), 3)) (by decide) rfl, ?_⟩
  refine List.forall_mem_cons.mpr ⟨s_vret C (by decide +kernel : decode c_X0_follow 51 = .ok (.return_, 1)) hret hlk ⟨Nat.le_refl 0, Nat.le_refl 0⟩, ?_⟩
  exact fun _ h => absurd h List.not_mem_nil
def sp_X0_mindsBehind : em_Sp := fun av hp Q => ∃ mm t, av = [.ref 0, .int (nI t)] ∧ hp = wC2 mm ∧ t ≤ 200 ∧ Q (some (.long (mm t))) hp
def T_X0_mindsBehind : List (Nat × em_Op) := [(0, o_iload 1 1), (1, o_iflt 20 4), (4, o_iload 1 5), (5, o_iconst 200 8), (8, o_icmpgt 20 11), (11, o_aload 0 12), (12, o_getf 0 0 15), (15, o_iload 1 16), (16, o_aldL 1 17), (17, o_goto 21), (20, o_lconst 0 21), (21, o_lret)]
theorem me_X0_mindsBehind : em_Me T_X0_mindsBehind 2 sp_X0_mindsBehind := by
  intro Q K hK hle av hp hs
  obtain ⟨mm, t, rfl, rfl, ht, hq⟩ := hs
  refine ⟨Nat.le_of_ble_eq_true rfl, hK 0 9999 0 _ _ _ ?_⟩
  exact ⟨fun z => absurd z (nI_pos (by omega)), fun _ => ⟨fun z => absurd z (nI_nlt (a := 200) (b := t) (by omega) (by omega)), fun _ => ⟨t, rfl, by omega, hq⟩⟩⟩
abbrev rm_X0_mindsBehind : Room := { frames := 0, cells := 0, slots := 0, locals := 0 }
set_option maxRecDepth 100000 in
set_option maxHeartbeats 4000000 in
theorem ct_X0_mindsBehind (l : Launch) (D : va_G) (dA : Nat → ClassId) (σ : Nat → Nat) : em_CT l D em_cl dA σ (em_F σ) y_X0_mindsBehind c_X0_mindsBehind 2 (Option.some ClassFile.FieldType.long) rm_X0_mindsBehind (sp_X0_mindsBehind ) := by
  refine em_CT_of (T := T_X0_mindsBehind ) (em_F_ok σ) (by decide) (fun p e s m args below meth c A ρ Q C hFok hF hret hlk hin => ?_) (me_X0_mindsBehind )
  unfold T_X0_mindsBehind
  refine List.forall_mem_cons.mpr ⟨s_iload_n C (by decide +kernel : decode c_X0_mindsBehind 0 = .ok (.iload_n 1, 1)) rfl rfl rfl, ?_⟩
  refine List.forall_mem_cons.mpr ⟨s_iflt C (by decide +kernel : decode c_X0_mindsBehind 1 = .ok (.ifCond .lt 19, 3)) (by decide) rfl rfl rfl, ?_⟩
  refine List.forall_mem_cons.mpr ⟨s_iload_n C (by decide +kernel : decode c_X0_mindsBehind 4 = .ok (.iload_n 1, 1)) rfl rfl rfl, ?_⟩
  refine List.forall_mem_cons.mpr ⟨s_sipush C (by decide +kernel : decode c_X0_mindsBehind 5 = .ok (.sipush 200, 3)) rfl rfl (by decide), ?_⟩
  refine List.forall_mem_cons.mpr ⟨s_icmpgt C (by decide +kernel : decode c_X0_mindsBehind 8 = .ok (.if_icmp .gt 12, 3)) (by decide) rfl rfl rfl, ?_⟩
  refine List.forall_mem_cons.mpr ⟨s_aload_n C (by decide +kernel : decode c_X0_mindsBehind 11 = .ok (.aload_n 0, 1)) rfl rfl rfl, ?_⟩
  refine List.forall_mem_cons.mpr ⟨s_getf C (by decide +kernel : decode c_X0_mindsBehind 12 = .ok (.getfield 9, 3)) rfl rfl em_cl_X0 (by decide) ew54 rfl, ?_⟩
  refine List.forall_mem_cons.mpr ⟨s_iload_n C (by decide +kernel : decode c_X0_mindsBehind 15 = .ok (.iload_n 1, 1)) rfl rfl rfl, ?_⟩
  refine List.forall_mem_cons.mpr ⟨s_lald C (by decide +kernel : decode c_X0_mindsBehind 16 = .ok (.laload, 1)) rfl rfl, ?_⟩
  refine List.forall_mem_cons.mpr ⟨s_goto C (by decide +kernel : decode c_X0_mindsBehind 17 = .ok (.goto 4, 3)) (by decide) rfl, ?_⟩
  refine List.forall_mem_cons.mpr ⟨s_lconst C (by decide +kernel : decode c_X0_mindsBehind 20 = .ok (.lconst 0, 1)) rfl rfl (by decide), ?_⟩
  refine List.forall_mem_cons.mpr ⟨s_lret C (by decide +kernel : decode c_X0_mindsBehind 21 = .ok (.lreturn, 1)) hret hlk ⟨Nat.le_refl 0, Nat.le_refl 0⟩, ?_⟩
  exact fun _ h => absurd h List.not_mem_nil
/-- the first of N - r .. N - 1 -/
def ffd (P : Nat → Bool) (N : Nat) : Nat → Option Nat
  | 0 => none
  | r + 1 => if P (N - (r + 1)) = true then some (N - (r + 1)) else ffd P N r
def sp_X0_parted : em_Sp := fun av hp Q => ∃ mm pe ki mi se we lea mst pa fi sd ev un ma ea co ca clt a b, av = [.ref 0, .ref 2, .int (nI a), .int (nI b)] ∧ hp = (wC mm pe ki mi se we lea mst pa fi sd ev un ma ea co ca clt) ∧ Q (some (.int (oI (ffd (fun t => !mwB we lea mst (mm t) a b) 201 201)))) hp
def T_X0_parted : List (Nat × em_Op) := [(0, o_iconst 0 1), (1, o_istore 4 3), (3, o_iload 4 5), (5, o_iconst 200 8), (8, o_icmpgt 36 11), (11, o_aload 1 12), (12, o_aload 0 13), (13, o_getf 0 0 16), (16, o_iload 4 18), (18, o_aldL 1 19), (19, o_iload 2 20), (20, o_iload 3 21), (21, o_callP 4 (some 2) [2, 3, 4, 5, 6, 7, 8, 9] (sp_X7_mayWed) 24), (24, o_ifne 30 27), (27, o_iload 4 29), (29, o_iret), (30, o_iinc 4 1 33), (33, o_goto 3), (36, o_iconst (-1) 37), (37, o_iret)]
theorem me_X0_parted : em_Me T_X0_parted 5 sp_X0_parted := by
  intro Q K hK hle av hp hs
  obtain ⟨mm, pe, ki, mi, se, we, lea, mst, pa, fi, sd, ev, un, ma, ea, co, ca, clt, a, b, rfl, rfl, hq⟩ := hs
  refine ⟨Nat.le_of_ble_eq_true rfl, ?_⟩
  generalize hP : (fun t => !mwB we lea mst (mm t) a b) = P at hq
  obtain ⟨V, hV⟩ : ∃ V, V = ffd P 201 201 := ⟨_, rfl⟩
  rw [← hV] at hq
  have loop : ∀ (r : Nat), r ≤ 201 → V = ffd P 201 r → K 3 [some (.ref 0), some (.ref 2), some (.int (nI a)), some (.int (nI b)), some (.int (nI (201 - r)))] [] (wC mm pe ki mi se we lea mst pa fi sd ev un ma ea co ca clt) := by
    intro r
    induction r with
    | zero =>
      intro hr hv
      rw [hv] at hq
      refine hK 2 9999 3 _ _ _ ?_
      exact ⟨fun _ => hq, fun z => absurd (nI_lt (a := 200) (b := 201) (by omega) (by omega)) z⟩
    | succ r ih =>
      intro hr hv
      rw [ffd] at hv
      refine hK 2 9999 3 _ _ _ ?_
      refine ⟨fun z => absurd z (nI_nlt (a := 200) (b := 201 - (r + 1)) (by omega) (by omega)), fun _ => ?_⟩
      refine ⟨201 - (r + 1), rfl, by omega, ?_⟩
      have ep : P (201 - (r + 1)) = !mwB we lea mst (mm (201 - (r + 1))) a b := by rw [← hP]
      refine ⟨_, _, _, _, _, _, _, _, _, _, _, _, _, _, _, _, _, _, _, _, rfl, rfl, fun z => ?_, fun z => ?_⟩
      · refine ⟨fun _ => ?_, fun y => absurd y (by decide)⟩
        rw [if_neg (by rw [ep, mwB_t z]; exact Bool.false_ne_true)] at hv
        have := ih (by omega) hv
        rw [show 201 - r = (201 - (r + 1)) + 1 by omega, ← nI_1] at this
        exact this
      · refine ⟨fun y => absurd rfl y, fun _ => ?_⟩
        rw [if_pos (by rw [ep, mwB_f z]; rfl)] at hv
        rw [hv] at hq
        exact hq
  exact hK 0 2 0 _ _ _ (loop 201 (Nat.le_refl _) hV)
abbrev rm_X0_parted : Room := { frames := 3, cells := 0, slots := 0, locals := 67 }
set_option maxRecDepth 100000 in
set_option maxHeartbeats 4000000 in
theorem ct_X0_parted (l : Launch) (D : va_G) (dA : Nat → ClassId) (σ : Nat → Nat) : em_CT l D em_cl dA σ (em_F σ) y_X0_parted c_X0_parted 5 (Option.some ClassFile.FieldType.int) rm_X0_parted (sp_X0_parted ) := by
  refine em_CT_of (T := T_X0_parted ) (em_F_ok σ) (by decide) (fun p e s m args below meth c A ρ Q C hFok hF hret hlk hin => ?_) (me_X0_parted )
  unfold T_X0_parted
  refine List.forall_mem_cons.mpr ⟨s_iconst C (by decide +kernel : decode c_X0_parted 0 = .ok (.iconst 0, 1)) rfl rfl (by decide), ?_⟩
  refine List.forall_mem_cons.mpr ⟨s_istore C (by decide +kernel : decode c_X0_parted 1 = .ok (.istore 4, 2)) rfl rfl (by decide), ?_⟩
  refine List.forall_mem_cons.mpr ⟨s_iload C (by decide +kernel : decode c_X0_parted 3 = .ok (.iload 4, 2)) rfl rfl, ?_⟩
  refine List.forall_mem_cons.mpr ⟨s_sipush C (by decide +kernel : decode c_X0_parted 5 = .ok (.sipush 200, 3)) rfl rfl (by decide), ?_⟩
  refine List.forall_mem_cons.mpr ⟨s_icmpgt C (by decide +kernel : decode c_X0_parted 8 = .ok (.if_icmp .gt 28, 3)) (by decide) rfl rfl rfl, ?_⟩
  refine List.forall_mem_cons.mpr ⟨s_aload_n C (by decide +kernel : decode c_X0_parted 11 = .ok (.aload_n 1, 1)) rfl rfl rfl, ?_⟩
  refine List.forall_mem_cons.mpr ⟨s_aload_n C (by decide +kernel : decode c_X0_parted 12 = .ok (.aload_n 0, 1)) rfl rfl rfl, ?_⟩
  refine List.forall_mem_cons.mpr ⟨s_getf C (by decide +kernel : decode c_X0_parted 13 = .ok (.getfield 9, 3)) rfl rfl em_cl_X0 (by decide) ew54 rfl, ?_⟩
  refine List.forall_mem_cons.mpr ⟨s_iload C (by decide +kernel : decode c_X0_parted 16 = .ok (.iload 4, 2)) rfl rfl, ?_⟩
  refine List.forall_mem_cons.mpr ⟨s_lald C (by decide +kernel : decode c_X0_parted 18 = .ok (.laload, 1)) rfl rfl, ?_⟩
  refine List.forall_mem_cons.mpr ⟨s_iload_n C (by decide +kernel : decode c_X0_parted 19 = .ok (.iload_n 2, 1)) rfl rfl rfl, ?_⟩
  refine List.forall_mem_cons.mpr ⟨s_iload_n C (by decide +kernel : decode c_X0_parted 20 = .ok (.iload_n 3, 1)) rfl rfl rfl, ?_⟩
  refine List.forall_mem_cons.mpr ⟨s_callPV C hFok hF (ct_X7_mayWed l D dA σ) ⟨rfl, rfl⟩ ew404 em_cl_X7 ew495 ew402 ew403 ew5 ⟨by decide, by decide, by decide +kernel⟩ ⟨by decide, by decide⟩ (by decide +kernel : decode c_X0_parted 21 = .ok (.invokevirtual 28, 3)) rfl rfl ⟨Nat.zero_le _, Nat.zero_le _⟩ (by decide), ?_⟩
  refine List.forall_mem_cons.mpr ⟨s_ifne C (by decide +kernel : decode c_X0_parted 24 = .ok (.ifCond .ne 6, 3)) (by decide) rfl rfl rfl, ?_⟩
  refine List.forall_mem_cons.mpr ⟨s_iload C (by decide +kernel : decode c_X0_parted 27 = .ok (.iload 4, 2)) rfl rfl, ?_⟩
  refine List.forall_mem_cons.mpr ⟨s_iret C (by decide +kernel : decode c_X0_parted 29 = .ok (.ireturn, 1)) hret hlk ⟨Nat.le_refl 0, Nat.le_refl 0⟩, ?_⟩
  refine List.forall_mem_cons.mpr ⟨s_iinc C (by decide +kernel : decode c_X0_parted 30 = .ok (.iinc 4 1, 3)) rfl rfl (by decide) (by decide), ?_⟩
  refine List.forall_mem_cons.mpr ⟨s_goto C (by decide +kernel : decode c_X0_parted 33 = .ok (.goto (-30), 3)) (by decide) rfl, ?_⟩
  refine List.forall_mem_cons.mpr ⟨s_iconst C (by decide +kernel : decode c_X0_parted 36 = .ok (.iconst (-1), 1)) rfl rfl (by decide), ?_⟩
  refine List.forall_mem_cons.mpr ⟨s_iret C (by decide +kernel : decode c_X0_parted 37 = .ok (.ireturn, 1)) hret hlk ⟨Nat.le_refl 0, Nat.le_refl 0⟩, ?_⟩
  exact fun _ h => absurd h List.not_mem_nil
theorem lg_cmp0 {x y : Int64} : lg_cmp x y = 0 ↔ x = y := by
  unfold lg_cmp
  constructor
  · intro h
    split at h
    · exact absurd h (by decide)
    · split at h
      · assumption
      · exact absurd h (by decide)
  · intro h
    subst h
    simp
def sp_X0_likeAhead : em_Sp := fun av hp Q => ∃ mm t L, av = [.ref 0, .int (nI t), .int (nI L)] ∧ hp = wC2 mm ∧ t ≤ 200 ∧ 1 ≤ L ∧ L ≤ 8 ∧ Q (some (.int (oI (ffd (fun s => decide ((t - s) % L = 0 ∧ mm s = mm t)) t t)))) hp
def T_X0_likeAhead : List (Nat × em_Op) := [(0, o_iload 1 1), (1, o_iconst 200 4), (4, o_icmpgt 12 7), (7, o_iload 2 8), (8, o_iconst 1 9), (9, o_icmpge 14 12), (12, o_iconst (-1) 13), (13, o_iret), (14, o_iconst 0 15), (15, o_istore 3 16), (16, o_iload 3 17), (17, o_iload 1 18), (18, o_icmpge 53 21), (21, o_iload 1 22), (22, o_iload 3 23), (23, o_isub 24), (24, o_iload 2 25), (25, o_irem 26), (26, o_ifne 47 29), (29, o_aload 0 30), (30, o_getf 0 0 33), (33, o_iload 3 34), (34, o_aldL 1 35), (35, o_aload 0 36), (36, o_getf 0 0 39), (39, o_iload 1 40), (40, o_aldL 1 41), (41, o_lcmp 42), (42, o_ifne 47 45), (45, o_iload 3 46), (46, o_iret), (47, o_iinc 3 1 50), (50, o_goto 16), (53, o_iconst (-1) 54), (54, o_iret)]
theorem me_X0_likeAhead : em_Me T_X0_likeAhead 4 sp_X0_likeAhead := by
  intro Q K hK hle av hp hs
  obtain ⟨mm, t, L, rfl, rfl, ht, hL, hL8, hq⟩ := hs
  refine ⟨Nat.le_of_ble_eq_true rfl, ?_⟩
  generalize hP : (fun s => decide ((t - s) % L = 0 ∧ mm s = mm t)) = P at hq
  obtain ⟨V, hV⟩ : ∃ V, V = ffd P t t := ⟨_, rfl⟩
  rw [← hV] at hq
  have loop : ∀ (r : Nat), r ≤ t → V = ffd P t r → K 16 [some (.ref 0), some (.int (nI t)), some (.int (nI L)), some (.int (nI (t - r)))] [] (wC2 mm) := by
    intro r
    induction r with
    | zero =>
      intro hr hv
      rw [hv] at hq
      refine hK 10 9999 16 _ _ _ ?_
      exact ⟨fun _ => hq, fun z => absurd (nI_le (a := t) (b := t - 0) (by omega) (by omega)) z⟩
    | succ r ih =>
      intro hr hv
      rw [ffd] at hv
      have next : ¬ P (t - (r + 1)) = true → K 47 [some (.ref 0), some (.int (nI t)), some (.int (nI L)), some (.int (nI (t - (r + 1))))] [] (wC2 mm) := by
        intro hz
        rw [if_neg hz] at hv
        have := ih (by omega) hv
        rw [show t - r = (t - (r + 1)) + 1 by omega, ← nI_1] at this
        exact hK 31 2 47 _ _ _ this
      have ep : P (t - (r + 1)) = decide ((t - (t - (r + 1))) % L = 0 ∧ mm (t - (r + 1)) = mm t) := by rw [← hP]
      refine hK 10 21 16 _ _ _ ?_
      refine ⟨fun z => absurd z (nI_ge (a := t - (r + 1)) (b := t) (by omega) (by omega)), fun _ => ?_⟩
      refine ⟨nI_ne0 (by omega) (by omega), ?_⟩
      have em : nI t - nI (t - (r + 1)) - (nI t - nI (t - (r + 1))) / nI L * nI L = nI ((t - (t - (r + 1))) % L) := by
        rw [pk_sub (by omega)]
        exact pk_rem (by omega) (by omega) (by omega)
      rw [em]
      have hml := Nat.mod_lt (t - (t - (r + 1))) (show L > 0 by omega)
      refine ⟨fun z => ?_, fun z => ?_⟩
      · refine next (fun y => ?_)
        rw [ep, decide_eq_true_eq] at y
        rw [y.1] at z
        exact z rfl
      · have hz0 : (t - (t - (r + 1))) % L = 0 := (nI_eq (b := 0) (by omega) (by omega)).mp z
        refine ⟨t - (r + 1), rfl, by omega, t, rfl, by omega, fun z2 => ?_, fun z2 => ?_⟩
        · refine next (fun y => ?_)
          rw [ep, decide_eq_true_eq] at y
          exact z2 (lg_cmp0.mpr y.2)
        · rw [if_pos (by rw [ep, decide_eq_true_eq]; exact ⟨hz0, lg_cmp0.mp z2⟩)] at hv
          rw [hv] at hq
          exact hq
  refine hK 0 10 0 _ _ _ ?_
  have := loop t (Nat.le_refl _) hV
  rw [Nat.sub_self] at this
  exact ⟨fun z => absurd z (nI_nlt (a := 200) (b := t) (by omega) (by omega)), fun _ => ⟨fun _ => this, fun z => absurd (nI_le (a := 1) (b := L) (by omega) (by omega)) z⟩⟩
abbrev rm_X0_likeAhead : Room := { frames := 0, cells := 0, slots := 0, locals := 0 }
set_option maxRecDepth 100000 in
set_option maxHeartbeats 4000000 in
theorem ct_X0_likeAhead (l : Launch) (D : va_G) (dA : Nat → ClassId) (σ : Nat → Nat) : em_CT l D em_cl dA σ (em_F σ) y_X0_likeAhead c_X0_likeAhead 4 (Option.some ClassFile.FieldType.int) rm_X0_likeAhead (sp_X0_likeAhead ) := by
  refine em_CT_of (T := T_X0_likeAhead ) (em_F_ok σ) (by decide) (fun p e s m args below meth c A ρ Q C hFok hF hret hlk hin => ?_) (me_X0_likeAhead )
  unfold T_X0_likeAhead
  refine List.forall_mem_cons.mpr ⟨s_iload_n C (by decide +kernel : decode c_X0_likeAhead 0 = .ok (.iload_n 1, 1)) rfl rfl rfl, ?_⟩
  refine List.forall_mem_cons.mpr ⟨s_sipush C (by decide +kernel : decode c_X0_likeAhead 1 = .ok (.sipush 200, 3)) rfl rfl (by decide), ?_⟩
  refine List.forall_mem_cons.mpr ⟨s_icmpgt C (by decide +kernel : decode c_X0_likeAhead 4 = .ok (.if_icmp .gt 8, 3)) (by decide) rfl rfl rfl, ?_⟩
  refine List.forall_mem_cons.mpr ⟨s_iload_n C (by decide +kernel : decode c_X0_likeAhead 7 = .ok (.iload_n 2, 1)) rfl rfl rfl, ?_⟩
  refine List.forall_mem_cons.mpr ⟨s_iconst C (by decide +kernel : decode c_X0_likeAhead 8 = .ok (.iconst 1, 1)) rfl rfl (by decide), ?_⟩
  refine List.forall_mem_cons.mpr ⟨s_icmpge C (by decide +kernel : decode c_X0_likeAhead 9 = .ok (.if_icmp .ge 5, 3)) (by decide) rfl rfl rfl, ?_⟩
  refine List.forall_mem_cons.mpr ⟨s_iconst C (by decide +kernel : decode c_X0_likeAhead 12 = .ok (.iconst (-1), 1)) rfl rfl (by decide), ?_⟩
  refine List.forall_mem_cons.mpr ⟨s_iret C (by decide +kernel : decode c_X0_likeAhead 13 = .ok (.ireturn, 1)) hret hlk ⟨Nat.le_refl 0, Nat.le_refl 0⟩, ?_⟩
  refine List.forall_mem_cons.mpr ⟨s_iconst C (by decide +kernel : decode c_X0_likeAhead 14 = .ok (.iconst 0, 1)) rfl rfl (by decide), ?_⟩
  refine List.forall_mem_cons.mpr ⟨s_istore_n C (by decide +kernel : decode c_X0_likeAhead 15 = .ok (.istore_n 3, 1)) rfl rfl rfl (by decide), ?_⟩
  refine List.forall_mem_cons.mpr ⟨s_iload_n C (by decide +kernel : decode c_X0_likeAhead 16 = .ok (.iload_n 3, 1)) rfl rfl rfl, ?_⟩
  refine List.forall_mem_cons.mpr ⟨s_iload_n C (by decide +kernel : decode c_X0_likeAhead 17 = .ok (.iload_n 1, 1)) rfl rfl rfl, ?_⟩
  refine List.forall_mem_cons.mpr ⟨s_icmpge C (by decide +kernel : decode c_X0_likeAhead 18 = .ok (.if_icmp .ge 35, 3)) (by decide) rfl rfl rfl, ?_⟩
  refine List.forall_mem_cons.mpr ⟨s_iload_n C (by decide +kernel : decode c_X0_likeAhead 21 = .ok (.iload_n 1, 1)) rfl rfl rfl, ?_⟩
  refine List.forall_mem_cons.mpr ⟨s_iload_n C (by decide +kernel : decode c_X0_likeAhead 22 = .ok (.iload_n 3, 1)) rfl rfl rfl, ?_⟩
  refine List.forall_mem_cons.mpr ⟨s_isub C (by decide +kernel : decode c_X0_likeAhead 23 = .ok (.isub, 1)) rfl rfl, ?_⟩
  refine List.forall_mem_cons.mpr ⟨s_iload_n C (by decide +kernel : decode c_X0_likeAhead 24 = .ok (.iload_n 2, 1)) rfl rfl rfl, ?_⟩
  refine List.forall_mem_cons.mpr ⟨s_irem C (by decide +kernel : decode c_X0_likeAhead 25 = .ok (.irem, 1)) rfl rfl, ?_⟩
  refine List.forall_mem_cons.mpr ⟨s_ifne C (by decide +kernel : decode c_X0_likeAhead 26 = .ok (.ifCond .ne 21, 3)) (by decide) rfl rfl rfl, ?_⟩
  refine List.forall_mem_cons.mpr ⟨s_aload_n C (by decide +kernel : decode c_X0_likeAhead 29 = .ok (.aload_n 0, 1)) rfl rfl rfl, ?_⟩
  refine List.forall_mem_cons.mpr ⟨s_getf C (by decide +kernel : decode c_X0_likeAhead 30 = .ok (.getfield 9, 3)) rfl rfl em_cl_X0 (by decide) ew54 rfl, ?_⟩
  refine List.forall_mem_cons.mpr ⟨s_iload_n C (by decide +kernel : decode c_X0_likeAhead 33 = .ok (.iload_n 3, 1)) rfl rfl rfl, ?_⟩
  refine List.forall_mem_cons.mpr ⟨s_lald C (by decide +kernel : decode c_X0_likeAhead 34 = .ok (.laload, 1)) rfl rfl, ?_⟩
  refine List.forall_mem_cons.mpr ⟨s_aload_n C (by decide +kernel : decode c_X0_likeAhead 35 = .ok (.aload_n 0, 1)) rfl rfl rfl, ?_⟩
  refine List.forall_mem_cons.mpr ⟨s_getf C (by decide +kernel : decode c_X0_likeAhead 36 = .ok (.getfield 9, 3)) rfl rfl em_cl_X0 (by decide) ew54 rfl, ?_⟩
  refine List.forall_mem_cons.mpr ⟨s_iload_n C (by decide +kernel : decode c_X0_likeAhead 39 = .ok (.iload_n 1, 1)) rfl rfl rfl, ?_⟩
  refine List.forall_mem_cons.mpr ⟨s_lald C (by decide +kernel : decode c_X0_likeAhead 40 = .ok (.laload, 1)) rfl rfl, ?_⟩
  refine List.forall_mem_cons.mpr ⟨s_lcmp C (by decide +kernel : decode c_X0_likeAhead 41 = .ok (.lcmp, 1)) rfl rfl, ?_⟩
  refine List.forall_mem_cons.mpr ⟨s_ifne C (by decide +kernel : decode c_X0_likeAhead 42 = .ok (.ifCond .ne 5, 3)) (by decide) rfl rfl rfl, ?_⟩
  refine List.forall_mem_cons.mpr ⟨s_iload_n C (by decide +kernel : decode c_X0_likeAhead 45 = .ok (.iload_n 3, 1)) rfl rfl rfl, ?_⟩
  refine List.forall_mem_cons.mpr ⟨s_iret C (by decide +kernel : decode c_X0_likeAhead 46 = .ok (.ireturn, 1)) hret hlk ⟨Nat.le_refl 0, Nat.le_refl 0⟩, ?_⟩
  refine List.forall_mem_cons.mpr ⟨s_iinc C (by decide +kernel : decode c_X0_likeAhead 47 = .ok (.iinc 3 1, 3)) rfl rfl (by decide) (by decide), ?_⟩
  refine List.forall_mem_cons.mpr ⟨s_goto C (by decide +kernel : decode c_X0_likeAhead 50 = .ok (.goto (-34), 3)) (by decide) rfl, ?_⟩
  refine List.forall_mem_cons.mpr ⟨s_iconst C (by decide +kernel : decode c_X0_likeAhead 53 = .ok (.iconst (-1), 1)) rfl rfl (by decide), ?_⟩
  refine List.forall_mem_cons.mpr ⟨s_iret C (by decide +kernel : decode c_X0_likeAhead 54 = .ok (.ireturn, 1)) hret hlk ⟨Nat.le_refl 0, Nat.le_refl 0⟩, ?_⟩
  exact fun _ h => absurd h List.not_mem_nil
def alB (m : Int64) (n : Nat) : Bool := decide (∀ j, j < n → 1 ≤ j → mo m (nI j) = mo m 0)
def sp_X0_oneMind : em_Sp := fun av hp Q => ∃ mm n, av = [.ref 0, .int (nI n)] ∧ hp = wC2 mm ∧ n ≤ 6 ∧ Q (some (.int (oI (ffd (fun t => alB (mm t) n) 201 201)))) hp
def T_X0_oneMind : List (Nat × em_Op) := [(0, o_iconst 0 1), (1, o_istore 2 2), (2, o_iload 2 3), (3, o_iconst 200 6), (6, o_icmpgt 30 9), (9, o_aload 0 10), (10, o_getf 0 0 13), (13, o_iload 2 14), (14, o_aldL 1 15), (15, o_iload 1 16), (16, o_call 2 none (sp_X5_alike) 19), (19, o_ifeq 24 22), (22, o_iload 2 23), (23, o_iret), (24, o_iinc 2 1 27), (27, o_goto 2), (30, o_iconst (-1) 31), (31, o_iret)]
theorem me_X0_oneMind : em_Me T_X0_oneMind 3 sp_X0_oneMind := by
  intro Q K hK hle av hp hs
  obtain ⟨mm, n, rfl, rfl, hn, hq⟩ := hs
  refine ⟨Nat.le_of_ble_eq_true rfl, ?_⟩
  obtain ⟨V, hV⟩ : ∃ V, V = ffd (fun t => alB (mm t) n) 201 201 := ⟨_, rfl⟩
  rw [← hV] at hq
  have loop : ∀ (r : Nat), r ≤ 201 → V = ffd (fun t => alB (mm t) n) 201 r → K 2 [some (.ref 0), some (.int (nI n)), some (.int (nI (201 - r)))] [] (wC2 mm) := by
    intro r
    induction r with
    | zero =>
      intro hr hv
      rw [hv] at hq
      refine hK 2 9999 2 _ _ _ ?_
      exact ⟨fun _ => hq, fun z => absurd (nI_lt (a := 200) (b := 201) (by omega) (by omega)) z⟩
    | succ r ih =>
      intro hr hv
      rw [ffd] at hv
      refine hK 2 9999 2 _ _ _ ?_
      refine ⟨fun z => absurd z (nI_nlt (a := 200) (b := 201 - (r + 1)) (by omega) (by omega)), fun _ => ?_⟩
      refine ⟨201 - (r + 1), rfl, by omega, ?_⟩
      refine ⟨_, n, rfl, by omega, fun z => ?_, fun z => ?_⟩
      · refine ⟨fun y => absurd y (by decide), fun _ => ?_⟩
        rw [if_pos (show alB (mm (201 - (r + 1))) n = true from decide_eq_true (fun j a b => z j b a))] at hv
        rw [hv] at hq
        exact hq
      · refine ⟨fun _ => ?_, fun y => absurd y (by decide)⟩
        rw [if_neg (by
          intro y
          have y := of_decide_eq_true y
          obtain ⟨j, a, b, d⟩ := z
          exact d (y j b a))] at hv
        have := ih (by omega) hv
        rw [show 201 - r = (201 - (r + 1)) + 1 by omega, ← nI_1] at this
        exact this
  exact hK 0 2 0 _ _ _ (loop 201 (Nat.le_refl _) hV)
abbrev rm_X0_oneMind : Room := { frames := 2, cells := 0, slots := 0, locals := 45 }
set_option maxRecDepth 100000 in
set_option maxHeartbeats 4000000 in
theorem ct_X0_oneMind (l : Launch) (D : va_G) (dA : Nat → ClassId) (σ : Nat → Nat) : em_CT l D em_cl dA σ (em_F σ) y_X0_oneMind c_X0_oneMind 3 (Option.some ClassFile.FieldType.int) rm_X0_oneMind (sp_X0_oneMind ) := by
  refine em_CT_of (T := T_X0_oneMind ) (em_F_ok σ) (by decide) (fun p e s m args below meth c A ρ Q C hFok hF hret hlk hin => ?_) (me_X0_oneMind )
  unfold T_X0_oneMind
  refine List.forall_mem_cons.mpr ⟨s_iconst C (by decide +kernel : decode c_X0_oneMind 0 = .ok (.iconst 0, 1)) rfl rfl (by decide), ?_⟩
  refine List.forall_mem_cons.mpr ⟨s_istore_n C (by decide +kernel : decode c_X0_oneMind 1 = .ok (.istore_n 2, 1)) rfl rfl rfl (by decide), ?_⟩
  refine List.forall_mem_cons.mpr ⟨s_iload_n C (by decide +kernel : decode c_X0_oneMind 2 = .ok (.iload_n 2, 1)) rfl rfl rfl, ?_⟩
  refine List.forall_mem_cons.mpr ⟨s_sipush C (by decide +kernel : decode c_X0_oneMind 3 = .ok (.sipush 200, 3)) rfl rfl (by decide), ?_⟩
  refine List.forall_mem_cons.mpr ⟨s_icmpgt C (by decide +kernel : decode c_X0_oneMind 6 = .ok (.if_icmp .gt 24, 3)) (by decide) rfl rfl rfl, ?_⟩
  refine List.forall_mem_cons.mpr ⟨s_aload_n C (by decide +kernel : decode c_X0_oneMind 9 = .ok (.aload_n 0, 1)) rfl rfl rfl, ?_⟩
  refine List.forall_mem_cons.mpr ⟨s_getf C (by decide +kernel : decode c_X0_oneMind 10 = .ok (.getfield 9, 3)) rfl rfl em_cl_X0 (by decide) ew54 rfl, ?_⟩
  refine List.forall_mem_cons.mpr ⟨s_iload_n C (by decide +kernel : decode c_X0_oneMind 13 = .ok (.iload_n 2, 1)) rfl rfl rfl, ?_⟩
  refine List.forall_mem_cons.mpr ⟨s_lald C (by decide +kernel : decode c_X0_oneMind 14 = .ok (.laload, 1)) rfl rfl, ?_⟩
  refine List.forall_mem_cons.mpr ⟨s_iload_n C (by decide +kernel : decode c_X0_oneMind 15 = .ok (.iload_n 1, 1)) rfl rfl rfl, ?_⟩
  refine List.forall_mem_cons.mpr ⟨s_callS C hFok hF (ct_X5_alike l D dA σ) ⟨rfl, rfl⟩ ew517 ew515 ew516 ew8 ⟨by decide, by decide, by decide +kernel⟩ ⟨by decide, by decide⟩ (by decide +kernel : decode c_X0_oneMind 16 = .ok (.invokestatic 32, 3)) rfl rfl ⟨Nat.zero_le _, Nat.zero_le _⟩, ?_⟩
  refine List.forall_mem_cons.mpr ⟨s_ifeq C (by decide +kernel : decode c_X0_oneMind 19 = .ok (.ifCond .eq 5, 3)) (by decide) rfl rfl rfl, ?_⟩
  refine List.forall_mem_cons.mpr ⟨s_iload_n C (by decide +kernel : decode c_X0_oneMind 22 = .ok (.iload_n 2, 1)) rfl rfl rfl, ?_⟩
  refine List.forall_mem_cons.mpr ⟨s_iret C (by decide +kernel : decode c_X0_oneMind 23 = .ok (.ireturn, 1)) hret hlk ⟨Nat.le_refl 0, Nat.le_refl 0⟩, ?_⟩
  refine List.forall_mem_cons.mpr ⟨s_iinc C (by decide +kernel : decode c_X0_oneMind 24 = .ok (.iinc 2 1, 3)) rfl rfl (by decide) (by decide), ?_⟩
  refine List.forall_mem_cons.mpr ⟨s_goto C (by decide +kernel : decode c_X0_oneMind 27 = .ok (.goto (-25), 3)) (by decide) rfl, ?_⟩
  refine List.forall_mem_cons.mpr ⟨s_iconst C (by decide +kernel : decode c_X0_oneMind 30 = .ok (.iconst (-1), 1)) rfl rfl (by decide), ?_⟩
  refine List.forall_mem_cons.mpr ⟨s_iret C (by decide +kernel : decode c_X0_oneMind 31 = .ok (.ireturn, 1)) hret hlk ⟨Nat.le_refl 0, Nat.le_refl 0⟩, ?_⟩
  exact fun _ h => absurd h List.not_mem_nil
def lpI (P : Nat → Nat → Bool) (a : Nat) (acc : Int64) : Nat → Int64
  | 0 => acc
  | k + 1 => if P a (a + 1 + k) = true then lpI P a acc k ||| bitL (nI a) (nI (a + 1 + k)) else lpI P a acc k
def lpO (P : Nat → Nat → Bool) (n : Nat) : Nat → Int64
  | 0 => 0
  | a + 1 => lpI P a (lpO P n a) (n - (a + 1))
def ltB (we lea mst : Int32) (mm : Nat → Int64) (k a b : Nat) : Bool := match ffd (fun t => !mwB we lea mst (mm t) a b) 201 201 with
  | none => true
  | some e => decide (k < e)
theorem ffd_lt {P : Nat → Bool} {N : Nat} : ∀ r d, r ≤ N → ffd P N r = some d → d < N
  | 0, d, _, h => by cases h
  | r + 1, d, hr, h => by
    rw [ffd] at h
    split at h
    · cases h; omega
    · exact ffd_lt r d (by omega) h
theorem nI_m1 {n : Nat} (h : n < 2 ^ 31) : ¬ nI n = -1 := by
  intro q
  have : (nI n).toInt = ((-1 : Int32)).toInt := by rw [q]
  rw [nI_toInt h] at this
  have h2 : ((-1 : Int32)).toInt = -1 := by decide
  omega
def sp_X0_lastingPairs : em_Sp := fun av hp Q => ∃ mm pe ki mi se we lea mst pa fi sd ev un ma ea co ca clt k n, av = [.ref 0, .ref 2, .int (nI k)] ∧ hp = (wC mm pe ki mi se we lea mst pa fi sd ev un ma ea co ca clt) ∧ pe = nI n ∧ n ≤ 6 ∧ k ≤ 40 ∧ Q (some (.long (lpO (ltB we lea mst mm k) n n))) hp
def T_X0_lastingPairs : List (Nat × em_Op) := [(0, o_lconst 0 1), (1, o_lstore 3 2), (2, o_iconst 0 3), (3, o_istore 5 5), (5, o_iload 5 7), (7, o_aload 1 8), (8, o_getf 2 0 11), (11, o_icmpge 74 14), (14, o_iload 5 16), (16, o_iconst 1 17), (17, o_iadd 18), (18, o_istore 6 20), (20, o_iload 6 22), (22, o_aload 1 23), (23, o_getf 2 0 26), (26, o_icmpge 68 29), (29, o_aload 0 30), (30, o_aload 1 31), (31, o_iload 5 33), (33, o_iload 6 35), (35, o_call 4 (some 0) (sp_X0_parted) 38), (38, o_istore 7 40), (40, o_iload 7 42), (42, o_iconst (-1) 43), (43, o_icmpeq 52 46), (46, o_iload 7 48), (48, o_iload 2 49), (49, o_icmple 62 52), (52, o_lload 3 53), (53, o_iload 5 55), (55, o_iload 6 57), (57, o_call 2 none (sp_X4_bit) 60), (60, o_lor 61), (61, o_lstore 3 62), (62, o_iinc 6 1 65), (65, o_goto 20), (68, o_iinc 5 1 71), (71, o_goto 5), (74, o_lload 3 75), (75, o_lret)]
theorem me_X0_lastingPairs : em_Me T_X0_lastingPairs 8 sp_X0_lastingPairs := by
  intro Q K hK hle av hp hs
  obtain ⟨mm, pe, ki, mi, se, we, lea, mst, pa, fi, sd, ev, un, ma, ea, co, ca, clt, k, n, rfl, rfl, rfl, hn, hk, hq⟩ := hs
  refine ⟨Nat.le_of_ble_eq_true rfl, ?_⟩
  generalize hP : ltB we lea mst mm k = P at hq
  have inner : ∀ (a : Nat) (acc : Int64), a < n → K 5 [some (.ref 0), some (.ref 2), some (.int (nI k)), some (.long (lpI P a acc (n - (a + 1)))), none, some (.int (nI (a + 1))), none, none] [] (wC mm (nI n) ki mi se we lea mst pa fi sd ev un ma ea co ca clt) → ∀ (r j : Nat), j + r = n - (a + 1) → K 20 [some (.ref 0), some (.ref 2), some (.int (nI k)), some (.long (lpI P a acc j)), none, some (.int (nI a)), some (.int (nI (a + 1 + j))), none] [] (wC mm (nI n) ki mi se we lea mst pa fi sd ev un ma ea co ca clt) := by
    intro a acc ha hend r
    induction r with
    | zero =>
      intro j hj
      have hj : j = n - (a + 1) := by omega
      subst hj
      refine hK 12 9999 20 _ _ _ ?_
      refine ⟨fun _ => ?_, fun z => absurd (nI_le (a := n) (b := a + 1 + (n - (a + 1))) (by omega) (by omega)) z⟩
      rw [← nI_1] at hend
      exact hle _ _ _ _ _ (by repeat (first | exact trivial | refine ⟨rfl, ?_⟩)) hend
    | succ r ih =>
      intro j hj
      have next : ∀ v x, v = lpI P a acc (j + 1) → K 62 [some (.ref 0), some (.ref 2), some (.int (nI k)), some (.long v), none, some (.int (nI a)), some (.int (nI (a + 1 + j))), x] [] (wC mm (nI n) ki mi se we lea mst pa fi sd ev un ma ea co ca clt) := by
        intro v x hv
        subst hv
        have := ih (j + 1) (by omega)
        rw [show a + 1 + (j + 1) = (a + 1 + j) + 1 by omega, ← nI_1 (a + 1 + j)] at this
        exact hK 34 2 62 _ _ _ (hle _ _ _ _ _ (by repeat (first | exact trivial | refine ⟨rfl, ?_⟩)) this)
      refine hK 12 22 20 _ _ _ ?_
      refine ⟨fun z => absurd z (nI_ge (a := a + 1 + j) (b := n) (by omega) (by omega)), fun _ => ?_⟩
      refine ⟨mm, _, _, _, _, _, _, _, _, _, _, _, _, _, _, _, _, _, a, a + 1 + j, rfl, rfl, ?_⟩
      have ep : P a (a + 1 + j) = ltB we lea mst mm k a (a + 1 + j) := by rw [← hP]
      cases hf : ffd (fun t => !mwB we lea mst (mm t) a (a + 1 + j)) 201 201 with
      | none =>
        have e2 : P a (a + 1 + j) = true := by rw [ep, ltB, hf]
        refine ⟨fun _ => ⟨_, _, rfl, ?_⟩, fun z => absurd rfl z⟩
        exact next _ _ (by rw [lpI, if_pos e2])
      | some d =>
        have hd := ffd_lt 201 d (Nat.le_refl _) hf
        have e2 : P a (a + 1 + j) = decide (k < d) := by rw [ep, ltB, hf]
        refine ⟨fun z => absurd z (nI_m1 (by omega)), fun _ => ⟨fun z => ?_, fun z => ⟨_, _, rfl, ?_⟩⟩⟩
        · have hz := (nI_leI (by omega) (by omega)).mp z
          exact next _ _ (by rw [lpI, if_neg (by rw [e2, decide_eq_true_eq]; omega)])
        · have hz : k < d := by
            rcases Nat.lt_or_ge k d with q | q
            · exact q
            · exact absurd (nI_le q (by omega)) z
          exact next _ _ (by rw [lpI, if_pos (by rw [e2, decide_eq_true_eq]; exact hz)])
  have outer : ∀ (r a : Nat), a + r = n → K 5 [some (.ref 0), some (.ref 2), some (.int (nI k)), some (.long (lpO P n a)), none, some (.int (nI a)), none, none] [] (wC mm (nI n) ki mi se we lea mst pa fi sd ev un ma ea co ca clt) := by
    intro r
    induction r with
    | zero =>
      intro a ha
      have ha : a = n := by omega
      subst ha
      refine hK 4 9999 5 _ _ _ ?_
      exact ⟨fun _ => hq, fun z => absurd (nI_le (Nat.le_refl a) (by omega)) z⟩
    | succ r ih =>
      intro a ha
      refine hK 4 8 5 _ _ _ ?_
      refine ⟨fun z => absurd z (nI_ge (by omega) (by omega)), fun _ => ?_⟩
      have := inner a (lpO P n a) (by omega) (ih (a + 1) (by omega)) (n - (a + 1)) 0 (by omega)
      rw [Nat.add_zero, ← nI_1] at this
      exact hle _ _ _ _ _ (by repeat (first | exact trivial | refine ⟨rfl, ?_⟩)) this
  exact hK 0 4 0 _ _ _ (outer n 0 (by omega))
abbrev rm_X0_lastingPairs : Room := { frames := 4, cells := 0, slots := 0, locals := 91 }
set_option maxRecDepth 100000 in
set_option maxHeartbeats 4000000 in
theorem ct_X0_lastingPairs (l : Launch) (D : va_G) (dA : Nat → ClassId) (σ : Nat → Nat) : em_CT l D em_cl dA σ (em_F σ) y_X0_lastingPairs c_X0_lastingPairs 8 (Option.some ClassFile.FieldType.long) rm_X0_lastingPairs (sp_X0_lastingPairs ) := by
  refine em_CT_of (T := T_X0_lastingPairs ) (em_F_ok σ) (by decide) (fun p e s m args below meth c A ρ Q C hFok hF hret hlk hin => ?_) (me_X0_lastingPairs )
  unfold T_X0_lastingPairs
  refine List.forall_mem_cons.mpr ⟨s_lconst C (by decide +kernel : decode c_X0_lastingPairs 0 = .ok (.lconst 0, 1)) rfl rfl (by decide), ?_⟩
  refine List.forall_mem_cons.mpr ⟨s_lstore_n C (by decide +kernel : decode c_X0_lastingPairs 1 = .ok (.lstore_n 3, 1)) rfl rfl rfl (by decide), ?_⟩
  refine List.forall_mem_cons.mpr ⟨s_iconst C (by decide +kernel : decode c_X0_lastingPairs 2 = .ok (.iconst 0, 1)) rfl rfl (by decide), ?_⟩
  refine List.forall_mem_cons.mpr ⟨s_istore C (by decide +kernel : decode c_X0_lastingPairs 3 = .ok (.istore 5, 2)) rfl rfl (by decide), ?_⟩
  refine List.forall_mem_cons.mpr ⟨s_iload C (by decide +kernel : decode c_X0_lastingPairs 5 = .ok (.iload 5, 2)) rfl rfl, ?_⟩
  refine List.forall_mem_cons.mpr ⟨s_aload_n C (by decide +kernel : decode c_X0_lastingPairs 7 = .ok (.aload_n 1, 1)) rfl rfl rfl, ?_⟩
  refine List.forall_mem_cons.mpr ⟨s_getf C (by decide +kernel : decode c_X0_lastingPairs 8 = .ok (.getfield 38, 3)) rfl rfl em_cl_X7 (by decide) ew87 rfl, ?_⟩
  refine List.forall_mem_cons.mpr ⟨s_icmpge C (by decide +kernel : decode c_X0_lastingPairs 11 = .ok (.if_icmp .ge 63, 3)) (by decide) rfl rfl rfl, ?_⟩
  refine List.forall_mem_cons.mpr ⟨s_iload C (by decide +kernel : decode c_X0_lastingPairs 14 = .ok (.iload 5, 2)) rfl rfl, ?_⟩
  refine List.forall_mem_cons.mpr ⟨s_iconst C (by decide +kernel : decode c_X0_lastingPairs 16 = .ok (.iconst 1, 1)) rfl rfl (by decide), ?_⟩
  refine List.forall_mem_cons.mpr ⟨s_iadd C (by decide +kernel : decode c_X0_lastingPairs 17 = .ok (.iadd, 1)) rfl rfl, ?_⟩
  refine List.forall_mem_cons.mpr ⟨s_istore C (by decide +kernel : decode c_X0_lastingPairs 18 = .ok (.istore 6, 2)) rfl rfl (by decide), ?_⟩
  refine List.forall_mem_cons.mpr ⟨s_iload C (by decide +kernel : decode c_X0_lastingPairs 20 = .ok (.iload 6, 2)) rfl rfl, ?_⟩
  refine List.forall_mem_cons.mpr ⟨s_aload_n C (by decide +kernel : decode c_X0_lastingPairs 22 = .ok (.aload_n 1, 1)) rfl rfl rfl, ?_⟩
  refine List.forall_mem_cons.mpr ⟨s_getf C (by decide +kernel : decode c_X0_lastingPairs 23 = .ok (.getfield 38, 3)) rfl rfl em_cl_X7 (by decide) ew87 rfl, ?_⟩
  refine List.forall_mem_cons.mpr ⟨s_icmpge C (by decide +kernel : decode c_X0_lastingPairs 26 = .ok (.if_icmp .ge 42, 3)) (by decide) rfl rfl rfl, ?_⟩
  refine List.forall_mem_cons.mpr ⟨s_aload_n C (by decide +kernel : decode c_X0_lastingPairs 29 = .ok (.aload_n 0, 1)) rfl rfl rfl, ?_⟩
  refine List.forall_mem_cons.mpr ⟨s_aload_n C (by decide +kernel : decode c_X0_lastingPairs 30 = .ok (.aload_n 1, 1)) rfl rfl rfl, ?_⟩
  refine List.forall_mem_cons.mpr ⟨s_iload C (by decide +kernel : decode c_X0_lastingPairs 31 = .ok (.iload 5, 2)) rfl rfl, ?_⟩
  refine List.forall_mem_cons.mpr ⟨s_iload C (by decide +kernel : decode c_X0_lastingPairs 33 = .ok (.iload 6, 2)) rfl rfl, ?_⟩
  refine List.forall_mem_cons.mpr ⟨s_callV C hFok hF (ct_X0_parted l D dA σ) ⟨rfl, rfl⟩ ew494 em_cl_X0 ew531 ew492 ew493 ew3 ⟨by decide, by decide, by decide +kernel⟩ ⟨by decide, by decide⟩ (by decide +kernel : decode c_X0_lastingPairs 35 = .ok (.invokevirtual 41, 3)) rfl rfl ⟨Nat.zero_le _, Nat.zero_le _⟩, ?_⟩
  refine List.forall_mem_cons.mpr ⟨s_istore C (by decide +kernel : decode c_X0_lastingPairs 38 = .ok (.istore 7, 2)) rfl rfl (by decide), ?_⟩
  refine List.forall_mem_cons.mpr ⟨s_iload C (by decide +kernel : decode c_X0_lastingPairs 40 = .ok (.iload 7, 2)) rfl rfl, ?_⟩
  refine List.forall_mem_cons.mpr ⟨s_iconst C (by decide +kernel : decode c_X0_lastingPairs 42 = .ok (.iconst (-1), 1)) rfl rfl (by decide), ?_⟩
  refine List.forall_mem_cons.mpr ⟨s_icmpeq C (by decide +kernel : decode c_X0_lastingPairs 43 = .ok (.if_icmp .eq 9, 3)) (by decide) rfl rfl rfl, ?_⟩
  refine List.forall_mem_cons.mpr ⟨s_iload C (by decide +kernel : decode c_X0_lastingPairs 46 = .ok (.iload 7, 2)) rfl rfl, ?_⟩
  refine List.forall_mem_cons.mpr ⟨s_iload_n C (by decide +kernel : decode c_X0_lastingPairs 48 = .ok (.iload_n 2, 1)) rfl rfl rfl, ?_⟩
  refine List.forall_mem_cons.mpr ⟨s_icmple C (by decide +kernel : decode c_X0_lastingPairs 49 = .ok (.if_icmp .le 13, 3)) (by decide) rfl rfl rfl, ?_⟩
  refine List.forall_mem_cons.mpr ⟨s_lload_n C (by decide +kernel : decode c_X0_lastingPairs 52 = .ok (.lload_n 3, 1)) rfl rfl rfl, ?_⟩
  refine List.forall_mem_cons.mpr ⟨s_iload C (by decide +kernel : decode c_X0_lastingPairs 53 = .ok (.iload 5, 2)) rfl rfl, ?_⟩
  refine List.forall_mem_cons.mpr ⟨s_iload C (by decide +kernel : decode c_X0_lastingPairs 55 = .ok (.iload 6, 2)) rfl rfl, ?_⟩
  refine List.forall_mem_cons.mpr ⟨s_callS C hFok hF (ct_X4_bit l D dA σ) ⟨rfl, rfl⟩ ew534 ew532 ew533 ew16 ⟨by decide, by decide, by decide +kernel⟩ ⟨by decide, by decide⟩ (by decide +kernel : decode c_X0_lastingPairs 57 = .ok (.invokestatic 45, 3)) rfl rfl ⟨Nat.zero_le _, Nat.zero_le _⟩, ?_⟩
  refine List.forall_mem_cons.mpr ⟨s_lor C (by decide +kernel : decode c_X0_lastingPairs 60 = .ok (.lor, 1)) rfl rfl, ?_⟩
  refine List.forall_mem_cons.mpr ⟨s_lstore_n C (by decide +kernel : decode c_X0_lastingPairs 61 = .ok (.lstore_n 3, 1)) rfl rfl rfl (by decide), ?_⟩
  refine List.forall_mem_cons.mpr ⟨s_iinc C (by decide +kernel : decode c_X0_lastingPairs 62 = .ok (.iinc 6 1, 3)) rfl rfl (by decide) (by decide), ?_⟩
  refine List.forall_mem_cons.mpr ⟨s_goto C (by decide +kernel : decode c_X0_lastingPairs 65 = .ok (.goto (-45), 3)) (by decide) rfl, ?_⟩
  refine List.forall_mem_cons.mpr ⟨s_iinc C (by decide +kernel : decode c_X0_lastingPairs 68 = .ok (.iinc 5 1, 3)) rfl rfl (by decide) (by decide), ?_⟩
  refine List.forall_mem_cons.mpr ⟨s_goto C (by decide +kernel : decode c_X0_lastingPairs 71 = .ok (.goto (-66), 3)) (by decide) rfl, ?_⟩
  refine List.forall_mem_cons.mpr ⟨s_lload_n C (by decide +kernel : decode c_X0_lastingPairs 74 = .ok (.lload_n 3, 1)) rfl rfl rfl, ?_⟩
  refine List.forall_mem_cons.mpr ⟨s_lret C (by decide +kernel : decode c_X0_lastingPairs 75 = .ok (.lreturn, 1)) hret hlk ⟨Nat.le_refl 0, Nat.le_refl 0⟩, ?_⟩
  exact fun _ h => absurd h List.not_mem_nil
/-! ===== Fraction ===== -/
def wF (ab be : Int32) : em_H := [.inr (1, [.int ab, .int be])]
def hvN (c h : Nat) : Nat → Nat × Nat
  | 0 => (c, 2 ^ h)
  | i + 1 => if (hvN c h i).1 % 2 = 0 then ((hvN c h i).1 / 2, (hvN c h i).2 / 2) else hvN c h i
theorem shl1 : ∀ h, h < 11 → (1 : Int32) <<< (nI h &&& 31) = nI (2 ^ h) := by decide
theorem hvN_le {c h : Nat} (hc : c ≤ 1024) (hh : h ≤ 10) : ∀ i, (hvN c h i).1 ≤ 1024 ∧ (hvN c h i).2 ≤ 1024
  | 0 => ⟨hc, by rw [hvN]; exact Nat.pow_le_pow_right (n := 2) (by omega) hh⟩
  | i + 1 => by
    have := hvN_le hc hh i
    rw [hvN]
    split
    · exact ⟨Nat.le_trans (Nat.div_le_self _ _) this.1, Nat.le_trans (Nat.div_le_self _ _) this.2⟩
    · exact this
def sp_X2_becomeHalves : em_Sp := fun av hp Q => ∃ ab be c h, av = [.ref 0, .int (nI c), .int (nI h)] ∧ hp = wF ab be ∧ c ≤ 1024 ∧ h ≤ 10 ∧ Q none (wF (nI (hvN c h h).1) (nI (hvN c h h).2))
def T_X2_becomeHalves : List (Nat × em_Op) := [(0, o_aload 0 1), (1, o_iload 1 2), (2, o_putI 1 0 5), (5, o_aload 0 6), (6, o_iconst 1 7), (7, o_iload 2 8), (8, o_ishl 9), (9, o_putI 1 1 12), (12, o_iconst 0 13), (13, o_istore 3 14), (14, o_iload 3 15), (15, o_iload 2 16), (16, o_icmpge 54 19), (19, o_aload 0 20), (20, o_getf 1 0 23), (23, o_iconst 2 24), (24, o_irem 25), (25, o_ifne 48 28), (28, o_aload 0 29), (29, o_dup 30), (30, o_getf 1 0 33), (33, o_iconst 2 34), (34, o_idiv 35), (35, o_putI 1 0 38), (38, o_aload 0 39), (39, o_dup 40), (40, o_getf 1 1 43), (43, o_iconst 2 44), (44, o_idiv 45), (45, o_putI 1 1 48), (48, o_iinc 3 1 51), (51, o_goto 14), (54, o_vret)]
theorem me_X2_becomeHalves : em_Me T_X2_becomeHalves 4 sp_X2_becomeHalves := by
  intro Q K hK hle av hp hs
  obtain ⟨ab, be, c, h, rfl, rfl, hc, hh, hq⟩ := hs
  refine ⟨Nat.le_of_ble_eq_true rfl, ?_⟩
  have loop : ∀ (r i : Nat), i + r = h → K 14 [some (.ref 0), some (.int (nI c)), some (.int (nI h)), some (.int (nI i))] [] (wF (nI (hvN c h i).1) (nI (hvN c h i).2)) := by
    intro r
    induction r with
    | zero =>
      intro i hi
      have hi : i = h := by omega
      subst hi
      refine hK 10 9999 14 _ _ _ ?_
      exact ⟨fun _ => hq, fun z => absurd (nI_le (Nat.le_refl i) (by omega)) z⟩
    | succ r ih =>
      intro i hi
      obtain ⟨b1, b2⟩ := hvN_le hc hh i
      have hm := Nat.mod_lt (hvN c h i).1 (show 2 > 0 by omega)
      have := ih (i + 1) (by omega)
      rw [← nI_1] at this
      refine hK 10 9999 14 _ _ _ ?_
      refine ⟨fun z => absurd z (nI_ge (by omega) (by omega)), fun _ => ?_⟩
      refine ⟨by decide, ?_⟩
      have em : nI (hvN c h i).1 - nI (hvN c h i).1 / 2 * 2 = nI ((hvN c h i).1 % 2) := pk_rem (d := 2) (by omega) (by omega) (by omega)
      rw [em]
      refine ⟨fun z => ?_, fun z => ?_⟩
      · have hz : ¬ (hvN c h i).1 % 2 = 0 := fun y => z (by rw [y]; rfl)
        rw [hvN, if_neg hz] at this
        exact this
      · have hz : (hvN c h i).1 % 2 = 0 := (nI_eq (b := 0) (by omega) (by omega)).mp z
        rw [hvN, if_pos hz] at this
        have d1 : nI (hvN c h i).1 / 2 = nI ((hvN c h i).1 / 2) := pk_div (d := 2) (by omega) (by omega) (by omega)
        have d2 : nI (hvN c h i).2 / 2 = nI ((hvN c h i).2 / 2) := pk_div (d := 2) (by omega) (by omega) (by omega)
        rw [← d1, ← d2] at this
        exact ⟨by decide, by decide, this⟩
  have := loop h 0 (by omega)
  rw [hvN, ← shl1 h (by omega)] at this
  exact hK 0 10 0 _ _ _ this
abbrev rm_X2_becomeHalves : Room := { frames := 0, cells := 0, slots := 0, locals := 0 }
set_option maxRecDepth 100000 in
set_option maxHeartbeats 4000000 in
theorem ct_X2_becomeHalves (l : Launch) (D : va_G) (dA : Nat → ClassId) (σ : Nat → Nat) : em_CT l D em_cl dA σ (em_F σ) y_X2_becomeHalves c_X2_becomeHalves 4 (Option.none : Option ClassFile.FieldType) rm_X2_becomeHalves (sp_X2_becomeHalves ) := by
  refine em_CT_of (T := T_X2_becomeHalves ) (em_F_ok σ) (by decide) (fun p e s m args below meth c A ρ Q C hFok hF hret hlk hin => ?_) (me_X2_becomeHalves )
  unfold T_X2_becomeHalves
  refine List.forall_mem_cons.mpr ⟨s_aload_n C (by decide +kernel : decode c_X2_becomeHalves 0 = .ok (.aload_n 0, 1)) rfl rfl rfl, ?_⟩
  refine List.forall_mem_cons.mpr ⟨s_iload_n C (by decide +kernel : decode c_X2_becomeHalves 1 = .ok (.iload_n 1, 1)) rfl rfl rfl, ?_⟩
  refine List.forall_mem_cons.mpr ⟨s_putI C (by decide +kernel : decode c_X2_becomeHalves 2 = .ok (.putfield 7, 3)) rfl rfl em_cl_X2 (by decide) ew65 rfl (by decide) (by decide +kernel), ?_⟩
  refine List.forall_mem_cons.mpr ⟨s_aload_n C (by decide +kernel : decode c_X2_becomeHalves 5 = .ok (.aload_n 0, 1)) rfl rfl rfl, ?_⟩
  refine List.forall_mem_cons.mpr ⟨s_iconst C (by decide +kernel : decode c_X2_becomeHalves 6 = .ok (.iconst 1, 1)) rfl rfl (by decide), ?_⟩
  refine List.forall_mem_cons.mpr ⟨s_iload_n C (by decide +kernel : decode c_X2_becomeHalves 7 = .ok (.iload_n 2, 1)) rfl rfl rfl, ?_⟩
  refine List.forall_mem_cons.mpr ⟨s_ishl C (by decide +kernel : decode c_X2_becomeHalves 8 = .ok (.ishl, 1)) rfl rfl, ?_⟩
  refine List.forall_mem_cons.mpr ⟨s_putI C (by decide +kernel : decode c_X2_becomeHalves 9 = .ok (.putfield 13, 3)) rfl rfl em_cl_X2 (by decide) ew67 rfl (by decide) (by decide +kernel), ?_⟩
  refine List.forall_mem_cons.mpr ⟨s_iconst C (by decide +kernel : decode c_X2_becomeHalves 12 = .ok (.iconst 0, 1)) rfl rfl (by decide), ?_⟩
  refine List.forall_mem_cons.mpr ⟨s_istore_n C (by decide +kernel : decode c_X2_becomeHalves 13 = .ok (.istore_n 3, 1)) rfl rfl rfl (by decide), ?_⟩
  refine List.forall_mem_cons.mpr ⟨s_iload_n C (by decide +kernel : decode c_X2_becomeHalves 14 = .ok (.iload_n 3, 1)) rfl rfl rfl, ?_⟩
  refine List.forall_mem_cons.mpr ⟨s_iload_n C (by decide +kernel : decode c_X2_becomeHalves 15 = .ok (.iload_n 2, 1)) rfl rfl rfl, ?_⟩
  refine List.forall_mem_cons.mpr ⟨s_icmpge C (by decide +kernel : decode c_X2_becomeHalves 16 = .ok (.if_icmp .ge 38, 3)) (by decide) rfl rfl rfl, ?_⟩
  refine List.forall_mem_cons.mpr ⟨s_aload_n C (by decide +kernel : decode c_X2_becomeHalves 19 = .ok (.aload_n 0, 1)) rfl rfl rfl, ?_⟩
  refine List.forall_mem_cons.mpr ⟨s_getf C (by decide +kernel : decode c_X2_becomeHalves 20 = .ok (.getfield 7, 3)) rfl rfl em_cl_X2 (by decide) ew65 rfl, ?_⟩
  refine List.forall_mem_cons.mpr ⟨s_iconst C (by decide +kernel : decode c_X2_becomeHalves 23 = .ok (.iconst 2, 1)) rfl rfl (by decide), ?_⟩
  refine List.forall_mem_cons.mpr ⟨s_irem C (by decide +kernel : decode c_X2_becomeHalves 24 = .ok (.irem, 1)) rfl rfl, ?_⟩
  refine List.forall_mem_cons.mpr ⟨s_ifne C (by decide +kernel : decode c_X2_becomeHalves 25 = .ok (.ifCond .ne 23, 3)) (by decide) rfl rfl rfl, ?_⟩
  refine List.forall_mem_cons.mpr ⟨s_aload_n C (by decide +kernel : decode c_X2_becomeHalves 28 = .ok (.aload_n 0, 1)) rfl rfl rfl, ?_⟩
  refine List.forall_mem_cons.mpr ⟨s_dup C (by decide +kernel : decode c_X2_becomeHalves 29 = .ok (.dup, 1)) rfl rfl, ?_⟩
  refine List.forall_mem_cons.mpr ⟨s_getf C (by decide +kernel : decode c_X2_becomeHalves 30 = .ok (.getfield 7, 3)) rfl rfl em_cl_X2 (by decide) ew65 rfl, ?_⟩
  refine List.forall_mem_cons.mpr ⟨s_iconst C (by decide +kernel : decode c_X2_becomeHalves 33 = .ok (.iconst 2, 1)) rfl rfl (by decide), ?_⟩
  refine List.forall_mem_cons.mpr ⟨s_idiv C (by decide +kernel : decode c_X2_becomeHalves 34 = .ok (.idiv, 1)) rfl rfl, ?_⟩
  refine List.forall_mem_cons.mpr ⟨s_putI C (by decide +kernel : decode c_X2_becomeHalves 35 = .ok (.putfield 7, 3)) rfl rfl em_cl_X2 (by decide) ew65 rfl (by decide) (by decide +kernel), ?_⟩
  refine List.forall_mem_cons.mpr ⟨s_aload_n C (by decide +kernel : decode c_X2_becomeHalves 38 = .ok (.aload_n 0, 1)) rfl rfl rfl, ?_⟩
  refine List.forall_mem_cons.mpr ⟨s_dup C (by decide +kernel : decode c_X2_becomeHalves 39 = .ok (.dup, 1)) rfl rfl, ?_⟩
  refine List.forall_mem_cons.mpr ⟨s_getf C (by decide +kernel : decode c_X2_becomeHalves 40 = .ok (.getfield 13, 3)) rfl rfl em_cl_X2 (by decide) ew67 rfl, ?_⟩
  refine List.forall_mem_cons.mpr ⟨s_iconst C (by decide +kernel : decode c_X2_becomeHalves 43 = .ok (.iconst 2, 1)) rfl rfl (by decide), ?_⟩
  refine List.forall_mem_cons.mpr ⟨s_idiv C (by decide +kernel : decode c_X2_becomeHalves 44 = .ok (.idiv, 1)) rfl rfl, ?_⟩
  refine List.forall_mem_cons.mpr ⟨s_putI C (by decide +kernel : decode c_X2_becomeHalves 45 = .ok (.putfield 13, 3)) rfl rfl em_cl_X2 (by decide) ew67 rfl (by decide) (by decide +kernel), ?_⟩
  refine List.forall_mem_cons.mpr ⟨s_iinc C (by decide +kernel : decode c_X2_becomeHalves 48 = .ok (.iinc 3 1, 3)) rfl rfl (by decide) (by decide), ?_⟩
  refine List.forall_mem_cons.mpr ⟨s_goto C (by decide +kernel : decode c_X2_becomeHalves 51 = .ok (.goto (-37), 3)) (by decide) rfl, ?_⟩
  refine List.forall_mem_cons.mpr ⟨s_vret C (by decide +kernel : decode c_X2_becomeHalves 54 = .ok (.return_, 1)) hret hlk ⟨Nat.le_refl 0, Nat.le_refl 0⟩, ?_⟩
  exact fun _ h => absurd h List.not_mem_nil
end
section
/-! ===== WedApart: its world ===== -/
def wX (by9 : Nat → Int32) (tln tst ten : Int32) (mm : Nat → Int64) (fa9 fb9 : Int32) (rf : Nat → Int32) (im : Nat → Option Nat) (pe : Int32) (ki : Nat → Int32) (mi se : Int64) (we lea mst pa : Int32) (fi sd : Nat → Int32) (ev un : Int32) (ma : Nat → Int64) (ea : Nat → Int32) (co : Int32) (ca clt : Nat → Int32) (Y : em_H) : em_H :=
  .inr (4, [.ref 1, .ref 3, .ref 5, .ref 6, .ref 7, .ref 8, .ref 16]) :: .inr (3, [.ref 2, .int tln, .int tst, .int ten]) :: .inl (2, 150, .inl by9) :: .inr (0, [.ref 4]) :: .inl (1, 201, .inr (.inl mm)) :: .inr (1, [.int fa9, .int fb9]) :: .inl (0, 3, .inl rf) :: .inl (4, 2, .inr (.inr (.inr (.inr im)))) ::
  .inr (2, [.int pe, .ref 9, .long mi, .long se, .int we, .int lea, .int mst, .int pa, .ref 10, .ref 11, .int ev, .int un, .ref 12, .ref 13, .int co, .ref 14, .ref 15]) :: .inl (0, 6, .inl ki) :: .inl (0, 8, .inl fi) :: .inl (0, 8, .inl sd) :: .inl (1, 12, .inr (.inl ma)) :: .inl (0, 12, .inl ea) :: .inl (0, 10, .inl ca) :: .inl (3, 10, .inl clt) :: Y
def rfi (a : Int32) : Nat := if a = -3 then 1 else if a = -4 then 2 else 0
def rfu (rf : Nat → Int32) (a : Int32) : Nat → Int32 := upd rf (rfi a) (rf (rfi a) + 1)
def sp_X9_refuse : em_Sp := fun av hp Q => ∃ by9 tln tst ten mm fa9 fb9 rf im pe ki mi se we lea mst pa fi sd ev un ma ea co ca clt Y a, av = [.ref 0, .int a] ∧ hp = (wX by9 tln tst ten mm fa9 fb9 rf im pe ki mi se we lea mst pa fi sd ev un ma ea co ca clt Y) ∧ Q (some (.int a)) (wX by9 tln tst ten mm fa9 fb9 (rfu rf a) im pe ki mi se we lea mst pa fi sd ev un ma ea co ca clt Y)
def T_X9_refuse : List (Nat × em_Op) := [(0, o_iload 1 1), (1, o_iconst (-3) 3), (3, o_icmpne 19 6), (6, o_aload 0 7), (7, o_getf 4 3 10), (10, o_iconst 1 11), (11, o_dup2 12), (12, o_aldI 0 13), (13, o_iconst 1 14), (14, o_iadd 15), (15, o_iast 16), (16, o_goto 48), (19, o_iload 1 20), (20, o_iconst (-4) 22), (22, o_icmpne 38 25), (25, o_aload 0 26), (26, o_getf 4 3 29), (29, o_iconst 2 30), (30, o_dup2 31), (31, o_aldI 0 32), (32, o_iconst 1 33), (33, o_iadd 34), (34, o_iast 35), (35, o_goto 48), (38, o_aload 0 39), (39, o_getf 4 3 42), (42, o_iconst 0 43), (43, o_dup2 44), (44, o_aldI 0 45), (45, o_iconst 1 46), (46, o_iadd 47), (47, o_iast 48), (48, o_iload 1 49), (49, o_iret)]
theorem me_X9_refuse : em_Me T_X9_refuse 2 sp_X9_refuse := by
  intro Q K hK hle av hp hs
  obtain ⟨by9, tln, tst, ten, mm, fa9, fb9, rf, im, pe, ki, mi, se, we, lea, mst, pa, fi, sd, ev, un, ma, ea, co, ca, clt, Y, a, rfl, rfl, hq⟩ := hs
  refine ⟨Nat.le_of_ble_eq_true rfl, hK 0 9999 0 _ _ _ ?_⟩
  rw [rfu, rfi] at hq
  refine ⟨fun h1 => ⟨fun h2 => ?_, fun h2 => ?_⟩, fun h1 => ?_⟩
  · rw [if_neg h1, if_neg h2] at hq
    exact ⟨0, rfl, by decide, 0, rfl, by decide, hq⟩
  · rw [if_neg h1, if_pos h2] at hq
    exact ⟨2, rfl, by decide, 2, rfl, by decide, hq⟩
  · rw [if_pos h1] at hq
    exact ⟨1, rfl, by decide, 1, rfl, by decide, hq⟩
abbrev rm_X9_refuse : Room := { frames := 0, cells := 0, slots := 0, locals := 0 }
set_option maxRecDepth 100000 in
set_option maxHeartbeats 4000000 in
theorem ct_X9_refuse (l : Launch) (D : va_G) (dA : Nat → ClassId) (σ : Nat → Nat) : em_CT l D em_cl dA σ (em_F σ) y_X9_refuse c_X9_refuse 2 (Option.some ClassFile.FieldType.int) rm_X9_refuse (sp_X9_refuse ) := by
  refine em_CT_of (T := T_X9_refuse ) (em_F_ok σ) (by decide) (fun p e s m args below meth c A ρ Q C hFok hF hret hlk hin => ?_) (me_X9_refuse )
  unfold T_X9_refuse
  refine List.forall_mem_cons.mpr ⟨s_iload_n C (by decide +kernel : decode c_X9_refuse 0 = .ok (.iload_n 1, 1)) rfl rfl rfl, ?_⟩
  refine List.forall_mem_cons.mpr ⟨s_bipush C (by decide +kernel : decode c_X9_refuse 1 = .ok (.bipush (-3), 2)) rfl rfl (by decide), ?_⟩
  refine List.forall_mem_cons.mpr ⟨s_icmpne C (by decide +kernel : decode c_X9_refuse 3 = .ok (.if_icmp .ne 16, 3)) (by decide) rfl rfl rfl, ?_⟩
  refine List.forall_mem_cons.mpr ⟨s_aload_n C (by decide +kernel : decode c_X9_refuse 6 = .ok (.aload_n 0, 1)) rfl rfl rfl, ?_⟩
  refine List.forall_mem_cons.mpr ⟨s_getf C (by decide +kernel : decode c_X9_refuse 7 = .ok (.getfield 30, 3)) rfl rfl em_cl_X9 (by decide) ew155 rfl, ?_⟩
  refine List.forall_mem_cons.mpr ⟨s_iconst C (by decide +kernel : decode c_X9_refuse 10 = .ok (.iconst 1, 1)) rfl rfl (by decide), ?_⟩
  refine List.forall_mem_cons.mpr ⟨s_dup2 C (by decide +kernel : decode c_X9_refuse 11 = .ok (.dup2, 1)) rfl rfl, ?_⟩
  refine List.forall_mem_cons.mpr ⟨s_iald C (by decide +kernel : decode c_X9_refuse 12 = .ok (.iaload, 1)) rfl rfl, ?_⟩
  refine List.forall_mem_cons.mpr ⟨s_iconst C (by decide +kernel : decode c_X9_refuse 13 = .ok (.iconst 1, 1)) rfl rfl (by decide), ?_⟩
  refine List.forall_mem_cons.mpr ⟨s_iadd C (by decide +kernel : decode c_X9_refuse 14 = .ok (.iadd, 1)) rfl rfl, ?_⟩
  refine List.forall_mem_cons.mpr ⟨s_iast C (by decide +kernel : decode c_X9_refuse 15 = .ok (.iastore, 1)) rfl rfl, ?_⟩
  refine List.forall_mem_cons.mpr ⟨s_goto C (by decide +kernel : decode c_X9_refuse 16 = .ok (.goto 32, 3)) (by decide) rfl, ?_⟩
  refine List.forall_mem_cons.mpr ⟨s_iload_n C (by decide +kernel : decode c_X9_refuse 19 = .ok (.iload_n 1, 1)) rfl rfl rfl, ?_⟩
  refine List.forall_mem_cons.mpr ⟨s_bipush C (by decide +kernel : decode c_X9_refuse 20 = .ok (.bipush (-4), 2)) rfl rfl (by decide), ?_⟩
  refine List.forall_mem_cons.mpr ⟨s_icmpne C (by decide +kernel : decode c_X9_refuse 22 = .ok (.if_icmp .ne 16, 3)) (by decide) rfl rfl rfl, ?_⟩
  refine List.forall_mem_cons.mpr ⟨s_aload_n C (by decide +kernel : decode c_X9_refuse 25 = .ok (.aload_n 0, 1)) rfl rfl rfl, ?_⟩
  refine List.forall_mem_cons.mpr ⟨s_getf C (by decide +kernel : decode c_X9_refuse 26 = .ok (.getfield 30, 3)) rfl rfl em_cl_X9 (by decide) ew155 rfl, ?_⟩
  refine List.forall_mem_cons.mpr ⟨s_iconst C (by decide +kernel : decode c_X9_refuse 29 = .ok (.iconst 2, 1)) rfl rfl (by decide), ?_⟩
  refine List.forall_mem_cons.mpr ⟨s_dup2 C (by decide +kernel : decode c_X9_refuse 30 = .ok (.dup2, 1)) rfl rfl, ?_⟩
  refine List.forall_mem_cons.mpr ⟨s_iald C (by decide +kernel : decode c_X9_refuse 31 = .ok (.iaload, 1)) rfl rfl, ?_⟩
  refine List.forall_mem_cons.mpr ⟨s_iconst C (by decide +kernel : decode c_X9_refuse 32 = .ok (.iconst 1, 1)) rfl rfl (by decide), ?_⟩
  refine List.forall_mem_cons.mpr ⟨s_iadd C (by decide +kernel : decode c_X9_refuse 33 = .ok (.iadd, 1)) rfl rfl, ?_⟩
  refine List.forall_mem_cons.mpr ⟨s_iast C (by decide +kernel : decode c_X9_refuse 34 = .ok (.iastore, 1)) rfl rfl, ?_⟩
  refine List.forall_mem_cons.mpr ⟨s_goto C (by decide +kernel : decode c_X9_refuse 35 = .ok (.goto 13, 3)) (by decide) rfl, ?_⟩
  refine List.forall_mem_cons.mpr ⟨s_aload_n C (by decide +kernel : decode c_X9_refuse 38 = .ok (.aload_n 0, 1)) rfl rfl rfl, ?_⟩
  refine List.forall_mem_cons.mpr ⟨s_getf C (by decide +kernel : decode c_X9_refuse 39 = .ok (.getfield 30, 3)) rfl rfl em_cl_X9 (by decide) ew155 rfl, ?_⟩
  refine List.forall_mem_cons.mpr ⟨s_iconst C (by decide +kernel : decode c_X9_refuse 42 = .ok (.iconst 0, 1)) rfl rfl (by decide), ?_⟩
  refine List.forall_mem_cons.mpr ⟨s_dup2 C (by decide +kernel : decode c_X9_refuse 43 = .ok (.dup2, 1)) rfl rfl, ?_⟩
  refine List.forall_mem_cons.mpr ⟨s_iald C (by decide +kernel : decode c_X9_refuse 44 = .ok (.iaload, 1)) rfl rfl, ?_⟩
  refine List.forall_mem_cons.mpr ⟨s_iconst C (by decide +kernel : decode c_X9_refuse 45 = .ok (.iconst 1, 1)) rfl rfl (by decide), ?_⟩
  refine List.forall_mem_cons.mpr ⟨s_iadd C (by decide +kernel : decode c_X9_refuse 46 = .ok (.iadd, 1)) rfl rfl, ?_⟩
  refine List.forall_mem_cons.mpr ⟨s_iast C (by decide +kernel : decode c_X9_refuse 47 = .ok (.iastore, 1)) rfl rfl, ?_⟩
  refine List.forall_mem_cons.mpr ⟨s_iload_n C (by decide +kernel : decode c_X9_refuse 48 = .ok (.iload_n 1, 1)) rfl rfl rfl, ?_⟩
  refine List.forall_mem_cons.mpr ⟨s_iret C (by decide +kernel : decode c_X9_refuse 49 = .ok (.ireturn, 1)) hret hlk ⟨Nat.le_refl 0, Nat.le_refl 0⟩, ?_⟩
  exact fun _ h => absurd h List.not_mem_nil
def isbad (a : Int32) : Prop := a = -2 ∨ a = -3 ∨ a = -4
def sp_X9_counted : em_Sp := fun av hp Q => ∃ by9 tln tst ten mm fa9 fb9 rf im pe ki mi se we lea mst pa fi sd ev un ma ea co ca clt Y a, av = [.ref 0, .int a] ∧ hp = (wX by9 tln tst ten mm fa9 fb9 rf im pe ki mi se we lea mst pa fi sd ev un ma ea co ca clt Y) ∧ (isbad a → Q (some (.int a)) (wX by9 tln tst ten mm fa9 fb9 (rfu rf a) im pe ki mi se we lea mst pa fi sd ev un ma ea co ca clt Y)) ∧ (¬ isbad a → Q (some (.int a)) hp)
def T_X9_counted : List (Nat × em_Op) := [(0, o_iload 1 1), (1, o_iconst (-2) 3), (3, o_icmpeq 18 6), (6, o_iload 1 7), (7, o_iconst (-3) 9), (9, o_icmpeq 18 12), (12, o_iload 1 13), (13, o_iconst (-4) 15), (15, o_icmpne 26 18), (18, o_aload 0 19), (19, o_iload 1 20), (20, o_call 2 (some 4) (sp_X9_refuse) 23), (23, o_goto 27), (26, o_iload 1 27), (27, o_iret)]
theorem me_X9_counted : em_Me T_X9_counted 2 sp_X9_counted := by
  intro Q K hK hle av hp hs
  obtain ⟨by9, tln, tst, ten, mm, fa9, fb9, rf, im, pe, ki, mi, se, we, lea, mst, pa, fi, sd, ev, un, ma, ea, co, ca, clt, Y, a, rfl, rfl, h1, h0⟩ := hs
  refine ⟨Nat.le_of_ble_eq_true rfl, hK 0 9999 0 _ _ _ ?_⟩
  refine ⟨fun z => ⟨_, _, _, _, _, _, _, _, _, _, _, _, _, _, _, _, _, _, _, _, _, _, _, _, _, _, _, _, rfl, rfl, h1 (Or.inl z)⟩, fun z => ⟨fun y => ⟨_, _, _, _, _, _, _, _, _, _, _, _, _, _, _, _, _, _, _, _, _, _, _, _, _, _, _, _, rfl, rfl, h1 (Or.inr (Or.inl y))⟩, fun y => ⟨fun x => h0 ?_, fun x => ⟨_, _, _, _, _, _, _, _, _, _, _, _, _, _, _, _, _, _, _, _, _, _, _, _, _, _, _, _, rfl, rfl, h1 (Or.inr (Or.inr x))⟩⟩⟩⟩
  rintro (q | q | q)
  · exact z q
  · exact y q
  · exact x q
abbrev rm_X9_counted : Room := { frames := 1, cells := 0, slots := 0, locals := 21 }
set_option maxRecDepth 100000 in
set_option maxHeartbeats 4000000 in
theorem ct_X9_counted (l : Launch) (D : va_G) (dA : Nat → ClassId) (σ : Nat → Nat) : em_CT l D em_cl dA σ (em_F σ) y_X9_counted c_X9_counted 2 (Option.some ClassFile.FieldType.int) rm_X9_counted (sp_X9_counted ) := by
  refine em_CT_of (T := T_X9_counted ) (em_F_ok σ) (by decide) (fun p e s m args below meth c A ρ Q C hFok hF hret hlk hin => ?_) (me_X9_counted )
  unfold T_X9_counted
  refine List.forall_mem_cons.mpr ⟨s_iload_n C (by decide +kernel : decode c_X9_counted 0 = .ok (.iload_n 1, 1)) rfl rfl rfl, ?_⟩
  refine List.forall_mem_cons.mpr ⟨s_bipush C (by decide +kernel : decode c_X9_counted 1 = .ok (.bipush (-2), 2)) rfl rfl (by decide), ?_⟩
  refine List.forall_mem_cons.mpr ⟨s_icmpeq C (by decide +kernel : decode c_X9_counted 3 = .ok (.if_icmp .eq 15, 3)) (by decide) rfl rfl rfl, ?_⟩
  refine List.forall_mem_cons.mpr ⟨s_iload_n C (by decide +kernel : decode c_X9_counted 6 = .ok (.iload_n 1, 1)) rfl rfl rfl, ?_⟩
  refine List.forall_mem_cons.mpr ⟨s_bipush C (by decide +kernel : decode c_X9_counted 7 = .ok (.bipush (-3), 2)) rfl rfl (by decide), ?_⟩
  refine List.forall_mem_cons.mpr ⟨s_icmpeq C (by decide +kernel : decode c_X9_counted 9 = .ok (.if_icmp .eq 9, 3)) (by decide) rfl rfl rfl, ?_⟩
  refine List.forall_mem_cons.mpr ⟨s_iload_n C (by decide +kernel : decode c_X9_counted 12 = .ok (.iload_n 1, 1)) rfl rfl rfl, ?_⟩
  refine List.forall_mem_cons.mpr ⟨s_bipush C (by decide +kernel : decode c_X9_counted 13 = .ok (.bipush (-4), 2)) rfl rfl (by decide), ?_⟩
  refine List.forall_mem_cons.mpr ⟨s_icmpne C (by decide +kernel : decode c_X9_counted 15 = .ok (.if_icmp .ne 11, 3)) (by decide) rfl rfl rfl, ?_⟩
  refine List.forall_mem_cons.mpr ⟨s_aload_n C (by decide +kernel : decode c_X9_counted 18 = .ok (.aload_n 0, 1)) rfl rfl rfl, ?_⟩
  refine List.forall_mem_cons.mpr ⟨s_iload_n C (by decide +kernel : decode c_X9_counted 19 = .ok (.iload_n 1, 1)) rfl rfl rfl, ?_⟩
  refine List.forall_mem_cons.mpr ⟨s_callV C hFok hF (ct_X9_refuse l D dA σ) ⟨rfl, rfl⟩ ew200 em_cl_X9 ew197 ew199 ewp1 ew1 ⟨by decide, by decide, by decide +kernel⟩ ⟨by decide, by decide⟩ (by decide +kernel : decode c_X9_counted 20 = .ok (.invokevirtual 63, 3)) rfl rfl ⟨Nat.zero_le _, Nat.zero_le _⟩, ?_⟩
  refine List.forall_mem_cons.mpr ⟨s_goto C (by decide +kernel : decode c_X9_counted 23 = .ok (.goto 4, 3)) (by decide) rfl, ?_⟩
  refine List.forall_mem_cons.mpr ⟨s_iload_n C (by decide +kernel : decode c_X9_counted 26 = .ok (.iload_n 1, 1)) rfl rfl rfl, ?_⟩
  refine List.forall_mem_cons.mpr ⟨s_iret C (by decide +kernel : decode c_X9_counted 27 = .ok (.ireturn, 1)) hret hlk ⟨Nat.le_refl 0, Nat.le_refl 0⟩, ?_⟩
  exact fun _ h => absurd h List.not_mem_nil
theorem nbad {n : Nat} (h : n < 2 ^ 31) : ¬ isbad (nI n) := by
  have key : ∀ k : Int32, k.toInt < 0 → ¬ nI n = k := fun k hk q => by
    have : (nI n).toInt = k.toInt := by rw [q]
    rw [nI_toInt h] at this
    omega
  rintro (q | q | q)
  · exact key _ (by decide) q
  · exact key _ (by decide) q
  · exact key _ (by decide) q
def hmy (pe pa ev un co tln : Int32) (k : Int32) : Int32 := if k = 0 then pe else if k = 1 then pa else if k = 2 then ev else if k = 3 then un else if k = 4 then co else tln
def sp_X9_howMany : em_Sp := fun av hp Q => ∃ by9 tln tst ten mm fa9 fb9 rf im pe ki mi se we lea mst pa fi sd ev un ma ea co ca clt Y k, av = [.ref 0, .int k] ∧ hp = (wX by9 tln tst ten mm fa9 fb9 rf im pe ki mi se we lea mst pa fi sd ev un ma ea co ca clt Y) ∧ Q (some (.int (hmy pe pa ev un co tln k))) hp
def T_X9_howMany : List (Nat × em_Op) := [(0, o_iload 1 1), (1, o_sw [(0, 36), (1, 44), (2, 52), (3, 60), (4, 68)] 76), (36, o_aload 0 37), (37, o_getf 4 5 40), (40, o_getf 2 0 43), (43, o_iret), (44, o_aload 0 45), (45, o_getf 4 5 48), (48, o_getf 2 7 51), (51, o_iret), (52, o_aload 0 53), (53, o_getf 4 5 56), (56, o_getf 2 10 59), (59, o_iret), (60, o_aload 0 61), (61, o_getf 4 5 64), (64, o_getf 2 11 67), (67, o_iret), (68, o_aload 0 69), (69, o_getf 4 5 72), (72, o_getf 2 14 75), (75, o_iret), (76, o_aload 0 77), (77, o_getf 4 0 80), (80, o_getf 3 1 83), (83, o_iret)]
theorem me_X9_howMany : em_Me T_X9_howMany 2 sp_X9_howMany := by
  intro Q K hK hle av hp hs
  obtain ⟨by9, tln, tst, ten, mm, fa9, fb9, rf, im, pe, ki, mi, se, we, lea, mst, pa, fi, sd, ev, un, ma, ea, co, ca, clt, Y, k, rfl, rfl, hq⟩ := hs
  refine ⟨Nat.le_of_ble_eq_true rfl, hK 0 9999 0 _ _ _ ?_⟩
  rw [hmy] at hq
  refine ⟨fun h => ?_, fun h0 => ⟨fun h => ?_, fun h1 => ⟨fun h => ?_, fun h2 => ⟨fun h => ?_, fun h3 => ⟨fun h => ?_, fun h4 => ?_⟩⟩⟩⟩⟩
  · rw [if_pos h] at hq; exact hq
  · rw [if_neg h0, if_pos h] at hq; exact hq
  · rw [if_neg h0, if_neg h1, if_pos h] at hq; exact hq
  · rw [if_neg h0, if_neg h1, if_neg h2, if_pos h] at hq; exact hq
  · rw [if_neg h0, if_neg h1, if_neg h2, if_neg h3, if_pos h] at hq; exact hq
  · rw [if_neg h0, if_neg h1, if_neg h2, if_neg h3, if_neg h4] at hq; exact hq
abbrev rm_X9_howMany : Room := { frames := 0, cells := 0, slots := 0, locals := 0 }
set_option maxRecDepth 100000 in
set_option maxHeartbeats 4000000 in
theorem ct_X9_howMany (l : Launch) (D : va_G) (dA : Nat → ClassId) (σ : Nat → Nat) : em_CT l D em_cl dA σ (em_F σ) y_X9_howMany c_X9_howMany 2 (Option.some ClassFile.FieldType.int) rm_X9_howMany (sp_X9_howMany ) := by
  refine em_CT_of (T := T_X9_howMany ) (em_F_ok σ) (by decide) (fun p e s m args below meth c A ρ Q C hFok hF hret hlk hin => ?_) (me_X9_howMany )
  unfold T_X9_howMany
  refine List.forall_mem_cons.mpr ⟨s_iload_n C (by decide +kernel : decode c_X9_howMany 0 = .ok (.iload_n 1, 1)) rfl rfl rfl, ?_⟩
  refine List.forall_mem_cons.mpr ⟨s_sw C (by decide +kernel : decode c_X9_howMany 1 = .ok (.tableswitch 75 0 4 #[35, 43, 51, 59, 67], 35)) (by decide) (by decide) (by decide) (fun _ => rfl), ?_⟩
  refine List.forall_mem_cons.mpr ⟨s_aload_n C (by decide +kernel : decode c_X9_howMany 36 = .ok (.aload_n 0, 1)) rfl rfl rfl, ?_⟩
  refine List.forall_mem_cons.mpr ⟨s_getf C (by decide +kernel : decode c_X9_howMany 37 = .ok (.getfield 41, 3)) rfl rfl em_cl_X9 (by decide) ew157 rfl, ?_⟩
  refine List.forall_mem_cons.mpr ⟨s_getf C (by decide +kernel : decode c_X9_howMany 40 = .ok (.getfield 120, 3)) rfl rfl em_cl_X7 (by decide) ew88 rfl, ?_⟩
  refine List.forall_mem_cons.mpr ⟨s_iret C (by decide +kernel : decode c_X9_howMany 43 = .ok (.ireturn, 1)) hret hlk ⟨Nat.le_refl 0, Nat.le_refl 0⟩, ?_⟩
  refine List.forall_mem_cons.mpr ⟨s_aload_n C (by decide +kernel : decode c_X9_howMany 44 = .ok (.aload_n 0, 1)) rfl rfl rfl, ?_⟩
  refine List.forall_mem_cons.mpr ⟨s_getf C (by decide +kernel : decode c_X9_howMany 45 = .ok (.getfield 41, 3)) rfl rfl em_cl_X9 (by decide) ew157 rfl, ?_⟩
  refine List.forall_mem_cons.mpr ⟨s_getf C (by decide +kernel : decode c_X9_howMany 48 = .ok (.getfield 86, 3)) rfl rfl em_cl_X7 (by decide) ew101 rfl, ?_⟩
  refine List.forall_mem_cons.mpr ⟨s_iret C (by decide +kernel : decode c_X9_howMany 51 = .ok (.ireturn, 1)) hret hlk ⟨Nat.le_refl 0, Nat.le_refl 0⟩, ?_⟩
  refine List.forall_mem_cons.mpr ⟨s_aload_n C (by decide +kernel : decode c_X9_howMany 52 = .ok (.aload_n 0, 1)) rfl rfl rfl, ?_⟩
  refine List.forall_mem_cons.mpr ⟨s_getf C (by decide +kernel : decode c_X9_howMany 53 = .ok (.getfield 41, 3)) rfl rfl em_cl_X9 (by decide) ew157 rfl, ?_⟩
  refine List.forall_mem_cons.mpr ⟨s_getf C (by decide +kernel : decode c_X9_howMany 56 = .ok (.getfield 138, 3)) rfl rfl em_cl_X7 (by decide) ew106 rfl, ?_⟩
  refine List.forall_mem_cons.mpr ⟨s_iret C (by decide +kernel : decode c_X9_howMany 59 = .ok (.ireturn, 1)) hret hlk ⟨Nat.le_refl 0, Nat.le_refl 0⟩, ?_⟩
  refine List.forall_mem_cons.mpr ⟨s_aload_n C (by decide +kernel : decode c_X9_howMany 60 = .ok (.aload_n 0, 1)) rfl rfl rfl, ?_⟩
  refine List.forall_mem_cons.mpr ⟨s_getf C (by decide +kernel : decode c_X9_howMany 61 = .ok (.getfield 41, 3)) rfl rfl em_cl_X9 (by decide) ew157 rfl, ?_⟩
  refine List.forall_mem_cons.mpr ⟨s_getf C (by decide +kernel : decode c_X9_howMany 64 = .ok (.getfield 269, 3)) rfl rfl em_cl_X7 (by decide) ew108 rfl, ?_⟩
  refine List.forall_mem_cons.mpr ⟨s_iret C (by decide +kernel : decode c_X9_howMany 67 = .ok (.ireturn, 1)) hret hlk ⟨Nat.le_refl 0, Nat.le_refl 0⟩, ?_⟩
  refine List.forall_mem_cons.mpr ⟨s_aload_n C (by decide +kernel : decode c_X9_howMany 68 = .ok (.aload_n 0, 1)) rfl rfl rfl, ?_⟩
  refine List.forall_mem_cons.mpr ⟨s_getf C (by decide +kernel : decode c_X9_howMany 69 = .ok (.getfield 41, 3)) rfl rfl em_cl_X9 (by decide) ew157 rfl, ?_⟩
  refine List.forall_mem_cons.mpr ⟨s_getf C (by decide +kernel : decode c_X9_howMany 72 = .ok (.getfield 228, 3)) rfl rfl em_cl_X7 (by decide) ew112 rfl, ?_⟩
  refine List.forall_mem_cons.mpr ⟨s_iret C (by decide +kernel : decode c_X9_howMany 75 = .ok (.ireturn, 1)) hret hlk ⟨Nat.le_refl 0, Nat.le_refl 0⟩, ?_⟩
  refine List.forall_mem_cons.mpr ⟨s_aload_n C (by decide +kernel : decode c_X9_howMany 76 = .ok (.aload_n 0, 1)) rfl rfl rfl, ?_⟩
  refine List.forall_mem_cons.mpr ⟨s_getf C (by decide +kernel : decode c_X9_howMany 77 = .ok (.getfield 10, 3)) rfl rfl em_cl_X9 (by decide) ew152 rfl, ?_⟩
  refine List.forall_mem_cons.mpr ⟨s_getf C (by decide +kernel : decode c_X9_howMany 80 = .ok (.getfield 93, 3)) rfl rfl em_cl_X8 (by decide) ew35 rfl, ?_⟩
  refine List.forall_mem_cons.mpr ⟨s_iret C (by decide +kernel : decode c_X9_howMany 83 = .ok (.ireturn, 1)) hret hlk ⟨Nat.le_refl 0, Nat.le_refl 0⟩, ?_⟩
  exact fun _ h => absurd h List.not_mem_nil
def sp_X9_person : em_Sp := fun av hp Q => ∃ by9 tln tst ten mm fa9 fb9 rf im pe ki mi se we lea mst pa fi sd ev un ma ea co ca clt Y k o n, av = [.ref 0, .int k, .int o] ∧ hp = (wX by9 tln tst ten mm fa9 fb9 rf im pe ki mi se we lea mst pa fi sd ev un ma ea co ca clt Y) ∧ pe = nI n ∧ n ≤ 6 ∧ (¬ (isk k ∧ iss o) → Q (some (.int (-2))) (wX by9 tln tst ten mm fa9 fb9 (rfu rf (-2)) im pe ki mi se we lea mst pa fi sd ev un ma ea co ca clt Y)) ∧ (isk k → iss o → n = 6 → Q (some (.int (-4))) (wX by9 tln tst ten mm fa9 fb9 (rfu rf (-4)) im pe ki mi se we lea mst pa fi sd ev un ma ea co ca clt Y)) ∧ (isk k → iss o → n < 6 → Q (some (.int (nI n))) (wX by9 tln tst ten mm fa9 fb9 rf im (nI (n + 1)) (upd ki n k) (mw mi (nI n) o) (mw se (nI n) o) we lea mst pa fi sd ev (0) ma ea co ca clt Y))
def T_X9_person : List (Nat × em_Op) := [(0, o_aload 0 1), (1, o_aload 0 2), (2, o_getf 4 5 5), (5, o_iload 1 6), (6, o_iload 2 7), (7, o_callP 3 (some 2) [8, 9, 10, 11, 12, 13, 14, 15] (sp_X7_welcome) 10), (10, o_call 2 (some 4) (sp_X9_counted) 13), (13, o_iret)]
theorem me_X9_person : em_Me T_X9_person 3 sp_X9_person := by
  intro Q K hK hle av hp hs
  obtain ⟨by9, tln, tst, ten, mm, fa9, fb9, rf, im, pe, ki, mi, se, we, lea, mst, pa, fi, sd, ev, un, ma, ea, co, ca, clt, Y, k, o, n, rfl, rfl, rfl, hn, hb, hf, hq⟩ := hs
  refine ⟨Nat.le_of_ble_eq_true rfl, hK 0 9999 0 _ _ _ ?_⟩
  refine ⟨_, _, _, _, _, _, _, _, _, _, _, _, _, _, _, _, _, k, o, n, rfl, rfl, rfl, hn, fun z => ?_, fun z1 z2 z3 => ?_, fun z1 z2 z3 => ?_⟩
  · exact ⟨_, _, _, _, _, _, _, _, _, _, _, _, _, _, _, _, _, _, _, _, _, _, _, _, _, _, _, _, rfl, rfl, fun _ => hb z, fun y => absurd (Or.inl rfl) y⟩
  · exact ⟨_, _, _, _, _, _, _, _, _, _, _, _, _, _, _, _, _, _, _, _, _, _, _, _, _, _, _, _, rfl, rfl, fun _ => hf z1 z2 z3, fun y => absurd (Or.inr (Or.inr rfl)) y⟩
  · exact ⟨_, _, _, _, _, _, _, _, _, _, _, _, _, _, _, _, _, _, _, _, _, _, _, _, _, _, _, _, rfl, rfl, fun y => absurd y (nbad (by omega)), fun _ => hq z1 z2 z3⟩
abbrev rm_X9_person : Room := { frames := 2, cells := 0, slots := 0, locals := 47 }
set_option maxRecDepth 100000 in
set_option maxHeartbeats 4000000 in
theorem ct_X9_person (l : Launch) (D : va_G) (dA : Nat → ClassId) (σ : Nat → Nat) : em_CT l D em_cl dA σ (em_F σ) y_X9_person c_X9_person 3 (Option.some ClassFile.FieldType.int) rm_X9_person (sp_X9_person ) := by
  refine em_CT_of (T := T_X9_person ) (em_F_ok σ) (by decide) (fun p e s m args below meth c A ρ Q C hFok hF hret hlk hin => ?_) (me_X9_person )
  unfold T_X9_person
  refine List.forall_mem_cons.mpr ⟨s_aload_n C (by decide +kernel : decode c_X9_person 0 = .ok (.aload_n 0, 1)) rfl rfl rfl, ?_⟩
  refine List.forall_mem_cons.mpr ⟨s_aload_n C (by decide +kernel : decode c_X9_person 1 = .ok (.aload_n 0, 1)) rfl rfl rfl, ?_⟩
  refine List.forall_mem_cons.mpr ⟨s_getf C (by decide +kernel : decode c_X9_person 2 = .ok (.getfield 41, 3)) rfl rfl em_cl_X9 (by decide) ew157 rfl, ?_⟩
  refine List.forall_mem_cons.mpr ⟨s_iload_n C (by decide +kernel : decode c_X9_person 5 = .ok (.iload_n 1, 1)) rfl rfl rfl, ?_⟩
  refine List.forall_mem_cons.mpr ⟨s_iload_n C (by decide +kernel : decode c_X9_person 6 = .ok (.iload_n 2, 1)) rfl rfl rfl, ?_⟩
  refine List.forall_mem_cons.mpr ⟨s_callPV C hFok hF (ct_X7_welcome l D dA σ) ⟨rfl, rfl⟩ ew181 em_cl_X7 ew178 ew179 ew180 ew5 ⟨by decide, by decide, by decide +kernel⟩ ⟨by decide, by decide⟩ (by decide +kernel : decode c_X9_person 7 = .ok (.invokevirtual 48, 3)) rfl rfl ⟨Nat.zero_le _, Nat.zero_le _⟩ (by decide), ?_⟩
  refine List.forall_mem_cons.mpr ⟨s_callV C hFok hF (ct_X9_counted l D dA σ) ⟨rfl, rfl⟩ ew196 em_cl_X9 ew193 ew195 ewp0 ew1 ⟨by decide, by decide, by decide +kernel⟩ ⟨by decide, by decide⟩ (by decide +kernel : decode c_X9_person 10 = .ok (.invokevirtual 52, 3)) rfl rfl ⟨Nat.zero_le _, Nat.zero_le _⟩, ?_⟩
  refine List.forall_mem_cons.mpr ⟨s_iret C (by decide +kernel : decode c_X9_person 13 = .ok (.ireturn, 1)) hret hlk ⟨Nat.le_refl 0, Nat.le_refl 0⟩, ?_⟩
  exact fun _ h => absurd h List.not_mem_nil
def sp_X9_thinks : em_Sp := fun av hp Q => ∃ by9 tln tst ten mm fa9 fb9 rf im pe ki mi se we lea mst pa fi sd ev un ma ea co ca clt Y p o, av = [.ref 0, .int p, .int o] ∧ hp = (wX by9 tln tst ten mm fa9 fb9 rf im pe ki mi se we lea mst pa fi sd ev un ma ea co ca clt Y) ∧ (¬ (hs pe p ∧ iss o) → Q (some (.int (-2))) (wX by9 tln tst ten mm fa9 fb9 (rfu rf (-2)) im pe ki mi se we lea mst pa fi sd ev un ma ea co ca clt Y)) ∧ (hs pe p → iss o → Q (some (.int (mo mi p))) (wX by9 tln tst ten mm fa9 fb9 rf im pe ki (mw mi p o) se we lea mst pa fi sd ev (0) ma ea co ca clt Y))
def T_X9_thinks : List (Nat × em_Op) := [(0, o_aload 0 1), (1, o_getf 4 5 4), (4, o_iload 1 5), (5, o_callP 2 (some 2) [8, 9, 10, 11, 12, 13, 14, 15] (sp_X7_has) 8), (8, o_ifeq 18 11), (11, o_iload 2 12), (12, o_call 1 none (sp_X9_isSet) 15), (15, o_ifne 25 18), (18, o_aload 0 19), (19, o_iconst (-2) 21), (21, o_call 2 (some 4) (sp_X9_refuse) 24), (24, o_iret), (25, o_aload 0 26), (26, o_getf 4 5 29), (29, o_iload 1 30), (30, o_iload 2 31), (31, o_callP 3 (some 2) [8, 9, 10, 11, 12, 13, 14, 15] (sp_X7_tell) 34), (34, o_iret)]
theorem me_X9_thinks : em_Me T_X9_thinks 3 sp_X9_thinks := by
  intro Q K hK hle av hp hs
  obtain ⟨by9, tln, tst, ten, mm, fa9, fb9, rf, im, pe, ki, mi, se, we, lea, mst, pa, fi, sd, ev, un, ma, ea, co, ca, clt, Y, p, o, rfl, rfl, hb, hq⟩ := hs
  refine ⟨Nat.le_of_ble_eq_true rfl, hK 0 9999 0 _ _ _ ?_⟩
  refine ⟨_, _, _, _, _, _, _, _, _, _, _, _, _, _, _, _, _, p, rfl, rfl, fun z => ?_, fun z => ?_⟩
  · refine ⟨fun y => absurd y (by decide), fun _ => ?_⟩
    refine ⟨_, rfl, fun z2 => ?_, fun z2 => ?_⟩
    · refine ⟨fun _ => ?_, fun y => absurd y (by decide)⟩
      exact ⟨_, _, _, _, _, _, _, _, _, _, _, _, _, _, _, _, _, p, o, rfl, rfl, hq z z2⟩
    · refine ⟨fun y => absurd rfl y, fun _ => ?_⟩
      exact ⟨_, _, _, _, _, _, _, _, _, _, _, _, _, _, _, _, _, _, _, _, _, _, _, _, _, _, _, _, rfl, rfl, hb (fun y => z2 y.2)⟩
  · refine ⟨fun _ => ?_, fun y => absurd y (by decide)⟩
    exact ⟨_, _, _, _, _, _, _, _, _, _, _, _, _, _, _, _, _, _, _, _, _, _, _, _, _, _, _, _, rfl, rfl, hb (fun y => z y.1)⟩
abbrev rm_X9_thinks : Room := { frames := 2, cells := 0, slots := 0, locals := 47 }
set_option maxRecDepth 100000 in
set_option maxHeartbeats 4000000 in
theorem ct_X9_thinks (l : Launch) (D : va_G) (dA : Nat → ClassId) (σ : Nat → Nat) : em_CT l D em_cl dA σ (em_F σ) y_X9_thinks c_X9_thinks 3 (Option.some ClassFile.FieldType.int) rm_X9_thinks (sp_X9_thinks ) := by
  refine em_CT_of (T := T_X9_thinks ) (em_F_ok σ) (by decide) (fun p e s m args below meth c A ρ Q C hFok hF hret hlk hin => ?_) (me_X9_thinks )
  unfold T_X9_thinks
  refine List.forall_mem_cons.mpr ⟨s_aload_n C (by decide +kernel : decode c_X9_thinks 0 = .ok (.aload_n 0, 1)) rfl rfl rfl, ?_⟩
  refine List.forall_mem_cons.mpr ⟨s_getf C (by decide +kernel : decode c_X9_thinks 1 = .ok (.getfield 41, 3)) rfl rfl em_cl_X9 (by decide) ew157 rfl, ?_⟩
  refine List.forall_mem_cons.mpr ⟨s_iload_n C (by decide +kernel : decode c_X9_thinks 4 = .ok (.iload_n 1, 1)) rfl rfl rfl, ?_⟩
  refine List.forall_mem_cons.mpr ⟨s_callPV C hFok hF (ct_X7_has l D dA σ) ⟨rfl, rfl⟩ ew208 em_cl_X7 ew205 ew206 ew207 ew5 ⟨by decide, by decide, by decide +kernel⟩ ⟨by decide, by decide⟩ (by decide +kernel : decode c_X9_thinks 5 = .ok (.invokevirtual 56, 3)) rfl rfl ⟨Nat.zero_le _, Nat.zero_le _⟩ (by decide), ?_⟩
  refine List.forall_mem_cons.mpr ⟨s_ifeq C (by decide +kernel : decode c_X9_thinks 8 = .ok (.ifCond .eq 10, 3)) (by decide) rfl rfl rfl, ?_⟩
  refine List.forall_mem_cons.mpr ⟨s_iload_n C (by decide +kernel : decode c_X9_thinks 11 = .ok (.iload_n 2, 1)) rfl rfl rfl, ?_⟩
  refine List.forall_mem_cons.mpr ⟨s_callS C hFok hF (ct_X9_isSet l D dA σ) ⟨rfl, rfl⟩ ew187 ew209 ew186 ew1 ⟨by decide, by decide, by decide +kernel⟩ ⟨by decide, by decide⟩ (by decide +kernel : decode c_X9_thinks 12 = .ok (.invokestatic 60, 3)) rfl rfl ⟨Nat.zero_le _, Nat.zero_le _⟩, ?_⟩
  refine List.forall_mem_cons.mpr ⟨s_ifne C (by decide +kernel : decode c_X9_thinks 15 = .ok (.ifCond .ne 10, 3)) (by decide) rfl rfl rfl, ?_⟩
  refine List.forall_mem_cons.mpr ⟨s_aload_n C (by decide +kernel : decode c_X9_thinks 18 = .ok (.aload_n 0, 1)) rfl rfl rfl, ?_⟩
  refine List.forall_mem_cons.mpr ⟨s_bipush C (by decide +kernel : decode c_X9_thinks 19 = .ok (.bipush (-2), 2)) rfl rfl (by decide), ?_⟩
  refine List.forall_mem_cons.mpr ⟨s_callV C hFok hF (ct_X9_refuse l D dA σ) ⟨rfl, rfl⟩ ew200 em_cl_X9 ew197 ew199 ewp1 ew1 ⟨by decide, by decide, by decide +kernel⟩ ⟨by decide, by decide⟩ (by decide +kernel : decode c_X9_thinks 21 = .ok (.invokevirtual 63, 3)) rfl rfl ⟨Nat.zero_le _, Nat.zero_le _⟩, ?_⟩
  refine List.forall_mem_cons.mpr ⟨s_iret C (by decide +kernel : decode c_X9_thinks 24 = .ok (.ireturn, 1)) hret hlk ⟨Nat.le_refl 0, Nat.le_refl 0⟩, ?_⟩
  refine List.forall_mem_cons.mpr ⟨s_aload_n C (by decide +kernel : decode c_X9_thinks 25 = .ok (.aload_n 0, 1)) rfl rfl rfl, ?_⟩
  refine List.forall_mem_cons.mpr ⟨s_getf C (by decide +kernel : decode c_X9_thinks 26 = .ok (.getfield 41, 3)) rfl rfl em_cl_X9 (by decide) ew157 rfl, ?_⟩
  refine List.forall_mem_cons.mpr ⟨s_iload_n C (by decide +kernel : decode c_X9_thinks 29 = .ok (.iload_n 1, 1)) rfl rfl rfl, ?_⟩
  refine List.forall_mem_cons.mpr ⟨s_iload_n C (by decide +kernel : decode c_X9_thinks 30 = .ok (.iload_n 2, 1)) rfl rfl rfl, ?_⟩
  refine List.forall_mem_cons.mpr ⟨s_callPV C hFok hF (ct_X7_tell l D dA σ) ⟨rfl, rfl⟩ ew213 em_cl_X7 ew210 ew211 ew212 ew5 ⟨by decide, by decide, by decide +kernel⟩ ⟨by decide, by decide⟩ (by decide +kernel : decode c_X9_thinks 31 = .ok (.invokevirtual 66, 3)) rfl rfl ⟨Nat.zero_le _, Nat.zero_le _⟩ (by decide), ?_⟩
  refine List.forall_mem_cons.mpr ⟨s_iret C (by decide +kernel : decode c_X9_thinks 34 = .ok (.ireturn, 1)) hret hlk ⟨Nat.le_refl 0, Nat.le_refl 0⟩, ?_⟩
  exact fun _ h => absurd h List.not_mem_nil
def sp_X9_become : em_Sp := fun av hp Q => ∃ by9 tln tst ten mm fa9 fb9 rf im pe ki mi se we lea mst pa fi sd ev un ma ea co ca clt Y p k n, av = [.ref 0, .int p, .int k] ∧ hp = (wX by9 tln tst ten mm fa9 fb9 rf im pe ki mi se we lea mst pa fi sd ev un ma ea co ca clt Y) ∧ pe = nI n ∧ n ≤ 6 ∧ (¬ (hs pe p ∧ isk k) → Q (some (.int (-2))) (wX by9 tln tst ten mm fa9 fb9 (rfu rf (-2)) im pe ki mi se we lea mst pa fi sd ev un ma ea co ca clt Y)) ∧ (∀ j, p = nI j → j < n → isk k → Q (some (.int (ki j))) (wX by9 tln tst ten mm fa9 fb9 rf im pe (upd ki j k) mi se we lea mst pa fi sd ev un ma ea co ca clt Y))
def T_X9_become : List (Nat × em_Op) := [(0, o_aload 0 1), (1, o_getf 4 5 4), (4, o_iload 1 5), (5, o_callP 2 (some 2) [8, 9, 10, 11, 12, 13, 14, 15] (sp_X7_has) 8), (8, o_ifeq 18 11), (11, o_iload 2 12), (12, o_call 1 none (sp_X3_isKind) 15), (15, o_ifne 25 18), (18, o_aload 0 19), (19, o_iconst (-2) 21), (21, o_call 2 (some 4) (sp_X9_refuse) 24), (24, o_iret), (25, o_aload 0 26), (26, o_getf 4 5 29), (29, o_iload 1 30), (30, o_iload 2 31), (31, o_callP 3 (some 2) [8, 9, 10, 11, 12, 13, 14, 15] (sp_X7_turn) 34), (34, o_iret)]
theorem me_X9_become : em_Me T_X9_become 3 sp_X9_become := by
  intro Q K hK hle av hp hs
  obtain ⟨by9, tln, tst, ten, mm, fa9, fb9, rf, im, pe, ki, mi, se, we, lea, mst, pa, fi, sd, ev, un, ma, ea, co, ca, clt, Y, p, k, n, rfl, rfl, rfl, hn, hb, hq⟩ := hs
  refine ⟨Nat.le_of_ble_eq_true rfl, hK 0 9999 0 _ _ _ ?_⟩
  refine ⟨_, _, _, _, _, _, _, _, _, _, _, _, _, _, _, _, _, p, rfl, rfl, fun z => ?_, fun z => ?_⟩
  · refine ⟨fun y => absurd y (by decide), fun _ => ?_⟩
    refine ⟨_, rfl, fun z2 => ?_, fun z2 => ?_⟩
    · refine ⟨fun _ => ?_, fun y => absurd y (by decide)⟩
      exact ⟨_, _, _, _, _, _, _, _, _, _, _, _, _, _, _, _, _, p, k, n, rfl, rfl, rfl, hn, fun y => absurd z y, fun j e h => hq j e h z2⟩
    · refine ⟨fun y => absurd rfl y, fun _ => ?_⟩
      exact ⟨_, _, _, _, _, _, _, _, _, _, _, _, _, _, _, _, _, _, _, _, _, _, _, _, _, _, _, _, rfl, rfl, hb (fun y => z2 y.2)⟩
  · refine ⟨fun _ => ?_, fun y => absurd y (by decide)⟩
    exact ⟨_, _, _, _, _, _, _, _, _, _, _, _, _, _, _, _, _, _, _, _, _, _, _, _, _, _, _, _, rfl, rfl, hb (fun y => z y.1)⟩
abbrev rm_X9_become : Room := { frames := 2, cells := 0, slots := 0, locals := 44 }
set_option maxRecDepth 100000 in
set_option maxHeartbeats 4000000 in
theorem ct_X9_become (l : Launch) (D : va_G) (dA : Nat → ClassId) (σ : Nat → Nat) : em_CT l D em_cl dA σ (em_F σ) y_X9_become c_X9_become 3 (Option.some ClassFile.FieldType.int) rm_X9_become (sp_X9_become ) := by
  refine em_CT_of (T := T_X9_become ) (em_F_ok σ) (by decide) (fun p e s m args below meth c A ρ Q C hFok hF hret hlk hin => ?_) (me_X9_become )
  unfold T_X9_become
  refine List.forall_mem_cons.mpr ⟨s_aload_n C (by decide +kernel : decode c_X9_become 0 = .ok (.aload_n 0, 1)) rfl rfl rfl, ?_⟩
  refine List.forall_mem_cons.mpr ⟨s_getf C (by decide +kernel : decode c_X9_become 1 = .ok (.getfield 41, 3)) rfl rfl em_cl_X9 (by decide) ew157 rfl, ?_⟩
  refine List.forall_mem_cons.mpr ⟨s_iload_n C (by decide +kernel : decode c_X9_become 4 = .ok (.iload_n 1, 1)) rfl rfl rfl, ?_⟩
  refine List.forall_mem_cons.mpr ⟨s_callPV C hFok hF (ct_X7_has l D dA σ) ⟨rfl, rfl⟩ ew208 em_cl_X7 ew205 ew206 ew207 ew5 ⟨by decide, by decide, by decide +kernel⟩ ⟨by decide, by decide⟩ (by decide +kernel : decode c_X9_become 5 = .ok (.invokevirtual 56, 3)) rfl rfl ⟨Nat.zero_le _, Nat.zero_le _⟩ (by decide), ?_⟩
  refine List.forall_mem_cons.mpr ⟨s_ifeq C (by decide +kernel : decode c_X9_become 8 = .ok (.ifCond .eq 10, 3)) (by decide) rfl rfl rfl, ?_⟩
  refine List.forall_mem_cons.mpr ⟨s_iload_n C (by decide +kernel : decode c_X9_become 11 = .ok (.iload_n 2, 1)) rfl rfl rfl, ?_⟩
  refine List.forall_mem_cons.mpr ⟨s_callS C hFok hF (ct_X3_isKind l D dA σ) ⟨rfl, rfl⟩ ew184 ew221 ew183 ew7 ⟨by decide, by decide, by decide +kernel⟩ ⟨by decide, by decide⟩ (by decide +kernel : decode c_X9_become 12 = .ok (.invokestatic 69, 3)) rfl rfl ⟨Nat.zero_le _, Nat.zero_le _⟩, ?_⟩
  refine List.forall_mem_cons.mpr ⟨s_ifne C (by decide +kernel : decode c_X9_become 15 = .ok (.ifCond .ne 10, 3)) (by decide) rfl rfl rfl, ?_⟩
  refine List.forall_mem_cons.mpr ⟨s_aload_n C (by decide +kernel : decode c_X9_become 18 = .ok (.aload_n 0, 1)) rfl rfl rfl, ?_⟩
  refine List.forall_mem_cons.mpr ⟨s_bipush C (by decide +kernel : decode c_X9_become 19 = .ok (.bipush (-2), 2)) rfl rfl (by decide), ?_⟩
  refine List.forall_mem_cons.mpr ⟨s_callV C hFok hF (ct_X9_refuse l D dA σ) ⟨rfl, rfl⟩ ew200 em_cl_X9 ew197 ew199 ewp1 ew1 ⟨by decide, by decide, by decide +kernel⟩ ⟨by decide, by decide⟩ (by decide +kernel : decode c_X9_become 21 = .ok (.invokevirtual 63, 3)) rfl rfl ⟨Nat.zero_le _, Nat.zero_le _⟩, ?_⟩
  refine List.forall_mem_cons.mpr ⟨s_iret C (by decide +kernel : decode c_X9_become 24 = .ok (.ireturn, 1)) hret hlk ⟨Nat.le_refl 0, Nat.le_refl 0⟩, ?_⟩
  refine List.forall_mem_cons.mpr ⟨s_aload_n C (by decide +kernel : decode c_X9_become 25 = .ok (.aload_n 0, 1)) rfl rfl rfl, ?_⟩
  refine List.forall_mem_cons.mpr ⟨s_getf C (by decide +kernel : decode c_X9_become 26 = .ok (.getfield 41, 3)) rfl rfl em_cl_X9 (by decide) ew157 rfl, ?_⟩
  refine List.forall_mem_cons.mpr ⟨s_iload_n C (by decide +kernel : decode c_X9_become 29 = .ok (.iload_n 1, 1)) rfl rfl rfl, ?_⟩
  refine List.forall_mem_cons.mpr ⟨s_iload_n C (by decide +kernel : decode c_X9_become 30 = .ok (.iload_n 2, 1)) rfl rfl rfl, ?_⟩
  refine List.forall_mem_cons.mpr ⟨s_callPV C hFok hF (ct_X7_turn l D dA σ) ⟨rfl, rfl⟩ ew225 em_cl_X7 ew222 ew223 ew224 ew5 ⟨by decide, by decide, by decide +kernel⟩ ⟨by decide, by decide⟩ (by decide +kernel : decode c_X9_become 31 = .ok (.invokevirtual 74, 3)) rfl rfl ⟨Nat.zero_le _, Nat.zero_le _⟩ (by decide), ?_⟩
  refine List.forall_mem_cons.mpr ⟨s_iret C (by decide +kernel : decode c_X9_become 34 = .ok (.ireturn, 1)) hret hlk ⟨Nat.le_refl 0, Nat.le_refl 0⟩, ?_⟩
  exact fun _ h => absurd h List.not_mem_nil
def sp_X9_weighty : em_Sp := fun av hp Q => ∃ by9 tln tst ten mm fa9 fb9 rf im pe ki mi se we lea mst pa fi sd ev un ma ea co ca clt Y x w, av = [.ref 0, .int x] ∧ hp = (wX by9 tln tst ten mm fa9 fb9 rf im pe ki mi se we lea mst pa fi sd ev un ma ea co ca clt Y) ∧ we = nI w ∧ w < 2 ^ 31 ∧ (¬ iss x → Q (some (.int (-2))) (wX by9 tln tst ten mm fa9 fb9 (rfu rf (-2)) im pe ki mi se we lea mst pa fi sd ev un ma ea co ca clt Y)) ∧ (iss x → Q (some (.int we)) (wX by9 tln tst ten mm fa9 fb9 rf im pe ki mi se (x) lea mst pa fi sd ev un ma ea co ca clt Y))
def T_X9_weighty : List (Nat × em_Op) := [(0, o_aload 0 1), (1, o_aload 0 2), (2, o_getf 4 5 5), (5, o_iload 1 6), (6, o_callP 2 (some 2) [8, 9, 10, 11, 12, 13, 14, 15] (sp_X7_weigh) 9), (9, o_call 2 (some 4) (sp_X9_counted) 12), (12, o_iret)]
theorem me_X9_weighty : em_Me T_X9_weighty 2 sp_X9_weighty := by
  intro Q K hK hle av hp hs
  obtain ⟨by9, tln, tst, ten, mm, fa9, fb9, rf, im, pe, ki, mi, se, we, lea, mst, pa, fi, sd, ev, un, ma, ea, co, ca, clt, Y, x, w, rfl, rfl, rfl, hw, hb, hq⟩ := hs
  refine ⟨Nat.le_of_ble_eq_true rfl, hK 0 9999 0 _ _ _ ?_⟩
  refine ⟨_, _, _, _, _, _, _, _, _, _, _, _, _, _, _, _, _, x, rfl, rfl, fun z => ?_, fun z => ?_⟩
  · exact ⟨_, _, _, _, _, _, _, _, _, _, _, _, _, _, _, _, _, _, _, _, _, _, _, _, _, _, _, _, rfl, rfl, fun _ => hb z, fun y => absurd (Or.inl rfl) y⟩
  · exact ⟨_, _, _, _, _, _, _, _, _, _, _, _, _, _, _, _, _, _, _, _, _, _, _, _, _, _, _, _, rfl, rfl, fun y => absurd y (nbad hw), fun _ => hq z⟩
abbrev rm_X9_weighty : Room := { frames := 2, cells := 0, slots := 0, locals := 42 }
set_option maxRecDepth 100000 in
set_option maxHeartbeats 4000000 in
theorem ct_X9_weighty (l : Launch) (D : va_G) (dA : Nat → ClassId) (σ : Nat → Nat) : em_CT l D em_cl dA σ (em_F σ) y_X9_weighty c_X9_weighty 2 (Option.some ClassFile.FieldType.int) rm_X9_weighty (sp_X9_weighty ) := by
  refine em_CT_of (T := T_X9_weighty ) (em_F_ok σ) (by decide) (fun p e s m args below meth c A ρ Q C hFok hF hret hlk hin => ?_) (me_X9_weighty )
  unfold T_X9_weighty
  refine List.forall_mem_cons.mpr ⟨s_aload_n C (by decide +kernel : decode c_X9_weighty 0 = .ok (.aload_n 0, 1)) rfl rfl rfl, ?_⟩
  refine List.forall_mem_cons.mpr ⟨s_aload_n C (by decide +kernel : decode c_X9_weighty 1 = .ok (.aload_n 0, 1)) rfl rfl rfl, ?_⟩
  refine List.forall_mem_cons.mpr ⟨s_getf C (by decide +kernel : decode c_X9_weighty 2 = .ok (.getfield 41, 3)) rfl rfl em_cl_X9 (by decide) ew157 rfl, ?_⟩
  refine List.forall_mem_cons.mpr ⟨s_iload_n C (by decide +kernel : decode c_X9_weighty 5 = .ok (.iload_n 1, 1)) rfl rfl rfl, ?_⟩
  refine List.forall_mem_cons.mpr ⟨s_callPV C hFok hF (ct_X7_weigh l D dA σ) ⟨rfl, rfl⟩ ew234 em_cl_X7 ew231 ew232 ew233 ew5 ⟨by decide, by decide, by decide +kernel⟩ ⟨by decide, by decide⟩ (by decide +kernel : decode c_X9_weighty 6 = .ok (.invokevirtual 77, 3)) rfl rfl ⟨Nat.zero_le _, Nat.zero_le _⟩ (by decide), ?_⟩
  refine List.forall_mem_cons.mpr ⟨s_callV C hFok hF (ct_X9_counted l D dA σ) ⟨rfl, rfl⟩ ew196 em_cl_X9 ew193 ew195 ewp0 ew1 ⟨by decide, by decide, by decide +kernel⟩ ⟨by decide, by decide⟩ (by decide +kernel : decode c_X9_weighty 9 = .ok (.invokevirtual 52, 3)) rfl rfl ⟨Nat.zero_le _, Nat.zero_le _⟩, ?_⟩
  refine List.forall_mem_cons.mpr ⟨s_iret C (by decide +kernel : decode c_X9_weighty 12 = .ok (.ireturn, 1)) hret hlk ⟨Nat.le_refl 0, Nat.le_refl 0⟩, ?_⟩
  exact fun _ h => absurd h List.not_mem_nil
def sp_X9_licence : em_Sp := fun av hp Q => ∃ by9 tln tst ten mm fa9 fb9 rf im pe ki mi se we lea mst pa fi sd ev un ma ea co ca clt Y a b w, av = [.ref 0, .int a, .int b] ∧ hp = (wX by9 tln tst ten mm fa9 fb9 rf im pe ki mi se we lea mst pa fi sd ev un ma ea co ca clt Y) ∧ 100 * lea + mst = nI w ∧ w < 2 ^ 31 ∧ (¬ prm a b → Q (some (.int (-2))) (wX by9 tln tst ten mm fa9 fb9 (rfu rf (-2)) im pe ki mi se we lea mst pa fi sd ev un ma ea co ca clt Y)) ∧ (prm a b → Q (some (.int (nI w))) (wX by9 tln tst ten mm fa9 fb9 rf im pe ki mi se we (a) (b) pa fi sd ev un ma ea co ca clt Y))
def T_X9_licence : List (Nat × em_Op) := [(0, o_aload 0 1), (1, o_aload 0 2), (2, o_getf 4 5 5), (5, o_iload 1 6), (6, o_iload 2 7), (7, o_callP 3 (some 2) [8, 9, 10, 11, 12, 13, 14, 15] (sp_X7_permit) 10), (10, o_call 2 (some 4) (sp_X9_counted) 13), (13, o_iret)]
theorem me_X9_licence : em_Me T_X9_licence 3 sp_X9_licence := by
  intro Q K hK hle av hp hs
  obtain ⟨by9, tln, tst, ten, mm, fa9, fb9, rf, im, pe, ki, mi, se, we, lea, mst, pa, fi, sd, ev, un, ma, ea, co, ca, clt, Y, a, b, w, rfl, rfl, hw, hw2, hb, hq⟩ := hs
  refine ⟨Nat.le_of_ble_eq_true rfl, hK 0 9999 0 _ _ _ ?_⟩
  refine ⟨_, _, _, _, _, _, _, _, _, _, _, _, _, _, _, _, _, a, b, rfl, rfl, fun z => ?_, fun z => ?_⟩
  · exact ⟨_, _, _, _, _, _, _, _, _, _, _, _, _, _, _, _, _, _, _, _, _, _, _, _, _, _, _, _, rfl, rfl, fun _ => hb z, fun y => absurd (Or.inl rfl) y⟩
  · rw [hw]
    exact ⟨_, _, _, _, _, _, _, _, _, _, _, _, _, _, _, _, _, _, _, _, _, _, _, _, _, _, _, _, rfl, rfl, fun y => absurd y (nbad hw2), fun _ => hq z⟩
abbrev rm_X9_licence : Room := { frames := 2, cells := 0, slots := 0, locals := 42 }
set_option maxRecDepth 100000 in
set_option maxHeartbeats 4000000 in
theorem ct_X9_licence (l : Launch) (D : va_G) (dA : Nat → ClassId) (σ : Nat → Nat) : em_CT l D em_cl dA σ (em_F σ) y_X9_licence c_X9_licence 3 (Option.some ClassFile.FieldType.int) rm_X9_licence (sp_X9_licence ) := by
  refine em_CT_of (T := T_X9_licence ) (em_F_ok σ) (by decide) (fun p e s m args below meth c A ρ Q C hFok hF hret hlk hin => ?_) (me_X9_licence )
  unfold T_X9_licence
  refine List.forall_mem_cons.mpr ⟨s_aload_n C (by decide +kernel : decode c_X9_licence 0 = .ok (.aload_n 0, 1)) rfl rfl rfl, ?_⟩
  refine List.forall_mem_cons.mpr ⟨s_aload_n C (by decide +kernel : decode c_X9_licence 1 = .ok (.aload_n 0, 1)) rfl rfl rfl, ?_⟩
  refine List.forall_mem_cons.mpr ⟨s_getf C (by decide +kernel : decode c_X9_licence 2 = .ok (.getfield 41, 3)) rfl rfl em_cl_X9 (by decide) ew157 rfl, ?_⟩
  refine List.forall_mem_cons.mpr ⟨s_iload_n C (by decide +kernel : decode c_X9_licence 5 = .ok (.iload_n 1, 1)) rfl rfl rfl, ?_⟩
  refine List.forall_mem_cons.mpr ⟨s_iload_n C (by decide +kernel : decode c_X9_licence 6 = .ok (.iload_n 2, 1)) rfl rfl rfl, ?_⟩
  refine List.forall_mem_cons.mpr ⟨s_callPV C hFok hF (ct_X7_permit l D dA σ) ⟨rfl, rfl⟩ ew242 em_cl_X7 ew239 ew240 ew241 ew5 ⟨by decide, by decide, by decide +kernel⟩ ⟨by decide, by decide⟩ (by decide +kernel : decode c_X9_licence 7 = .ok (.invokevirtual 80, 3)) rfl rfl ⟨Nat.zero_le _, Nat.zero_le _⟩ (by decide), ?_⟩
  refine List.forall_mem_cons.mpr ⟨s_callV C hFok hF (ct_X9_counted l D dA σ) ⟨rfl, rfl⟩ ew196 em_cl_X9 ew193 ew195 ewp0 ew1 ⟨by decide, by decide, by decide +kernel⟩ ⟨by decide, by decide⟩ (by decide +kernel : decode c_X9_licence 10 = .ok (.invokevirtual 52, 3)) rfl rfl ⟨Nat.zero_le _, Nat.zero_le _⟩, ?_⟩
  refine List.forall_mem_cons.mpr ⟨s_iret C (by decide +kernel : decode c_X9_licence 13 = .ok (.ireturn, 1)) hret hlk ⟨Nat.le_refl 0, Nat.le_refl 0⟩, ?_⟩
  exact fun _ h => absurd h List.not_mem_nil
def sp_X9_talk : em_Sp := fun av hp Q => ∃ by9 tln tst ten mm fa9 fb9 rf im pe ki mi se we lea mst pa fi sd ev un ma ea co ca clt Y a b np, av = [.ref 0, .int a, .int b] ∧ hp = (wX by9 tln tst ten mm fa9 fb9 rf im pe ki mi se we lea mst pa fi sd ev un ma ea co ca clt Y) ∧ pa = nI np ∧ np ≤ 8 ∧ (¬ h2 pe a b → Q (some (.int (-2))) (wX by9 tln tst ten mm fa9 fb9 (rfu rf (-2)) im pe ki mi se we lea mst pa fi sd ev un ma ea co ca clt Y)) ∧ (h2 pe a b → np = 8 → Q (some (.int (-4))) (wX by9 tln tst ten mm fa9 fb9 (rfu rf (-4)) im pe ki mi se we lea mst pa fi sd ev un ma ea co ca clt Y)) ∧ (h2 pe a b → np < 8 → Q (some (.int (nI np))) (wX by9 tln tst ten mm fa9 fb9 rf im pe ki mi se we lea mst (nI (np + 1)) (upd fi np a) (upd sd np b) ev un ma ea co ca clt Y))
def T_X9_talk : List (Nat × em_Op) := [(0, o_aload 0 1), (1, o_aload 0 2), (2, o_getf 4 5 5), (5, o_iload 1 6), (6, o_iload 2 7), (7, o_callP 3 (some 2) [8, 9, 10, 11, 12, 13, 14, 15] (sp_X7_arrange) 10), (10, o_call 2 (some 4) (sp_X9_counted) 13), (13, o_iret)]
theorem me_X9_talk : em_Me T_X9_talk 3 sp_X9_talk := by
  intro Q K hK hle av hp hs
  obtain ⟨by9, tln, tst, ten, mm, fa9, fb9, rf, im, pe, ki, mi, se, we, lea, mst, pa, fi, sd, ev, un, ma, ea, co, ca, clt, Y, a, b, np, rfl, rfl, rfl, hn, hb, hf, hq⟩ := hs
  refine ⟨Nat.le_of_ble_eq_true rfl, hK 0 9999 0 _ _ _ ?_⟩
  refine ⟨_, _, _, _, _, _, _, _, _, _, _, _, _, _, _, _, _, a, b, np, rfl, rfl, rfl, hn, fun z => ?_, fun z1 z3 => ?_, fun z1 z3 => ?_⟩
  · exact ⟨_, _, _, _, _, _, _, _, _, _, _, _, _, _, _, _, _, _, _, _, _, _, _, _, _, _, _, _, rfl, rfl, fun _ => hb z, fun y => absurd (Or.inl rfl) y⟩
  · exact ⟨_, _, _, _, _, _, _, _, _, _, _, _, _, _, _, _, _, _, _, _, _, _, _, _, _, _, _, _, rfl, rfl, fun _ => hf z1 z3, fun y => absurd (Or.inr (Or.inr rfl)) y⟩
  · exact ⟨_, _, _, _, _, _, _, _, _, _, _, _, _, _, _, _, _, _, _, _, _, _, _, _, _, _, _, _, rfl, rfl, fun y => absurd y (nbad (by omega)), fun _ => hq z1 z3⟩
abbrev rm_X9_talk : Room := { frames := 3, cells := 0, slots := 0, locals := 66 }
set_option maxRecDepth 100000 in
set_option maxHeartbeats 4000000 in
theorem ct_X9_talk (l : Launch) (D : va_G) (dA : Nat → ClassId) (σ : Nat → Nat) : em_CT l D em_cl dA σ (em_F σ) y_X9_talk c_X9_talk 3 (Option.some ClassFile.FieldType.int) rm_X9_talk (sp_X9_talk ) := by
  refine em_CT_of (T := T_X9_talk ) (em_F_ok σ) (by decide) (fun p e s m args below meth c A ρ Q C hFok hF hret hlk hin => ?_) (me_X9_talk )
  unfold T_X9_talk
  refine List.forall_mem_cons.mpr ⟨s_aload_n C (by decide +kernel : decode c_X9_talk 0 = .ok (.aload_n 0, 1)) rfl rfl rfl, ?_⟩
  refine List.forall_mem_cons.mpr ⟨s_aload_n C (by decide +kernel : decode c_X9_talk 1 = .ok (.aload_n 0, 1)) rfl rfl rfl, ?_⟩
  refine List.forall_mem_cons.mpr ⟨s_getf C (by decide +kernel : decode c_X9_talk 2 = .ok (.getfield 41, 3)) rfl rfl em_cl_X9 (by decide) ew157 rfl, ?_⟩
  refine List.forall_mem_cons.mpr ⟨s_iload_n C (by decide +kernel : decode c_X9_talk 5 = .ok (.iload_n 1, 1)) rfl rfl rfl, ?_⟩
  refine List.forall_mem_cons.mpr ⟨s_iload_n C (by decide +kernel : decode c_X9_talk 6 = .ok (.iload_n 2, 1)) rfl rfl rfl, ?_⟩
  refine List.forall_mem_cons.mpr ⟨s_callPV C hFok hF (ct_X7_arrange l D dA σ) ⟨rfl, rfl⟩ ew250 em_cl_X7 ew247 ew248 ew249 ew5 ⟨by decide, by decide, by decide +kernel⟩ ⟨by decide, by decide⟩ (by decide +kernel : decode c_X9_talk 7 = .ok (.invokevirtual 83, 3)) rfl rfl ⟨Nat.zero_le _, Nat.zero_le _⟩ (by decide), ?_⟩
  refine List.forall_mem_cons.mpr ⟨s_callV C hFok hF (ct_X9_counted l D dA σ) ⟨rfl, rfl⟩ ew196 em_cl_X9 ew193 ew195 ewp0 ew1 ⟨by decide, by decide, by decide +kernel⟩ ⟨by decide, by decide⟩ (by decide +kernel : decode c_X9_talk 10 = .ok (.invokevirtual 52, 3)) rfl rfl ⟨Nat.zero_le _, Nat.zero_le _⟩, ?_⟩
  refine List.forall_mem_cons.mpr ⟨s_iret C (by decide +kernel : decode c_X9_talk 13 = .ok (.ireturn, 1)) hret hlk ⟨Nat.le_refl 0, Nat.le_refl 0⟩, ?_⟩
  exact fun _ h => absurd h List.not_mem_nil
def sp_X9_clean : em_Sp := fun av hp Q => ∃ by9 tln tst ten mm fa9 fb9 rf im pe ki mi se we lea mst pa fi sd ev un ma ea co ca clt Y, av = [.ref 0] ∧ hp = (wX by9 tln tst ten mm fa9 fb9 rf im pe ki mi se we lea mst pa fi sd ev un ma ea co ca clt Y) ∧ Q (some (.int pa)) (wX by9 tln tst ten mm fa9 fb9 rf im pe ki mi se we lea mst (0) fi sd ev un ma ea co ca clt Y)
def T_X9_clean : List (Nat × em_Op) := [(0, o_aload 0 1), (1, o_getf 4 5 4), (4, o_getf 2 7 7), (7, o_istore 1 8), (8, o_aload 0 9), (9, o_getf 4 5 12), (12, o_iconst 0 13), (13, o_putI 2 7 16), (16, o_iload 1 17), (17, o_iret)]
theorem me_X9_clean : em_Me T_X9_clean 2 sp_X9_clean := by
  intro Q K hK hle av hp hs
  obtain ⟨by9, tln, tst, ten, mm, fa9, fb9, rf, im, pe, ki, mi, se, we, lea, mst, pa, fi, sd, ev, un, ma, ea, co, ca, clt, Y, rfl, rfl, hq⟩ := hs
  exact ⟨Nat.le_of_ble_eq_true rfl, hK 0 9999 0 _ _ _ hq⟩
abbrev rm_X9_clean : Room := { frames := 0, cells := 0, slots := 0, locals := 0 }
set_option maxRecDepth 100000 in
set_option maxHeartbeats 4000000 in
theorem ct_X9_clean (l : Launch) (D : va_G) (dA : Nat → ClassId) (σ : Nat → Nat) : em_CT l D em_cl dA σ (em_F σ) y_X9_clean c_X9_clean 2 (Option.some ClassFile.FieldType.int) rm_X9_clean (sp_X9_clean ) := by
  refine em_CT_of (T := T_X9_clean ) (em_F_ok σ) (by decide) (fun p e s m args below meth c A ρ Q C hFok hF hret hlk hin => ?_) (me_X9_clean )
  unfold T_X9_clean
  refine List.forall_mem_cons.mpr ⟨s_aload_n C (by decide +kernel : decode c_X9_clean 0 = .ok (.aload_n 0, 1)) rfl rfl rfl, ?_⟩
  refine List.forall_mem_cons.mpr ⟨s_getf C (by decide +kernel : decode c_X9_clean 1 = .ok (.getfield 41, 3)) rfl rfl em_cl_X9 (by decide) ew157 rfl, ?_⟩
  refine List.forall_mem_cons.mpr ⟨s_getf C (by decide +kernel : decode c_X9_clean 4 = .ok (.getfield 86, 3)) rfl rfl em_cl_X7 (by decide) ew101 rfl, ?_⟩
  refine List.forall_mem_cons.mpr ⟨s_istore_n C (by decide +kernel : decode c_X9_clean 7 = .ok (.istore_n 1, 1)) rfl rfl rfl (by decide), ?_⟩
  refine List.forall_mem_cons.mpr ⟨s_aload_n C (by decide +kernel : decode c_X9_clean 8 = .ok (.aload_n 0, 1)) rfl rfl rfl, ?_⟩
  refine List.forall_mem_cons.mpr ⟨s_getf C (by decide +kernel : decode c_X9_clean 9 = .ok (.getfield 41, 3)) rfl rfl em_cl_X9 (by decide) ew157 rfl, ?_⟩
  refine List.forall_mem_cons.mpr ⟨s_iconst C (by decide +kernel : decode c_X9_clean 12 = .ok (.iconst 0, 1)) rfl rfl (by decide), ?_⟩
  refine List.forall_mem_cons.mpr ⟨s_putI C (by decide +kernel : decode c_X9_clean 13 = .ok (.putfield 86, 3)) rfl rfl em_cl_X7 (by decide) ew101 rfl (by decide) (by decide +kernel), ?_⟩
  refine List.forall_mem_cons.mpr ⟨s_iload_n C (by decide +kernel : decode c_X9_clean 16 = .ok (.iload_n 1, 1)) rfl rfl rfl, ?_⟩
  refine List.forall_mem_cons.mpr ⟨s_iret C (by decide +kernel : decode c_X9_clean 17 = .ok (.ireturn, 1)) hret hlk ⟨Nat.le_refl 0, Nat.le_refl 0⟩, ?_⟩
  exact fun _ h => absurd h List.not_mem_nil
def sp_X9_clear : em_Sp := fun av hp Q => ∃ by9 tln tst ten mm fa9 fb9 rf im pe ki mi se we lea mst pa fi sd ev un ma ea co ca clt Y, av = [.ref 0] ∧ hp = (wX by9 tln tst ten mm fa9 fb9 rf im pe ki mi se we lea mst pa fi sd ev un ma ea co ca clt Y) ∧ Q (some (.int tln)) (wX by9 (0) tst ten mm fa9 fb9 rf im pe ki mi se we lea mst pa fi sd ev un ma ea co ca clt Y)
def T_X9_clear : List (Nat × em_Op) := [(0, o_aload 0 1), (1, o_getf 4 0 4), (4, o_getf 3 1 7), (7, o_istore 1 8), (8, o_aload 0 9), (9, o_getf 4 0 12), (12, o_iconst 0 13), (13, o_putI 3 1 16), (16, o_iload 1 17), (17, o_iret)]
theorem me_X9_clear : em_Me T_X9_clear 2 sp_X9_clear := by
  intro Q K hK hle av hp hs
  obtain ⟨by9, tln, tst, ten, mm, fa9, fb9, rf, im, pe, ki, mi, se, we, lea, mst, pa, fi, sd, ev, un, ma, ea, co, ca, clt, Y, rfl, rfl, hq⟩ := hs
  exact ⟨Nat.le_of_ble_eq_true rfl, hK 0 9999 0 _ _ _ hq⟩
abbrev rm_X9_clear : Room := { frames := 0, cells := 0, slots := 0, locals := 0 }
set_option maxRecDepth 100000 in
set_option maxHeartbeats 4000000 in
theorem ct_X9_clear (l : Launch) (D : va_G) (dA : Nat → ClassId) (σ : Nat → Nat) : em_CT l D em_cl dA σ (em_F σ) y_X9_clear c_X9_clear 2 (Option.some ClassFile.FieldType.int) rm_X9_clear (sp_X9_clear ) := by
  refine em_CT_of (T := T_X9_clear ) (em_F_ok σ) (by decide) (fun p e s m args below meth c A ρ Q C hFok hF hret hlk hin => ?_) (me_X9_clear )
  unfold T_X9_clear
  refine List.forall_mem_cons.mpr ⟨s_aload_n C (by decide +kernel : decode c_X9_clear 0 = .ok (.aload_n 0, 1)) rfl rfl rfl, ?_⟩
  refine List.forall_mem_cons.mpr ⟨s_getf C (by decide +kernel : decode c_X9_clear 1 = .ok (.getfield 10, 3)) rfl rfl em_cl_X9 (by decide) ew152 rfl, ?_⟩
  refine List.forall_mem_cons.mpr ⟨s_getf C (by decide +kernel : decode c_X9_clear 4 = .ok (.getfield 93, 3)) rfl rfl em_cl_X8 (by decide) ew35 rfl, ?_⟩
  refine List.forall_mem_cons.mpr ⟨s_istore_n C (by decide +kernel : decode c_X9_clear 7 = .ok (.istore_n 1, 1)) rfl rfl rfl (by decide), ?_⟩
  refine List.forall_mem_cons.mpr ⟨s_aload_n C (by decide +kernel : decode c_X9_clear 8 = .ok (.aload_n 0, 1)) rfl rfl rfl, ?_⟩
  refine List.forall_mem_cons.mpr ⟨s_getf C (by decide +kernel : decode c_X9_clear 9 = .ok (.getfield 10, 3)) rfl rfl em_cl_X9 (by decide) ew152 rfl, ?_⟩
  refine List.forall_mem_cons.mpr ⟨s_iconst C (by decide +kernel : decode c_X9_clear 12 = .ok (.iconst 0, 1)) rfl rfl (by decide), ?_⟩
  refine List.forall_mem_cons.mpr ⟨s_putI C (by decide +kernel : decode c_X9_clear 13 = .ok (.putfield 93, 3)) rfl rfl em_cl_X8 (by decide) ew35 rfl (by decide) (by decide +kernel), ?_⟩
  refine List.forall_mem_cons.mpr ⟨s_iload_n C (by decide +kernel : decode c_X9_clear 16 = .ok (.iload_n 1, 1)) rfl rfl rfl, ?_⟩
  refine List.forall_mem_cons.mpr ⟨s_iret C (by decide +kernel : decode c_X9_clear 17 = .ok (.ireturn, 1)) hret hlk ⟨Nat.le_refl 0, Nat.le_refl 0⟩, ?_⟩
  exact fun _ h => absurd h List.not_mem_nil
def sp_X9_burn : em_Sp := fun av hp Q => ∃ by9 tln tst ten mm fa9 fb9 rf im pe ki mi se we lea mst pa fi sd ev un ma ea co ca clt Y, av = [.ref 0] ∧ hp = (wX by9 tln tst ten mm fa9 fb9 rf im pe ki mi se we lea mst pa fi sd ev un ma ea co ca clt Y) ∧ Q (some (.int co)) (wX by9 tln tst ten mm fa9 fb9 rf im pe ki mi se we lea mst pa fi sd ev un ma ea (0) ca clt Y)
def T_X9_burn : List (Nat × em_Op) := [(0, o_aload 0 1), (1, o_getf 4 5 4), (4, o_getf 2 14 7), (7, o_istore 1 8), (8, o_aload 0 9), (9, o_getf 4 5 12), (12, o_iconst 0 13), (13, o_putI 2 14 16), (16, o_iload 1 17), (17, o_iret)]
theorem me_X9_burn : em_Me T_X9_burn 2 sp_X9_burn := by
  intro Q K hK hle av hp hs
  obtain ⟨by9, tln, tst, ten, mm, fa9, fb9, rf, im, pe, ki, mi, se, we, lea, mst, pa, fi, sd, ev, un, ma, ea, co, ca, clt, Y, rfl, rfl, hq⟩ := hs
  exact ⟨Nat.le_of_ble_eq_true rfl, hK 0 9999 0 _ _ _ hq⟩
abbrev rm_X9_burn : Room := { frames := 0, cells := 0, slots := 0, locals := 0 }
set_option maxRecDepth 100000 in
set_option maxHeartbeats 4000000 in
theorem ct_X9_burn (l : Launch) (D : va_G) (dA : Nat → ClassId) (σ : Nat → Nat) : em_CT l D em_cl dA σ (em_F σ) y_X9_burn c_X9_burn 2 (Option.some ClassFile.FieldType.int) rm_X9_burn (sp_X9_burn ) := by
  refine em_CT_of (T := T_X9_burn ) (em_F_ok σ) (by decide) (fun p e s m args below meth c A ρ Q C hFok hF hret hlk hin => ?_) (me_X9_burn )
  unfold T_X9_burn
  refine List.forall_mem_cons.mpr ⟨s_aload_n C (by decide +kernel : decode c_X9_burn 0 = .ok (.aload_n 0, 1)) rfl rfl rfl, ?_⟩
  refine List.forall_mem_cons.mpr ⟨s_getf C (by decide +kernel : decode c_X9_burn 1 = .ok (.getfield 41, 3)) rfl rfl em_cl_X9 (by decide) ew157 rfl, ?_⟩
  refine List.forall_mem_cons.mpr ⟨s_getf C (by decide +kernel : decode c_X9_burn 4 = .ok (.getfield 228, 3)) rfl rfl em_cl_X7 (by decide) ew112 rfl, ?_⟩
  refine List.forall_mem_cons.mpr ⟨s_istore_n C (by decide +kernel : decode c_X9_burn 7 = .ok (.istore_n 1, 1)) rfl rfl rfl (by decide), ?_⟩
  refine List.forall_mem_cons.mpr ⟨s_aload_n C (by decide +kernel : decode c_X9_burn 8 = .ok (.aload_n 0, 1)) rfl rfl rfl, ?_⟩
  refine List.forall_mem_cons.mpr ⟨s_getf C (by decide +kernel : decode c_X9_burn 9 = .ok (.getfield 41, 3)) rfl rfl em_cl_X9 (by decide) ew157 rfl, ?_⟩
  refine List.forall_mem_cons.mpr ⟨s_iconst C (by decide +kernel : decode c_X9_burn 12 = .ok (.iconst 0, 1)) rfl rfl (by decide), ?_⟩
  refine List.forall_mem_cons.mpr ⟨s_putI C (by decide +kernel : decode c_X9_burn 13 = .ok (.putfield 228, 3)) rfl rfl em_cl_X7 (by decide) ew112 rfl (by decide) (by decide +kernel), ?_⟩
  refine List.forall_mem_cons.mpr ⟨s_iload_n C (by decide +kernel : decode c_X9_burn 16 = .ok (.iload_n 1, 1)) rfl rfl rfl, ?_⟩
  refine List.forall_mem_cons.mpr ⟨s_iret C (by decide +kernel : decode c_X9_burn 17 = .ok (.ireturn, 1)) hret hlk ⟨Nat.le_refl 0, Nat.le_refl 0⟩, ?_⟩
  exact fun _ h => absurd h List.not_mem_nil
def sp_X9_opinions : em_Sp := fun av hp Q => ∃ by9 tln tst ten mm fa9 fb9 rf im pe ki mi se we lea mst pa fi sd ev un ma ea co ca clt Y p, av = [.ref 0, .int p] ∧ hp = (wX by9 tln tst ten mm fa9 fb9 rf im pe ki mi se we lea mst pa fi sd ev un ma ea co ca clt Y) ∧ (¬ hs pe p → Q (some (.int (-2))) (wX by9 tln tst ten mm fa9 fb9 (rfu rf (-2)) im pe ki mi se we lea mst pa fi sd ev un ma ea co ca clt Y)) ∧ (hs pe p → Q (some (.int (mo mi p))) hp)
def T_X9_opinions : List (Nat × em_Op) := [(0, o_aload 0 1), (1, o_getf 4 5 4), (4, o_iload 1 5), (5, o_callP 2 (some 2) [8, 9, 10, 11, 12, 13, 14, 15] (sp_X7_has) 8), (8, o_ifne 18 11), (11, o_aload 0 12), (12, o_iconst (-2) 14), (14, o_call 2 (some 4) (sp_X9_refuse) 17), (17, o_iret), (18, o_aload 0 19), (19, o_getf 4 5 22), (22, o_getf 2 2 25), (25, o_iload 1 26), (26, o_call 2 none (sp_X5_of) 29), (29, o_iret)]
theorem me_X9_opinions : em_Me T_X9_opinions 2 sp_X9_opinions := by
  intro Q K hK hle av hp hs
  obtain ⟨by9, tln, tst, ten, mm, fa9, fb9, rf, im, pe, ki, mi, se, we, lea, mst, pa, fi, sd, ev, un, ma, ea, co, ca, clt, Y, p, rfl, rfl, hb, hq⟩ := hs
  refine ⟨Nat.le_of_ble_eq_true rfl, hK 0 9999 0 _ _ _ ?_⟩
  refine ⟨_, _, _, _, _, _, _, _, _, _, _, _, _, _, _, _, _, p, rfl, rfl, fun z => ?_, fun z => ?_⟩
  · refine ⟨fun _ => ?_, fun y => absurd y (by decide)⟩
    exact ⟨_, _, rfl, hq z⟩
  · refine ⟨fun y => absurd rfl y, fun _ => ?_⟩
    exact ⟨_, _, _, _, _, _, _, _, _, _, _, _, _, _, _, _, _, _, _, _, _, _, _, _, _, _, _, _, rfl, rfl, hb z⟩
abbrev rm_X9_opinions : Room := { frames := 1, cells := 0, slots := 0, locals := 22 }
set_option maxRecDepth 100000 in
set_option maxHeartbeats 4000000 in
theorem ct_X9_opinions (l : Launch) (D : va_G) (dA : Nat → ClassId) (σ : Nat → Nat) : em_CT l D em_cl dA σ (em_F σ) y_X9_opinions c_X9_opinions 2 (Option.some ClassFile.FieldType.int) rm_X9_opinions (sp_X9_opinions ) := by
  refine em_CT_of (T := T_X9_opinions ) (em_F_ok σ) (by decide) (fun p e s m args below meth c A ρ Q C hFok hF hret hlk hin => ?_) (me_X9_opinions )
  unfold T_X9_opinions
  refine List.forall_mem_cons.mpr ⟨s_aload_n C (by decide +kernel : decode c_X9_opinions 0 = .ok (.aload_n 0, 1)) rfl rfl rfl, ?_⟩
  refine List.forall_mem_cons.mpr ⟨s_getf C (by decide +kernel : decode c_X9_opinions 1 = .ok (.getfield 41, 3)) rfl rfl em_cl_X9 (by decide) ew157 rfl, ?_⟩
  refine List.forall_mem_cons.mpr ⟨s_iload_n C (by decide +kernel : decode c_X9_opinions 4 = .ok (.iload_n 1, 1)) rfl rfl rfl, ?_⟩
  refine List.forall_mem_cons.mpr ⟨s_callPV C hFok hF (ct_X7_has l D dA σ) ⟨rfl, rfl⟩ ew208 em_cl_X7 ew205 ew206 ew207 ew5 ⟨by decide, by decide, by decide +kernel⟩ ⟨by decide, by decide⟩ (by decide +kernel : decode c_X9_opinions 5 = .ok (.invokevirtual 56, 3)) rfl rfl ⟨Nat.zero_le _, Nat.zero_le _⟩ (by decide), ?_⟩
  refine List.forall_mem_cons.mpr ⟨s_ifne C (by decide +kernel : decode c_X9_opinions 8 = .ok (.ifCond .ne 10, 3)) (by decide) rfl rfl rfl, ?_⟩
  refine List.forall_mem_cons.mpr ⟨s_aload_n C (by decide +kernel : decode c_X9_opinions 11 = .ok (.aload_n 0, 1)) rfl rfl rfl, ?_⟩
  refine List.forall_mem_cons.mpr ⟨s_bipush C (by decide +kernel : decode c_X9_opinions 12 = .ok (.bipush (-2), 2)) rfl rfl (by decide), ?_⟩
  refine List.forall_mem_cons.mpr ⟨s_callV C hFok hF (ct_X9_refuse l D dA σ) ⟨rfl, rfl⟩ ew200 em_cl_X9 ew197 ew199 ewp1 ew1 ⟨by decide, by decide, by decide +kernel⟩ ⟨by decide, by decide⟩ (by decide +kernel : decode c_X9_opinions 14 = .ok (.invokevirtual 63, 3)) rfl rfl ⟨Nat.zero_le _, Nat.zero_le _⟩, ?_⟩
  refine List.forall_mem_cons.mpr ⟨s_iret C (by decide +kernel : decode c_X9_opinions 17 = .ok (.ireturn, 1)) hret hlk ⟨Nat.le_refl 0, Nat.le_refl 0⟩, ?_⟩
  refine List.forall_mem_cons.mpr ⟨s_aload_n C (by decide +kernel : decode c_X9_opinions 18 = .ok (.aload_n 0, 1)) rfl rfl rfl, ?_⟩
  refine List.forall_mem_cons.mpr ⟨s_getf C (by decide +kernel : decode c_X9_opinions 19 = .ok (.getfield 41, 3)) rfl rfl em_cl_X9 (by decide) ew157 rfl, ?_⟩
  refine List.forall_mem_cons.mpr ⟨s_getf C (by decide +kernel : decode c_X9_opinions 22 = .ok (.getfield 103, 3)) rfl rfl em_cl_X7 (by decide) ew94 rfl, ?_⟩
  refine List.forall_mem_cons.mpr ⟨s_iload_n C (by decide +kernel : decode c_X9_opinions 25 = .ok (.iload_n 1, 1)) rfl rfl rfl, ?_⟩
  refine List.forall_mem_cons.mpr ⟨s_callS C hFok hF (ct_X5_of l D dA σ) ⟨rfl, rfl⟩ ew216 ew377 ew215 ew8 ⟨by decide, by decide, by decide +kernel⟩ ⟨by decide, by decide⟩ (by decide +kernel : decode c_X9_opinions 26 = .ok (.invokestatic 107, 3)) rfl rfl ⟨Nat.zero_le _, Nat.zero_le _⟩, ?_⟩
  refine List.forall_mem_cons.mpr ⟨s_iret C (by decide +kernel : decode c_X9_opinions 29 = .ok (.ireturn, 1)) hret hlk ⟨Nat.le_refl 0, Nat.le_refl 0⟩, ?_⟩
  exact fun _ h => absurd h List.not_mem_nil
def sp_X9_differ : em_Sp := fun av hp Q => ∃ by9 tln tst ten mm fa9 fb9 rf im pe ki mi se we lea mst pa fi sd ev un ma ea co ca clt Y a b, av = [.ref 0, .int a, .int b] ∧ hp = (wX by9 tln tst ten mm fa9 fb9 rf im pe ki mi se we lea mst pa fi sd ev un ma ea co ca clt Y) ∧ (¬ h2 pe a b → Q (some (.int (-2))) (wX by9 tln tst ten mm fa9 fb9 (rfu rf (-2)) im pe ki mi se we lea mst pa fi sd ev un ma ea co ca clt Y)) ∧ (h2 pe a b → Q (some (.int (dif mi a b))) hp)
def T_X9_differ : List (Nat × em_Op) := [(0, o_aload 0 1), (1, o_getf 4 5 4), (4, o_iload 1 5), (5, o_iload 2 6), (6, o_callP 3 (some 2) [8, 9, 10, 11, 12, 13, 14, 15] (sp_X7_hasTwo) 9), (9, o_ifne 19 12), (12, o_aload 0 13), (13, o_iconst (-2) 15), (15, o_call 2 (some 4) (sp_X9_refuse) 18), (18, o_iret), (19, o_aload 0 20), (20, o_getf 4 5 23), (23, o_getf 2 2 26), (26, o_iload 1 27), (27, o_call 2 none (sp_X5_of) 30), (30, o_aload 0 31), (31, o_getf 4 5 34), (34, o_getf 2 2 37), (37, o_iload 2 38), (38, o_call 2 none (sp_X5_of) 41), (41, o_ixor 42), (42, o_iret)]
theorem me_X9_differ : em_Me T_X9_differ 3 sp_X9_differ := by
  intro Q K hK hle av hp hs
  obtain ⟨by9, tln, tst, ten, mm, fa9, fb9, rf, im, pe, ki, mi, se, we, lea, mst, pa, fi, sd, ev, un, ma, ea, co, ca, clt, Y, a, b, rfl, rfl, hb, hq⟩ := hs
  refine ⟨Nat.le_of_ble_eq_true rfl, hK 0 9999 0 _ _ _ ?_⟩
  refine ⟨_, _, _, _, _, _, _, _, _, _, _, _, _, _, _, _, _, a, b, rfl, rfl, fun z => ?_, fun z => ?_⟩
  · refine ⟨fun _ => ?_, fun y => absurd y (by decide)⟩
    exact ⟨_, _, rfl, _, _, rfl, hq z⟩
  · refine ⟨fun y => absurd rfl y, fun _ => ?_⟩
    exact ⟨_, _, _, _, _, _, _, _, _, _, _, _, _, _, _, _, _, _, _, _, _, _, _, _, _, _, _, _, rfl, rfl, hb z⟩
abbrev rm_X9_differ : Room := { frames := 2, cells := 0, slots := 0, locals := 43 }
set_option maxRecDepth 100000 in
set_option maxHeartbeats 4000000 in
theorem ct_X9_differ (l : Launch) (D : va_G) (dA : Nat → ClassId) (σ : Nat → Nat) : em_CT l D em_cl dA σ (em_F σ) y_X9_differ c_X9_differ 3 (Option.some ClassFile.FieldType.int) rm_X9_differ (sp_X9_differ ) := by
  refine em_CT_of (T := T_X9_differ ) (em_F_ok σ) (by decide) (fun p e s m args below meth c A ρ Q C hFok hF hret hlk hin => ?_) (me_X9_differ )
  unfold T_X9_differ
  refine List.forall_mem_cons.mpr ⟨s_aload_n C (by decide +kernel : decode c_X9_differ 0 = .ok (.aload_n 0, 1)) rfl rfl rfl, ?_⟩
  refine List.forall_mem_cons.mpr ⟨s_getf C (by decide +kernel : decode c_X9_differ 1 = .ok (.getfield 41, 3)) rfl rfl em_cl_X9 (by decide) ew157 rfl, ?_⟩
  refine List.forall_mem_cons.mpr ⟨s_iload_n C (by decide +kernel : decode c_X9_differ 4 = .ok (.iload_n 1, 1)) rfl rfl rfl, ?_⟩
  refine List.forall_mem_cons.mpr ⟨s_iload_n C (by decide +kernel : decode c_X9_differ 5 = .ok (.iload_n 2, 1)) rfl rfl rfl, ?_⟩
  refine List.forall_mem_cons.mpr ⟨s_callPV C hFok hF (ct_X7_hasTwo l D dA σ) ⟨rfl, rfl⟩ ew254 em_cl_X7 ew382 ew252 ew253 ew5 ⟨by decide, by decide, by decide +kernel⟩ ⟨by decide, by decide⟩ (by decide +kernel : decode c_X9_differ 6 = .ok (.invokevirtual 113, 3)) rfl rfl ⟨Nat.zero_le _, Nat.zero_le _⟩ (by decide), ?_⟩
  refine List.forall_mem_cons.mpr ⟨s_ifne C (by decide +kernel : decode c_X9_differ 9 = .ok (.ifCond .ne 10, 3)) (by decide) rfl rfl rfl, ?_⟩
  refine List.forall_mem_cons.mpr ⟨s_aload_n C (by decide +kernel : decode c_X9_differ 12 = .ok (.aload_n 0, 1)) rfl rfl rfl, ?_⟩
  refine List.forall_mem_cons.mpr ⟨s_bipush C (by decide +kernel : decode c_X9_differ 13 = .ok (.bipush (-2), 2)) rfl rfl (by decide), ?_⟩
  refine List.forall_mem_cons.mpr ⟨s_callV C hFok hF (ct_X9_refuse l D dA σ) ⟨rfl, rfl⟩ ew200 em_cl_X9 ew197 ew199 ewp1 ew1 ⟨by decide, by decide, by decide +kernel⟩ ⟨by decide, by decide⟩ (by decide +kernel : decode c_X9_differ 15 = .ok (.invokevirtual 63, 3)) rfl rfl ⟨Nat.zero_le _, Nat.zero_le _⟩, ?_⟩
  refine List.forall_mem_cons.mpr ⟨s_iret C (by decide +kernel : decode c_X9_differ 18 = .ok (.ireturn, 1)) hret hlk ⟨Nat.le_refl 0, Nat.le_refl 0⟩, ?_⟩
  refine List.forall_mem_cons.mpr ⟨s_aload_n C (by decide +kernel : decode c_X9_differ 19 = .ok (.aload_n 0, 1)) rfl rfl rfl, ?_⟩
  refine List.forall_mem_cons.mpr ⟨s_getf C (by decide +kernel : decode c_X9_differ 20 = .ok (.getfield 41, 3)) rfl rfl em_cl_X9 (by decide) ew157 rfl, ?_⟩
  refine List.forall_mem_cons.mpr ⟨s_getf C (by decide +kernel : decode c_X9_differ 23 = .ok (.getfield 103, 3)) rfl rfl em_cl_X7 (by decide) ew94 rfl, ?_⟩
  refine List.forall_mem_cons.mpr ⟨s_iload_n C (by decide +kernel : decode c_X9_differ 26 = .ok (.iload_n 1, 1)) rfl rfl rfl, ?_⟩
  refine List.forall_mem_cons.mpr ⟨s_callS C hFok hF (ct_X5_of l D dA σ) ⟨rfl, rfl⟩ ew216 ew377 ew215 ew8 ⟨by decide, by decide, by decide +kernel⟩ ⟨by decide, by decide⟩ (by decide +kernel : decode c_X9_differ 27 = .ok (.invokestatic 107, 3)) rfl rfl ⟨Nat.zero_le _, Nat.zero_le _⟩, ?_⟩
  refine List.forall_mem_cons.mpr ⟨s_aload_n C (by decide +kernel : decode c_X9_differ 30 = .ok (.aload_n 0, 1)) rfl rfl rfl, ?_⟩
  refine List.forall_mem_cons.mpr ⟨s_getf C (by decide +kernel : decode c_X9_differ 31 = .ok (.getfield 41, 3)) rfl rfl em_cl_X9 (by decide) ew157 rfl, ?_⟩
  refine List.forall_mem_cons.mpr ⟨s_getf C (by decide +kernel : decode c_X9_differ 34 = .ok (.getfield 103, 3)) rfl rfl em_cl_X7 (by decide) ew94 rfl, ?_⟩
  refine List.forall_mem_cons.mpr ⟨s_iload_n C (by decide +kernel : decode c_X9_differ 37 = .ok (.iload_n 2, 1)) rfl rfl rfl, ?_⟩
  refine List.forall_mem_cons.mpr ⟨s_callS C hFok hF (ct_X5_of l D dA σ) ⟨rfl, rfl⟩ ew216 ew377 ew215 ew8 ⟨by decide, by decide, by decide +kernel⟩ ⟨by decide, by decide⟩ (by decide +kernel : decode c_X9_differ 38 = .ok (.invokestatic 107, 3)) rfl rfl ⟨Nat.zero_le _, Nat.zero_le _⟩, ?_⟩
  refine List.forall_mem_cons.mpr ⟨s_ixor C (by decide +kernel : decode c_X9_differ 41 = .ok (.ixor, 1)) rfl rfl, ?_⟩
  refine List.forall_mem_cons.mpr ⟨s_iret C (by decide +kernel : decode c_X9_differ 42 = .ok (.ireturn, 1)) hret hlk ⟨Nat.le_refl 0, Nat.le_refl 0⟩, ?_⟩
  exact fun _ h => absurd h List.not_mem_nil
def sp_X9_apart : em_Sp := fun av hp Q => ∃ by9 tln tst ten mm fa9 fb9 rf im pe ki mi se we lea mst pa fi sd ev un ma ea co ca clt Y a b, av = [.ref 0, .int a, .int b] ∧ hp = (wX by9 tln tst ten mm fa9 fb9 rf im pe ki mi se we lea mst pa fi sd ev un ma ea co ca clt Y) ∧ (¬ h2 pe a b → Q (some (.int (-2))) (wX by9 tln tst ten mm fa9 fb9 (rfu rf (-2)) im pe ki mi se we lea mst pa fi sd ev un ma ea co ca clt Y)) ∧ (h2 pe a b → Q (some (.int (dst we (mo mi a) (mo mi b)))) hp)
def T_X9_apart : List (Nat × em_Op) := [(0, o_aload 0 1), (1, o_getf 4 5 4), (4, o_iload 1 5), (5, o_iload 2 6), (6, o_callP 3 (some 2) [8, 9, 10, 11, 12, 13, 14, 15] (sp_X7_hasTwo) 9), (9, o_ifne 19 12), (12, o_aload 0 13), (13, o_iconst (-2) 15), (15, o_call 2 (some 4) (sp_X9_refuse) 18), (18, o_iret), (19, o_aload 0 20), (20, o_getf 4 5 23), (23, o_aload 0 24), (24, o_getf 4 5 27), (27, o_getf 2 2 30), (30, o_iload 1 31), (31, o_call 2 none (sp_X5_of) 34), (34, o_aload 0 35), (35, o_getf 4 5 38), (38, o_getf 2 2 41), (41, o_iload 2 42), (42, o_call 2 none (sp_X5_of) 45), (45, o_callP 3 (some 2) [8, 9, 10, 11, 12, 13, 14, 15] (sp_X7_distance) 48), (48, o_iret)]
theorem me_X9_apart : em_Me T_X9_apart 3 sp_X9_apart := by
  intro Q K hK hle av hp hs
  obtain ⟨by9, tln, tst, ten, mm, fa9, fb9, rf, im, pe, ki, mi, se, we, lea, mst, pa, fi, sd, ev, un, ma, ea, co, ca, clt, Y, a, b, rfl, rfl, hb, hq⟩ := hs
  refine ⟨Nat.le_of_ble_eq_true rfl, hK 0 9999 0 _ _ _ ?_⟩
  refine ⟨_, _, _, _, _, _, _, _, _, _, _, _, _, _, _, _, _, a, b, rfl, rfl, fun z => ?_, fun z => ?_⟩
  · refine ⟨fun _ => ?_, fun y => absurd y (by decide)⟩
    exact ⟨_, _, rfl, _, _, rfl, _, _, _, _, _, _, _, _, _, _, _, _, _, _, _, _, _, _, _, rfl, rfl, hq z⟩
  · refine ⟨fun y => absurd rfl y, fun _ => ?_⟩
    exact ⟨_, _, _, _, _, _, _, _, _, _, _, _, _, _, _, _, _, _, _, _, _, _, _, _, _, _, _, _, rfl, rfl, hb z⟩
abbrev rm_X9_apart : Room := { frames := 2, cells := 0, slots := 0, locals := 43 }
set_option maxRecDepth 100000 in
set_option maxHeartbeats 4000000 in
theorem ct_X9_apart (l : Launch) (D : va_G) (dA : Nat → ClassId) (σ : Nat → Nat) : em_CT l D em_cl dA σ (em_F σ) y_X9_apart c_X9_apart 3 (Option.some ClassFile.FieldType.int) rm_X9_apart (sp_X9_apart ) := by
  refine em_CT_of (T := T_X9_apart ) (em_F_ok σ) (by decide) (fun p e s m args below meth c A ρ Q C hFok hF hret hlk hin => ?_) (me_X9_apart )
  unfold T_X9_apart
  refine List.forall_mem_cons.mpr ⟨s_aload_n C (by decide +kernel : decode c_X9_apart 0 = .ok (.aload_n 0, 1)) rfl rfl rfl, ?_⟩
  refine List.forall_mem_cons.mpr ⟨s_getf C (by decide +kernel : decode c_X9_apart 1 = .ok (.getfield 41, 3)) rfl rfl em_cl_X9 (by decide) ew157 rfl, ?_⟩
  refine List.forall_mem_cons.mpr ⟨s_iload_n C (by decide +kernel : decode c_X9_apart 4 = .ok (.iload_n 1, 1)) rfl rfl rfl, ?_⟩
  refine List.forall_mem_cons.mpr ⟨s_iload_n C (by decide +kernel : decode c_X9_apart 5 = .ok (.iload_n 2, 1)) rfl rfl rfl, ?_⟩
  refine List.forall_mem_cons.mpr ⟨s_callPV C hFok hF (ct_X7_hasTwo l D dA σ) ⟨rfl, rfl⟩ ew254 em_cl_X7 ew382 ew252 ew253 ew5 ⟨by decide, by decide, by decide +kernel⟩ ⟨by decide, by decide⟩ (by decide +kernel : decode c_X9_apart 6 = .ok (.invokevirtual 113, 3)) rfl rfl ⟨Nat.zero_le _, Nat.zero_le _⟩ (by decide), ?_⟩
  refine List.forall_mem_cons.mpr ⟨s_ifne C (by decide +kernel : decode c_X9_apart 9 = .ok (.ifCond .ne 10, 3)) (by decide) rfl rfl rfl, ?_⟩
  refine List.forall_mem_cons.mpr ⟨s_aload_n C (by decide +kernel : decode c_X9_apart 12 = .ok (.aload_n 0, 1)) rfl rfl rfl, ?_⟩
  refine List.forall_mem_cons.mpr ⟨s_bipush C (by decide +kernel : decode c_X9_apart 13 = .ok (.bipush (-2), 2)) rfl rfl (by decide), ?_⟩
  refine List.forall_mem_cons.mpr ⟨s_callV C hFok hF (ct_X9_refuse l D dA σ) ⟨rfl, rfl⟩ ew200 em_cl_X9 ew197 ew199 ewp1 ew1 ⟨by decide, by decide, by decide +kernel⟩ ⟨by decide, by decide⟩ (by decide +kernel : decode c_X9_apart 15 = .ok (.invokevirtual 63, 3)) rfl rfl ⟨Nat.zero_le _, Nat.zero_le _⟩, ?_⟩
  refine List.forall_mem_cons.mpr ⟨s_iret C (by decide +kernel : decode c_X9_apart 18 = .ok (.ireturn, 1)) hret hlk ⟨Nat.le_refl 0, Nat.le_refl 0⟩, ?_⟩
  refine List.forall_mem_cons.mpr ⟨s_aload_n C (by decide +kernel : decode c_X9_apart 19 = .ok (.aload_n 0, 1)) rfl rfl rfl, ?_⟩
  refine List.forall_mem_cons.mpr ⟨s_getf C (by decide +kernel : decode c_X9_apart 20 = .ok (.getfield 41, 3)) rfl rfl em_cl_X9 (by decide) ew157 rfl, ?_⟩
  refine List.forall_mem_cons.mpr ⟨s_aload_n C (by decide +kernel : decode c_X9_apart 23 = .ok (.aload_n 0, 1)) rfl rfl rfl, ?_⟩
  refine List.forall_mem_cons.mpr ⟨s_getf C (by decide +kernel : decode c_X9_apart 24 = .ok (.getfield 41, 3)) rfl rfl em_cl_X9 (by decide) ew157 rfl, ?_⟩
  refine List.forall_mem_cons.mpr ⟨s_getf C (by decide +kernel : decode c_X9_apart 27 = .ok (.getfield 103, 3)) rfl rfl em_cl_X7 (by decide) ew94 rfl, ?_⟩
  refine List.forall_mem_cons.mpr ⟨s_iload_n C (by decide +kernel : decode c_X9_apart 30 = .ok (.iload_n 1, 1)) rfl rfl rfl, ?_⟩
  refine List.forall_mem_cons.mpr ⟨s_callS C hFok hF (ct_X5_of l D dA σ) ⟨rfl, rfl⟩ ew216 ew377 ew215 ew8 ⟨by decide, by decide, by decide +kernel⟩ ⟨by decide, by decide⟩ (by decide +kernel : decode c_X9_apart 31 = .ok (.invokestatic 107, 3)) rfl rfl ⟨Nat.zero_le _, Nat.zero_le _⟩, ?_⟩
  refine List.forall_mem_cons.mpr ⟨s_aload_n C (by decide +kernel : decode c_X9_apart 34 = .ok (.aload_n 0, 1)) rfl rfl rfl, ?_⟩
  refine List.forall_mem_cons.mpr ⟨s_getf C (by decide +kernel : decode c_X9_apart 35 = .ok (.getfield 41, 3)) rfl rfl em_cl_X9 (by decide) ew157 rfl, ?_⟩
  refine List.forall_mem_cons.mpr ⟨s_getf C (by decide +kernel : decode c_X9_apart 38 = .ok (.getfield 103, 3)) rfl rfl em_cl_X7 (by decide) ew94 rfl, ?_⟩
  refine List.forall_mem_cons.mpr ⟨s_iload_n C (by decide +kernel : decode c_X9_apart 41 = .ok (.iload_n 2, 1)) rfl rfl rfl, ?_⟩
  refine List.forall_mem_cons.mpr ⟨s_callS C hFok hF (ct_X5_of l D dA σ) ⟨rfl, rfl⟩ ew216 ew377 ew215 ew8 ⟨by decide, by decide, by decide +kernel⟩ ⟨by decide, by decide⟩ (by decide +kernel : decode c_X9_apart 42 = .ok (.invokestatic 107, 3)) rfl rfl ⟨Nat.zero_le _, Nat.zero_le _⟩, ?_⟩
  refine List.forall_mem_cons.mpr ⟨s_callPV C hFok hF (ct_X7_distance l D dA σ) ⟨rfl, rfl⟩ ew390 em_cl_X7 ew387 ew388 ew389 ew5 ⟨by decide, by decide, by decide +kernel⟩ ⟨by decide, by decide⟩ (by decide +kernel : decode c_X9_apart 45 = .ok (.invokevirtual 117, 3)) rfl rfl ⟨Nat.zero_le _, Nat.zero_le _⟩ (by decide), ?_⟩
  refine List.forall_mem_cons.mpr ⟨s_iret C (by decide +kernel : decode c_X9_apart 48 = .ok (.ireturn, 1)) hret hlk ⟨Nat.le_refl 0, Nat.le_refl 0⟩, ?_⟩
  exact fun _ h => absurd h List.not_mem_nil
def lwb (we lea mst : Int32) (m : Int64) (p : Nat) : Nat → Int32
  | 0 => 0
  | i + 1 => if i ≠ p ∧ mwB we lea mst m p i = true then bor (lwb we lea mst m p i) i else lwb we lea mst m p i
def sp_X9_lawful : em_Sp := fun av hp Q => ∃ by9 tln tst ten mm fa9 fb9 rf im pe ki mi se we lea mst pa fi sd ev un ma ea co ca clt Y p n, av = [.ref 0, .int p] ∧ hp = (wX by9 tln tst ten mm fa9 fb9 rf im pe ki mi se we lea mst pa fi sd ev un ma ea co ca clt Y) ∧ pe = nI n ∧ n ≤ 6 ∧ (¬ hs pe p → Q (some (.int (-2))) (wX by9 tln tst ten mm fa9 fb9 (rfu rf (-2)) im pe ki mi se we lea mst pa fi sd ev un ma ea co ca clt Y)) ∧ (∀ j, p = nI j → j < n → Q (some (.int (lwb we lea mst mi j n))) hp)
def T_X9_lawful : List (Nat × em_Op) := [(0, o_aload 0 1), (1, o_getf 4 5 4), (4, o_iload 1 5), (5, o_callP 2 (some 2) [8, 9, 10, 11, 12, 13, 14, 15] (sp_X7_has) 8), (8, o_ifne 18 11), (11, o_aload 0 12), (12, o_iconst (-2) 14), (14, o_call 2 (some 4) (sp_X9_refuse) 17), (17, o_iret), (18, o_iconst 0 19), (19, o_istore 2 20), (20, o_iconst 0 21), (21, o_istore 3 22), (22, o_iload 3 23), (23, o_aload 0 24), (24, o_getf 4 5 27), (27, o_getf 2 0 30), (30, o_icmpge 69 33), (33, o_iload 3 34), (34, o_iload 1 35), (35, o_icmpeq 63 38), (38, o_aload 0 39), (39, o_getf 4 5 42), (42, o_aload 0 43), (43, o_getf 4 5 46), (46, o_getf 2 2 49), (49, o_iload 1 50), (50, o_iload 3 51), (51, o_callP 4 (some 2) [8, 9, 10, 11, 12, 13, 14, 15] (sp_X7_mayWed) 54), (54, o_ifeq 63 57), (57, o_iload 2 58), (58, o_iconst 1 59), (59, o_iload 3 60), (60, o_ishl 61), (61, o_ior 62), (62, o_istore 2 63), (63, o_iinc 3 1 66), (66, o_goto 22), (69, o_iload 2 70), (70, o_iret)]
theorem me_X9_lawful : em_Me T_X9_lawful 4 sp_X9_lawful := by
  intro Q K hK hle av hp hs
  obtain ⟨by9, tln, tst, ten, mm, fa9, fb9, rf, im, pe, ki, mi, se, we, lea, mst, pa, fi, sd, ev, un, ma, ea, co, ca, clt, Y, p, n, rfl, rfl, rfl, hn, hb, hq⟩ := hs
  refine ⟨Nat.le_of_ble_eq_true rfl, ?_⟩
  refine hK 0 13 0 _ _ _ ?_
  refine ⟨_, _, _, _, _, _, _, _, _, _, _, _, _, _, _, _, _, p, rfl, rfl, fun z => ?_, fun z => ?_⟩
  · refine ⟨fun _ => ?_, fun y => absurd y (by decide)⟩
    obtain ⟨j, hj, rfl⟩ := nI_at rfl z
    have hq := hq j rfl hj
    have loop : ∀ (r i : Nat), i + r = n → K 22 [some (.ref 0), some (.int (nI j)), some (.int (lwb we lea mst mi j i)), some (.int (nI i))] [] (wX by9 tln tst ten mm fa9 fb9 rf im (nI n) ki mi se we lea mst pa fi sd ev un ma ea co ca clt Y) := by
      intro r
      induction r with
      | zero =>
        intro i hi
        have hi : i = n := by omega
        subst hi
        refine hK 13 9999 22 _ _ _ ?_
        exact ⟨fun _ => hq, fun y => absurd (nI_le (Nat.le_refl i) (by omega)) y⟩
      | succ r ih =>
        intro i hi
        have next : ∀ v, v = lwb we lea mst mi j (i + 1) → K 63 [some (.ref 0), some (.int (nI j)), some (.int v), some (.int (nI i))] [] (wX by9 tln tst ten mm fa9 fb9 rf im (nI n) ki mi se we lea mst pa fi sd ev un ma ea co ca clt Y) := by
          intro v hv
          subst hv
          have := ih (i + 1) (by omega)
          rw [← nI_1] at this
          exact hK 36 2 63 _ _ _ this
        refine hK 13 23 22 _ _ _ ?_
        refine ⟨fun y => absurd y (nI_ge (by omega) (by omega)), fun _ => ?_⟩
        refine ⟨fun y => ?_, fun y => ?_⟩
        · have y := (nI_eq (by omega) (by omega)).mp y
          exact next _ (by rw [lwb, if_neg (fun q => q.1 y)])
        · have y : i ≠ j := fun q => y (by rw [q])
          refine ⟨_, _, _, _, _, _, _, _, _, _, _, _, _, _, _, _, _, _, _, _, rfl, rfl, fun z2 => ?_, fun z2 => ?_⟩
          · refine ⟨fun q => absurd q (by decide), fun _ => ?_⟩
            exact next _ (by rw [lwb, if_pos ⟨y, mwB_t z2⟩]; rfl)
          · refine ⟨fun _ => ?_, fun q => absurd q (by decide)⟩
            exact next _ (by rw [lwb, if_neg (fun q => by rw [mwB_f z2] at q; exact Bool.false_ne_true q.2)])
    exact loop n 0 (by omega)
  · refine ⟨fun y => absurd rfl y, fun _ => ?_⟩
    exact ⟨_, _, _, _, _, _, _, _, _, _, _, _, _, _, _, _, _, _, _, _, _, _, _, _, _, _, _, _, rfl, rfl, hb z⟩
abbrev rm_X9_lawful : Room := { frames := 3, cells := 0, slots := 0, locals := 67 }
set_option maxRecDepth 100000 in
set_option maxHeartbeats 4000000 in
theorem ct_X9_lawful (l : Launch) (D : va_G) (dA : Nat → ClassId) (σ : Nat → Nat) : em_CT l D em_cl dA σ (em_F σ) y_X9_lawful c_X9_lawful 4 (Option.some ClassFile.FieldType.int) rm_X9_lawful (sp_X9_lawful ) := by
  refine em_CT_of (T := T_X9_lawful ) (em_F_ok σ) (by decide) (fun p e s m args below meth c A ρ Q C hFok hF hret hlk hin => ?_) (me_X9_lawful )
  unfold T_X9_lawful
  refine List.forall_mem_cons.mpr ⟨s_aload_n C (by decide +kernel : decode c_X9_lawful 0 = .ok (.aload_n 0, 1)) rfl rfl rfl, ?_⟩
  refine List.forall_mem_cons.mpr ⟨s_getf C (by decide +kernel : decode c_X9_lawful 1 = .ok (.getfield 41, 3)) rfl rfl em_cl_X9 (by decide) ew157 rfl, ?_⟩
  refine List.forall_mem_cons.mpr ⟨s_iload_n C (by decide +kernel : decode c_X9_lawful 4 = .ok (.iload_n 1, 1)) rfl rfl rfl, ?_⟩
  refine List.forall_mem_cons.mpr ⟨s_callPV C hFok hF (ct_X7_has l D dA σ) ⟨rfl, rfl⟩ ew208 em_cl_X7 ew205 ew206 ew207 ew5 ⟨by decide, by decide, by decide +kernel⟩ ⟨by decide, by decide⟩ (by decide +kernel : decode c_X9_lawful 5 = .ok (.invokevirtual 56, 3)) rfl rfl ⟨Nat.zero_le _, Nat.zero_le _⟩ (by decide), ?_⟩
  refine List.forall_mem_cons.mpr ⟨s_ifne C (by decide +kernel : decode c_X9_lawful 8 = .ok (.ifCond .ne 10, 3)) (by decide) rfl rfl rfl, ?_⟩
  refine List.forall_mem_cons.mpr ⟨s_aload_n C (by decide +kernel : decode c_X9_lawful 11 = .ok (.aload_n 0, 1)) rfl rfl rfl, ?_⟩
  refine List.forall_mem_cons.mpr ⟨s_bipush C (by decide +kernel : decode c_X9_lawful 12 = .ok (.bipush (-2), 2)) rfl rfl (by decide), ?_⟩
  refine List.forall_mem_cons.mpr ⟨s_callV C hFok hF (ct_X9_refuse l D dA σ) ⟨rfl, rfl⟩ ew200 em_cl_X9 ew197 ew199 ewp1 ew1 ⟨by decide, by decide, by decide +kernel⟩ ⟨by decide, by decide⟩ (by decide +kernel : decode c_X9_lawful 14 = .ok (.invokevirtual 63, 3)) rfl rfl ⟨Nat.zero_le _, Nat.zero_le _⟩, ?_⟩
  refine List.forall_mem_cons.mpr ⟨s_iret C (by decide +kernel : decode c_X9_lawful 17 = .ok (.ireturn, 1)) hret hlk ⟨Nat.le_refl 0, Nat.le_refl 0⟩, ?_⟩
  refine List.forall_mem_cons.mpr ⟨s_iconst C (by decide +kernel : decode c_X9_lawful 18 = .ok (.iconst 0, 1)) rfl rfl (by decide), ?_⟩
  refine List.forall_mem_cons.mpr ⟨s_istore_n C (by decide +kernel : decode c_X9_lawful 19 = .ok (.istore_n 2, 1)) rfl rfl rfl (by decide), ?_⟩
  refine List.forall_mem_cons.mpr ⟨s_iconst C (by decide +kernel : decode c_X9_lawful 20 = .ok (.iconst 0, 1)) rfl rfl (by decide), ?_⟩
  refine List.forall_mem_cons.mpr ⟨s_istore_n C (by decide +kernel : decode c_X9_lawful 21 = .ok (.istore_n 3, 1)) rfl rfl rfl (by decide), ?_⟩
  refine List.forall_mem_cons.mpr ⟨s_iload_n C (by decide +kernel : decode c_X9_lawful 22 = .ok (.iload_n 3, 1)) rfl rfl rfl, ?_⟩
  refine List.forall_mem_cons.mpr ⟨s_aload_n C (by decide +kernel : decode c_X9_lawful 23 = .ok (.aload_n 0, 1)) rfl rfl rfl, ?_⟩
  refine List.forall_mem_cons.mpr ⟨s_getf C (by decide +kernel : decode c_X9_lawful 24 = .ok (.getfield 41, 3)) rfl rfl em_cl_X9 (by decide) ew157 rfl, ?_⟩
  refine List.forall_mem_cons.mpr ⟨s_getf C (by decide +kernel : decode c_X9_lawful 27 = .ok (.getfield 120, 3)) rfl rfl em_cl_X7 (by decide) ew88 rfl, ?_⟩
  refine List.forall_mem_cons.mpr ⟨s_icmpge C (by decide +kernel : decode c_X9_lawful 30 = .ok (.if_icmp .ge 39, 3)) (by decide) rfl rfl rfl, ?_⟩
  refine List.forall_mem_cons.mpr ⟨s_iload_n C (by decide +kernel : decode c_X9_lawful 33 = .ok (.iload_n 3, 1)) rfl rfl rfl, ?_⟩
  refine List.forall_mem_cons.mpr ⟨s_iload_n C (by decide +kernel : decode c_X9_lawful 34 = .ok (.iload_n 1, 1)) rfl rfl rfl, ?_⟩
  refine List.forall_mem_cons.mpr ⟨s_icmpeq C (by decide +kernel : decode c_X9_lawful 35 = .ok (.if_icmp .eq 28, 3)) (by decide) rfl rfl rfl, ?_⟩
  refine List.forall_mem_cons.mpr ⟨s_aload_n C (by decide +kernel : decode c_X9_lawful 38 = .ok (.aload_n 0, 1)) rfl rfl rfl, ?_⟩
  refine List.forall_mem_cons.mpr ⟨s_getf C (by decide +kernel : decode c_X9_lawful 39 = .ok (.getfield 41, 3)) rfl rfl em_cl_X9 (by decide) ew157 rfl, ?_⟩
  refine List.forall_mem_cons.mpr ⟨s_aload_n C (by decide +kernel : decode c_X9_lawful 42 = .ok (.aload_n 0, 1)) rfl rfl rfl, ?_⟩
  refine List.forall_mem_cons.mpr ⟨s_getf C (by decide +kernel : decode c_X9_lawful 43 = .ok (.getfield 41, 3)) rfl rfl em_cl_X9 (by decide) ew157 rfl, ?_⟩
  refine List.forall_mem_cons.mpr ⟨s_getf C (by decide +kernel : decode c_X9_lawful 46 = .ok (.getfield 103, 3)) rfl rfl em_cl_X7 (by decide) ew94 rfl, ?_⟩
  refine List.forall_mem_cons.mpr ⟨s_iload_n C (by decide +kernel : decode c_X9_lawful 49 = .ok (.iload_n 1, 1)) rfl rfl rfl, ?_⟩
  refine List.forall_mem_cons.mpr ⟨s_iload_n C (by decide +kernel : decode c_X9_lawful 50 = .ok (.iload_n 3, 1)) rfl rfl rfl, ?_⟩
  refine List.forall_mem_cons.mpr ⟨s_callPV C hFok hF (ct_X7_mayWed l D dA σ) ⟨rfl, rfl⟩ ew404 em_cl_X7 ew401 ew402 ew403 ew5 ⟨by decide, by decide, by decide +kernel⟩ ⟨by decide, by decide⟩ (by decide +kernel : decode c_X9_lawful 51 = .ok (.invokevirtual 123, 3)) rfl rfl ⟨Nat.zero_le _, Nat.zero_le _⟩ (by decide), ?_⟩
  refine List.forall_mem_cons.mpr ⟨s_ifeq C (by decide +kernel : decode c_X9_lawful 54 = .ok (.ifCond .eq 9, 3)) (by decide) rfl rfl rfl, ?_⟩
  refine List.forall_mem_cons.mpr ⟨s_iload_n C (by decide +kernel : decode c_X9_lawful 57 = .ok (.iload_n 2, 1)) rfl rfl rfl, ?_⟩
  refine List.forall_mem_cons.mpr ⟨s_iconst C (by decide +kernel : decode c_X9_lawful 58 = .ok (.iconst 1, 1)) rfl rfl (by decide), ?_⟩
  refine List.forall_mem_cons.mpr ⟨s_iload_n C (by decide +kernel : decode c_X9_lawful 59 = .ok (.iload_n 3, 1)) rfl rfl rfl, ?_⟩
  refine List.forall_mem_cons.mpr ⟨s_ishl C (by decide +kernel : decode c_X9_lawful 60 = .ok (.ishl, 1)) rfl rfl, ?_⟩
  refine List.forall_mem_cons.mpr ⟨s_ior C (by decide +kernel : decode c_X9_lawful 61 = .ok (.ior, 1)) rfl rfl, ?_⟩
  refine List.forall_mem_cons.mpr ⟨s_istore_n C (by decide +kernel : decode c_X9_lawful 62 = .ok (.istore_n 2, 1)) rfl rfl rfl (by decide), ?_⟩
  refine List.forall_mem_cons.mpr ⟨s_iinc C (by decide +kernel : decode c_X9_lawful 63 = .ok (.iinc 3 1, 3)) rfl rfl (by decide) (by decide), ?_⟩
  refine List.forall_mem_cons.mpr ⟨s_goto C (by decide +kernel : decode c_X9_lawful 66 = .ok (.goto (-44), 3)) (by decide) rfl, ?_⟩
  refine List.forall_mem_cons.mpr ⟨s_iload_n C (by decide +kernel : decode c_X9_lawful 69 = .ok (.iload_n 2, 1)) rfl rfl rfl, ?_⟩
  refine List.forall_mem_cons.mpr ⟨s_iret C (by decide +kernel : decode c_X9_lawful 70 = .ok (.ireturn, 1)) hret hlk ⟨Nat.le_refl 0, Nat.le_refl 0⟩, ?_⟩
  exact fun _ h => absurd h List.not_mem_nil
/-- the first below k, as it is kept -/
def fsU (P : Nat → Bool) : Nat → Option Nat
  | 0 => none
  | k + 1 => match fsU P k with
    | some x => some x
    | none => if P k = true then some k else none
theorem fsU_cU {P : Nat → Bool} : ∀ k, (fsU P k = none ↔ cU P k = 0)
  | 0 => ⟨fun _ => rfl, fun _ => rfl⟩
  | k + 1 => by
    have ih := fsU_cU (P := P) k
    rw [fsU, cU]
    cases hf : fsU P k with
    | none =>
      have h0 := ih.mp hf
      rw [h0]
      by_cases hp : P k = true
      · simp [hp]
      · simp [hp]
    | some x =>
      constructor
      · intro h; cases h
      · intro h
        have : cU P k = 0 := by omega
        rw [ih.mpr this] at hf
        cases hf
def awB (we lea mst : Int32) (m : Int64) (n : Nat) (s : Int32) : Bool := decide (∀ b, b < n → ∀ a, a < b → (s >>> (nI a &&& 31)) &&& 1 = 1 → (s >>> (nI b &&& 31)) &&& 1 = 1 → mwB we lea mst m a b = true)
theorem mwB_to {we lea mst : Int32} {m : Int64} {a b : Nat} (h : mwB we lea mst m a b = true) : mwd we lea mst m (nI a) (nI b) := by
  unfold mwB at h
  exact of_decide_eq_true h
theorem awB_t {we lea mst : Int32} {m : Int64} {n : Nat} {s : Int32} (h : awd we lea mst m n s) : awB we lea mst m n s = true := decide_eq_true (fun b hb a ha h1 h2 => mwB_t (h a b ha hb h1 h2))
theorem awB_f {we lea mst : Int32} {m : Int64} {n : Nat} {s : Int32} (h : ¬ awd we lea mst m n s) : awB we lea mst m n s = false := decide_eq_false (fun q => h (fun a b ha hb h1 h2 => mwB_to (q b hb a ha h1 h2)))
def thB (we lea mst : Int32) (m : Int64) (n : Nat) (s : Nat) : Bool := decide (bcI (nI s) = 3) && awB we lea mst m n (nI s)
theorem shln : ∀ n, n < 7 → (1 : Int32) <<< (nI n &&& 31) = nI (2 ^ n) := fun n h => shl1 n (by omega)
def sp_X9_three : em_Sp := fun av hp Q => ∃ by9 tln tst ten mm fa9 fb9 rf im pe ki mi se we lea mst pa fi sd ev un ma ea co ca clt Y k n, av = [.ref 0, .int k] ∧ hp = (wX by9 tln tst ten mm fa9 fb9 rf im pe ki mi se we lea mst pa fi sd ev un ma ea co ca clt Y) ∧ pe = nI n ∧ n ≤ 6 ∧ (¬ k = 0 → ¬ k = 1 → Q (some (.int (-2))) (wX by9 tln tst ten mm fa9 fb9 (rfu rf (-2)) im pe ki mi se we lea mst pa fi sd ev un ma ea co ca clt Y)) ∧ (k = 0 → Q (some (.int (nI (cU (thB we lea mst mi n) (2 ^ n))))) hp) ∧ (k = 1 → Q (some (.int (oI (fsU (thB we lea mst mi n) (2 ^ n))))) hp)
def T_X9_three : List (Nat × em_Op) := [(0, o_iload 1 1), (1, o_ifeq 16 4), (4, o_iload 1 5), (5, o_iconst 1 6), (6, o_icmpeq 16 9), (9, o_aload 0 10), (10, o_iconst (-2) 12), (12, o_call 2 (some 4) (sp_X9_refuse) 15), (15, o_iret), (16, o_iconst 0 17), (17, o_istore 2 18), (18, o_iconst (-1) 19), (19, o_istore 3 20), (20, o_iconst 0 21), (21, o_istore 4 23), (23, o_iload 4 25), (25, o_iconst 1 26), (26, o_aload 0 27), (27, o_getf 4 5 30), (30, o_getf 2 0 33), (33, o_ishl 34), (34, o_icmpge 74 37), (37, o_iload 4 39), (39, o_call 1 none (sp_J6_bitCount_0f7a4) 42), (42, o_iconst 3 43), (43, o_icmpne 68 46), (46, o_aload 0 47), (47, o_getf 4 5 50), (50, o_iload 4 52), (52, o_callP 2 (some 2) [8, 9, 10, 11, 12, 13, 14, 15] (sp_X7_mayAllWed) 55), (55, o_ifeq 68 58), (58, o_iload 2 59), (59, o_ifne 65 62), (62, o_iload 4 64), (64, o_istore 3 65), (65, o_iinc 2 1 68), (68, o_iinc 4 1 71), (71, o_goto 23), (74, o_iload 1 75), (75, o_ifne 82 78), (78, o_iload 2 79), (79, o_goto 83), (82, o_iload 3 83), (83, o_iret)]
theorem me_X9_three : em_Me T_X9_three 5 sp_X9_three := by
  intro Q K hK hle av hp hs
  obtain ⟨by9, tln, tst, ten, mm, fa9, fb9, rf, im, pe, ki, mi, se, we, lea, mst, pa, fi, sd, ev, un, ma, ea, co, ca, clt, Y, k, n, rfl, rfl, rfl, hn, hb, hq0, hq1⟩ := hs
  refine ⟨Nat.le_of_ble_eq_true rfl, ?_⟩
  have h64 : 2 ^ n ≤ 64 := Nat.pow_le_pow_right (n := 2) (by omega) (show n ≤ 6 from hn)
  generalize hP : thB we lea mst mi n = P at hq0 hq1
  have ok : k = 0 ∨ k = 1 → K 16 [some (.ref 0), some (.int k), none, none, none] [] (wX by9 tln tst ten mm fa9 fb9 rf im (nI n) ki mi se we lea mst pa fi sd ev un ma ea co ca clt Y) := by
    intro hk
    have loop : ∀ (r i : Nat), i + r = 2 ^ n → K 23 [some (.ref 0), some (.int k), some (.int (nI (cU P i))), some (.int (oI (fsU P i))), some (.int (nI i))] [] (wX by9 tln tst ten mm fa9 fb9 rf im (nI n) ki mi se we lea mst pa fi sd ev un ma ea co ca clt Y) := by
      intro r
      induction r with
      | zero =>
        intro i hi
        have hi : i = 2 ^ n := by omega
        rw [hi]
        refine hK 15 9999 23 _ _ _ ?_
        refine ⟨fun _ => ⟨fun z => ?_, fun z => ?_⟩, fun y => absurd (by rw [shln n (by omega)]; exact nI_le (Nat.le_refl _) (by omega)) y⟩
        · rcases hk with q | q
          · exact absurd q z
          · exact hq1 q
        · exact hq0 z
      | succ r ih =>
        intro i hi
        have next : ∀ v w, v = nI (cU P (i + 1)) → w = oI (fsU P (i + 1)) → K 68 [some (.ref 0), some (.int k), some (.int v), some (.int w), some (.int (nI i))] [] (wX by9 tln tst ten mm fa9 fb9 rf im (nI n) ki mi se we lea mst pa fi sd ev un ma ea co ca clt Y) := by
          intro v w hv hw
          subst hv
          subst hw
          have := ih (i + 1) (by omega)
          rw [← nI_1] at this
          exact hK 36 2 68 _ _ _ this
        have no : P i = false → K 68 [some (.ref 0), some (.int k), some (.int (nI (cU P i))), some (.int (oI (fsU P i))), some (.int (nI i))] [] (wX by9 tln tst ten mm fa9 fb9 rf im (nI n) ki mi se we lea mst pa fi sd ev un ma ea co ca clt Y) := by
          intro h
          refine next _ _ (by rw [cU, h]; rfl) ?_
          rw [fsU, h]
          cases fsU P i <;> rfl
        have ep : P i = (decide (bcI (nI i) = 3) && awB we lea mst mi n (nI i)) := by rw [← hP]; rfl
        refine hK 15 21 23 _ _ _ ?_
        refine ⟨fun y => absurd (by rw [shln n (by omega)] at y; exact y) (nI_ge (a := i) (b := 2 ^ n) (by omega) (by omega)), fun _ => ?_⟩
        refine ⟨_, rfl, fun y => ?_, fun y => ?_⟩
        · exact no (by rw [ep, decide_eq_false y, Bool.false_and])
        · refine ⟨_, _, _, _, _, _, _, _, _, _, _, _, _, _, _, _, _, _, n, rfl, rfl, rfl, hn, fun z => ?_, fun z => ?_⟩
          · have e1 : P i = true := by rw [ep, decide_eq_true y, awB_t z]; rfl
            refine ⟨fun q => absurd q (by decide), fun _ => ⟨fun q => ?_, fun q => ?_⟩⟩
            · refine next _ _ (by rw [cU, if_pos e1, ← nI_1]) ?_
              rw [fsU]
              cases hf : fsU P i with
              | none => rw [(fsU_cU i).mp hf] at q; exact absurd rfl q
              | some x => rfl
            · refine next _ _ (by rw [cU, if_pos e1, ← nI_1]) ?_
              have hc : cU P i = 0 := (nI_eq (b := 0) (Nat.lt_of_le_of_lt cU_le (by omega)) (by omega)).mp q
              rw [fsU, (fsU_cU i).mpr hc]
              show nI i = oI (if P i = true then some i else none)
              rw [if_pos e1]; rfl
          · refine ⟨fun _ => ?_, fun q => absurd q (by decide)⟩
            exact no (by rw [ep, awB_f z, Bool.and_false])
    exact hK 9 6 16 _ _ _ (loop (2 ^ n) 0 (by omega))
  refine hK 0 9 0 _ _ _ ?_
  refine ⟨fun z => ok (Or.inl z), fun z => ⟨fun z2 => ok (Or.inr z2), fun z2 => ?_⟩⟩
  exact ⟨_, _, _, _, _, _, _, _, _, _, _, _, _, _, _, _, _, _, _, _, _, _, _, _, _, _, _, _, rfl, rfl, hb z z2⟩
abbrev rm_X9_three : Room := { frames := 4, cells := 0, slots := 0, locals := 91 }
set_option maxRecDepth 100000 in
set_option maxHeartbeats 4000000 in
theorem ct_X9_three (l : Launch) (D : va_G) (dA : Nat → ClassId) (σ : Nat → Nat) : em_CT l D em_cl dA σ (em_F σ) y_X9_three c_X9_three 5 (Option.some ClassFile.FieldType.int) rm_X9_three (sp_X9_three ) := by
  refine em_CT_of (T := T_X9_three ) (em_F_ok σ) (by decide) (fun p e s m args below meth c A ρ Q C hFok hF hret hlk hin => ?_) (me_X9_three )
  unfold T_X9_three
  refine List.forall_mem_cons.mpr ⟨s_iload_n C (by decide +kernel : decode c_X9_three 0 = .ok (.iload_n 1, 1)) rfl rfl rfl, ?_⟩
  refine List.forall_mem_cons.mpr ⟨s_ifeq C (by decide +kernel : decode c_X9_three 1 = .ok (.ifCond .eq 15, 3)) (by decide) rfl rfl rfl, ?_⟩
  refine List.forall_mem_cons.mpr ⟨s_iload_n C (by decide +kernel : decode c_X9_three 4 = .ok (.iload_n 1, 1)) rfl rfl rfl, ?_⟩
  refine List.forall_mem_cons.mpr ⟨s_iconst C (by decide +kernel : decode c_X9_three 5 = .ok (.iconst 1, 1)) rfl rfl (by decide), ?_⟩
  refine List.forall_mem_cons.mpr ⟨s_icmpeq C (by decide +kernel : decode c_X9_three 6 = .ok (.if_icmp .eq 10, 3)) (by decide) rfl rfl rfl, ?_⟩
  refine List.forall_mem_cons.mpr ⟨s_aload_n C (by decide +kernel : decode c_X9_three 9 = .ok (.aload_n 0, 1)) rfl rfl rfl, ?_⟩
  refine List.forall_mem_cons.mpr ⟨s_bipush C (by decide +kernel : decode c_X9_three 10 = .ok (.bipush (-2), 2)) rfl rfl (by decide), ?_⟩
  refine List.forall_mem_cons.mpr ⟨s_callV C hFok hF (ct_X9_refuse l D dA σ) ⟨rfl, rfl⟩ ew200 em_cl_X9 ew197 ew199 ewp1 ew1 ⟨by decide, by decide, by decide +kernel⟩ ⟨by decide, by decide⟩ (by decide +kernel : decode c_X9_three 12 = .ok (.invokevirtual 63, 3)) rfl rfl ⟨Nat.zero_le _, Nat.zero_le _⟩, ?_⟩
  refine List.forall_mem_cons.mpr ⟨s_iret C (by decide +kernel : decode c_X9_three 15 = .ok (.ireturn, 1)) hret hlk ⟨Nat.le_refl 0, Nat.le_refl 0⟩, ?_⟩
  refine List.forall_mem_cons.mpr ⟨s_iconst C (by decide +kernel : decode c_X9_three 16 = .ok (.iconst 0, 1)) rfl rfl (by decide), ?_⟩
  refine List.forall_mem_cons.mpr ⟨s_istore_n C (by decide +kernel : decode c_X9_three 17 = .ok (.istore_n 2, 1)) rfl rfl rfl (by decide), ?_⟩
  refine List.forall_mem_cons.mpr ⟨s_iconst C (by decide +kernel : decode c_X9_three 18 = .ok (.iconst (-1), 1)) rfl rfl (by decide), ?_⟩
  refine List.forall_mem_cons.mpr ⟨s_istore_n C (by decide +kernel : decode c_X9_three 19 = .ok (.istore_n 3, 1)) rfl rfl rfl (by decide), ?_⟩
  refine List.forall_mem_cons.mpr ⟨s_iconst C (by decide +kernel : decode c_X9_three 20 = .ok (.iconst 0, 1)) rfl rfl (by decide), ?_⟩
  refine List.forall_mem_cons.mpr ⟨s_istore C (by decide +kernel : decode c_X9_three 21 = .ok (.istore 4, 2)) rfl rfl (by decide), ?_⟩
  refine List.forall_mem_cons.mpr ⟨s_iload C (by decide +kernel : decode c_X9_three 23 = .ok (.iload 4, 2)) rfl rfl, ?_⟩
  refine List.forall_mem_cons.mpr ⟨s_iconst C (by decide +kernel : decode c_X9_three 25 = .ok (.iconst 1, 1)) rfl rfl (by decide), ?_⟩
  refine List.forall_mem_cons.mpr ⟨s_aload_n C (by decide +kernel : decode c_X9_three 26 = .ok (.aload_n 0, 1)) rfl rfl rfl, ?_⟩
  refine List.forall_mem_cons.mpr ⟨s_getf C (by decide +kernel : decode c_X9_three 27 = .ok (.getfield 41, 3)) rfl rfl em_cl_X9 (by decide) ew157 rfl, ?_⟩
  refine List.forall_mem_cons.mpr ⟨s_getf C (by decide +kernel : decode c_X9_three 30 = .ok (.getfield 120, 3)) rfl rfl em_cl_X7 (by decide) ew88 rfl, ?_⟩
  refine List.forall_mem_cons.mpr ⟨s_ishl C (by decide +kernel : decode c_X9_three 33 = .ok (.ishl, 1)) rfl rfl, ?_⟩
  refine List.forall_mem_cons.mpr ⟨s_icmpge C (by decide +kernel : decode c_X9_three 34 = .ok (.if_icmp .ge 40, 3)) (by decide) rfl rfl rfl, ?_⟩
  refine List.forall_mem_cons.mpr ⟨s_iload C (by decide +kernel : decode c_X9_three 37 = .ok (.iload 4, 2)) rfl rfl, ?_⟩
  refine List.forall_mem_cons.mpr ⟨s_callS C hFok hF (ct_J6_bitCount_0f7a4 l D dA σ) ⟨rfl, rfl⟩ ew393 ew414 ew392 ew13 ⟨by decide, by decide, by decide +kernel⟩ ⟨by decide, by decide⟩ (by decide +kernel : decode c_X9_three 39 = .ok (.invokestatic 127, 3)) rfl rfl ⟨Nat.zero_le _, Nat.zero_le _⟩, ?_⟩
  refine List.forall_mem_cons.mpr ⟨s_iconst C (by decide +kernel : decode c_X9_three 42 = .ok (.iconst 3, 1)) rfl rfl (by decide), ?_⟩
  refine List.forall_mem_cons.mpr ⟨s_icmpne C (by decide +kernel : decode c_X9_three 43 = .ok (.if_icmp .ne 25, 3)) (by decide) rfl rfl rfl, ?_⟩
  refine List.forall_mem_cons.mpr ⟨s_aload_n C (by decide +kernel : decode c_X9_three 46 = .ok (.aload_n 0, 1)) rfl rfl rfl, ?_⟩
  refine List.forall_mem_cons.mpr ⟨s_getf C (by decide +kernel : decode c_X9_three 47 = .ok (.getfield 41, 3)) rfl rfl em_cl_X9 (by decide) ew157 rfl, ?_⟩
  refine List.forall_mem_cons.mpr ⟨s_iload C (by decide +kernel : decode c_X9_three 50 = .ok (.iload 4, 2)) rfl rfl, ?_⟩
  refine List.forall_mem_cons.mpr ⟨s_callPV C hFok hF (ct_X7_mayAllWed l D dA σ) ⟨rfl, rfl⟩ ew418 em_cl_X7 ew415 ew416 ew417 ew5 ⟨by decide, by decide, by decide +kernel⟩ ⟨by decide, by decide⟩ (by decide +kernel : decode c_X9_three 52 = .ok (.invokevirtual 132, 3)) rfl rfl ⟨Nat.zero_le _, Nat.zero_le _⟩ (by decide), ?_⟩
  refine List.forall_mem_cons.mpr ⟨s_ifeq C (by decide +kernel : decode c_X9_three 55 = .ok (.ifCond .eq 13, 3)) (by decide) rfl rfl rfl, ?_⟩
  refine List.forall_mem_cons.mpr ⟨s_iload_n C (by decide +kernel : decode c_X9_three 58 = .ok (.iload_n 2, 1)) rfl rfl rfl, ?_⟩
  refine List.forall_mem_cons.mpr ⟨s_ifne C (by decide +kernel : decode c_X9_three 59 = .ok (.ifCond .ne 6, 3)) (by decide) rfl rfl rfl, ?_⟩
  refine List.forall_mem_cons.mpr ⟨s_iload C (by decide +kernel : decode c_X9_three 62 = .ok (.iload 4, 2)) rfl rfl, ?_⟩
  refine List.forall_mem_cons.mpr ⟨s_istore_n C (by decide +kernel : decode c_X9_three 64 = .ok (.istore_n 3, 1)) rfl rfl rfl (by decide), ?_⟩
  refine List.forall_mem_cons.mpr ⟨s_iinc C (by decide +kernel : decode c_X9_three 65 = .ok (.iinc 2 1, 3)) rfl rfl (by decide) (by decide), ?_⟩
  refine List.forall_mem_cons.mpr ⟨s_iinc C (by decide +kernel : decode c_X9_three 68 = .ok (.iinc 4 1, 3)) rfl rfl (by decide) (by decide), ?_⟩
  refine List.forall_mem_cons.mpr ⟨s_goto C (by decide +kernel : decode c_X9_three 71 = .ok (.goto (-48), 3)) (by decide) rfl, ?_⟩
  refine List.forall_mem_cons.mpr ⟨s_iload_n C (by decide +kernel : decode c_X9_three 74 = .ok (.iload_n 1, 1)) rfl rfl rfl, ?_⟩
  refine List.forall_mem_cons.mpr ⟨s_ifne C (by decide +kernel : decode c_X9_three 75 = .ok (.ifCond .ne 7, 3)) (by decide) rfl rfl rfl, ?_⟩
  refine List.forall_mem_cons.mpr ⟨s_iload_n C (by decide +kernel : decode c_X9_three 78 = .ok (.iload_n 2, 1)) rfl rfl rfl, ?_⟩
  refine List.forall_mem_cons.mpr ⟨s_goto C (by decide +kernel : decode c_X9_three 79 = .ok (.goto 4, 3)) (by decide) rfl, ?_⟩
  refine List.forall_mem_cons.mpr ⟨s_iload_n C (by decide +kernel : decode c_X9_three 82 = .ok (.iload_n 3, 1)) rfl rfl rfl, ?_⟩
  refine List.forall_mem_cons.mpr ⟨s_iret C (by decide +kernel : decode c_X9_three 83 = .ok (.ireturn, 1)) hret hlk ⟨Nat.le_refl 0, Nat.le_refl 0⟩, ?_⟩
  exact fun _ h => absurd h List.not_mem_nil
end
