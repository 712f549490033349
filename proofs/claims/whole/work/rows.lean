section
def lw_okq (q : MethodName × Nat) : Prop := (q.1.cls ≠ "java/lang/invoke/MethodHandle" ∧ q.1.cls ≠ "java/lang/invoke/VarHandle") ∧ Cond.instantiable q.1.cls q.2 ∈ tables_1 ∧ Cond.privateMethod q.1 ∈ tables_1 ∧ Cond.instanceMethod q.1 ∈ tables_1
theorem lw_p0 : lw_okq (⟨"PathWords", "imagesKept", "()I"⟩, 6) := ⟨⟨by decide +kernel, by decide +kernel⟩, List.mem_of_getElem? (i := 16) (by decide +kernel), List.mem_of_getElem? (i := 653) (by decide +kernel), List.mem_of_getElem? (i := 654) (by decide +kernel)⟩
theorem lw_p1 : lw_okq (⟨"PathWordsModel", "readPacket", "()I"⟩, 16) := ⟨⟨by decide +kernel, by decide +kernel⟩, List.mem_of_getElem? (i := 657) (by decide +kernel), List.mem_of_getElem? (i := 728) (by decide +kernel), List.mem_of_getElem? (i := 729) (by decide +kernel)⟩
theorem lw_p2 : lw_okq (⟨"PathWordsModel", "readLetters", "(II)I"⟩, 16) := ⟨⟨by decide +kernel, by decide +kernel⟩, List.mem_of_getElem? (i := 657) (by decide +kernel), List.mem_of_getElem? (i := 732) (by decide +kernel), List.mem_of_getElem? (i := 733) (by decide +kernel)⟩
theorem lw_p3 : lw_okq (⟨"PathWordsModel", "isLetter", "(I)Z"⟩, 16) := ⟨⟨by decide +kernel, by decide +kernel⟩, List.mem_of_getElem? (i := 657) (by decide +kernel), List.mem_of_getElem? (i := 736) (by decide +kernel), List.mem_of_getElem? (i := 737) (by decide +kernel)⟩
theorem lw_p4 : lw_okq (⟨"PathWordsModel", "readSign", "(I)V"⟩, 16) := ⟨⟨by decide +kernel, by decide +kernel⟩, List.mem_of_getElem? (i := 657) (by decide +kernel), List.mem_of_getElem? (i := 740) (by decide +kernel), List.mem_of_getElem? (i := 741) (by decide +kernel)⟩
theorem lw_p5 : lw_okq (⟨"PathWordsModel", "isAt", "(I)Z"⟩, 16) := ⟨⟨by decide +kernel, by decide +kernel⟩, List.mem_of_getElem? (i := 657) (by decide +kernel), List.mem_of_getElem? (i := 744) (by decide +kernel), List.mem_of_getElem? (i := 745) (by decide +kernel)⟩
theorem lw_p6 : lw_okq (⟨"PathWordsModel", "readWord", "()V"⟩, 16) := ⟨⟨by decide +kernel, by decide +kernel⟩, List.mem_of_getElem? (i := 657) (by decide +kernel), List.mem_of_getElem? (i := 748) (by decide +kernel), List.mem_of_getElem? (i := 749) (by decide +kernel)⟩
theorem lw_p7 : lw_okq (⟨"PathWordsModel", "readName", "()I"⟩, 16) := ⟨⟨by decide +kernel, by decide +kernel⟩, List.mem_of_getElem? (i := 657) (by decide +kernel), List.mem_of_getElem? (i := 759) (by decide +kernel), List.mem_of_getElem? (i := 760) (by decide +kernel)⟩
theorem lw_p8 : lw_okq (⟨"PathWordsModel", "call", "(II)I"⟩, 16) := ⟨⟨by decide +kernel, by decide +kernel⟩, List.mem_of_getElem? (i := 657) (by decide +kernel), List.mem_of_getElem? (i := 763) (by decide +kernel), List.mem_of_getElem? (i := 764) (by decide +kernel)⟩
theorem lw_p9 : lw_okq (⟨"PathWordsModel", "more", "(IIII)I"⟩, 16) := ⟨⟨by decide +kernel, by decide +kernel⟩, List.mem_of_getElem? (i := 657) (by decide +kernel), List.mem_of_getElem? (i := 767) (by decide +kernel), List.mem_of_getElem? (i := 768) (by decide +kernel)⟩
theorem lw_p10 : lw_okq (⟨"PathWordsModel", "areNear", "(II)Z"⟩, 16) := ⟨⟨by decide +kernel, by decide +kernel⟩, List.mem_of_getElem? (i := 657) (by decide +kernel), List.mem_of_getElem? (i := 783) (by decide +kernel), List.mem_of_getElem? (i := 784) (by decide +kernel)⟩
theorem lw_p11 : lw_okq (⟨"PathWordsModel", "keep", "(II)Z"⟩, 16) := ⟨⟨by decide +kernel, by decide +kernel⟩, List.mem_of_getElem? (i := 657) (by decide +kernel), List.mem_of_getElem? (i := 791) (by decide +kernel), List.mem_of_getElem? (i := 792) (by decide +kernel)⟩
theorem lw_p12 : lw_okq (⟨"PathWordsModel", "begin", "(I)V"⟩, 16) := ⟨⟨by decide +kernel, by decide +kernel⟩, List.mem_of_getElem? (i := 657) (by decide +kernel), List.mem_of_getElem? (i := 798) (by decide +kernel), List.mem_of_getElem? (i := 799) (by decide +kernel)⟩
theorem lw_p13 : lw_okq (⟨"PathWordsModel", "placeKnown", "(III)I"⟩, 16) := ⟨⟨by decide +kernel, by decide +kernel⟩, List.mem_of_getElem? (i := 657) (by decide +kernel), List.mem_of_getElem? (i := 802) (by decide +kernel), List.mem_of_getElem? (i := 803) (by decide +kernel)⟩
theorem lw_p14 : lw_okq (⟨"PathWordsModel", "unknow", "(II)V"⟩, 16) := ⟨⟨by decide +kernel, by decide +kernel⟩, List.mem_of_getElem? (i := 657) (by decide +kernel), List.mem_of_getElem? (i := 809) (by decide +kernel), List.mem_of_getElem? (i := 810) (by decide +kernel)⟩
theorem lw_p15 : lw_okq (⟨"PathWordsModel", "know", "(III)V"⟩, 16) := ⟨⟨by decide +kernel, by decide +kernel⟩, List.mem_of_getElem? (i := 657) (by decide +kernel), List.mem_of_getElem? (i := 813) (by decide +kernel), List.mem_of_getElem? (i := 814) (by decide +kernel)⟩
def lw_privs_1 : List (MethodName × Nat) := [(⟨"PathWords", "imagesKept", "()I"⟩, 6), (⟨"PathWordsModel", "readPacket", "()I"⟩, 16), (⟨"PathWordsModel", "readLetters", "(II)I"⟩, 16), (⟨"PathWordsModel", "isLetter", "(I)Z"⟩, 16), (⟨"PathWordsModel", "readSign", "(I)V"⟩, 16), (⟨"PathWordsModel", "isAt", "(I)Z"⟩, 16), (⟨"PathWordsModel", "readWord", "()V"⟩, 16), (⟨"PathWordsModel", "readName", "()I"⟩, 16), (⟨"PathWordsModel", "call", "(II)I"⟩, 16), (⟨"PathWordsModel", "more", "(IIII)I"⟩, 16), (⟨"PathWordsModel", "areNear", "(II)Z"⟩, 16), (⟨"PathWordsModel", "keep", "(II)Z"⟩, 16), (⟨"PathWordsModel", "begin", "(I)V"⟩, 16), (⟨"PathWordsModel", "placeKnown", "(III)I"⟩, 16), (⟨"PathWordsModel", "unknow", "(II)V"⟩, 16), (⟨"PathWordsModel", "know", "(III)V"⟩, 16)]
theorem lw_r1 : ∀ q ∈ lw_privs_1, lw_okq q := List.forall_mem_cons.mpr ⟨lw_p0, List.forall_mem_cons.mpr ⟨lw_p1, List.forall_mem_cons.mpr ⟨lw_p2, List.forall_mem_cons.mpr ⟨lw_p3, List.forall_mem_cons.mpr ⟨lw_p4, List.forall_mem_cons.mpr ⟨lw_p5, List.forall_mem_cons.mpr ⟨lw_p6, List.forall_mem_cons.mpr ⟨lw_p7, List.forall_mem_cons.mpr ⟨lw_p8, List.forall_mem_cons.mpr ⟨lw_p9, List.forall_mem_cons.mpr ⟨lw_p10, List.forall_mem_cons.mpr ⟨lw_p11, List.forall_mem_cons.mpr ⟨lw_p12, List.forall_mem_cons.mpr ⟨lw_p13, List.forall_mem_cons.mpr ⟨lw_p14, List.forall_mem_cons.mpr ⟨lw_p15, fun _ h => absurd h List.not_mem_nil⟩⟩⟩⟩⟩⟩⟩⟩⟩⟩⟩⟩⟩⟩⟩⟩
theorem lw_p16 : lw_okq (⟨"PathWordsModel", "tick", "()V"⟩, 16) := ⟨⟨by decide +kernel, by decide +kernel⟩, List.mem_of_getElem? (i := 657) (by decide +kernel), List.mem_of_getElem? (i := 821) (by decide +kernel), List.mem_of_getElem? (i := 822) (by decide +kernel)⟩
theorem lw_p17 : lw_okq (⟨"PathWordsModel", "sendOne", "(I)V"⟩, 16) := ⟨⟨by decide +kernel, by decide +kernel⟩, List.mem_of_getElem? (i := 657) (by decide +kernel), List.mem_of_getElem? (i := 825) (by decide +kernel), List.mem_of_getElem? (i := 826) (by decide +kernel)⟩
theorem lw_p18 : lw_okq (⟨"PathWordsModel", "count", "(II)V"⟩, 16) := ⟨⟨by decide +kernel, by decide +kernel⟩, List.mem_of_getElem? (i := 657) (by decide +kernel), List.mem_of_getElem? (i := 829) (by decide +kernel), List.mem_of_getElem? (i := 830) (by decide +kernel)⟩
theorem lw_p19 : lw_okq (⟨"PathWordsModel", "hearsFrom", "(I)I"⟩, 16) := ⟨⟨by decide +kernel, by decide +kernel⟩, List.mem_of_getElem? (i := 657) (by decide +kernel), List.mem_of_getElem? (i := 833) (by decide +kernel), List.mem_of_getElem? (i := 834) (by decide +kernel)⟩
theorem lw_p20 : lw_okq (⟨"PathWordsModel", "hear", "(II)V"⟩, 16) := ⟨⟨by decide +kernel, by decide +kernel⟩, List.mem_of_getElem? (i := 657) (by decide +kernel), List.mem_of_getElem? (i := 837) (by decide +kernel), List.mem_of_getElem? (i := 838) (by decide +kernel)⟩
theorem lw_p21 : lw_okq (⟨"PathWordsModel", "look", "(I)V"⟩, 16) := ⟨⟨by decide +kernel, by decide +kernel⟩, List.mem_of_getElem? (i := 657) (by decide +kernel), List.mem_of_getElem? (i := 841) (by decide +kernel), List.mem_of_getElem? (i := 842) (by decide +kernel)⟩
theorem lw_p22 : lw_okq (⟨"PathWordsModel", "isOwn", "(I)Z"⟩, 16) := ⟨⟨by decide +kernel, by decide +kernel⟩, List.mem_of_getElem? (i := 657) (by decide +kernel), List.mem_of_getElem? (i := 845) (by decide +kernel), List.mem_of_getElem? (i := 846) (by decide +kernel)⟩
theorem lw_p23 : lw_okq (⟨"PathWordsModel", "isFor", "(II)Z"⟩, 16) := ⟨⟨by decide +kernel, by decide +kernel⟩, List.mem_of_getElem? (i := 657) (by decide +kernel), List.mem_of_getElem? (i := 852) (by decide +kernel), List.mem_of_getElem? (i := 853) (by decide +kernel)⟩
theorem lw_p24 : lw_okq (⟨"PathWordsModel", "isOf", "(IIII)Z"⟩, 16) := ⟨⟨by decide +kernel, by decide +kernel⟩, List.mem_of_getElem? (i := 657) (by decide +kernel), List.mem_of_getElem? (i := 859) (by decide +kernel), List.mem_of_getElem? (i := 860) (by decide +kernel)⟩
theorem lw_p25 : lw_okq (⟨"PathWordsModel", "keptByAll", "()I"⟩, 16) := ⟨⟨by decide +kernel, by decide +kernel⟩, List.mem_of_getElem? (i := 657) (by decide +kernel), List.mem_of_getElem? (i := 863) (by decide +kernel), List.mem_of_getElem? (i := 864) (by decide +kernel)⟩
theorem lw_p26 : lw_okq (⟨"PathWordsModel", "layLine", "(I)V"⟩, 16) := ⟨⟨by decide +kernel, by decide +kernel⟩, List.mem_of_getElem? (i := 657) (by decide +kernel), List.mem_of_getElem? (i := 875) (by decide +kernel), List.mem_of_getElem? (i := 876) (by decide +kernel)⟩
theorem lw_p27 : lw_okq (⟨"PathWordsModel", "putLetters", "(II)V"⟩, 16) := ⟨⟨by decide +kernel, by decide +kernel⟩, List.mem_of_getElem? (i := 657) (by decide +kernel), List.mem_of_getElem? (i := 879) (by decide +kernel), List.mem_of_getElem? (i := 880) (by decide +kernel)⟩
theorem lw_p28 : lw_okq (⟨"PathWordsModel", "put", "(I)V"⟩, 16) := ⟨⟨by decide +kernel, by decide +kernel⟩, List.mem_of_getElem? (i := 657) (by decide +kernel), List.mem_of_getElem? (i := 883) (by decide +kernel), List.mem_of_getElem? (i := 884) (by decide +kernel)⟩
theorem lw_p29 : lw_okq (⟨"PathWordsModel", "words", "(I)I"⟩, 16) := ⟨⟨by decide +kernel, by decide +kernel⟩, List.mem_of_getElem? (i := 657) (by decide +kernel), List.mem_of_getElem? (i := 887) (by decide +kernel), List.mem_of_getElem? (i := 888) (by decide +kernel)⟩
theorem lw_p30 : lw_okq (⟨"PathWordsModel", "word", "(II)I"⟩, 16) := ⟨⟨by decide +kernel, by decide +kernel⟩, List.mem_of_getElem? (i := 657) (by decide +kernel), List.mem_of_getElem? (i := 891) (by decide +kernel), List.mem_of_getElem? (i := 892) (by decide +kernel)⟩
theorem lw_p31 : lw_okq (⟨"PathWordsModel", "spentWords", "(I)I"⟩, 16) := ⟨⟨by decide +kernel, by decide +kernel⟩, List.mem_of_getElem? (i := 657) (by decide +kernel), List.mem_of_getElem? (i := 899) (by decide +kernel), List.mem_of_getElem? (i := 900) (by decide +kernel)⟩
def lw_privs_2 : List (MethodName × Nat) := [(⟨"PathWordsModel", "tick", "()V"⟩, 16), (⟨"PathWordsModel", "sendOne", "(I)V"⟩, 16), (⟨"PathWordsModel", "count", "(II)V"⟩, 16), (⟨"PathWordsModel", "hearsFrom", "(I)I"⟩, 16), (⟨"PathWordsModel", "hear", "(II)V"⟩, 16), (⟨"PathWordsModel", "look", "(I)V"⟩, 16), (⟨"PathWordsModel", "isOwn", "(I)Z"⟩, 16), (⟨"PathWordsModel", "isFor", "(II)Z"⟩, 16), (⟨"PathWordsModel", "isOf", "(IIII)Z"⟩, 16), (⟨"PathWordsModel", "keptByAll", "()I"⟩, 16), (⟨"PathWordsModel", "layLine", "(I)V"⟩, 16), (⟨"PathWordsModel", "putLetters", "(II)V"⟩, 16), (⟨"PathWordsModel", "put", "(I)V"⟩, 16), (⟨"PathWordsModel", "words", "(I)I"⟩, 16), (⟨"PathWordsModel", "word", "(II)I"⟩, 16), (⟨"PathWordsModel", "spentWords", "(I)I"⟩, 16)]
theorem lw_r2 : ∀ q ∈ lw_privs_2, lw_okq q := List.forall_mem_cons.mpr ⟨lw_p16, List.forall_mem_cons.mpr ⟨lw_p17, List.forall_mem_cons.mpr ⟨lw_p18, List.forall_mem_cons.mpr ⟨lw_p19, List.forall_mem_cons.mpr ⟨lw_p20, List.forall_mem_cons.mpr ⟨lw_p21, List.forall_mem_cons.mpr ⟨lw_p22, List.forall_mem_cons.mpr ⟨lw_p23, List.forall_mem_cons.mpr ⟨lw_p24, List.forall_mem_cons.mpr ⟨lw_p25, List.forall_mem_cons.mpr ⟨lw_p26, List.forall_mem_cons.mpr ⟨lw_p27, List.forall_mem_cons.mpr ⟨lw_p28, List.forall_mem_cons.mpr ⟨lw_p29, List.forall_mem_cons.mpr ⟨lw_p30, List.forall_mem_cons.mpr ⟨lw_p31, fun _ h => absurd h List.not_mem_nil⟩⟩⟩⟩⟩⟩⟩⟩⟩⟩⟩⟩⟩⟩⟩⟩
theorem lw_p32 : lw_okq (⟨"PathWordsModel", "firstHops", "(I)I"⟩, 16) := ⟨⟨by decide +kernel, by decide +kernel⟩, List.mem_of_getElem? (i := 657) (by decide +kernel), List.mem_of_getElem? (i := 903) (by decide +kernel), List.mem_of_getElem? (i := 904) (by decide +kernel)⟩
theorem lw_p33 : lw_okq (⟨"PathWordsModel", "stationOf", "(I)I"⟩, 16) := ⟨⟨by decide +kernel, by decide +kernel⟩, List.mem_of_getElem? (i := 657) (by decide +kernel), List.mem_of_getElem? (i := 911) (by decide +kernel), List.mem_of_getElem? (i := 912) (by decide +kernel)⟩
theorem lw_p34 : lw_okq (⟨"PathWordsModel", "reachFrom", "(IIII)I"⟩, 16) := ⟨⟨by decide +kernel, by decide +kernel⟩, List.mem_of_getElem? (i := 657) (by decide +kernel), List.mem_of_getElem? (i := 919) (by decide +kernel), List.mem_of_getElem? (i := 920) (by decide +kernel)⟩
theorem lw_p35 : lw_okq (⟨"PathWordsModel", "save", "(I)V"⟩, 16) := ⟨⟨by decide +kernel, by decide +kernel⟩, List.mem_of_getElem? (i := 657) (by decide +kernel), List.mem_of_getElem? (i := 923) (by decide +kernel), List.mem_of_getElem? (i := 924) (by decide +kernel)⟩
theorem lw_p36 : lw_okq (⟨"PathWordsModel", "sumOf", "(I)I"⟩, 16) := ⟨⟨by decide +kernel, by decide +kernel⟩, List.mem_of_getElem? (i := 657) (by decide +kernel), List.mem_of_getElem? (i := 927) (by decide +kernel), List.mem_of_getElem? (i := 928) (by decide +kernel)⟩
theorem lw_p37 : lw_okq (⟨"PathWordsModel", "load", "(I)V"⟩, 16) := ⟨⟨by decide +kernel, by decide +kernel⟩, List.mem_of_getElem? (i := 657) (by decide +kernel), List.mem_of_getElem? (i := 931) (by decide +kernel), List.mem_of_getElem? (i := 932) (by decide +kernel)⟩
theorem lw_p38 : lw_okq (⟨"PathWordsModel", "latest", "()I"⟩, 16) := ⟨⟨by decide +kernel, by decide +kernel⟩, List.mem_of_getElem? (i := 657) (by decide +kernel), List.mem_of_getElem? (i := 935) (by decide +kernel), List.mem_of_getElem? (i := 936) (by decide +kernel)⟩
theorem lw_p39 : lw_okq (⟨"PathWordsModel", "pairs", "()I"⟩, 16) := ⟨⟨by decide +kernel, by decide +kernel⟩, List.mem_of_getElem? (i := 657) (by decide +kernel), List.mem_of_getElem? (i := 959) (by decide +kernel), List.mem_of_getElem? (i := 960) (by decide +kernel)⟩
def lw_privs_3 : List (MethodName × Nat) := [(⟨"PathWordsModel", "firstHops", "(I)I"⟩, 16), (⟨"PathWordsModel", "stationOf", "(I)I"⟩, 16), (⟨"PathWordsModel", "reachFrom", "(IIII)I"⟩, 16), (⟨"PathWordsModel", "save", "(I)V"⟩, 16), (⟨"PathWordsModel", "sumOf", "(I)I"⟩, 16), (⟨"PathWordsModel", "load", "(I)V"⟩, 16), (⟨"PathWordsModel", "latest", "()I"⟩, 16), (⟨"PathWordsModel", "pairs", "()I"⟩, 16)]
theorem lw_r3 : ∀ q ∈ lw_privs_3, lw_okq q := List.forall_mem_cons.mpr ⟨lw_p32, List.forall_mem_cons.mpr ⟨lw_p33, List.forall_mem_cons.mpr ⟨lw_p34, List.forall_mem_cons.mpr ⟨lw_p35, List.forall_mem_cons.mpr ⟨lw_p36, List.forall_mem_cons.mpr ⟨lw_p37, List.forall_mem_cons.mpr ⟨lw_p38, List.forall_mem_cons.mpr ⟨lw_p39, fun _ h => absurd h List.not_mem_nil⟩⟩⟩⟩⟩⟩⟩⟩
def lw_privs : List (MethodName × Nat) := lw_privs_1 ++ (lw_privs_2 ++ (lw_privs_3))
def lw_tbl : List Cond := k2_sels lw_privs ++ tables_1
theorem lw_privs_ok : ∀ q ∈ lw_privs, lw_okq q := by
  show ∀ q ∈ lw_privs_1 ++ (lw_privs_2 ++ (lw_privs_3)), lw_okq q
  exact List.forall_mem_append.mpr ⟨lw_r1, List.forall_mem_append.mpr ⟨lw_r2, lw_r3⟩⟩
def RX0 : String := "PathWords$Kept"
def TX0 : u_T := fun k => match k with
  | 0 => ("PathWords$Kept", "packets", "[LPathWords$Packet;", true)
  | 1 => ("PathWords$Kept", "dues", "[I", true)
  | _ => ("PathWords$Kept", "size", "I", false)
def tyX0 : Nat → FieldType := fun k => match k with
  | 0 => .array (.object "PathWords$Packet")
  | 1 => .array .int
  | _ => .int
theorem nmX0 : ∀ a, a < 3 → ∀ b, b < 3 → a ≠ b → (TX0 a).2.1 ≠ (TX0 b).2.1 := by decide +kernel
theorem tyX0_ok : ∀ k, k < 3 → parseFieldDescriptor (TX0 k).2.2.1 = some (tyX0 k) := by decide +kernel
abbrev cX0_init : ByteArray := prog_2_method_1_code
def yX0_init : MethodName := ⟨RX0, "<init>", "()V"⟩
abbrev cX0_copyFrom : ByteArray := prog_2_method_2_code
def yX0_copyFrom : MethodName := ⟨RX0, "copyFrom", "(LPathWords$Kept;)V"⟩
abbrev cX0_clear : ByteArray := prog_2_method_3_code
def yX0_clear : MethodName := ⟨RX0, "clear", "()V"⟩
abbrev cX0_add : ByteArray := prog_2_method_4_code
def yX0_add : MethodName := ⟨RX0, "add", "(LPathWords$Packet;I)Z"⟩
abbrev cX0_takeDue : ByteArray := prog_2_method_5_code
def yX0_takeDue : MethodName := ⟨RX0, "takeDue", "(ILPathWords$Packet;)Z"⟩
abbrev cX0_removeAt : ByteArray := prog_2_method_6_code
def yX0_removeAt : MethodName := ⟨RX0, "removeAt", "(I)V"⟩
def RX1 : String := "PathWords$Known"
def TX1 : u_T := fun k => match k with
  | 0 => ("PathWords$Known", "sources", "[I", true)
  | 1 => ("PathWords$Known", "texts", "[I", true)
  | 2 => ("PathWords$Known", "ticks", "[I", true)
  | _ => ("PathWords$Known", "size", "I", false)
def tyX1 : Nat → FieldType := fun k => match k with
  | 0 => .array .int
  | 1 => .array .int
  | 2 => .array .int
  | _ => .int
theorem nmX1 : ∀ a, a < 4 → ∀ b, b < 4 → a ≠ b → (TX1 a).2.1 ≠ (TX1 b).2.1 := by decide +kernel
theorem tyX1_ok : ∀ k, k < 4 → parseFieldDescriptor (TX1 k).2.2.1 = some (tyX1 k) := by decide +kernel
abbrev cX1_init : ByteArray := prog_3_method_1_code
def yX1_init : MethodName := ⟨RX1, "<init>", "()V"⟩
abbrev cX1_copyFrom : ByteArray := prog_3_method_2_code
def yX1_copyFrom : MethodName := ⟨RX1, "copyFrom", "(LPathWords$Known;)V"⟩
abbrev cX1_clear : ByteArray := prog_3_method_3_code
def yX1_clear : MethodName := ⟨RX1, "clear", "()V"⟩
abbrev cX1_placeOf : ByteArray := prog_3_method_4_code
def yX1_placeOf : MethodName := ⟨RX1, "placeOf", "(LPathWords$Packet;)I"⟩
abbrev cX1_add : ByteArray := prog_3_method_5_code
def yX1_add : MethodName := ⟨RX1, "add", "(LPathWords$Packet;I)V"⟩
abbrev cX1_removeAt : ByteArray := prog_3_method_6_code
def yX1_removeAt : MethodName := ⟨RX1, "removeAt", "(I)V"⟩
abbrev cX1_dropOld : ByteArray := prog_3_method_7_code
def yX1_dropOld : MethodName := ⟨RX1, "dropOld", "(II)V"⟩
abbrev cX1_move : ByteArray := prog_3_method_8_code
def yX1_move : MethodName := ⟨RX1, "move", "(II)V"⟩
def RX2 : String := "PathWords$Names"
def TX2 : u_T := fun k => match k with
  | 0 => ("PathWords$Names", "names", "[I", true)
  | _ => ("PathWords$Names", "size", "I", false)
def tyX2 : Nat → FieldType := fun k => match k with
  | 0 => .array .int
  | _ => .int
theorem nmX2 : ∀ a, a < 2 → ∀ b, b < 2 → a ≠ b → (TX2 a).2.1 ≠ (TX2 b).2.1 := by decide +kernel
theorem tyX2_ok : ∀ k, k < 2 → parseFieldDescriptor (TX2 k).2.2.1 = some (tyX2 k) := by decide +kernel
abbrev cX2_init : ByteArray := prog_4_method_1_code
def yX2_init : MethodName := ⟨RX2, "<init>", "()V"⟩
abbrev cX2_copyFrom : ByteArray := prog_4_method_2_code
def yX2_copyFrom : MethodName := ⟨RX2, "copyFrom", "(LPathWords$Names;)V"⟩
abbrev cX2_clear : ByteArray := prog_4_method_3_code
def yX2_clear : MethodName := ⟨RX2, "clear", "()V"⟩
abbrev cX2_add : ByteArray := prog_4_method_4_code
def yX2_add : MethodName := ⟨RX2, "add", "(I)V"⟩
abbrev cX2_has : ByteArray := prog_4_method_5_code
def yX2_has : MethodName := ⟨RX2, "has", "(I)Z"⟩
def RX3 : String := "PathWords$Net"
def TX3 : u_T := fun k => match k with
  | 0 => ("PathWords$Net", "stations", "[LPathWords$Station;", true)
  | 1 => ("PathWords$Net", "nearSets", "[I", true)
  | _ => ("PathWords$Net", "now", "I", false)
def tyX3 : Nat → FieldType := fun k => match k with
  | 0 => .array (.object "PathWords$Station")
  | 1 => .array .int
  | _ => .int
theorem nmX3 : ∀ a, a < 3 → ∀ b, b < 3 → a ≠ b → (TX3 a).2.1 ≠ (TX3 b).2.1 := by decide +kernel
theorem tyX3_ok : ∀ k, k < 3 → parseFieldDescriptor (TX3 k).2.2.1 = some (tyX3 k) := by decide +kernel
abbrev cX3_init : ByteArray := prog_5_method_1_code
def yX3_init : MethodName := ⟨RX3, "<init>", "()V"⟩
abbrev cX3_copyFrom : ByteArray := prog_5_method_2_code
def yX3_copyFrom : MethodName := ⟨RX3, "copyFrom", "(LPathWords$Net;)V"⟩
abbrev cX3_beginLike : ByteArray := prog_5_method_3_code
def yX3_beginLike : MethodName := ⟨RX3, "beginLike", "(LPathWords$Net;)V"⟩
abbrev cX3_join : ByteArray := prog_5_method_4_code
def yX3_join : MethodName := ⟨RX3, "join", "(IIZ)V"⟩
abbrev cX3_isolate : ByteArray := prog_5_method_5_code
def yX3_isolate : MethodName := ⟨RX3, "isolate", "(I)V"⟩
abbrev cX3_passTick : ByteArray := prog_5_method_6_code
def yX3_passTick : MethodName := ⟨RX3, "passTick", "()V"⟩
abbrev cX3_firstIn : ByteArray := prog_5_method_7_code
def yX3_firstIn : MethodName := ⟨RX3, "firstIn", "(I)I"⟩
abbrev cX3_stationCalled : ByteArray := prog_5_method_8_code
def yX3_stationCalled : MethodName := ⟨RX3, "stationCalled", "(I)I"⟩
abbrev cX3_keptByAll : ByteArray := prog_5_method_9_code
def yX3_keptByAll : MethodName := ⟨RX3, "keptByAll", "()I"⟩
abbrev cX3_tallyOfAll : ByteArray := prog_5_method_10_code
def yX3_tallyOfAll : MethodName := ⟨RX3, "tallyOfAll", "(I)I"⟩
abbrev cX3_pairsNear : ByteArray := prog_5_method_11_code
def yX3_pairsNear : MethodName := ⟨RX3, "pairsNear", "()I"⟩
abbrev cX3_hearers : ByteArray := prog_5_method_12_code
def yX3_hearers : MethodName := ⟨RX3, "hearers", "()I"⟩
def RX4 : String := "PathWords$Packet"
def TX4 : u_T := fun k => match k with
  | 0 => ("PathWords$Packet", "words", "[I", true)
  | 1 => ("PathWords$Packet", "size", "I", false)
  | 2 => ("PathWords$Packet", "source", "I", false)
  | _ => ("PathWords$Packet", "text", "I", false)
def tyX4 : Nat → FieldType := fun k => match k with
  | 0 => .array .int
  | 1 => .int
  | 2 => .int
  | _ => .int
theorem nmX4 : ∀ a, a < 4 → ∀ b, b < 4 → a ≠ b → (TX4 a).2.1 ≠ (TX4 b).2.1 := by decide +kernel
theorem tyX4_ok : ∀ k, k < 4 → parseFieldDescriptor (TX4 k).2.2.1 = some (tyX4 k) := by decide +kernel
abbrev cX4_init : ByteArray := prog_6_method_1_code
def yX4_init : MethodName := ⟨RX4, "<init>", "()V"⟩
abbrev cX4_copyFrom : ByteArray := prog_6_method_2_code
def yX4_copyFrom : MethodName := ⟨RX4, "copyFrom", "(LPathWords$Packet;)V"⟩
abbrev cX4_clear : ByteArray := prog_6_method_3_code
def yX4_clear : MethodName := ⟨RX4, "clear", "()V"⟩
abbrev cX4_addWord : ByteArray := prog_6_method_4_code
def yX4_addWord : MethodName := ⟨RX4, "addWord", "(IIZ)V"⟩
abbrev cX4_isPlace : ByteArray := prog_6_method_5_code
def yX4_isPlace : MethodName := ⟨RX4, "isPlace", "(I)Z"⟩
abbrev cX4_nameAt : ByteArray := prog_6_method_6_code
def yX4_nameAt : MethodName := ⟨RX4, "nameAt", "(I)I"⟩
abbrev cX4_hopsAt : ByteArray := prog_6_method_7_code
def yX4_hopsAt : MethodName := ⟨RX4, "hopsAt", "(I)I"⟩
abbrev cX4_isSpentAt : ByteArray := prog_6_method_8_code
def yX4_isSpentAt : MethodName := ⟨RX4, "isSpentAt", "(I)Z"⟩
abbrev cX4_firstUnspent : ByteArray := prog_6_method_9_code
def yX4_firstUnspent : MethodName := ⟨RX4, "firstUnspent", "()I"⟩
abbrev cX4_spentWords : ByteArray := prog_6_method_10_code
def yX4_spentWords : MethodName := ⟨RX4, "spentWords", "()I"⟩
abbrev cX4_placeOfSpent : ByteArray := prog_6_method_11_code
def yX4_placeOfSpent : MethodName := ⟨RX4, "placeOfSpent", "(I)I"⟩
abbrev cX4_wasSentBy : ByteArray := prog_6_method_12_code
def yX4_wasSentBy : MethodName := ⟨RX4, "wasSentBy", "(I)Z"⟩
abbrev cX4_spend : ByteArray := prog_6_method_13_code
def yX4_spend : MethodName := ⟨RX4, "spend", "(II)V"⟩
abbrev cX4_setHops : ByteArray := prog_6_method_14_code
def yX4_setHops : MethodName := ⟨RX4, "setHops", "(II)V"⟩
abbrev cX4_putAhead : ByteArray := prog_6_method_15_code
def yX4_putAhead : MethodName := ⟨RX4, "putAhead", "(II)V"⟩
def RX5 : String := "PathWords$Pad"
def TX5 : u_T := fun k => match k with
  | 0 => ("PathWords$Pad", "signs", "[I", true)
  | 1 => ("PathWords$Pad", "size", "I", false)
  | _ => ("PathWords$Pad", "at", "I", false)
def tyX5 : Nat → FieldType := fun k => match k with
  | 0 => .array .int
  | 1 => .int
  | _ => .int
theorem nmX5 : ∀ a, a < 3 → ∀ b, b < 3 → a ≠ b → (TX5 a).2.1 ≠ (TX5 b).2.1 := by decide +kernel
theorem tyX5_ok : ∀ k, k < 3 → parseFieldDescriptor (TX5 k).2.2.1 = some (tyX5 k) := by decide +kernel
abbrev cX5_init : ByteArray := prog_7_method_1_code
def yX5_init : MethodName := ⟨RX5, "<init>", "()V"⟩
abbrev cX5_add : ByteArray := prog_7_method_2_code
def yX5_add : MethodName := ⟨RX5, "add", "(I)V"⟩
abbrev cX5_clear : ByteArray := prog_7_method_3_code
def yX5_clear : MethodName := ⟨RX5, "clear", "()V"⟩
abbrev cX5_readName : ByteArray := prog_7_method_4_code
def yX5_readName : MethodName := ⟨RX5, "readName", "()I"⟩
abbrev cX5_readPacket : ByteArray := prog_7_method_5_code
def yX5_readPacket : MethodName := ⟨RX5, "readPacket", "(LPathWords$Packet;)I"⟩
abbrev cX5_readWords : ByteArray := prog_7_method_6_code
def yX5_readWords : MethodName := ⟨RX5, "readWords", "(LPathWords$Packet;)Z"⟩
abbrev cX5_readWord : ByteArray := prog_7_method_7_code
def yX5_readWord : MethodName := ⟨RX5, "readWord", "(LPathWords$Packet;)Z"⟩
abbrev cX5_readLetters : ByteArray := prog_7_method_8_code
def yX5_readLetters : MethodName := ⟨RX5, "readLetters", "(II)I"⟩
abbrev cX5_take : ByteArray := prog_7_method_9_code
def yX5_take : MethodName := ⟨RX5, "take", "(I)Z"⟩
abbrev cX5_peek : ByteArray := prog_7_method_10_code
def yX5_peek : MethodName := ⟨RX5, "peek", "()I"⟩
def RX6 : String := "PathWords$Station"
def TX6 : u_T := fun k => match k with
  | 0 => ("PathWords$Station", "call", "I", false)
  | 1 => ("PathWords$Station", "standIns", "LPathWords$Names;", true)
  | 2 => ("PathWords$Station", "floods", "LPathWords$Names;", true)
  | 3 => ("PathWords$Station", "limit", "I", false)
  | 4 => ("PathWords$Station", "delay", "I", false)
  | 5 => ("PathWords$Station", "window", "I", false)
  | 6 => ("PathWords$Station", "tallies", "[I", true)
  | 7 => ("PathWords$Station", "kept", "LPathWords$Kept;", true)
  | 8 => ("PathWords$Station", "known", "LPathWords$Known;", true)
  | 9 => ("PathWords$Station", "latest", "LPathWords$Packet;", true)
  | 10 => ("PathWords$Station", "latestTick", "I", false)
  | 11 => ("PathWords$Station", "air", "LPathWords$Packet;", true)
  | _ => ("PathWords$Station", "changed", "LPathWords$Packet;", true)
def tyX6 : Nat → FieldType := fun k => match k with
  | 0 => .int
  | 1 => .object "PathWords$Names"
  | 2 => .object "PathWords$Names"
  | 3 => .int
  | 4 => .int
  | 5 => .int
  | 6 => .array .int
  | 7 => .object "PathWords$Kept"
  | 8 => .object "PathWords$Known"
  | 9 => .object "PathWords$Packet"
  | 10 => .int
  | 11 => .object "PathWords$Packet"
  | _ => .object "PathWords$Packet"
theorem nmX6 : ∀ a, a < 13 → ∀ b, b < 13 → a ≠ b → (TX6 a).2.1 ≠ (TX6 b).2.1 := by decide +kernel
theorem tyX6_ok : ∀ k, k < 13 → parseFieldDescriptor (TX6 k).2.2.1 = some (tyX6 k) := by decide +kernel
abbrev cX6_init : ByteArray := prog_8_method_1_code
def yX6_init : MethodName := ⟨RX6, "<init>", "(I)V"⟩
abbrev cX6_copyFrom : ByteArray := prog_8_method_2_code
def yX6_copyFrom : MethodName := ⟨RX6, "copyFrom", "(LPathWords$Station;)V"⟩
abbrev cX6_beginLike : ByteArray := prog_8_method_3_code
def yX6_beginLike : MethodName := ⟨RX6, "beginLike", "(LPathWords$Station;)V"⟩
abbrev cX6_copySettings : ByteArray := prog_8_method_4_code
def yX6_copySettings : MethodName := ⟨RX6, "copySettings", "(LPathWords$Station;)V"⟩
abbrev cX6_hasHeard : ByteArray := prog_8_method_5_code
def yX6_hasHeard : MethodName := ⟨RX6, "hasHeard", "()Z"⟩
abbrev cX6_originate : ByteArray := prog_8_method_6_code
def yX6_originate : MethodName := ⟨RX6, "originate", "(LPathWords$Packet;I)V"⟩
abbrev cX6_startSending : ByteArray := prog_8_method_7_code
def yX6_startSending : MethodName := ⟨RX6, "startSending", "(I)Z"⟩
abbrev cX6_hear : ByteArray := prog_8_method_8_code
def yX6_hear : MethodName := ⟨RX6, "hear", "(LPathWords$Packet;I)V"⟩
abbrev cX6_changeIfMeant : ByteArray := prog_8_method_9_code
def yX6_changeIfMeant : MethodName := ⟨RX6, "changeIfMeant", "(LPathWords$Packet;I)Z"⟩
def RX7 : String := "PathWords$Trial"
def TX7 : u_T := fun k => match k with
  | 0 => ("PathWords$Trial", "net", "LPathWords$Net;", true)
  | 1 => ("PathWords$Trial", "packet", "LPathWords$Packet;", true)
  | 2 => ("PathWords$Trial", "reached", "I", false)
  | _ => ("PathWords$Trial", "newest", "I", false)
def tyX7 : Nat → FieldType := fun k => match k with
  | 0 => .object "PathWords$Net"
  | 1 => .object "PathWords$Packet"
  | 2 => .int
  | _ => .int
theorem nmX7 : ∀ a, a < 4 → ∀ b, b < 4 → a ≠ b → (TX7 a).2.1 ≠ (TX7 b).2.1 := by decide +kernel
theorem tyX7_ok : ∀ k, k < 4 → parseFieldDescriptor (TX7 k).2.2.1 = some (tyX7 k) := by decide +kernel
abbrev cX7_init : ByteArray := prog_9_method_1_code
def yX7_init : MethodName := ⟨RX7, "<init>", "()V"⟩
abbrev cX7_prepare : ByteArray := prog_9_method_2_code
def yX7_prepare : MethodName := ⟨RX7, "prepare", "(LPathWords$Net;)V"⟩
abbrev cX7_spread : ByteArray := prog_9_method_3_code
def yX7_spread : MethodName := ⟨RX7, "spread", "(III)V"⟩
def RX8 : String := "PathWords$Writing"
def TX8 : u_T := fun k => match k with
  | 0 => ("PathWords$Writing", "signs", "[I", true)
  | _ => ("PathWords$Writing", "size", "I", false)
def tyX8 : Nat → FieldType := fun k => match k with
  | 0 => .array .int
  | _ => .int
theorem nmX8 : ∀ a, a < 2 → ∀ b, b < 2 → a ≠ b → (TX8 a).2.1 ≠ (TX8 b).2.1 := by decide +kernel
theorem tyX8_ok : ∀ k, k < 2 → parseFieldDescriptor (TX8 k).2.2.1 = some (tyX8 k) := by decide +kernel
abbrev cX8_init : ByteArray := prog_10_method_1_code
def yX8_init : MethodName := ⟨RX8, "<init>", "()V"⟩
abbrev cX8_write : ByteArray := prog_10_method_2_code
def yX8_write : MethodName := ⟨RX8, "write", "(LPathWords$Packet;)V"⟩
abbrev cX8_signAt : ByteArray := prog_10_method_3_code
def yX8_signAt : MethodName := ⟨RX8, "signAt", "(I)I"⟩
abbrev cX8_putWord : ByteArray := prog_10_method_4_code
def yX8_putWord : MethodName := ⟨RX8, "putWord", "(LPathWords$Packet;I)V"⟩
abbrev cX8_putLetters : ByteArray := prog_10_method_5_code
def yX8_putLetters : MethodName := ⟨RX8, "putLetters", "(II)V"⟩
abbrev cX8_put : ByteArray := prog_10_method_6_code
def yX8_put : MethodName := ⟨RX8, "put", "(I)V"⟩
def RX9 : String := "PathWords"
def TX9 : u_T := fun k => match k with
  | 0 => ("PathWords", "pad", "LPathWords$Pad;", true)
  | 1 => ("PathWords", "net", "LPathWords$Net;", true)
  | 2 => ("PathWords", "trial", "LPathWords$Trial;", true)
  | 3 => ("PathWords", "images", "[LPathWords$Net;", true)
  | 4 => ("PathWords", "scratch", "LPathWords$Packet;", true)
  | _ => ("PathWords", "writing", "LPathWords$Writing;", true)
def tyX9 : Nat → FieldType := fun k => match k with
  | 0 => .object "PathWords$Pad"
  | 1 => .object "PathWords$Net"
  | 2 => .object "PathWords$Trial"
  | 3 => .array (.object "PathWords$Net")
  | 4 => .object "PathWords$Packet"
  | _ => .object "PathWords$Writing"
theorem nmX9 : ∀ a, a < 6 → ∀ b, b < 6 → a ≠ b → (TX9 a).2.1 ≠ (TX9 b).2.1 := by decide +kernel
theorem tyX9_ok : ∀ k, k < 6 → parseFieldDescriptor (TX9 k).2.2.1 = some (tyX9 k) := by decide +kernel
abbrev cX9_init : ByteArray := prog_1_method_1_code
def yX9_init : MethodName := ⟨RX9, "<init>", "()V"⟩
abbrev cX9_say : ByteArray := prog_1_method_2_code
def yX9_say : MethodName := ⟨RX9, "say", "(I)I"⟩
abbrev cX9_wipe : ByteArray := prog_1_method_3_code
def yX9_wipe : MethodName := ⟨RX9, "wipe", "()I"⟩
abbrev cX9_fault : ByteArray := prog_1_method_4_code
def yX9_fault : MethodName := ⟨RX9, "fault", "()I"⟩
abbrev cX9_name : ByteArray := prog_1_method_5_code
def yX9_name : MethodName := ⟨RX9, "name", "(II)I"⟩
abbrev cX9_forget : ByteArray := prog_1_method_6_code
def yX9_forget : MethodName := ⟨RX9, "forget", "(II)I"⟩
abbrev cX9_set : ByteArray := prog_1_method_7_code
def yX9_set : MethodName := ⟨RX9, "set", "(III)I"⟩
abbrev cX9_near : ByteArray := prog_1_method_8_code
def yX9_near : MethodName := ⟨RX9, "near", "(III)I"⟩
abbrev cX9_send : ByteArray := prog_1_method_9_code
def yX9_send : MethodName := ⟨RX9, "send", "(I)I"⟩
abbrev cX9_run : ByteArray := prog_1_method_10_code
def yX9_run : MethodName := ⟨RX9, "run", "(I)I"⟩
abbrev cX9_heard : ByteArray := prog_1_method_11_code
def yX9_heard : MethodName := ⟨RX9, "heard", "(II)I"⟩
abbrev cX9_written : ByteArray := prog_1_method_12_code
def yX9_written : MethodName := ⟨RX9, "written", "(II)I"⟩
abbrev cX9_last : ByteArray := prog_1_method_13_code
def yX9_last : MethodName := ⟨RX9, "last", "(II)I"⟩
abbrev cX9_trail : ByteArray := prog_1_method_14_code
def yX9_trail : MethodName := ⟨RX9, "trail", "(II)I"⟩
abbrev cX9_reach : ByteArray := prog_1_method_15_code
def yX9_reach : MethodName := ⟨RX9, "reach", "(III)I"⟩
abbrev cX9_fewest : ByteArray := prog_1_method_16_code
def yX9_fewest : MethodName := ⟨RX9, "fewest", "(II)I"⟩
abbrev cX9_bridges : ByteArray := prog_1_method_17_code
def yX9_bridges : MethodName := ⟨RX9, "bridges", "(III)I"⟩
abbrev cX9_image : ByteArray := prog_1_method_18_code
def yX9_image : MethodName := ⟨RX9, "image", "(I)I"⟩
abbrev cX9_restore : ByteArray := prog_1_method_19_code
def yX9_restore : MethodName := ⟨RX9, "restore", "(I)I"⟩
abbrev cX9_count : ByteArray := prog_1_method_20_code
def yX9_count : MethodName := ⟨RX9, "count", "(I)I"⟩
abbrev cX9_imagesKept : ByteArray := prog_1_method_21_code
def yX9_imagesKept : MethodName := ⟨RX9, "imagesKept", "()I"⟩
abbrev cX9_isStation : ByteArray := prog_1_method_22_code
def yX9_isStation : MethodName := ⟨RX9, "isStation", "(I)Z"⟩
abbrev cX9_isHops : ByteArray := prog_1_method_23_code
def yX9_isHops : MethodName := ⟨RX9, "isHops", "(I)Z"⟩
abbrev cX9_isIn : ByteArray := prog_1_method_24_code
def yX9_isIn : MethodName := ⟨RX9, "isIn", "(II)Z"⟩
abbrev cX9_isSetting : ByteArray := prog_1_method_25_code
def yX9_isSetting : MethodName := ⟨RX9, "isSetting", "(II)Z"⟩
def RX10 : String := "PathWordsModel"
def TX10 : u_T := fun k => match k with
  | 0 => ("PathWordsModel", "state", "[I", true)
  | 1 => ("PathWordsModel", "images", "[I", true)
  | 2 => ("PathWordsModel", "isKept", "[Z", true)
  | 3 => ("PathWordsModel", "pad", "[I", true)
  | 4 => ("PathWordsModel", "said", "I", false)
  | 5 => ("PathWordsModel", "own", "[I", true)
  | 6 => ("PathWordsModel", "at", "I", false)
  | 7 => ("PathWordsModel", "isBad", "Z", false)
  | 8 => ("PathWordsModel", "air", "[I", true)
  | 9 => ("PathWordsModel", "sends", "[Z", true)
  | 10 => ("PathWordsModel", "from", "[I", true)
  | 11 => ("PathWordsModel", "firstAt", "[I", true)
  | 12 => ("PathWordsModel", "line", "[I", true)
  | 13 => ("PathWordsModel", "lineLong", "I", false)
  | 14 => ("PathWordsModel", "triedSent", "I", false)
  | _ => ("PathWordsModel", "triedCrashes", "I", false)
def tyX10 : Nat → FieldType := fun k => match k with
  | 0 => .array .int
  | 1 => .array .int
  | 2 => .array .boolean
  | 3 => .array .int
  | 4 => .int
  | 5 => .array .int
  | 6 => .int
  | 7 => .boolean
  | 8 => .array .int
  | 9 => .array .boolean
  | 10 => .array .int
  | 11 => .array .int
  | 12 => .array .int
  | 13 => .int
  | 14 => .int
  | _ => .int
theorem nmX10 : ∀ a, a < 16 → ∀ b, b < 16 → a ≠ b → (TX10 a).2.1 ≠ (TX10 b).2.1 := by decide +kernel
theorem tyX10_ok : ∀ k, k < 16 → parseFieldDescriptor (TX10 k).2.2.1 = some (tyX10 k) := by decide +kernel
abbrev cX10_init : ByteArray := prog_12_method_1_code
def yX10_init : MethodName := ⟨RX10, "<init>", "()V"⟩
abbrev cX10_in : ByteArray := prog_12_method_2_code
def yX10_in : MethodName := ⟨RX10, "in", "(III)Z"⟩
abbrev cX10_isStation : ByteArray := prog_12_method_3_code
def yX10_isStation : MethodName := ⟨RX10, "isStation", "(I)Z"⟩
abbrev cX10_say : ByteArray := prog_12_method_4_code
def yX10_say : MethodName := ⟨RX10, "say", "(I)I"⟩
abbrev cX10_wipe : ByteArray := prog_12_method_5_code
def yX10_wipe : MethodName := ⟨RX10, "wipe", "()I"⟩
abbrev cX10_isAt : ByteArray := prog_12_method_6_code
def yX10_isAt : MethodName := ⟨RX10, "isAt", "(I)Z"⟩
abbrev cX10_isLetter : ByteArray := prog_12_method_7_code
def yX10_isLetter : MethodName := ⟨RX10, "isLetter", "(I)Z"⟩
abbrev cX10_readLetters : ByteArray := prog_12_method_8_code
def yX10_readLetters : MethodName := ⟨RX10, "readLetters", "(II)I"⟩
abbrev cX10_readSign : ByteArray := prog_12_method_9_code
def yX10_readSign : MethodName := ⟨RX10, "readSign", "(I)V"⟩
abbrev cX10_readWord : ByteArray := prog_12_method_10_code
def yX10_readWord : MethodName := ⟨RX10, "readWord", "()V"⟩
abbrev cX10_readPacket : ByteArray := prog_12_method_11_code
def yX10_readPacket : MethodName := ⟨RX10, "readPacket", "()I"⟩
abbrev cX10_fault : ByteArray := prog_12_method_12_code
def yX10_fault : MethodName := ⟨RX10, "fault", "()I"⟩
abbrev cX10_readName : ByteArray := prog_12_method_13_code
def yX10_readName : MethodName := ⟨RX10, "readName", "()I"⟩
abbrev cX10_name : ByteArray := prog_12_method_14_code
def yX10_name : MethodName := ⟨RX10, "name", "(II)I"⟩
abbrev cX10_call : ByteArray := prog_12_method_15_code
def yX10_call : MethodName := ⟨RX10, "call", "(II)I"⟩
abbrev cX10_more : ByteArray := prog_12_method_16_code
def yX10_more : MethodName := ⟨RX10, "more", "(IIII)I"⟩
abbrev cX10_forget : ByteArray := prog_12_method_17_code
def yX10_forget : MethodName := ⟨RX10, "forget", "(II)I"⟩
abbrev cX10_set : ByteArray := prog_12_method_18_code
def yX10_set : MethodName := ⟨RX10, "set", "(III)I"⟩
abbrev cX10_areNear : ByteArray := prog_12_method_19_code
def yX10_areNear : MethodName := ⟨RX10, "areNear", "(II)Z"⟩
abbrev cX10_near : ByteArray := prog_12_method_20_code
def yX10_near : MethodName := ⟨RX10, "near", "(III)I"⟩
abbrev cX10_slot : ByteArray := prog_12_method_21_code
def yX10_slot : MethodName := ⟨RX10, "slot", "(II)I"⟩
abbrev cX10_known : ByteArray := prog_12_method_22_code
def yX10_known : MethodName := ⟨RX10, "known", "(II)I"⟩
abbrev cX10_keep : ByteArray := prog_12_method_23_code
def yX10_keep : MethodName := ⟨RX10, "keep", "(II)Z"⟩
abbrev cX10_placeKnown : ByteArray := prog_12_method_24_code
def yX10_placeKnown : MethodName := ⟨RX10, "placeKnown", "(III)I"⟩
abbrev cX10_unknow : ByteArray := prog_12_method_25_code
def yX10_unknow : MethodName := ⟨RX10, "unknow", "(II)V"⟩
abbrev cX10_know : ByteArray := prog_12_method_26_code
def yX10_know : MethodName := ⟨RX10, "know", "(III)V"⟩
abbrev cX10_begin : ByteArray := prog_12_method_27_code
def yX10_begin : MethodName := ⟨RX10, "begin", "(I)V"⟩
abbrev cX10_send : ByteArray := prog_12_method_28_code
def yX10_send : MethodName := ⟨RX10, "send", "(I)I"⟩
abbrev cX10_count : ByteArray := prog_12_method_29_code
def yX10_count : MethodName := ⟨RX10, "count", "(II)V"⟩
abbrev cX10_sendOne : ByteArray := prog_12_method_30_code
def yX10_sendOne : MethodName := ⟨RX10, "sendOne", "(I)V"⟩
abbrev cX10_hearsFrom : ByteArray := prog_12_method_31_code
def yX10_hearsFrom : MethodName := ⟨RX10, "hearsFrom", "(I)I"⟩
abbrev cX10_tick : ByteArray := prog_12_method_32_code
def yX10_tick : MethodName := ⟨RX10, "tick", "()V"⟩
abbrev cX10_hear : ByteArray := prog_12_method_33_code
def yX10_hear : MethodName := ⟨RX10, "hear", "(II)V"⟩
abbrev cX10_isSpent : ByteArray := prog_12_method_34_code
def yX10_isSpent : MethodName := ⟨RX10, "isSpent", "(I)Z"⟩
abbrev cX10_hopsOf : ByteArray := prog_12_method_35_code
def yX10_hopsOf : MethodName := ⟨RX10, "hopsOf", "(I)I"⟩
abbrev cX10_isOwn : ByteArray := prog_12_method_36_code
def yX10_isOwn : MethodName := ⟨RX10, "isOwn", "(I)Z"⟩
abbrev cX10_look : ByteArray := prog_12_method_37_code
def yX10_look : MethodName := ⟨RX10, "look", "(I)V"⟩
abbrev cX10_isOf : ByteArray := prog_12_method_38_code
def yX10_isOf : MethodName := ⟨RX10, "isOf", "(IIII)Z"⟩
abbrev cX10_isFor : ByteArray := prog_12_method_39_code
def yX10_isFor : MethodName := ⟨RX10, "isFor", "(II)Z"⟩
abbrev cX10_keptByAll : ByteArray := prog_12_method_40_code
def yX10_keptByAll : MethodName := ⟨RX10, "keptByAll", "()I"⟩
abbrev cX10_run : ByteArray := prog_12_method_41_code
def yX10_run : MethodName := ⟨RX10, "run", "(I)I"⟩
abbrev cX10_heard : ByteArray := prog_12_method_42_code
def yX10_heard : MethodName := ⟨RX10, "heard", "(II)I"⟩
abbrev cX10_put : ByteArray := prog_12_method_43_code
def yX10_put : MethodName := ⟨RX10, "put", "(I)V"⟩
abbrev cX10_putLetters : ByteArray := prog_12_method_44_code
def yX10_putLetters : MethodName := ⟨RX10, "putLetters", "(II)V"⟩
abbrev cX10_word : ByteArray := prog_12_method_45_code
def yX10_word : MethodName := ⟨RX10, "word", "(II)I"⟩
abbrev cX10_words : ByteArray := prog_12_method_46_code
def yX10_words : MethodName := ⟨RX10, "words", "(I)I"⟩
abbrev cX10_layLine : ByteArray := prog_12_method_47_code
def yX10_layLine : MethodName := ⟨RX10, "layLine", "(I)V"⟩
abbrev cX10_written : ByteArray := prog_12_method_48_code
def yX10_written : MethodName := ⟨RX10, "written", "(II)I"⟩
abbrev cX10_spentWords : ByteArray := prog_12_method_49_code
def yX10_spentWords : MethodName := ⟨RX10, "spentWords", "(I)I"⟩
abbrev cX10_firstHops : ByteArray := prog_12_method_50_code
def yX10_firstHops : MethodName := ⟨RX10, "firstHops", "(I)I"⟩
abbrev cX10_last : ByteArray := prog_12_method_51_code
def yX10_last : MethodName := ⟨RX10, "last", "(II)I"⟩
abbrev cX10_stationOf : ByteArray := prog_12_method_52_code
def yX10_stationOf : MethodName := ⟨RX10, "stationOf", "(I)I"⟩
abbrev cX10_trail : ByteArray := prog_12_method_53_code
def yX10_trail : MethodName := ⟨RX10, "trail", "(II)I"⟩
abbrev cX10_save : ByteArray := prog_12_method_54_code
def yX10_save : MethodName := ⟨RX10, "save", "(I)V"⟩
abbrev cX10_load : ByteArray := prog_12_method_55_code
def yX10_load : MethodName := ⟨RX10, "load", "(I)V"⟩
abbrev cX10_reachFrom : ByteArray := prog_12_method_56_code
def yX10_reachFrom : MethodName := ⟨RX10, "reachFrom", "(IIII)I"⟩
abbrev cX10_sumOf : ByteArray := prog_12_method_57_code
def yX10_sumOf : MethodName := ⟨RX10, "sumOf", "(I)I"⟩
abbrev cX10_latest : ByteArray := prog_12_method_58_code
def yX10_latest : MethodName := ⟨RX10, "latest", "()I"⟩
abbrev cX10_reach : ByteArray := prog_12_method_59_code
def yX10_reach : MethodName := ⟨RX10, "reach", "(III)I"⟩
abbrev cX10_fewest : ByteArray := prog_12_method_60_code
def yX10_fewest : MethodName := ⟨RX10, "fewest", "(II)I"⟩
abbrev cX10_bridges : ByteArray := prog_12_method_61_code
def yX10_bridges : MethodName := ⟨RX10, "bridges", "(III)I"⟩
abbrev cX10_image : ByteArray := prog_12_method_62_code
def yX10_image : MethodName := ⟨RX10, "image", "(I)I"⟩
abbrev cX10_restore : ByteArray := prog_12_method_63_code
def yX10_restore : MethodName := ⟨RX10, "restore", "(I)I"⟩
abbrev cX10_pairs : ByteArray := prog_12_method_64_code
def yX10_pairs : MethodName := ⟨RX10, "pairs", "()I"⟩
abbrev cX10_count_ : ByteArray := prog_12_method_65_code
def yX10_count_ : MethodName := ⟨RX10, "count", "(I)I"⟩
def RJ6 : String := "java/lang/Integer"
def TJ6 : u_T := fun k => match k with
  | _ => ("", "", "", false)
def tyJ6 : Nat → FieldType := fun k => match k with
  | _ => .int
theorem nmJ6 : ∀ a, a < 0 → ∀ b, b < 0 → a ≠ b → (TJ6 a).2.1 ≠ (TJ6 b).2.1 := by decide +kernel
theorem tyJ6_ok : ∀ k, k < 0 → parseFieldDescriptor (TJ6 k).2.2.1 = some (tyJ6 k) := by decide +kernel
abbrev cJ6_bitCount_0f7a4 : ByteArray := prog_13_method_49_code
def yJ6_bitCount_0f7a4 : MethodName := ⟨RJ6, "bitCount", "(I)I"⟩
def RJ9 : String := "java/lang/Math"
def TJ9 : u_T := fun k => match k with
  | _ => ("", "", "", false)
def tyJ9 : Nat → FieldType := fun k => match k with
  | _ => .int
theorem nmJ9 : ∀ a, a < 0 → ∀ b, b < 0 → a ≠ b → (TJ9 a).2.1 ≠ (TJ9 b).2.1 := by decide +kernel
theorem tyJ9_ok : ∀ k, k < 0 → parseFieldDescriptor (TJ9 k).2.2.1 = some (tyJ9 k) := by decide +kernel
abbrev cJ9_min_7cf53 : ByteArray := prog_14_method_69_code
def yJ9_min_7cf53 : MethodName := ⟨RJ9, "min", "(II)I"⟩
def RJ10 : String := "java/lang/System"
def TJ10 : u_T := fun k => match k with
  | _ => ("", "", "", false)
def tyJ10 : Nat → FieldType := fun k => match k with
  | _ => .int
theorem nmJ10 : ∀ a, a < 0 → ∀ b, b < 0 → a ≠ b → (TJ10 a).2.1 ≠ (TJ10 b).2.1 := by decide +kernel
theorem tyJ10_ok : ∀ k, k < 0 → parseFieldDescriptor (TJ10 k).2.2.1 = some (tyJ10 k) := by decide +kernel
def RL : String := "PathWordsLaw"
abbrev cL_law : ByteArray := code
def yL_law : MethodName := ⟨RL, "law", "([I)Z"⟩
abbrev vwCl : List vw_C := [(RX0, TX0, 3), (RX1, TX1, 4), (RX2, TX2, 2), (RX3, TX3, 3), (RX4, TX4, 4), (RX5, TX5, 3), (RX6, TX6, 13), (RX7, TX7, 4), (RX8, TX8, 2), (RX9, TX9, 6), (RX10, TX10, 16)]
end
section
theorem dX0_init_0 : decode cX0_init 0 = .ok (.aload_n 0, 1) := by decide +kernel
theorem dX0_init_1 : decode cX0_init 1 = .ok (.invokespecial 3, 3) := by decide +kernel
theorem dX0_init_4 : decode cX0_init 4 = .ok (.aload_n 0, 1) := by decide +kernel
theorem dX0_init_5 : decode cX0_init 5 = .ok (.bipush 12, 2) := by decide +kernel
theorem dX0_init_7 : decode cX0_init 7 = .ok (.anewarray 9, 3) := by decide +kernel
theorem dX0_init_10 : decode cX0_init 10 = .ok (.putfield 11, 3) := by decide +kernel
theorem dX0_init_13 : decode cX0_init 13 = .ok (.aload_n 0, 1) := by decide +kernel
theorem dX0_init_14 : decode cX0_init 14 = .ok (.bipush 12, 2) := by decide +kernel
theorem dX0_init_16 : decode cX0_init 16 = .ok (.newarray .int, 2) := by decide +kernel
theorem dX0_init_18 : decode cX0_init 18 = .ok (.putfield 17, 3) := by decide +kernel
theorem dX0_init_21 : decode cX0_init 21 = .ok (.iconst 0, 1) := by decide +kernel
theorem dX0_init_22 : decode cX0_init 22 = .ok (.istore_n 1, 1) := by decide +kernel
theorem dX0_init_23 : decode cX0_init 23 = .ok (.iload_n 1, 1) := by decide +kernel
theorem dX0_init_24 : decode cX0_init 24 = .ok (.bipush 12, 2) := by decide +kernel
theorem dX0_init_26 : decode cX0_init 26 = .ok (.if_icmp .ge 22, 3) := by decide +kernel
theorem dX0_init_29 : decode cX0_init 29 = .ok (.aload_n 0, 1) := by decide +kernel
theorem dX0_init_30 : decode cX0_init 30 = .ok (.getfield 11, 3) := by decide +kernel
theorem dX0_init_33 : decode cX0_init 33 = .ok (.iload_n 1, 1) := by decide +kernel
theorem dX0_init_34 : decode cX0_init 34 = .ok (.new 9, 3) := by decide +kernel
theorem dX0_init_37 : decode cX0_init 37 = .ok (.dup, 1) := by decide +kernel
theorem dX0_init_38 : decode cX0_init 38 = .ok (.invokespecial 21, 3) := by decide +kernel
theorem dX0_init_41 : decode cX0_init 41 = .ok (.aastore, 1) := by decide +kernel
theorem dX0_init_42 : decode cX0_init 42 = .ok (.iinc 1 1, 3) := by decide +kernel
theorem dX0_init_45 : decode cX0_init 45 = .ok (.goto (-22), 3) := by decide +kernel
theorem dX0_init_48 : decode cX0_init 48 = .ok (.return_, 1) := by decide +kernel
theorem dX0_copyFrom_0 : decode cX0_copyFrom 0 = .ok (.iconst 0, 1) := by decide +kernel
theorem dX0_copyFrom_1 : decode cX0_copyFrom 1 = .ok (.istore_n 2, 1) := by decide +kernel
theorem dX0_copyFrom_2 : decode cX0_copyFrom 2 = .ok (.iload_n 2, 1) := by decide +kernel
theorem dX0_copyFrom_3 : decode cX0_copyFrom 3 = .ok (.aload_n 1, 1) := by decide +kernel
theorem dX0_copyFrom_4 : decode cX0_copyFrom 4 = .ok (.getfield 22, 3) := by decide +kernel
theorem dX0_copyFrom_7 : decode cX0_copyFrom 7 = .ok (.if_icmp .ge 36, 3) := by decide +kernel
theorem dX0_copyFrom_10 : decode cX0_copyFrom 10 = .ok (.aload_n 0, 1) := by decide +kernel
theorem dX0_copyFrom_11 : decode cX0_copyFrom 11 = .ok (.getfield 11, 3) := by decide +kernel
theorem dX0_copyFrom_14 : decode cX0_copyFrom 14 = .ok (.iload_n 2, 1) := by decide +kernel
theorem dX0_copyFrom_15 : decode cX0_copyFrom 15 = .ok (.aaload, 1) := by decide +kernel
theorem dX0_copyFrom_16 : decode cX0_copyFrom 16 = .ok (.aload_n 1, 1) := by decide +kernel
theorem dX0_copyFrom_17 : decode cX0_copyFrom 17 = .ok (.getfield 11, 3) := by decide +kernel
theorem dX0_copyFrom_20 : decode cX0_copyFrom 20 = .ok (.iload_n 2, 1) := by decide +kernel
theorem dX0_copyFrom_21 : decode cX0_copyFrom 21 = .ok (.aaload, 1) := by decide +kernel
theorem dX0_copyFrom_22 : decode cX0_copyFrom 22 = .ok (.invokevirtual 26, 3) := by decide +kernel
theorem dX0_copyFrom_25 : decode cX0_copyFrom 25 = .ok (.aload_n 0, 1) := by decide +kernel
theorem dX0_copyFrom_26 : decode cX0_copyFrom 26 = .ok (.getfield 17, 3) := by decide +kernel
theorem dX0_copyFrom_29 : decode cX0_copyFrom 29 = .ok (.iload_n 2, 1) := by decide +kernel
theorem dX0_copyFrom_30 : decode cX0_copyFrom 30 = .ok (.aload_n 1, 1) := by decide +kernel
theorem dX0_copyFrom_31 : decode cX0_copyFrom 31 = .ok (.getfield 17, 3) := by decide +kernel
theorem dX0_copyFrom_34 : decode cX0_copyFrom 34 = .ok (.iload_n 2, 1) := by decide +kernel
theorem dX0_copyFrom_35 : decode cX0_copyFrom 35 = .ok (.iaload, 1) := by decide +kernel
theorem dX0_copyFrom_36 : decode cX0_copyFrom 36 = .ok (.iastore, 1) := by decide +kernel
theorem dX0_copyFrom_37 : decode cX0_copyFrom 37 = .ok (.iinc 2 1, 3) := by decide +kernel
theorem dX0_copyFrom_40 : decode cX0_copyFrom 40 = .ok (.goto (-38), 3) := by decide +kernel
theorem dX0_copyFrom_43 : decode cX0_copyFrom 43 = .ok (.aload_n 0, 1) := by decide +kernel
theorem dX0_copyFrom_44 : decode cX0_copyFrom 44 = .ok (.aload_n 1, 1) := by decide +kernel
theorem dX0_copyFrom_45 : decode cX0_copyFrom 45 = .ok (.getfield 22, 3) := by decide +kernel
theorem dX0_copyFrom_48 : decode cX0_copyFrom 48 = .ok (.putfield 22, 3) := by decide +kernel
theorem dX0_copyFrom_51 : decode cX0_copyFrom 51 = .ok (.return_, 1) := by decide +kernel
theorem dX0_clear_0 : decode cX0_clear 0 = .ok (.aload_n 0, 1) := by decide +kernel
theorem dX0_clear_1 : decode cX0_clear 1 = .ok (.iconst 0, 1) := by decide +kernel
theorem dX0_clear_2 : decode cX0_clear 2 = .ok (.putfield 22, 3) := by decide +kernel
theorem dX0_clear_5 : decode cX0_clear 5 = .ok (.return_, 1) := by decide +kernel
theorem dX0_add_0 : decode cX0_add 0 = .ok (.aload_n 0, 1) := by decide +kernel
theorem dX0_add_1 : decode cX0_add 1 = .ok (.getfield 22, 3) := by decide +kernel
theorem dX0_add_4 : decode cX0_add 4 = .ok (.bipush 12, 2) := by decide +kernel
theorem dX0_add_6 : decode cX0_add 6 = .ok (.if_icmp .lt 5, 3) := by decide +kernel
theorem dX0_add_9 : decode cX0_add 9 = .ok (.iconst 0, 1) := by decide +kernel
theorem dX0_add_10 : decode cX0_add 10 = .ok (.ireturn, 1) := by decide +kernel
theorem dX0_add_11 : decode cX0_add 11 = .ok (.aload_n 0, 1) := by decide +kernel
theorem dX0_add_12 : decode cX0_add 12 = .ok (.getfield 11, 3) := by decide +kernel
theorem dX0_add_15 : decode cX0_add 15 = .ok (.aload_n 0, 1) := by decide +kernel
theorem dX0_add_16 : decode cX0_add 16 = .ok (.getfield 22, 3) := by decide +kernel
theorem dX0_add_19 : decode cX0_add 19 = .ok (.aaload, 1) := by decide +kernel
theorem dX0_add_20 : decode cX0_add 20 = .ok (.aload_n 1, 1) := by decide +kernel
theorem dX0_add_21 : decode cX0_add 21 = .ok (.invokevirtual 26, 3) := by decide +kernel
theorem dX0_add_24 : decode cX0_add 24 = .ok (.aload_n 0, 1) := by decide +kernel
theorem dX0_add_25 : decode cX0_add 25 = .ok (.getfield 17, 3) := by decide +kernel
theorem dX0_add_28 : decode cX0_add 28 = .ok (.aload_n 0, 1) := by decide +kernel
theorem dX0_add_29 : decode cX0_add 29 = .ok (.getfield 22, 3) := by decide +kernel
theorem dX0_add_32 : decode cX0_add 32 = .ok (.iload_n 2, 1) := by decide +kernel
theorem dX0_add_33 : decode cX0_add 33 = .ok (.iastore, 1) := by decide +kernel
theorem dX0_add_34 : decode cX0_add 34 = .ok (.aload_n 0, 1) := by decide +kernel
theorem dX0_add_35 : decode cX0_add 35 = .ok (.dup, 1) := by decide +kernel
theorem dX0_add_36 : decode cX0_add 36 = .ok (.getfield 22, 3) := by decide +kernel
theorem dX0_add_39 : decode cX0_add 39 = .ok (.iconst 1, 1) := by decide +kernel
theorem dX0_add_40 : decode cX0_add 40 = .ok (.iadd, 1) := by decide +kernel
theorem dX0_add_41 : decode cX0_add 41 = .ok (.putfield 22, 3) := by decide +kernel
theorem dX0_add_44 : decode cX0_add 44 = .ok (.iconst 1, 1) := by decide +kernel
theorem dX0_add_45 : decode cX0_add 45 = .ok (.ireturn, 1) := by decide +kernel
theorem dX0_takeDue_0 : decode cX0_takeDue 0 = .ok (.iconst 0, 1) := by decide +kernel
theorem dX0_takeDue_1 : decode cX0_takeDue 1 = .ok (.istore_n 3, 1) := by decide +kernel
theorem dX0_takeDue_2 : decode cX0_takeDue 2 = .ok (.iload_n 3, 1) := by decide +kernel
theorem dX0_takeDue_3 : decode cX0_takeDue 3 = .ok (.aload_n 0, 1) := by decide +kernel
theorem dX0_takeDue_4 : decode cX0_takeDue 4 = .ok (.getfield 22, 3) := by decide +kernel
theorem dX0_takeDue_7 : decode cX0_takeDue 7 = .ok (.if_icmp .ge 36, 3) := by decide +kernel
theorem dX0_takeDue_10 : decode cX0_takeDue 10 = .ok (.aload_n 0, 1) := by decide +kernel
theorem dX0_takeDue_11 : decode cX0_takeDue 11 = .ok (.getfield 17, 3) := by decide +kernel
theorem dX0_takeDue_14 : decode cX0_takeDue 14 = .ok (.iload_n 3, 1) := by decide +kernel
theorem dX0_takeDue_15 : decode cX0_takeDue 15 = .ok (.iaload, 1) := by decide +kernel
theorem dX0_takeDue_16 : decode cX0_takeDue 16 = .ok (.iload_n 1, 1) := by decide +kernel
theorem dX0_takeDue_17 : decode cX0_takeDue 17 = .ok (.if_icmp .gt 20, 3) := by decide +kernel
theorem dX0_takeDue_20 : decode cX0_takeDue 20 = .ok (.aload_n 2, 1) := by decide +kernel
theorem dX0_takeDue_21 : decode cX0_takeDue 21 = .ok (.aload_n 0, 1) := by decide +kernel
theorem dX0_takeDue_22 : decode cX0_takeDue 22 = .ok (.getfield 11, 3) := by decide +kernel
theorem dX0_takeDue_25 : decode cX0_takeDue 25 = .ok (.iload_n 3, 1) := by decide +kernel
theorem dX0_takeDue_26 : decode cX0_takeDue 26 = .ok (.aaload, 1) := by decide +kernel
theorem dX0_takeDue_27 : decode cX0_takeDue 27 = .ok (.invokevirtual 26, 3) := by decide +kernel
theorem dX0_takeDue_30 : decode cX0_takeDue 30 = .ok (.aload_n 0, 1) := by decide +kernel
theorem dX0_takeDue_31 : decode cX0_takeDue 31 = .ok (.iload_n 3, 1) := by decide +kernel
theorem dX0_takeDue_32 : decode cX0_takeDue 32 = .ok (.invokevirtual 30, 3) := by decide +kernel
theorem dX0_takeDue_35 : decode cX0_takeDue 35 = .ok (.iconst 1, 1) := by decide +kernel
theorem dX0_takeDue_36 : decode cX0_takeDue 36 = .ok (.ireturn, 1) := by decide +kernel
theorem dX0_takeDue_37 : decode cX0_takeDue 37 = .ok (.iinc 3 1, 3) := by decide +kernel
theorem dX0_takeDue_40 : decode cX0_takeDue 40 = .ok (.goto (-38), 3) := by decide +kernel
theorem dX0_takeDue_43 : decode cX0_takeDue 43 = .ok (.iconst 0, 1) := by decide +kernel
theorem dX0_takeDue_44 : decode cX0_takeDue 44 = .ok (.ireturn, 1) := by decide +kernel
theorem dX0_removeAt_0 : decode cX0_removeAt 0 = .ok (.iload_n 1, 1) := by decide +kernel
theorem dX0_removeAt_1 : decode cX0_removeAt 1 = .ok (.ifCond .lt 11, 3) := by decide +kernel
theorem dX0_removeAt_4 : decode cX0_removeAt 4 = .ok (.iload_n 1, 1) := by decide +kernel
theorem dX0_removeAt_5 : decode cX0_removeAt 5 = .ok (.aload_n 0, 1) := by decide +kernel
theorem dX0_removeAt_6 : decode cX0_removeAt 6 = .ok (.getfield 22, 3) := by decide +kernel
theorem dX0_removeAt_9 : decode cX0_removeAt 9 = .ok (.if_icmp .lt 4, 3) := by decide +kernel
theorem dX0_removeAt_12 : decode cX0_removeAt 12 = .ok (.return_, 1) := by decide +kernel
theorem dX0_removeAt_13 : decode cX0_removeAt 13 = .ok (.aload_n 0, 1) := by decide +kernel
theorem dX0_removeAt_14 : decode cX0_removeAt 14 = .ok (.getfield 11, 3) := by decide +kernel
theorem dX0_removeAt_17 : decode cX0_removeAt 17 = .ok (.iload_n 1, 1) := by decide +kernel
theorem dX0_removeAt_18 : decode cX0_removeAt 18 = .ok (.aaload, 1) := by decide +kernel
theorem dX0_removeAt_19 : decode cX0_removeAt 19 = .ok (.astore_n 2, 1) := by decide +kernel
theorem dX0_removeAt_20 : decode cX0_removeAt 20 = .ok (.iload_n 1, 1) := by decide +kernel
theorem dX0_removeAt_21 : decode cX0_removeAt 21 = .ok (.iconst 1, 1) := by decide +kernel
theorem dX0_removeAt_22 : decode cX0_removeAt 22 = .ok (.iadd, 1) := by decide +kernel
theorem dX0_removeAt_23 : decode cX0_removeAt 23 = .ok (.istore_n 3, 1) := by decide +kernel
theorem dX0_removeAt_24 : decode cX0_removeAt 24 = .ok (.iload_n 3, 1) := by decide +kernel
theorem dX0_removeAt_25 : decode cX0_removeAt 25 = .ok (.aload_n 0, 1) := by decide +kernel
theorem dX0_removeAt_26 : decode cX0_removeAt 26 = .ok (.getfield 22, 3) := by decide +kernel
theorem dX0_removeAt_29 : decode cX0_removeAt 29 = .ok (.if_icmp .ge 37, 3) := by decide +kernel
theorem dX0_removeAt_32 : decode cX0_removeAt 32 = .ok (.aload_n 0, 1) := by decide +kernel
theorem dX0_removeAt_33 : decode cX0_removeAt 33 = .ok (.getfield 11, 3) := by decide +kernel
theorem dX0_removeAt_36 : decode cX0_removeAt 36 = .ok (.iload_n 3, 1) := by decide +kernel
theorem dX0_removeAt_37 : decode cX0_removeAt 37 = .ok (.iconst 1, 1) := by decide +kernel
theorem dX0_removeAt_38 : decode cX0_removeAt 38 = .ok (.isub, 1) := by decide +kernel
theorem dX0_removeAt_39 : decode cX0_removeAt 39 = .ok (.aload_n 0, 1) := by decide +kernel
theorem dX0_removeAt_40 : decode cX0_removeAt 40 = .ok (.getfield 11, 3) := by decide +kernel
theorem dX0_removeAt_43 : decode cX0_removeAt 43 = .ok (.iload_n 3, 1) := by decide +kernel
theorem dX0_removeAt_44 : decode cX0_removeAt 44 = .ok (.aaload, 1) := by decide +kernel
theorem dX0_removeAt_45 : decode cX0_removeAt 45 = .ok (.aastore, 1) := by decide +kernel
theorem dX0_removeAt_46 : decode cX0_removeAt 46 = .ok (.aload_n 0, 1) := by decide +kernel
theorem dX0_removeAt_47 : decode cX0_removeAt 47 = .ok (.getfield 17, 3) := by decide +kernel
theorem dX0_removeAt_50 : decode cX0_removeAt 50 = .ok (.iload_n 3, 1) := by decide +kernel
theorem dX0_removeAt_51 : decode cX0_removeAt 51 = .ok (.iconst 1, 1) := by decide +kernel
theorem dX0_removeAt_52 : decode cX0_removeAt 52 = .ok (.isub, 1) := by decide +kernel
theorem dX0_removeAt_53 : decode cX0_removeAt 53 = .ok (.aload_n 0, 1) := by decide +kernel
theorem dX0_removeAt_54 : decode cX0_removeAt 54 = .ok (.getfield 17, 3) := by decide +kernel
theorem dX0_removeAt_57 : decode cX0_removeAt 57 = .ok (.iload_n 3, 1) := by decide +kernel
theorem dX0_removeAt_58 : decode cX0_removeAt 58 = .ok (.iaload, 1) := by decide +kernel
theorem dX0_removeAt_59 : decode cX0_removeAt 59 = .ok (.iastore, 1) := by decide +kernel
theorem dX0_removeAt_60 : decode cX0_removeAt 60 = .ok (.iinc 3 1, 3) := by decide +kernel
theorem dX0_removeAt_63 : decode cX0_removeAt 63 = .ok (.goto (-39), 3) := by decide +kernel
theorem dX0_removeAt_66 : decode cX0_removeAt 66 = .ok (.aload_n 0, 1) := by decide +kernel
theorem dX0_removeAt_67 : decode cX0_removeAt 67 = .ok (.dup, 1) := by decide +kernel
theorem dX0_removeAt_68 : decode cX0_removeAt 68 = .ok (.getfield 22, 3) := by decide +kernel
theorem dX0_removeAt_71 : decode cX0_removeAt 71 = .ok (.iconst 1, 1) := by decide +kernel
theorem dX0_removeAt_72 : decode cX0_removeAt 72 = .ok (.isub, 1) := by decide +kernel
theorem dX0_removeAt_73 : decode cX0_removeAt 73 = .ok (.putfield 22, 3) := by decide +kernel
theorem dX0_removeAt_76 : decode cX0_removeAt 76 = .ok (.aload_n 0, 1) := by decide +kernel
theorem dX0_removeAt_77 : decode cX0_removeAt 77 = .ok (.getfield 11, 3) := by decide +kernel
theorem dX0_removeAt_80 : decode cX0_removeAt 80 = .ok (.aload_n 0, 1) := by decide +kernel
theorem dX0_removeAt_81 : decode cX0_removeAt 81 = .ok (.getfield 22, 3) := by decide +kernel
theorem dX0_removeAt_84 : decode cX0_removeAt 84 = .ok (.aload_n 2, 1) := by decide +kernel
theorem dX0_removeAt_85 : decode cX0_removeAt 85 = .ok (.aastore, 1) := by decide +kernel
theorem dX0_removeAt_86 : decode cX0_removeAt 86 = .ok (.return_, 1) := by decide +kernel
theorem dX1_init_0 : decode cX1_init 0 = .ok (.aload_n 0, 1) := by decide +kernel
theorem dX1_init_1 : decode cX1_init 1 = .ok (.invokespecial 3, 3) := by decide +kernel
theorem dX1_init_4 : decode cX1_init 4 = .ok (.aload_n 0, 1) := by decide +kernel
theorem dX1_init_5 : decode cX1_init 5 = .ok (.bipush 16, 2) := by decide +kernel
theorem dX1_init_7 : decode cX1_init 7 = .ok (.newarray .int, 2) := by decide +kernel
theorem dX1_init_9 : decode cX1_init 9 = .ok (.putfield 9, 3) := by decide +kernel
theorem dX1_init_12 : decode cX1_init 12 = .ok (.aload_n 0, 1) := by decide +kernel
theorem dX1_init_13 : decode cX1_init 13 = .ok (.bipush 16, 2) := by decide +kernel
theorem dX1_init_15 : decode cX1_init 15 = .ok (.newarray .int, 2) := by decide +kernel
theorem dX1_init_17 : decode cX1_init 17 = .ok (.putfield 15, 3) := by decide +kernel
theorem dX1_init_20 : decode cX1_init 20 = .ok (.aload_n 0, 1) := by decide +kernel
theorem dX1_init_21 : decode cX1_init 21 = .ok (.bipush 16, 2) := by decide +kernel
theorem dX1_init_23 : decode cX1_init 23 = .ok (.newarray .int, 2) := by decide +kernel
theorem dX1_init_25 : decode cX1_init 25 = .ok (.putfield 18, 3) := by decide +kernel
theorem dX1_init_28 : decode cX1_init 28 = .ok (.return_, 1) := by decide +kernel
theorem dX1_copyFrom_0 : decode cX1_copyFrom 0 = .ok (.aload_n 1, 1) := by decide +kernel
theorem dX1_copyFrom_1 : decode cX1_copyFrom 1 = .ok (.getfield 9, 3) := by decide +kernel
theorem dX1_copyFrom_4 : decode cX1_copyFrom 4 = .ok (.iconst 0, 1) := by decide +kernel
theorem dX1_copyFrom_5 : decode cX1_copyFrom 5 = .ok (.aload_n 0, 1) := by decide +kernel
theorem dX1_copyFrom_6 : decode cX1_copyFrom 6 = .ok (.getfield 9, 3) := by decide +kernel
theorem dX1_copyFrom_9 : decode cX1_copyFrom 9 = .ok (.iconst 0, 1) := by decide +kernel
theorem dX1_copyFrom_10 : decode cX1_copyFrom 10 = .ok (.bipush 16, 2) := by decide +kernel
theorem dX1_copyFrom_12 : decode cX1_copyFrom 12 = .ok (.invokestatic 21, 3) := by decide +kernel
theorem dX1_copyFrom_15 : decode cX1_copyFrom 15 = .ok (.aload_n 1, 1) := by decide +kernel
theorem dX1_copyFrom_16 : decode cX1_copyFrom 16 = .ok (.getfield 15, 3) := by decide +kernel
theorem dX1_copyFrom_19 : decode cX1_copyFrom 19 = .ok (.iconst 0, 1) := by decide +kernel
theorem dX1_copyFrom_20 : decode cX1_copyFrom 20 = .ok (.aload_n 0, 1) := by decide +kernel
theorem dX1_copyFrom_21 : decode cX1_copyFrom 21 = .ok (.getfield 15, 3) := by decide +kernel
theorem dX1_copyFrom_24 : decode cX1_copyFrom 24 = .ok (.iconst 0, 1) := by decide +kernel
theorem dX1_copyFrom_25 : decode cX1_copyFrom 25 = .ok (.bipush 16, 2) := by decide +kernel
theorem dX1_copyFrom_27 : decode cX1_copyFrom 27 = .ok (.invokestatic 21, 3) := by decide +kernel
theorem dX1_copyFrom_30 : decode cX1_copyFrom 30 = .ok (.aload_n 1, 1) := by decide +kernel
theorem dX1_copyFrom_31 : decode cX1_copyFrom 31 = .ok (.getfield 18, 3) := by decide +kernel
theorem dX1_copyFrom_34 : decode cX1_copyFrom 34 = .ok (.iconst 0, 1) := by decide +kernel
theorem dX1_copyFrom_35 : decode cX1_copyFrom 35 = .ok (.aload_n 0, 1) := by decide +kernel
theorem dX1_copyFrom_36 : decode cX1_copyFrom 36 = .ok (.getfield 18, 3) := by decide +kernel
theorem dX1_copyFrom_39 : decode cX1_copyFrom 39 = .ok (.iconst 0, 1) := by decide +kernel
theorem dX1_copyFrom_40 : decode cX1_copyFrom 40 = .ok (.bipush 16, 2) := by decide +kernel
theorem dX1_copyFrom_42 : decode cX1_copyFrom 42 = .ok (.invokestatic 21, 3) := by decide +kernel
theorem dX1_copyFrom_45 : decode cX1_copyFrom 45 = .ok (.aload_n 0, 1) := by decide +kernel
theorem dX1_copyFrom_46 : decode cX1_copyFrom 46 = .ok (.aload_n 1, 1) := by decide +kernel
theorem dX1_copyFrom_47 : decode cX1_copyFrom 47 = .ok (.getfield 27, 3) := by decide +kernel
theorem dX1_copyFrom_50 : decode cX1_copyFrom 50 = .ok (.putfield 27, 3) := by decide +kernel
theorem dX1_copyFrom_53 : decode cX1_copyFrom 53 = .ok (.return_, 1) := by decide +kernel
theorem dX1_clear_0 : decode cX1_clear 0 = .ok (.aload_n 0, 1) := by decide +kernel
theorem dX1_clear_1 : decode cX1_clear 1 = .ok (.iconst 0, 1) := by decide +kernel
theorem dX1_clear_2 : decode cX1_clear 2 = .ok (.putfield 27, 3) := by decide +kernel
theorem dX1_clear_5 : decode cX1_clear 5 = .ok (.return_, 1) := by decide +kernel
theorem dX1_placeOf_0 : decode cX1_placeOf 0 = .ok (.iconst 0, 1) := by decide +kernel
theorem dX1_placeOf_1 : decode cX1_placeOf 1 = .ok (.istore_n 2, 1) := by decide +kernel
theorem dX1_placeOf_2 : decode cX1_placeOf 2 = .ok (.iload_n 2, 1) := by decide +kernel
theorem dX1_placeOf_3 : decode cX1_placeOf 3 = .ok (.aload_n 0, 1) := by decide +kernel
theorem dX1_placeOf_4 : decode cX1_placeOf 4 = .ok (.getfield 27, 3) := by decide +kernel
theorem dX1_placeOf_7 : decode cX1_placeOf 7 = .ok (.if_icmp .ge 37, 3) := by decide +kernel
theorem dX1_placeOf_10 : decode cX1_placeOf 10 = .ok (.aload_n 0, 1) := by decide +kernel
theorem dX1_placeOf_11 : decode cX1_placeOf 11 = .ok (.getfield 9, 3) := by decide +kernel
theorem dX1_placeOf_14 : decode cX1_placeOf 14 = .ok (.iload_n 2, 1) := by decide +kernel
theorem dX1_placeOf_15 : decode cX1_placeOf 15 = .ok (.iaload, 1) := by decide +kernel
theorem dX1_placeOf_16 : decode cX1_placeOf 16 = .ok (.aload_n 1, 1) := by decide +kernel
theorem dX1_placeOf_17 : decode cX1_placeOf 17 = .ok (.getfield 31, 3) := by decide +kernel
theorem dX1_placeOf_20 : decode cX1_placeOf 20 = .ok (.if_icmp .ne 18, 3) := by decide +kernel
theorem dX1_placeOf_23 : decode cX1_placeOf 23 = .ok (.aload_n 0, 1) := by decide +kernel
theorem dX1_placeOf_24 : decode cX1_placeOf 24 = .ok (.getfield 15, 3) := by decide +kernel
theorem dX1_placeOf_27 : decode cX1_placeOf 27 = .ok (.iload_n 2, 1) := by decide +kernel
theorem dX1_placeOf_28 : decode cX1_placeOf 28 = .ok (.iaload, 1) := by decide +kernel
theorem dX1_placeOf_29 : decode cX1_placeOf 29 = .ok (.aload_n 1, 1) := by decide +kernel
theorem dX1_placeOf_30 : decode cX1_placeOf 30 = .ok (.getfield 36, 3) := by decide +kernel
theorem dX1_placeOf_33 : decode cX1_placeOf 33 = .ok (.if_icmp .ne 5, 3) := by decide +kernel
theorem dX1_placeOf_36 : decode cX1_placeOf 36 = .ok (.iload_n 2, 1) := by decide +kernel
theorem dX1_placeOf_37 : decode cX1_placeOf 37 = .ok (.ireturn, 1) := by decide +kernel
theorem dX1_placeOf_38 : decode cX1_placeOf 38 = .ok (.iinc 2 1, 3) := by decide +kernel
theorem dX1_placeOf_41 : decode cX1_placeOf 41 = .ok (.goto (-39), 3) := by decide +kernel
theorem dX1_placeOf_44 : decode cX1_placeOf 44 = .ok (.bipush (-6), 2) := by decide +kernel
theorem dX1_placeOf_46 : decode cX1_placeOf 46 = .ok (.ireturn, 1) := by decide +kernel
theorem dX1_add_0 : decode cX1_add 0 = .ok (.aload_n 0, 1) := by decide +kernel
theorem dX1_add_1 : decode cX1_add 1 = .ok (.getfield 27, 3) := by decide +kernel
theorem dX1_add_4 : decode cX1_add 4 = .ok (.bipush 16, 2) := by decide +kernel
theorem dX1_add_6 : decode cX1_add 6 = .ok (.if_icmp .lt 8, 3) := by decide +kernel
theorem dX1_add_9 : decode cX1_add 9 = .ok (.aload_n 0, 1) := by decide +kernel
theorem dX1_add_10 : decode cX1_add 10 = .ok (.iconst 0, 1) := by decide +kernel
theorem dX1_add_11 : decode cX1_add 11 = .ok (.invokevirtual 39, 3) := by decide +kernel
theorem dX1_add_14 : decode cX1_add 14 = .ok (.aload_n 0, 1) := by decide +kernel
theorem dX1_add_15 : decode cX1_add 15 = .ok (.getfield 9, 3) := by decide +kernel
theorem dX1_add_18 : decode cX1_add 18 = .ok (.aload_n 0, 1) := by decide +kernel
theorem dX1_add_19 : decode cX1_add 19 = .ok (.getfield 27, 3) := by decide +kernel
theorem dX1_add_22 : decode cX1_add 22 = .ok (.aload_n 1, 1) := by decide +kernel
theorem dX1_add_23 : decode cX1_add 23 = .ok (.getfield 31, 3) := by decide +kernel
theorem dX1_add_26 : decode cX1_add 26 = .ok (.iastore, 1) := by decide +kernel
theorem dX1_add_27 : decode cX1_add 27 = .ok (.aload_n 0, 1) := by decide +kernel
theorem dX1_add_28 : decode cX1_add 28 = .ok (.getfield 15, 3) := by decide +kernel
theorem dX1_add_31 : decode cX1_add 31 = .ok (.aload_n 0, 1) := by decide +kernel
theorem dX1_add_32 : decode cX1_add 32 = .ok (.getfield 27, 3) := by decide +kernel
theorem dX1_add_35 : decode cX1_add 35 = .ok (.aload_n 1, 1) := by decide +kernel
theorem dX1_add_36 : decode cX1_add 36 = .ok (.getfield 36, 3) := by decide +kernel
theorem dX1_add_39 : decode cX1_add 39 = .ok (.iastore, 1) := by decide +kernel
theorem dX1_add_40 : decode cX1_add 40 = .ok (.aload_n 0, 1) := by decide +kernel
theorem dX1_add_41 : decode cX1_add 41 = .ok (.getfield 18, 3) := by decide +kernel
theorem dX1_add_44 : decode cX1_add 44 = .ok (.aload_n 0, 1) := by decide +kernel
theorem dX1_add_45 : decode cX1_add 45 = .ok (.getfield 27, 3) := by decide +kernel
theorem dX1_add_48 : decode cX1_add 48 = .ok (.iload_n 2, 1) := by decide +kernel
theorem dX1_add_49 : decode cX1_add 49 = .ok (.iastore, 1) := by decide +kernel
theorem dX1_add_50 : decode cX1_add 50 = .ok (.aload_n 0, 1) := by decide +kernel
theorem dX1_add_51 : decode cX1_add 51 = .ok (.dup, 1) := by decide +kernel
theorem dX1_add_52 : decode cX1_add 52 = .ok (.getfield 27, 3) := by decide +kernel
theorem dX1_add_55 : decode cX1_add 55 = .ok (.iconst 1, 1) := by decide +kernel
theorem dX1_add_56 : decode cX1_add 56 = .ok (.iadd, 1) := by decide +kernel
theorem dX1_add_57 : decode cX1_add 57 = .ok (.putfield 27, 3) := by decide +kernel
theorem dX1_add_60 : decode cX1_add 60 = .ok (.return_, 1) := by decide +kernel
theorem dX1_removeAt_0 : decode cX1_removeAt 0 = .ok (.iload_n 1, 1) := by decide +kernel
theorem dX1_removeAt_1 : decode cX1_removeAt 1 = .ok (.ifCond .lt 11, 3) := by decide +kernel
theorem dX1_removeAt_4 : decode cX1_removeAt 4 = .ok (.iload_n 1, 1) := by decide +kernel
theorem dX1_removeAt_5 : decode cX1_removeAt 5 = .ok (.aload_n 0, 1) := by decide +kernel
theorem dX1_removeAt_6 : decode cX1_removeAt 6 = .ok (.getfield 27, 3) := by decide +kernel
theorem dX1_removeAt_9 : decode cX1_removeAt 9 = .ok (.if_icmp .lt 4, 3) := by decide +kernel
theorem dX1_removeAt_12 : decode cX1_removeAt 12 = .ok (.return_, 1) := by decide +kernel
theorem dX1_removeAt_13 : decode cX1_removeAt 13 = .ok (.iload_n 1, 1) := by decide +kernel
theorem dX1_removeAt_14 : decode cX1_removeAt 14 = .ok (.iconst 1, 1) := by decide +kernel
theorem dX1_removeAt_15 : decode cX1_removeAt 15 = .ok (.iadd, 1) := by decide +kernel
theorem dX1_removeAt_16 : decode cX1_removeAt 16 = .ok (.istore_n 2, 1) := by decide +kernel
theorem dX1_removeAt_17 : decode cX1_removeAt 17 = .ok (.iload_n 2, 1) := by decide +kernel
theorem dX1_removeAt_18 : decode cX1_removeAt 18 = .ok (.aload_n 0, 1) := by decide +kernel
theorem dX1_removeAt_19 : decode cX1_removeAt 19 = .ok (.getfield 27, 3) := by decide +kernel
theorem dX1_removeAt_22 : decode cX1_removeAt 22 = .ok (.if_icmp .ge 17, 3) := by decide +kernel
theorem dX1_removeAt_25 : decode cX1_removeAt 25 = .ok (.aload_n 0, 1) := by decide +kernel
theorem dX1_removeAt_26 : decode cX1_removeAt 26 = .ok (.iload_n 2, 1) := by decide +kernel
theorem dX1_removeAt_27 : decode cX1_removeAt 27 = .ok (.iload_n 2, 1) := by decide +kernel
theorem dX1_removeAt_28 : decode cX1_removeAt 28 = .ok (.iconst 1, 1) := by decide +kernel
theorem dX1_removeAt_29 : decode cX1_removeAt 29 = .ok (.isub, 1) := by decide +kernel
theorem dX1_removeAt_30 : decode cX1_removeAt 30 = .ok (.invokevirtual 43, 3) := by decide +kernel
theorem dX1_removeAt_33 : decode cX1_removeAt 33 = .ok (.iinc 2 1, 3) := by decide +kernel
theorem dX1_removeAt_36 : decode cX1_removeAt 36 = .ok (.goto (-19), 3) := by decide +kernel
theorem dX1_removeAt_39 : decode cX1_removeAt 39 = .ok (.aload_n 0, 1) := by decide +kernel
theorem dX1_removeAt_40 : decode cX1_removeAt 40 = .ok (.dup, 1) := by decide +kernel
theorem dX1_removeAt_41 : decode cX1_removeAt 41 = .ok (.getfield 27, 3) := by decide +kernel
theorem dX1_removeAt_44 : decode cX1_removeAt 44 = .ok (.iconst 1, 1) := by decide +kernel
theorem dX1_removeAt_45 : decode cX1_removeAt 45 = .ok (.isub, 1) := by decide +kernel
theorem dX1_removeAt_46 : decode cX1_removeAt 46 = .ok (.putfield 27, 3) := by decide +kernel
theorem dX1_removeAt_49 : decode cX1_removeAt 49 = .ok (.return_, 1) := by decide +kernel
theorem dX1_dropOld_0 : decode cX1_dropOld 0 = .ok (.iconst 0, 1) := by decide +kernel
theorem dX1_dropOld_1 : decode cX1_dropOld 1 = .ok (.istore_n 3, 1) := by decide +kernel
theorem dX1_dropOld_2 : decode cX1_dropOld 2 = .ok (.iconst 0, 1) := by decide +kernel
theorem dX1_dropOld_3 : decode cX1_dropOld 3 = .ok (.istore 4, 2) := by decide +kernel
theorem dX1_dropOld_5 : decode cX1_dropOld 5 = .ok (.iload 4, 2) := by decide +kernel
theorem dX1_dropOld_7 : decode cX1_dropOld 7 = .ok (.aload_n 0, 1) := by decide +kernel
theorem dX1_dropOld_8 : decode cX1_dropOld 8 = .ok (.getfield 27, 3) := by decide +kernel
theorem dX1_dropOld_11 : decode cX1_dropOld 11 = .ok (.if_icmp .ge 32, 3) := by decide +kernel
theorem dX1_dropOld_14 : decode cX1_dropOld 14 = .ok (.iload_n 1, 1) := by decide +kernel
theorem dX1_dropOld_15 : decode cX1_dropOld 15 = .ok (.aload_n 0, 1) := by decide +kernel
theorem dX1_dropOld_16 : decode cX1_dropOld 16 = .ok (.getfield 18, 3) := by decide +kernel
theorem dX1_dropOld_19 : decode cX1_dropOld 19 = .ok (.iload 4, 2) := by decide +kernel
theorem dX1_dropOld_21 : decode cX1_dropOld 21 = .ok (.iaload, 1) := by decide +kernel
theorem dX1_dropOld_22 : decode cX1_dropOld 22 = .ok (.isub, 1) := by decide +kernel
theorem dX1_dropOld_23 : decode cX1_dropOld 23 = .ok (.iload_n 2, 1) := by decide +kernel
theorem dX1_dropOld_24 : decode cX1_dropOld 24 = .ok (.if_icmp .gt 13, 3) := by decide +kernel
theorem dX1_dropOld_27 : decode cX1_dropOld 27 = .ok (.aload_n 0, 1) := by decide +kernel
theorem dX1_dropOld_28 : decode cX1_dropOld 28 = .ok (.iload 4, 2) := by decide +kernel
theorem dX1_dropOld_30 : decode cX1_dropOld 30 = .ok (.iload_n 3, 1) := by decide +kernel
theorem dX1_dropOld_31 : decode cX1_dropOld 31 = .ok (.invokevirtual 43, 3) := by decide +kernel
theorem dX1_dropOld_34 : decode cX1_dropOld 34 = .ok (.iinc 3 1, 3) := by decide +kernel
theorem dX1_dropOld_37 : decode cX1_dropOld 37 = .ok (.iinc 4 1, 3) := by decide +kernel
theorem dX1_dropOld_40 : decode cX1_dropOld 40 = .ok (.goto (-35), 3) := by decide +kernel
theorem dX1_dropOld_43 : decode cX1_dropOld 43 = .ok (.aload_n 0, 1) := by decide +kernel
theorem dX1_dropOld_44 : decode cX1_dropOld 44 = .ok (.iload_n 3, 1) := by decide +kernel
theorem dX1_dropOld_45 : decode cX1_dropOld 45 = .ok (.putfield 27, 3) := by decide +kernel
theorem dX1_dropOld_48 : decode cX1_dropOld 48 = .ok (.return_, 1) := by decide +kernel
theorem dX1_move_0 : decode cX1_move 0 = .ok (.iload_n 1, 1) := by decide +kernel
theorem dX1_move_1 : decode cX1_move 1 = .ok (.ifCond .lt 55, 3) := by decide +kernel
theorem dX1_move_4 : decode cX1_move 4 = .ok (.iload_n 1, 1) := by decide +kernel
theorem dX1_move_5 : decode cX1_move 5 = .ok (.bipush 16, 2) := by decide +kernel
theorem dX1_move_7 : decode cX1_move 7 = .ok (.if_icmp .ge 49, 3) := by decide +kernel
theorem dX1_move_10 : decode cX1_move 10 = .ok (.iload_n 2, 1) := by decide +kernel
theorem dX1_move_11 : decode cX1_move 11 = .ok (.ifCond .lt 45, 3) := by decide +kernel
theorem dX1_move_14 : decode cX1_move 14 = .ok (.iload_n 2, 1) := by decide +kernel
theorem dX1_move_15 : decode cX1_move 15 = .ok (.bipush 16, 2) := by decide +kernel
theorem dX1_move_17 : decode cX1_move 17 = .ok (.if_icmp .ge 39, 3) := by decide +kernel
theorem dX1_move_20 : decode cX1_move 20 = .ok (.aload_n 0, 1) := by decide +kernel
theorem dX1_move_21 : decode cX1_move 21 = .ok (.getfield 9, 3) := by decide +kernel
theorem dX1_move_24 : decode cX1_move 24 = .ok (.iload_n 2, 1) := by decide +kernel
theorem dX1_move_25 : decode cX1_move 25 = .ok (.aload_n 0, 1) := by decide +kernel
theorem dX1_move_26 : decode cX1_move 26 = .ok (.getfield 9, 3) := by decide +kernel
theorem dX1_move_29 : decode cX1_move 29 = .ok (.iload_n 1, 1) := by decide +kernel
theorem dX1_move_30 : decode cX1_move 30 = .ok (.iaload, 1) := by decide +kernel
theorem dX1_move_31 : decode cX1_move 31 = .ok (.iastore, 1) := by decide +kernel
theorem dX1_move_32 : decode cX1_move 32 = .ok (.aload_n 0, 1) := by decide +kernel
theorem dX1_move_33 : decode cX1_move 33 = .ok (.getfield 15, 3) := by decide +kernel
theorem dX1_move_36 : decode cX1_move 36 = .ok (.iload_n 2, 1) := by decide +kernel
theorem dX1_move_37 : decode cX1_move 37 = .ok (.aload_n 0, 1) := by decide +kernel
theorem dX1_move_38 : decode cX1_move 38 = .ok (.getfield 15, 3) := by decide +kernel
theorem dX1_move_41 : decode cX1_move 41 = .ok (.iload_n 1, 1) := by decide +kernel
theorem dX1_move_42 : decode cX1_move 42 = .ok (.iaload, 1) := by decide +kernel
theorem dX1_move_43 : decode cX1_move 43 = .ok (.iastore, 1) := by decide +kernel
theorem dX1_move_44 : decode cX1_move 44 = .ok (.aload_n 0, 1) := by decide +kernel
theorem dX1_move_45 : decode cX1_move 45 = .ok (.getfield 18, 3) := by decide +kernel
theorem dX1_move_48 : decode cX1_move 48 = .ok (.iload_n 2, 1) := by decide +kernel
theorem dX1_move_49 : decode cX1_move 49 = .ok (.aload_n 0, 1) := by decide +kernel
theorem dX1_move_50 : decode cX1_move 50 = .ok (.getfield 18, 3) := by decide +kernel
theorem dX1_move_53 : decode cX1_move 53 = .ok (.iload_n 1, 1) := by decide +kernel
theorem dX1_move_54 : decode cX1_move 54 = .ok (.iaload, 1) := by decide +kernel
theorem dX1_move_55 : decode cX1_move 55 = .ok (.iastore, 1) := by decide +kernel
theorem dX1_move_56 : decode cX1_move 56 = .ok (.return_, 1) := by decide +kernel
theorem dX2_init_0 : decode cX2_init 0 = .ok (.aload_n 0, 1) := by decide +kernel
theorem dX2_init_1 : decode cX2_init 1 = .ok (.invokespecial 3, 3) := by decide +kernel
theorem dX2_init_4 : decode cX2_init 4 = .ok (.aload_n 0, 1) := by decide +kernel
theorem dX2_init_5 : decode cX2_init 5 = .ok (.iconst 2, 1) := by decide +kernel
theorem dX2_init_6 : decode cX2_init 6 = .ok (.newarray .int, 2) := by decide +kernel
theorem dX2_init_8 : decode cX2_init 8 = .ok (.putfield 9, 3) := by decide +kernel
theorem dX2_init_11 : decode cX2_init 11 = .ok (.return_, 1) := by decide +kernel
theorem dX2_copyFrom_0 : decode cX2_copyFrom 0 = .ok (.aload_n 1, 1) := by decide +kernel
theorem dX2_copyFrom_1 : decode cX2_copyFrom 1 = .ok (.getfield 9, 3) := by decide +kernel
theorem dX2_copyFrom_4 : decode cX2_copyFrom 4 = .ok (.iconst 0, 1) := by decide +kernel
theorem dX2_copyFrom_5 : decode cX2_copyFrom 5 = .ok (.aload_n 0, 1) := by decide +kernel
theorem dX2_copyFrom_6 : decode cX2_copyFrom 6 = .ok (.getfield 9, 3) := by decide +kernel
theorem dX2_copyFrom_9 : decode cX2_copyFrom 9 = .ok (.iconst 0, 1) := by decide +kernel
theorem dX2_copyFrom_10 : decode cX2_copyFrom 10 = .ok (.iconst 2, 1) := by decide +kernel
theorem dX2_copyFrom_11 : decode cX2_copyFrom 11 = .ok (.invokestatic 15, 3) := by decide +kernel
theorem dX2_copyFrom_14 : decode cX2_copyFrom 14 = .ok (.aload_n 0, 1) := by decide +kernel
theorem dX2_copyFrom_15 : decode cX2_copyFrom 15 = .ok (.aload_n 1, 1) := by decide +kernel
theorem dX2_copyFrom_16 : decode cX2_copyFrom 16 = .ok (.getfield 21, 3) := by decide +kernel
theorem dX2_copyFrom_19 : decode cX2_copyFrom 19 = .ok (.putfield 21, 3) := by decide +kernel
theorem dX2_copyFrom_22 : decode cX2_copyFrom 22 = .ok (.return_, 1) := by decide +kernel
theorem dX2_clear_0 : decode cX2_clear 0 = .ok (.aload_n 0, 1) := by decide +kernel
theorem dX2_clear_1 : decode cX2_clear 1 = .ok (.iconst 0, 1) := by decide +kernel
theorem dX2_clear_2 : decode cX2_clear 2 = .ok (.putfield 21, 3) := by decide +kernel
theorem dX2_clear_5 : decode cX2_clear 5 = .ok (.return_, 1) := by decide +kernel
theorem dX2_add_0 : decode cX2_add 0 = .ok (.aload_n 0, 1) := by decide +kernel
theorem dX2_add_1 : decode cX2_add 1 = .ok (.getfield 21, 3) := by decide +kernel
theorem dX2_add_4 : decode cX2_add 4 = .ok (.iconst 2, 1) := by decide +kernel
theorem dX2_add_5 : decode cX2_add 5 = .ok (.if_icmp .ge 23, 3) := by decide +kernel
theorem dX2_add_8 : decode cX2_add 8 = .ok (.aload_n 0, 1) := by decide +kernel
theorem dX2_add_9 : decode cX2_add 9 = .ok (.getfield 9, 3) := by decide +kernel
theorem dX2_add_12 : decode cX2_add 12 = .ok (.aload_n 0, 1) := by decide +kernel
theorem dX2_add_13 : decode cX2_add 13 = .ok (.getfield 21, 3) := by decide +kernel
theorem dX2_add_16 : decode cX2_add 16 = .ok (.iload_n 1, 1) := by decide +kernel
theorem dX2_add_17 : decode cX2_add 17 = .ok (.iastore, 1) := by decide +kernel
theorem dX2_add_18 : decode cX2_add 18 = .ok (.aload_n 0, 1) := by decide +kernel
theorem dX2_add_19 : decode cX2_add 19 = .ok (.dup, 1) := by decide +kernel
theorem dX2_add_20 : decode cX2_add 20 = .ok (.getfield 21, 3) := by decide +kernel
theorem dX2_add_23 : decode cX2_add 23 = .ok (.iconst 1, 1) := by decide +kernel
theorem dX2_add_24 : decode cX2_add 24 = .ok (.iadd, 1) := by decide +kernel
theorem dX2_add_25 : decode cX2_add 25 = .ok (.putfield 21, 3) := by decide +kernel
theorem dX2_add_28 : decode cX2_add 28 = .ok (.return_, 1) := by decide +kernel
theorem dX2_has_0 : decode cX2_has 0 = .ok (.iconst 0, 1) := by decide +kernel
theorem dX2_has_1 : decode cX2_has 1 = .ok (.istore_n 2, 1) := by decide +kernel
theorem dX2_has_2 : decode cX2_has 2 = .ok (.iload_n 2, 1) := by decide +kernel
theorem dX2_has_3 : decode cX2_has 3 = .ok (.aload_n 0, 1) := by decide +kernel
theorem dX2_has_4 : decode cX2_has 4 = .ok (.getfield 21, 3) := by decide +kernel
theorem dX2_has_7 : decode cX2_has 7 = .ok (.if_icmp .ge 21, 3) := by decide +kernel
theorem dX2_has_10 : decode cX2_has 10 = .ok (.aload_n 0, 1) := by decide +kernel
theorem dX2_has_11 : decode cX2_has 11 = .ok (.getfield 9, 3) := by decide +kernel
theorem dX2_has_14 : decode cX2_has 14 = .ok (.iload_n 2, 1) := by decide +kernel
theorem dX2_has_15 : decode cX2_has 15 = .ok (.iaload, 1) := by decide +kernel
theorem dX2_has_16 : decode cX2_has 16 = .ok (.iload_n 1, 1) := by decide +kernel
theorem dX2_has_17 : decode cX2_has 17 = .ok (.if_icmp .ne 5, 3) := by decide +kernel
theorem dX2_has_20 : decode cX2_has 20 = .ok (.iconst 1, 1) := by decide +kernel
theorem dX2_has_21 : decode cX2_has 21 = .ok (.ireturn, 1) := by decide +kernel
theorem dX2_has_22 : decode cX2_has 22 = .ok (.iinc 2 1, 3) := by decide +kernel
theorem dX2_has_25 : decode cX2_has 25 = .ok (.goto (-23), 3) := by decide +kernel
theorem dX2_has_28 : decode cX2_has 28 = .ok (.iconst 0, 1) := by decide +kernel
theorem dX2_has_29 : decode cX2_has 29 = .ok (.ireturn, 1) := by decide +kernel
theorem dX3_init_0 : decode cX3_init 0 = .ok (.aload_n 0, 1) := by decide +kernel
theorem dX3_init_1 : decode cX3_init 1 = .ok (.invokespecial 3, 3) := by decide +kernel
theorem dX3_init_4 : decode cX3_init 4 = .ok (.aload_n 0, 1) := by decide +kernel
theorem dX3_init_5 : decode cX3_init 5 = .ok (.bipush 6, 2) := by decide +kernel
theorem dX3_init_7 : decode cX3_init 7 = .ok (.anewarray 9, 3) := by decide +kernel
theorem dX3_init_10 : decode cX3_init 10 = .ok (.putfield 11, 3) := by decide +kernel
theorem dX3_init_13 : decode cX3_init 13 = .ok (.aload_n 0, 1) := by decide +kernel
theorem dX3_init_14 : decode cX3_init 14 = .ok (.bipush 6, 2) := by decide +kernel
theorem dX3_init_16 : decode cX3_init 16 = .ok (.newarray .int, 2) := by decide +kernel
theorem dX3_init_18 : decode cX3_init 18 = .ok (.putfield 17, 3) := by decide +kernel
theorem dX3_init_21 : decode cX3_init 21 = .ok (.iconst 0, 1) := by decide +kernel
theorem dX3_init_22 : decode cX3_init 22 = .ok (.istore_n 1, 1) := by decide +kernel
theorem dX3_init_23 : decode cX3_init 23 = .ok (.iload_n 1, 1) := by decide +kernel
theorem dX3_init_24 : decode cX3_init 24 = .ok (.bipush 6, 2) := by decide +kernel
theorem dX3_init_26 : decode cX3_init 26 = .ok (.if_icmp .ge 25, 3) := by decide +kernel
theorem dX3_init_29 : decode cX3_init 29 = .ok (.aload_n 0, 1) := by decide +kernel
theorem dX3_init_30 : decode cX3_init 30 = .ok (.getfield 11, 3) := by decide +kernel
theorem dX3_init_33 : decode cX3_init 33 = .ok (.iload_n 1, 1) := by decide +kernel
theorem dX3_init_34 : decode cX3_init 34 = .ok (.new 9, 3) := by decide +kernel
theorem dX3_init_37 : decode cX3_init 37 = .ok (.dup, 1) := by decide +kernel
theorem dX3_init_38 : decode cX3_init 38 = .ok (.iload_n 1, 1) := by decide +kernel
theorem dX3_init_39 : decode cX3_init 39 = .ok (.iconst 1, 1) := by decide +kernel
theorem dX3_init_40 : decode cX3_init 40 = .ok (.iadd, 1) := by decide +kernel
theorem dX3_init_41 : decode cX3_init 41 = .ok (.invokespecial 21, 3) := by decide +kernel
theorem dX3_init_44 : decode cX3_init 44 = .ok (.aastore, 1) := by decide +kernel
theorem dX3_init_45 : decode cX3_init 45 = .ok (.iinc 1 1, 3) := by decide +kernel
theorem dX3_init_48 : decode cX3_init 48 = .ok (.goto (-25), 3) := by decide +kernel
theorem dX3_init_51 : decode cX3_init 51 = .ok (.return_, 1) := by decide +kernel
theorem dX3_copyFrom_0 : decode cX3_copyFrom 0 = .ok (.iconst 0, 1) := by decide +kernel
theorem dX3_copyFrom_1 : decode cX3_copyFrom 1 = .ok (.istore_n 2, 1) := by decide +kernel
theorem dX3_copyFrom_2 : decode cX3_copyFrom 2 = .ok (.iload_n 2, 1) := by decide +kernel
theorem dX3_copyFrom_3 : decode cX3_copyFrom 3 = .ok (.bipush 6, 2) := by decide +kernel
theorem dX3_copyFrom_5 : decode cX3_copyFrom 5 = .ok (.if_icmp .ge 36, 3) := by decide +kernel
theorem dX3_copyFrom_8 : decode cX3_copyFrom 8 = .ok (.aload_n 0, 1) := by decide +kernel
theorem dX3_copyFrom_9 : decode cX3_copyFrom 9 = .ok (.getfield 11, 3) := by decide +kernel
theorem dX3_copyFrom_12 : decode cX3_copyFrom 12 = .ok (.iload_n 2, 1) := by decide +kernel
theorem dX3_copyFrom_13 : decode cX3_copyFrom 13 = .ok (.aaload, 1) := by decide +kernel
theorem dX3_copyFrom_14 : decode cX3_copyFrom 14 = .ok (.aload_n 1, 1) := by decide +kernel
theorem dX3_copyFrom_15 : decode cX3_copyFrom 15 = .ok (.getfield 11, 3) := by decide +kernel
theorem dX3_copyFrom_18 : decode cX3_copyFrom 18 = .ok (.iload_n 2, 1) := by decide +kernel
theorem dX3_copyFrom_19 : decode cX3_copyFrom 19 = .ok (.aaload, 1) := by decide +kernel
theorem dX3_copyFrom_20 : decode cX3_copyFrom 20 = .ok (.invokevirtual 24, 3) := by decide +kernel
theorem dX3_copyFrom_23 : decode cX3_copyFrom 23 = .ok (.aload_n 0, 1) := by decide +kernel
theorem dX3_copyFrom_24 : decode cX3_copyFrom 24 = .ok (.getfield 17, 3) := by decide +kernel
theorem dX3_copyFrom_27 : decode cX3_copyFrom 27 = .ok (.iload_n 2, 1) := by decide +kernel
theorem dX3_copyFrom_28 : decode cX3_copyFrom 28 = .ok (.aload_n 1, 1) := by decide +kernel
theorem dX3_copyFrom_29 : decode cX3_copyFrom 29 = .ok (.getfield 17, 3) := by decide +kernel
theorem dX3_copyFrom_32 : decode cX3_copyFrom 32 = .ok (.iload_n 2, 1) := by decide +kernel
theorem dX3_copyFrom_33 : decode cX3_copyFrom 33 = .ok (.iaload, 1) := by decide +kernel
theorem dX3_copyFrom_34 : decode cX3_copyFrom 34 = .ok (.iastore, 1) := by decide +kernel
theorem dX3_copyFrom_35 : decode cX3_copyFrom 35 = .ok (.iinc 2 1, 3) := by decide +kernel
theorem dX3_copyFrom_38 : decode cX3_copyFrom 38 = .ok (.goto (-36), 3) := by decide +kernel
theorem dX3_copyFrom_41 : decode cX3_copyFrom 41 = .ok (.aload_n 0, 1) := by decide +kernel
theorem dX3_copyFrom_42 : decode cX3_copyFrom 42 = .ok (.aload_n 1, 1) := by decide +kernel
theorem dX3_copyFrom_43 : decode cX3_copyFrom 43 = .ok (.getfield 28, 3) := by decide +kernel
theorem dX3_copyFrom_46 : decode cX3_copyFrom 46 = .ok (.putfield 28, 3) := by decide +kernel
theorem dX3_copyFrom_49 : decode cX3_copyFrom 49 = .ok (.return_, 1) := by decide +kernel
theorem dX3_beginLike_0 : decode cX3_beginLike 0 = .ok (.iconst 0, 1) := by decide +kernel
theorem dX3_beginLike_1 : decode cX3_beginLike 1 = .ok (.istore_n 2, 1) := by decide +kernel
theorem dX3_beginLike_2 : decode cX3_beginLike 2 = .ok (.iload_n 2, 1) := by decide +kernel
theorem dX3_beginLike_3 : decode cX3_beginLike 3 = .ok (.bipush 6, 2) := by decide +kernel
theorem dX3_beginLike_5 : decode cX3_beginLike 5 = .ok (.if_icmp .ge 36, 3) := by decide +kernel
theorem dX3_beginLike_8 : decode cX3_beginLike 8 = .ok (.aload_n 0, 1) := by decide +kernel
theorem dX3_beginLike_9 : decode cX3_beginLike 9 = .ok (.getfield 11, 3) := by decide +kernel
theorem dX3_beginLike_12 : decode cX3_beginLike 12 = .ok (.iload_n 2, 1) := by decide +kernel
theorem dX3_beginLike_13 : decode cX3_beginLike 13 = .ok (.aaload, 1) := by decide +kernel
theorem dX3_beginLike_14 : decode cX3_beginLike 14 = .ok (.aload_n 1, 1) := by decide +kernel
theorem dX3_beginLike_15 : decode cX3_beginLike 15 = .ok (.getfield 11, 3) := by decide +kernel
theorem dX3_beginLike_18 : decode cX3_beginLike 18 = .ok (.iload_n 2, 1) := by decide +kernel
theorem dX3_beginLike_19 : decode cX3_beginLike 19 = .ok (.aaload, 1) := by decide +kernel
theorem dX3_beginLike_20 : decode cX3_beginLike 20 = .ok (.invokevirtual 32, 3) := by decide +kernel
theorem dX3_beginLike_23 : decode cX3_beginLike 23 = .ok (.aload_n 0, 1) := by decide +kernel
theorem dX3_beginLike_24 : decode cX3_beginLike 24 = .ok (.getfield 17, 3) := by decide +kernel
theorem dX3_beginLike_27 : decode cX3_beginLike 27 = .ok (.iload_n 2, 1) := by decide +kernel
theorem dX3_beginLike_28 : decode cX3_beginLike 28 = .ok (.aload_n 1, 1) := by decide +kernel
theorem dX3_beginLike_29 : decode cX3_beginLike 29 = .ok (.getfield 17, 3) := by decide +kernel
theorem dX3_beginLike_32 : decode cX3_beginLike 32 = .ok (.iload_n 2, 1) := by decide +kernel
theorem dX3_beginLike_33 : decode cX3_beginLike 33 = .ok (.iaload, 1) := by decide +kernel
theorem dX3_beginLike_34 : decode cX3_beginLike 34 = .ok (.iastore, 1) := by decide +kernel
theorem dX3_beginLike_35 : decode cX3_beginLike 35 = .ok (.iinc 2 1, 3) := by decide +kernel
theorem dX3_beginLike_38 : decode cX3_beginLike 38 = .ok (.goto (-36), 3) := by decide +kernel
theorem dX3_beginLike_41 : decode cX3_beginLike 41 = .ok (.aload_n 0, 1) := by decide +kernel
theorem dX3_beginLike_42 : decode cX3_beginLike 42 = .ok (.iconst 0, 1) := by decide +kernel
theorem dX3_beginLike_43 : decode cX3_beginLike 43 = .ok (.putfield 28, 3) := by decide +kernel
theorem dX3_beginLike_46 : decode cX3_beginLike 46 = .ok (.return_, 1) := by decide +kernel
theorem dX3_join_0 : decode cX3_join 0 = .ok (.iload_n 1, 1) := by decide +kernel
theorem dX3_join_1 : decode cX3_join 1 = .ok (.invokestatic 35, 3) := by decide +kernel
theorem dX3_join_4 : decode cX3_join 4 = .ok (.ifCond .eq 10, 3) := by decide +kernel
theorem dX3_join_7 : decode cX3_join 7 = .ok (.iload_n 2, 1) := by decide +kernel
theorem dX3_join_8 : decode cX3_join 8 = .ok (.invokestatic 35, 3) := by decide +kernel
theorem dX3_join_11 : decode cX3_join 11 = .ok (.ifCond .ne 4, 3) := by decide +kernel
theorem dX3_join_14 : decode cX3_join 14 = .ok (.return_, 1) := by decide +kernel
theorem dX3_join_15 : decode cX3_join 15 = .ok (.iload_n 3, 1) := by decide +kernel
theorem dX3_join_16 : decode cX3_join 16 = .ok (.ifCond .eq 30, 3) := by decide +kernel
theorem dX3_join_19 : decode cX3_join 19 = .ok (.aload_n 0, 1) := by decide +kernel
theorem dX3_join_20 : decode cX3_join 20 = .ok (.getfield 17, 3) := by decide +kernel
theorem dX3_join_23 : decode cX3_join 23 = .ok (.iload_n 1, 1) := by decide +kernel
theorem dX3_join_24 : decode cX3_join 24 = .ok (.dup2, 1) := by decide +kernel
theorem dX3_join_25 : decode cX3_join 25 = .ok (.iaload, 1) := by decide +kernel
theorem dX3_join_26 : decode cX3_join 26 = .ok (.iconst 1, 1) := by decide +kernel
theorem dX3_join_27 : decode cX3_join 27 = .ok (.iload_n 2, 1) := by decide +kernel
theorem dX3_join_28 : decode cX3_join 28 = .ok (.ishl, 1) := by decide +kernel
theorem dX3_join_29 : decode cX3_join 29 = .ok (.ior, 1) := by decide +kernel
theorem dX3_join_30 : decode cX3_join 30 = .ok (.iastore, 1) := by decide +kernel
theorem dX3_join_31 : decode cX3_join 31 = .ok (.aload_n 0, 1) := by decide +kernel
theorem dX3_join_32 : decode cX3_join 32 = .ok (.getfield 17, 3) := by decide +kernel
theorem dX3_join_35 : decode cX3_join 35 = .ok (.iload_n 2, 1) := by decide +kernel
theorem dX3_join_36 : decode cX3_join 36 = .ok (.dup2, 1) := by decide +kernel
theorem dX3_join_37 : decode cX3_join 37 = .ok (.iaload, 1) := by decide +kernel
theorem dX3_join_38 : decode cX3_join 38 = .ok (.iconst 1, 1) := by decide +kernel
theorem dX3_join_39 : decode cX3_join 39 = .ok (.iload_n 1, 1) := by decide +kernel
theorem dX3_join_40 : decode cX3_join 40 = .ok (.ishl, 1) := by decide +kernel
theorem dX3_join_41 : decode cX3_join 41 = .ok (.ior, 1) := by decide +kernel
theorem dX3_join_42 : decode cX3_join 42 = .ok (.iastore, 1) := by decide +kernel
theorem dX3_join_43 : decode cX3_join 43 = .ok (.goto 31, 3) := by decide +kernel
theorem dX3_join_46 : decode cX3_join 46 = .ok (.aload_n 0, 1) := by decide +kernel
theorem dX3_join_47 : decode cX3_join 47 = .ok (.getfield 17, 3) := by decide +kernel
theorem dX3_join_50 : decode cX3_join 50 = .ok (.iload_n 1, 1) := by decide +kernel
theorem dX3_join_51 : decode cX3_join 51 = .ok (.dup2, 1) := by decide +kernel
theorem dX3_join_52 : decode cX3_join 52 = .ok (.iaload, 1) := by decide +kernel
theorem dX3_join_53 : decode cX3_join 53 = .ok (.iconst 1, 1) := by decide +kernel
theorem dX3_join_54 : decode cX3_join 54 = .ok (.iload_n 2, 1) := by decide +kernel
theorem dX3_join_55 : decode cX3_join 55 = .ok (.ishl, 1) := by decide +kernel
theorem dX3_join_56 : decode cX3_join 56 = .ok (.iconst (-1), 1) := by decide +kernel
theorem dX3_join_57 : decode cX3_join 57 = .ok (.ixor, 1) := by decide +kernel
theorem dX3_join_58 : decode cX3_join 58 = .ok (.iand, 1) := by decide +kernel
theorem dX3_join_59 : decode cX3_join 59 = .ok (.iastore, 1) := by decide +kernel
theorem dX3_join_60 : decode cX3_join 60 = .ok (.aload_n 0, 1) := by decide +kernel
theorem dX3_join_61 : decode cX3_join 61 = .ok (.getfield 17, 3) := by decide +kernel
theorem dX3_join_64 : decode cX3_join 64 = .ok (.iload_n 2, 1) := by decide +kernel
theorem dX3_join_65 : decode cX3_join 65 = .ok (.dup2, 1) := by decide +kernel
theorem dX3_join_66 : decode cX3_join 66 = .ok (.iaload, 1) := by decide +kernel
theorem dX3_join_67 : decode cX3_join 67 = .ok (.iconst 1, 1) := by decide +kernel
theorem dX3_join_68 : decode cX3_join 68 = .ok (.iload_n 1, 1) := by decide +kernel
theorem dX3_join_69 : decode cX3_join 69 = .ok (.ishl, 1) := by decide +kernel
theorem dX3_join_70 : decode cX3_join 70 = .ok (.iconst (-1), 1) := by decide +kernel
theorem dX3_join_71 : decode cX3_join 71 = .ok (.ixor, 1) := by decide +kernel
theorem dX3_join_72 : decode cX3_join 72 = .ok (.iand, 1) := by decide +kernel
theorem dX3_join_73 : decode cX3_join 73 = .ok (.iastore, 1) := by decide +kernel
theorem dX3_join_74 : decode cX3_join 74 = .ok (.return_, 1) := by decide +kernel
theorem dX3_isolate_0 : decode cX3_isolate 0 = .ok (.iconst 0, 1) := by decide +kernel
theorem dX3_isolate_1 : decode cX3_isolate 1 = .ok (.istore_n 2, 1) := by decide +kernel
theorem dX3_isolate_2 : decode cX3_isolate 2 = .ok (.iload_n 2, 1) := by decide +kernel
theorem dX3_isolate_3 : decode cX3_isolate 3 = .ok (.bipush 6, 2) := by decide +kernel
theorem dX3_isolate_5 : decode cX3_isolate 5 = .ok (.if_icmp .ge 38, 3) := by decide +kernel
theorem dX3_isolate_8 : decode cX3_isolate 8 = .ok (.iload_n 2, 1) := by decide +kernel
theorem dX3_isolate_9 : decode cX3_isolate 9 = .ok (.iload_n 1, 1) := by decide +kernel
theorem dX3_isolate_10 : decode cX3_isolate 10 = .ok (.if_icmp .ne 13, 3) := by decide +kernel
theorem dX3_isolate_13 : decode cX3_isolate 13 = .ok (.aload_n 0, 1) := by decide +kernel
theorem dX3_isolate_14 : decode cX3_isolate 14 = .ok (.getfield 17, 3) := by decide +kernel
theorem dX3_isolate_17 : decode cX3_isolate 17 = .ok (.iload_n 2, 1) := by decide +kernel
theorem dX3_isolate_18 : decode cX3_isolate 18 = .ok (.iconst 0, 1) := by decide +kernel
theorem dX3_isolate_19 : decode cX3_isolate 19 = .ok (.iastore, 1) := by decide +kernel
theorem dX3_isolate_20 : decode cX3_isolate 20 = .ok (.goto 17, 3) := by decide +kernel
theorem dX3_isolate_23 : decode cX3_isolate 23 = .ok (.aload_n 0, 1) := by decide +kernel
theorem dX3_isolate_24 : decode cX3_isolate 24 = .ok (.getfield 17, 3) := by decide +kernel
theorem dX3_isolate_27 : decode cX3_isolate 27 = .ok (.iload_n 2, 1) := by decide +kernel
theorem dX3_isolate_28 : decode cX3_isolate 28 = .ok (.dup2, 1) := by decide +kernel
theorem dX3_isolate_29 : decode cX3_isolate 29 = .ok (.iaload, 1) := by decide +kernel
theorem dX3_isolate_30 : decode cX3_isolate 30 = .ok (.iconst 1, 1) := by decide +kernel
theorem dX3_isolate_31 : decode cX3_isolate 31 = .ok (.iload_n 1, 1) := by decide +kernel
theorem dX3_isolate_32 : decode cX3_isolate 32 = .ok (.ishl, 1) := by decide +kernel
theorem dX3_isolate_33 : decode cX3_isolate 33 = .ok (.iconst (-1), 1) := by decide +kernel
theorem dX3_isolate_34 : decode cX3_isolate 34 = .ok (.ixor, 1) := by decide +kernel
theorem dX3_isolate_35 : decode cX3_isolate 35 = .ok (.iand, 1) := by decide +kernel
theorem dX3_isolate_36 : decode cX3_isolate 36 = .ok (.iastore, 1) := by decide +kernel
theorem dX3_isolate_37 : decode cX3_isolate 37 = .ok (.iinc 2 1, 3) := by decide +kernel
theorem dX3_isolate_40 : decode cX3_isolate 40 = .ok (.goto (-38), 3) := by decide +kernel
theorem dX3_isolate_43 : decode cX3_isolate 43 = .ok (.return_, 1) := by decide +kernel
theorem dX3_passTick_0 : decode cX3_passTick 0 = .ok (.iconst 0, 1) := by decide +kernel
theorem dX3_passTick_1 : decode cX3_passTick 1 = .ok (.istore_n 1, 1) := by decide +kernel
theorem dX3_passTick_2 : decode cX3_passTick 2 = .ok (.iconst 0, 1) := by decide +kernel
theorem dX3_passTick_3 : decode cX3_passTick 3 = .ok (.istore_n 2, 1) := by decide +kernel
theorem dX3_passTick_4 : decode cX3_passTick 4 = .ok (.iload_n 2, 1) := by decide +kernel
theorem dX3_passTick_5 : decode cX3_passTick 5 = .ok (.bipush 6, 2) := by decide +kernel
theorem dX3_passTick_7 : decode cX3_passTick 7 = .ok (.if_icmp .ge 31, 3) := by decide +kernel
theorem dX3_passTick_10 : decode cX3_passTick 10 = .ok (.aload_n 0, 1) := by decide +kernel
theorem dX3_passTick_11 : decode cX3_passTick 11 = .ok (.getfield 11, 3) := by decide +kernel
theorem dX3_passTick_14 : decode cX3_passTick 14 = .ok (.iload_n 2, 1) := by decide +kernel
theorem dX3_passTick_15 : decode cX3_passTick 15 = .ok (.aaload, 1) := by decide +kernel
theorem dX3_passTick_16 : decode cX3_passTick 16 = .ok (.aload_n 0, 1) := by decide +kernel
theorem dX3_passTick_17 : decode cX3_passTick 17 = .ok (.getfield 28, 3) := by decide +kernel
theorem dX3_passTick_20 : decode cX3_passTick 20 = .ok (.invokevirtual 39, 3) := by decide +kernel
theorem dX3_passTick_23 : decode cX3_passTick 23 = .ok (.ifCond .eq 9, 3) := by decide +kernel
theorem dX3_passTick_26 : decode cX3_passTick 26 = .ok (.iload_n 1, 1) := by decide +kernel
theorem dX3_passTick_27 : decode cX3_passTick 27 = .ok (.iconst 1, 1) := by decide +kernel
theorem dX3_passTick_28 : decode cX3_passTick 28 = .ok (.iload_n 2, 1) := by decide +kernel
theorem dX3_passTick_29 : decode cX3_passTick 29 = .ok (.ishl, 1) := by decide +kernel
theorem dX3_passTick_30 : decode cX3_passTick 30 = .ok (.ior, 1) := by decide +kernel
theorem dX3_passTick_31 : decode cX3_passTick 31 = .ok (.istore_n 1, 1) := by decide +kernel
theorem dX3_passTick_32 : decode cX3_passTick 32 = .ok (.iinc 2 1, 3) := by decide +kernel
theorem dX3_passTick_35 : decode cX3_passTick 35 = .ok (.goto (-31), 3) := by decide +kernel
theorem dX3_passTick_38 : decode cX3_passTick 38 = .ok (.iconst 0, 1) := by decide +kernel
theorem dX3_passTick_39 : decode cX3_passTick 39 = .ok (.istore_n 2, 1) := by decide +kernel
theorem dX3_passTick_40 : decode cX3_passTick 40 = .ok (.iload_n 2, 1) := by decide +kernel
theorem dX3_passTick_41 : decode cX3_passTick 41 = .ok (.bipush 6, 2) := by decide +kernel
theorem dX3_passTick_43 : decode cX3_passTick 43 = .ok (.if_icmp .ge 97, 3) := by decide +kernel
theorem dX3_passTick_46 : decode cX3_passTick 46 = .ok (.iload_n 1, 1) := by decide +kernel
theorem dX3_passTick_47 : decode cX3_passTick 47 = .ok (.ifCond .eq 93, 3) := by decide +kernel
theorem dX3_passTick_50 : decode cX3_passTick 50 = .ok (.iload_n 1, 1) := by decide +kernel
theorem dX3_passTick_51 : decode cX3_passTick 51 = .ok (.iload_n 2, 1) := by decide +kernel
theorem dX3_passTick_52 : decode cX3_passTick 52 = .ok (.invokestatic 42, 3) := by decide +kernel
theorem dX3_passTick_55 : decode cX3_passTick 55 = .ok (.ifCond .eq 7, 3) := by decide +kernel
theorem dX3_passTick_58 : decode cX3_passTick 58 = .ok (.iconst 0, 1) := by decide +kernel
theorem dX3_passTick_59 : decode cX3_passTick 59 = .ok (.goto 11, 3) := by decide +kernel
theorem dX3_passTick_62 : decode cX3_passTick 62 = .ok (.iload_n 1, 1) := by decide +kernel
theorem dX3_passTick_63 : decode cX3_passTick 63 = .ok (.aload_n 0, 1) := by decide +kernel
theorem dX3_passTick_64 : decode cX3_passTick 64 = .ok (.getfield 17, 3) := by decide +kernel
theorem dX3_passTick_67 : decode cX3_passTick 67 = .ok (.iload_n 2, 1) := by decide +kernel
theorem dX3_passTick_68 : decode cX3_passTick 68 = .ok (.iaload, 1) := by decide +kernel
theorem dX3_passTick_69 : decode cX3_passTick 69 = .ok (.iand, 1) := by decide +kernel
theorem dX3_passTick_70 : decode cX3_passTick 70 = .ok (.istore_n 3, 1) := by decide +kernel
theorem dX3_passTick_71 : decode cX3_passTick 71 = .ok (.iload_n 3, 1) := by decide +kernel
theorem dX3_passTick_72 : decode cX3_passTick 72 = .ok (.invokestatic 46, 3) := by decide +kernel
theorem dX3_passTick_75 : decode cX3_passTick 75 = .ok (.istore 4, 2) := by decide +kernel
theorem dX3_passTick_77 : decode cX3_passTick 77 = .ok (.iload_n 3, 1) := by decide +kernel
theorem dX3_passTick_78 : decode cX3_passTick 78 = .ok (.invokestatic 50, 3) := by decide +kernel
theorem dX3_passTick_81 : decode cX3_passTick 81 = .ok (.iconst 1, 1) := by decide +kernel
theorem dX3_passTick_82 : decode cX3_passTick 82 = .ok (.if_icmp .le 22, 3) := by decide +kernel
theorem dX3_passTick_85 : decode cX3_passTick 85 = .ok (.aload_n 0, 1) := by decide +kernel
theorem dX3_passTick_86 : decode cX3_passTick 86 = .ok (.getfield 11, 3) := by decide +kernel
theorem dX3_passTick_89 : decode cX3_passTick 89 = .ok (.iload_n 2, 1) := by decide +kernel
theorem dX3_passTick_90 : decode cX3_passTick 90 = .ok (.aaload, 1) := by decide +kernel
theorem dX3_passTick_91 : decode cX3_passTick 91 = .ok (.getfield 55, 3) := by decide +kernel
theorem dX3_passTick_94 : decode cX3_passTick 94 = .ok (.bipush 7, 2) := by decide +kernel
theorem dX3_passTick_96 : decode cX3_passTick 96 = .ok (.dup2, 1) := by decide +kernel
theorem dX3_passTick_97 : decode cX3_passTick 97 = .ok (.iaload, 1) := by decide +kernel
theorem dX3_passTick_98 : decode cX3_passTick 98 = .ok (.iconst 1, 1) := by decide +kernel
theorem dX3_passTick_99 : decode cX3_passTick 99 = .ok (.iadd, 1) := by decide +kernel
theorem dX3_passTick_100 : decode cX3_passTick 100 = .ok (.iastore, 1) := by decide +kernel
theorem dX3_passTick_101 : decode cX3_passTick 101 = .ok (.goto 33, 3) := by decide +kernel
theorem dX3_passTick_104 : decode cX3_passTick 104 = .ok (.iload 4, 2) := by decide +kernel
theorem dX3_passTick_106 : decode cX3_passTick 106 = .ok (.bipush (-6), 2) := by decide +kernel
theorem dX3_passTick_108 : decode cX3_passTick 108 = .ok (.if_icmp .eq 26, 3) := by decide +kernel
theorem dX3_passTick_111 : decode cX3_passTick 111 = .ok (.aload_n 0, 1) := by decide +kernel
theorem dX3_passTick_112 : decode cX3_passTick 112 = .ok (.getfield 11, 3) := by decide +kernel
theorem dX3_passTick_115 : decode cX3_passTick 115 = .ok (.iload_n 2, 1) := by decide +kernel
theorem dX3_passTick_116 : decode cX3_passTick 116 = .ok (.aaload, 1) := by decide +kernel
theorem dX3_passTick_117 : decode cX3_passTick 117 = .ok (.aload_n 0, 1) := by decide +kernel
theorem dX3_passTick_118 : decode cX3_passTick 118 = .ok (.getfield 11, 3) := by decide +kernel
theorem dX3_passTick_121 : decode cX3_passTick 121 = .ok (.iload 4, 2) := by decide +kernel
theorem dX3_passTick_123 : decode cX3_passTick 123 = .ok (.aaload, 1) := by decide +kernel
theorem dX3_passTick_124 : decode cX3_passTick 124 = .ok (.getfield 58, 3) := by decide +kernel
theorem dX3_passTick_127 : decode cX3_passTick 127 = .ok (.aload_n 0, 1) := by decide +kernel
theorem dX3_passTick_128 : decode cX3_passTick 128 = .ok (.getfield 28, 3) := by decide +kernel
theorem dX3_passTick_131 : decode cX3_passTick 131 = .ok (.invokevirtual 62, 3) := by decide +kernel
theorem dX3_passTick_134 : decode cX3_passTick 134 = .ok (.iinc 2 1, 3) := by decide +kernel
theorem dX3_passTick_137 : decode cX3_passTick 137 = .ok (.goto (-97), 3) := by decide +kernel
theorem dX3_passTick_140 : decode cX3_passTick 140 = .ok (.aload_n 0, 1) := by decide +kernel
theorem dX3_passTick_141 : decode cX3_passTick 141 = .ok (.dup, 1) := by decide +kernel
theorem dX3_passTick_142 : decode cX3_passTick 142 = .ok (.getfield 28, 3) := by decide +kernel
theorem dX3_passTick_145 : decode cX3_passTick 145 = .ok (.iconst 1, 1) := by decide +kernel
theorem dX3_passTick_146 : decode cX3_passTick 146 = .ok (.iadd, 1) := by decide +kernel
theorem dX3_passTick_147 : decode cX3_passTick 147 = .ok (.putfield 28, 3) := by decide +kernel
theorem dX3_passTick_150 : decode cX3_passTick 150 = .ok (.return_, 1) := by decide +kernel
theorem dX3_firstIn_0 : decode cX3_firstIn 0 = .ok (.iconst 0, 1) := by decide +kernel
theorem dX3_firstIn_1 : decode cX3_firstIn 1 = .ok (.istore_n 1, 1) := by decide +kernel
theorem dX3_firstIn_2 : decode cX3_firstIn 2 = .ok (.iload_n 1, 1) := by decide +kernel
theorem dX3_firstIn_3 : decode cX3_firstIn 3 = .ok (.bipush 6, 2) := by decide +kernel
theorem dX3_firstIn_5 : decode cX3_firstIn 5 = .ok (.if_icmp .ge 19, 3) := by decide +kernel
theorem dX3_firstIn_8 : decode cX3_firstIn 8 = .ok (.iload_n 0, 1) := by decide +kernel
theorem dX3_firstIn_9 : decode cX3_firstIn 9 = .ok (.iload_n 1, 1) := by decide +kernel
theorem dX3_firstIn_10 : decode cX3_firstIn 10 = .ok (.invokestatic 42, 3) := by decide +kernel
theorem dX3_firstIn_13 : decode cX3_firstIn 13 = .ok (.ifCond .eq 5, 3) := by decide +kernel
theorem dX3_firstIn_16 : decode cX3_firstIn 16 = .ok (.iload_n 1, 1) := by decide +kernel
theorem dX3_firstIn_17 : decode cX3_firstIn 17 = .ok (.ireturn, 1) := by decide +kernel
theorem dX3_firstIn_18 : decode cX3_firstIn 18 = .ok (.iinc 1 1, 3) := by decide +kernel
theorem dX3_firstIn_21 : decode cX3_firstIn 21 = .ok (.goto (-19), 3) := by decide +kernel
theorem dX3_firstIn_24 : decode cX3_firstIn 24 = .ok (.bipush (-6), 2) := by decide +kernel
theorem dX3_firstIn_26 : decode cX3_firstIn 26 = .ok (.ireturn, 1) := by decide +kernel
theorem dX3_stationCalled_0 : decode cX3_stationCalled 0 = .ok (.iconst 0, 1) := by decide +kernel
theorem dX3_stationCalled_1 : decode cX3_stationCalled 1 = .ok (.istore_n 2, 1) := by decide +kernel
theorem dX3_stationCalled_2 : decode cX3_stationCalled 2 = .ok (.iload_n 2, 1) := by decide +kernel
theorem dX3_stationCalled_3 : decode cX3_stationCalled 3 = .ok (.bipush 6, 2) := by decide +kernel
theorem dX3_stationCalled_5 : decode cX3_stationCalled 5 = .ok (.if_icmp .ge 24, 3) := by decide +kernel
theorem dX3_stationCalled_8 : decode cX3_stationCalled 8 = .ok (.aload_n 0, 1) := by decide +kernel
theorem dX3_stationCalled_9 : decode cX3_stationCalled 9 = .ok (.getfield 11, 3) := by decide +kernel
theorem dX3_stationCalled_12 : decode cX3_stationCalled 12 = .ok (.iload_n 2, 1) := by decide +kernel
theorem dX3_stationCalled_13 : decode cX3_stationCalled 13 = .ok (.aaload, 1) := by decide +kernel
theorem dX3_stationCalled_14 : decode cX3_stationCalled 14 = .ok (.getfield 66, 3) := by decide +kernel
theorem dX3_stationCalled_17 : decode cX3_stationCalled 17 = .ok (.iload_n 1, 1) := by decide +kernel
theorem dX3_stationCalled_18 : decode cX3_stationCalled 18 = .ok (.if_icmp .ne 5, 3) := by decide +kernel
theorem dX3_stationCalled_21 : decode cX3_stationCalled 21 = .ok (.iload_n 2, 1) := by decide +kernel
theorem dX3_stationCalled_22 : decode cX3_stationCalled 22 = .ok (.ireturn, 1) := by decide +kernel
theorem dX3_stationCalled_23 : decode cX3_stationCalled 23 = .ok (.iinc 2 1, 3) := by decide +kernel
theorem dX3_stationCalled_26 : decode cX3_stationCalled 26 = .ok (.goto (-24), 3) := by decide +kernel
theorem dX3_stationCalled_29 : decode cX3_stationCalled 29 = .ok (.bipush (-6), 2) := by decide +kernel
theorem dX3_stationCalled_31 : decode cX3_stationCalled 31 = .ok (.ireturn, 1) := by decide +kernel
theorem dX3_keptByAll_0 : decode cX3_keptByAll 0 = .ok (.iconst 0, 1) := by decide +kernel
theorem dX3_keptByAll_1 : decode cX3_keptByAll 1 = .ok (.istore_n 1, 1) := by decide +kernel
theorem dX3_keptByAll_2 : decode cX3_keptByAll 2 = .ok (.iconst 0, 1) := by decide +kernel
theorem dX3_keptByAll_3 : decode cX3_keptByAll 3 = .ok (.istore_n 2, 1) := by decide +kernel
theorem dX3_keptByAll_4 : decode cX3_keptByAll 4 = .ok (.iload_n 2, 1) := by decide +kernel
theorem dX3_keptByAll_5 : decode cX3_keptByAll 5 = .ok (.bipush 6, 2) := by decide +kernel
theorem dX3_keptByAll_7 : decode cX3_keptByAll 7 = .ok (.if_icmp .ge 24, 3) := by decide +kernel
theorem dX3_keptByAll_10 : decode cX3_keptByAll 10 = .ok (.iload_n 1, 1) := by decide +kernel
theorem dX3_keptByAll_11 : decode cX3_keptByAll 11 = .ok (.aload_n 0, 1) := by decide +kernel
theorem dX3_keptByAll_12 : decode cX3_keptByAll 12 = .ok (.getfield 11, 3) := by decide +kernel
theorem dX3_keptByAll_15 : decode cX3_keptByAll 15 = .ok (.iload_n 2, 1) := by decide +kernel
theorem dX3_keptByAll_16 : decode cX3_keptByAll 16 = .ok (.aaload, 1) := by decide +kernel
theorem dX3_keptByAll_17 : decode cX3_keptByAll 17 = .ok (.getfield 69, 3) := by decide +kernel
theorem dX3_keptByAll_20 : decode cX3_keptByAll 20 = .ok (.getfield 73, 3) := by decide +kernel
theorem dX3_keptByAll_23 : decode cX3_keptByAll 23 = .ok (.iadd, 1) := by decide +kernel
theorem dX3_keptByAll_24 : decode cX3_keptByAll 24 = .ok (.istore_n 1, 1) := by decide +kernel
theorem dX3_keptByAll_25 : decode cX3_keptByAll 25 = .ok (.iinc 2 1, 3) := by decide +kernel
theorem dX3_keptByAll_28 : decode cX3_keptByAll 28 = .ok (.goto (-24), 3) := by decide +kernel
theorem dX3_keptByAll_31 : decode cX3_keptByAll 31 = .ok (.iload_n 1, 1) := by decide +kernel
theorem dX3_keptByAll_32 : decode cX3_keptByAll 32 = .ok (.ireturn, 1) := by decide +kernel
theorem dX3_tallyOfAll_0 : decode cX3_tallyOfAll 0 = .ok (.iconst 0, 1) := by decide +kernel
theorem dX3_tallyOfAll_1 : decode cX3_tallyOfAll 1 = .ok (.istore_n 2, 1) := by decide +kernel
theorem dX3_tallyOfAll_2 : decode cX3_tallyOfAll 2 = .ok (.iconst 0, 1) := by decide +kernel
theorem dX3_tallyOfAll_3 : decode cX3_tallyOfAll 3 = .ok (.istore_n 3, 1) := by decide +kernel
theorem dX3_tallyOfAll_4 : decode cX3_tallyOfAll 4 = .ok (.iload_n 3, 1) := by decide +kernel
theorem dX3_tallyOfAll_5 : decode cX3_tallyOfAll 5 = .ok (.bipush 6, 2) := by decide +kernel
theorem dX3_tallyOfAll_7 : decode cX3_tallyOfAll 7 = .ok (.if_icmp .ge 33, 3) := by decide +kernel
theorem dX3_tallyOfAll_10 : decode cX3_tallyOfAll 10 = .ok (.iload_n 1, 1) := by decide +kernel
theorem dX3_tallyOfAll_11 : decode cX3_tallyOfAll 11 = .ok (.ifCond .lt 29, 3) := by decide +kernel
theorem dX3_tallyOfAll_14 : decode cX3_tallyOfAll 14 = .ok (.iload_n 1, 1) := by decide +kernel
theorem dX3_tallyOfAll_15 : decode cX3_tallyOfAll 15 = .ok (.bipush 9, 2) := by decide +kernel
theorem dX3_tallyOfAll_17 : decode cX3_tallyOfAll 17 = .ok (.if_icmp .ge 23, 3) := by decide +kernel
theorem dX3_tallyOfAll_20 : decode cX3_tallyOfAll 20 = .ok (.iload_n 2, 1) := by decide +kernel
theorem dX3_tallyOfAll_21 : decode cX3_tallyOfAll 21 = .ok (.aload_n 0, 1) := by decide +kernel
theorem dX3_tallyOfAll_22 : decode cX3_tallyOfAll 22 = .ok (.getfield 11, 3) := by decide +kernel
theorem dX3_tallyOfAll_25 : decode cX3_tallyOfAll 25 = .ok (.iload_n 3, 1) := by decide +kernel
theorem dX3_tallyOfAll_26 : decode cX3_tallyOfAll 26 = .ok (.aaload, 1) := by decide +kernel
theorem dX3_tallyOfAll_27 : decode cX3_tallyOfAll 27 = .ok (.getfield 55, 3) := by decide +kernel
theorem dX3_tallyOfAll_30 : decode cX3_tallyOfAll 30 = .ok (.iload_n 1, 1) := by decide +kernel
theorem dX3_tallyOfAll_31 : decode cX3_tallyOfAll 31 = .ok (.iaload, 1) := by decide +kernel
theorem dX3_tallyOfAll_32 : decode cX3_tallyOfAll 32 = .ok (.iadd, 1) := by decide +kernel
theorem dX3_tallyOfAll_33 : decode cX3_tallyOfAll 33 = .ok (.istore_n 2, 1) := by decide +kernel
theorem dX3_tallyOfAll_34 : decode cX3_tallyOfAll 34 = .ok (.iinc 3 1, 3) := by decide +kernel
theorem dX3_tallyOfAll_37 : decode cX3_tallyOfAll 37 = .ok (.goto (-33), 3) := by decide +kernel
theorem dX3_tallyOfAll_40 : decode cX3_tallyOfAll 40 = .ok (.iload_n 2, 1) := by decide +kernel
theorem dX3_tallyOfAll_41 : decode cX3_tallyOfAll 41 = .ok (.ireturn, 1) := by decide +kernel
theorem dX3_pairsNear_0 : decode cX3_pairsNear 0 = .ok (.iconst 0, 1) := by decide +kernel
theorem dX3_pairsNear_1 : decode cX3_pairsNear 1 = .ok (.istore_n 1, 1) := by decide +kernel
theorem dX3_pairsNear_2 : decode cX3_pairsNear 2 = .ok (.iconst 0, 1) := by decide +kernel
theorem dX3_pairsNear_3 : decode cX3_pairsNear 3 = .ok (.istore_n 2, 1) := by decide +kernel
theorem dX3_pairsNear_4 : decode cX3_pairsNear 4 = .ok (.iload_n 2, 1) := by decide +kernel
theorem dX3_pairsNear_5 : decode cX3_pairsNear 5 = .ok (.bipush 6, 2) := by decide +kernel
theorem dX3_pairsNear_7 : decode cX3_pairsNear 7 = .ok (.if_icmp .ge 21, 3) := by decide +kernel
theorem dX3_pairsNear_10 : decode cX3_pairsNear 10 = .ok (.iload_n 1, 1) := by decide +kernel
theorem dX3_pairsNear_11 : decode cX3_pairsNear 11 = .ok (.aload_n 0, 1) := by decide +kernel
theorem dX3_pairsNear_12 : decode cX3_pairsNear 12 = .ok (.getfield 17, 3) := by decide +kernel
theorem dX3_pairsNear_15 : decode cX3_pairsNear 15 = .ok (.iload_n 2, 1) := by decide +kernel
theorem dX3_pairsNear_16 : decode cX3_pairsNear 16 = .ok (.iaload, 1) := by decide +kernel
theorem dX3_pairsNear_17 : decode cX3_pairsNear 17 = .ok (.invokestatic 50, 3) := by decide +kernel
theorem dX3_pairsNear_20 : decode cX3_pairsNear 20 = .ok (.iadd, 1) := by decide +kernel
theorem dX3_pairsNear_21 : decode cX3_pairsNear 21 = .ok (.istore_n 1, 1) := by decide +kernel
theorem dX3_pairsNear_22 : decode cX3_pairsNear 22 = .ok (.iinc 2 1, 3) := by decide +kernel
theorem dX3_pairsNear_25 : decode cX3_pairsNear 25 = .ok (.goto (-21), 3) := by decide +kernel
theorem dX3_pairsNear_28 : decode cX3_pairsNear 28 = .ok (.iload_n 1, 1) := by decide +kernel
theorem dX3_pairsNear_29 : decode cX3_pairsNear 29 = .ok (.iconst 2, 1) := by decide +kernel
theorem dX3_pairsNear_30 : decode cX3_pairsNear 30 = .ok (.idiv, 1) := by decide +kernel
theorem dX3_pairsNear_31 : decode cX3_pairsNear 31 = .ok (.ireturn, 1) := by decide +kernel
theorem dX3_hearers_0 : decode cX3_hearers 0 = .ok (.iconst 0, 1) := by decide +kernel
theorem dX3_hearers_1 : decode cX3_hearers 1 = .ok (.istore_n 1, 1) := by decide +kernel
theorem dX3_hearers_2 : decode cX3_hearers 2 = .ok (.iconst 0, 1) := by decide +kernel
theorem dX3_hearers_3 : decode cX3_hearers 3 = .ok (.istore_n 2, 1) := by decide +kernel
theorem dX3_hearers_4 : decode cX3_hearers 4 = .ok (.iload_n 2, 1) := by decide +kernel
theorem dX3_hearers_5 : decode cX3_hearers 5 = .ok (.bipush 6, 2) := by decide +kernel
theorem dX3_hearers_7 : decode cX3_hearers 7 = .ok (.if_icmp .ge 27, 3) := by decide +kernel
theorem dX3_hearers_10 : decode cX3_hearers 10 = .ok (.aload_n 0, 1) := by decide +kernel
theorem dX3_hearers_11 : decode cX3_hearers 11 = .ok (.getfield 11, 3) := by decide +kernel
theorem dX3_hearers_14 : decode cX3_hearers 14 = .ok (.iload_n 2, 1) := by decide +kernel
theorem dX3_hearers_15 : decode cX3_hearers 15 = .ok (.aaload, 1) := by decide +kernel
theorem dX3_hearers_16 : decode cX3_hearers 16 = .ok (.invokevirtual 78, 3) := by decide +kernel
theorem dX3_hearers_19 : decode cX3_hearers 19 = .ok (.ifCond .eq 9, 3) := by decide +kernel
theorem dX3_hearers_22 : decode cX3_hearers 22 = .ok (.iload_n 1, 1) := by decide +kernel
theorem dX3_hearers_23 : decode cX3_hearers 23 = .ok (.iconst 1, 1) := by decide +kernel
theorem dX3_hearers_24 : decode cX3_hearers 24 = .ok (.iload_n 2, 1) := by decide +kernel
theorem dX3_hearers_25 : decode cX3_hearers 25 = .ok (.ishl, 1) := by decide +kernel
theorem dX3_hearers_26 : decode cX3_hearers 26 = .ok (.ior, 1) := by decide +kernel
theorem dX3_hearers_27 : decode cX3_hearers 27 = .ok (.istore_n 1, 1) := by decide +kernel
theorem dX3_hearers_28 : decode cX3_hearers 28 = .ok (.iinc 2 1, 3) := by decide +kernel
theorem dX3_hearers_31 : decode cX3_hearers 31 = .ok (.goto (-27), 3) := by decide +kernel
theorem dX3_hearers_34 : decode cX3_hearers 34 = .ok (.iload_n 1, 1) := by decide +kernel
theorem dX3_hearers_35 : decode cX3_hearers 35 = .ok (.ireturn, 1) := by decide +kernel
theorem dX4_init_0 : decode cX4_init 0 = .ok (.aload_n 0, 1) := by decide +kernel
theorem dX4_init_1 : decode cX4_init 1 = .ok (.invokespecial 3, 3) := by decide +kernel
theorem dX4_init_4 : decode cX4_init 4 = .ok (.aload_n 0, 1) := by decide +kernel
theorem dX4_init_5 : decode cX4_init 5 = .ok (.bipush 8, 2) := by decide +kernel
theorem dX4_init_7 : decode cX4_init 7 = .ok (.newarray .int, 2) := by decide +kernel
theorem dX4_init_9 : decode cX4_init 9 = .ok (.putfield 9, 3) := by decide +kernel
theorem dX4_init_12 : decode cX4_init 12 = .ok (.return_, 1) := by decide +kernel
theorem dX4_copyFrom_0 : decode cX4_copyFrom 0 = .ok (.aload_n 1, 1) := by decide +kernel
theorem dX4_copyFrom_1 : decode cX4_copyFrom 1 = .ok (.getfield 9, 3) := by decide +kernel
theorem dX4_copyFrom_4 : decode cX4_copyFrom 4 = .ok (.iconst 0, 1) := by decide +kernel
theorem dX4_copyFrom_5 : decode cX4_copyFrom 5 = .ok (.aload_n 0, 1) := by decide +kernel
theorem dX4_copyFrom_6 : decode cX4_copyFrom 6 = .ok (.getfield 9, 3) := by decide +kernel
theorem dX4_copyFrom_9 : decode cX4_copyFrom 9 = .ok (.iconst 0, 1) := by decide +kernel
theorem dX4_copyFrom_10 : decode cX4_copyFrom 10 = .ok (.bipush 8, 2) := by decide +kernel
theorem dX4_copyFrom_12 : decode cX4_copyFrom 12 = .ok (.invokestatic 15, 3) := by decide +kernel
theorem dX4_copyFrom_15 : decode cX4_copyFrom 15 = .ok (.aload_n 0, 1) := by decide +kernel
theorem dX4_copyFrom_16 : decode cX4_copyFrom 16 = .ok (.aload_n 1, 1) := by decide +kernel
theorem dX4_copyFrom_17 : decode cX4_copyFrom 17 = .ok (.getfield 21, 3) := by decide +kernel
theorem dX4_copyFrom_20 : decode cX4_copyFrom 20 = .ok (.putfield 21, 3) := by decide +kernel
theorem dX4_copyFrom_23 : decode cX4_copyFrom 23 = .ok (.aload_n 0, 1) := by decide +kernel
theorem dX4_copyFrom_24 : decode cX4_copyFrom 24 = .ok (.aload_n 1, 1) := by decide +kernel
theorem dX4_copyFrom_25 : decode cX4_copyFrom 25 = .ok (.getfield 25, 3) := by decide +kernel
theorem dX4_copyFrom_28 : decode cX4_copyFrom 28 = .ok (.putfield 25, 3) := by decide +kernel
theorem dX4_copyFrom_31 : decode cX4_copyFrom 31 = .ok (.aload_n 0, 1) := by decide +kernel
theorem dX4_copyFrom_32 : decode cX4_copyFrom 32 = .ok (.aload_n 1, 1) := by decide +kernel
theorem dX4_copyFrom_33 : decode cX4_copyFrom 33 = .ok (.getfield 28, 3) := by decide +kernel
theorem dX4_copyFrom_36 : decode cX4_copyFrom 36 = .ok (.putfield 28, 3) := by decide +kernel
theorem dX4_copyFrom_39 : decode cX4_copyFrom 39 = .ok (.return_, 1) := by decide +kernel
theorem dX4_clear_0 : decode cX4_clear 0 = .ok (.aload_n 0, 1) := by decide +kernel
theorem dX4_clear_1 : decode cX4_clear 1 = .ok (.iconst 0, 1) := by decide +kernel
theorem dX4_clear_2 : decode cX4_clear 2 = .ok (.putfield 21, 3) := by decide +kernel
theorem dX4_clear_5 : decode cX4_clear 5 = .ok (.aload_n 0, 1) := by decide +kernel
theorem dX4_clear_6 : decode cX4_clear 6 = .ok (.iconst 0, 1) := by decide +kernel
theorem dX4_clear_7 : decode cX4_clear 7 = .ok (.putfield 25, 3) := by decide +kernel
theorem dX4_clear_10 : decode cX4_clear 10 = .ok (.aload_n 0, 1) := by decide +kernel
theorem dX4_clear_11 : decode cX4_clear 11 = .ok (.iconst 0, 1) := by decide +kernel
theorem dX4_clear_12 : decode cX4_clear 12 = .ok (.putfield 28, 3) := by decide +kernel
theorem dX4_clear_15 : decode cX4_clear 15 = .ok (.return_, 1) := by decide +kernel
theorem dX4_addWord_0 : decode cX4_addWord 0 = .ok (.aload_n 0, 1) := by decide +kernel
theorem dX4_addWord_1 : decode cX4_addWord 1 = .ok (.getfield 21, 3) := by decide +kernel
theorem dX4_addWord_4 : decode cX4_addWord 4 = .ok (.bipush 8, 2) := by decide +kernel
theorem dX4_addWord_6 : decode cX4_addWord 6 = .ok (.if_icmp .ge 39, 3) := by decide +kernel
theorem dX4_addWord_9 : decode cX4_addWord 9 = .ok (.aload_n 0, 1) := by decide +kernel
theorem dX4_addWord_10 : decode cX4_addWord 10 = .ok (.getfield 9, 3) := by decide +kernel
theorem dX4_addWord_13 : decode cX4_addWord 13 = .ok (.aload_n 0, 1) := by decide +kernel
theorem dX4_addWord_14 : decode cX4_addWord 14 = .ok (.getfield 21, 3) := by decide +kernel
theorem dX4_addWord_17 : decode cX4_addWord 17 = .ok (.iload_n 1, 1) := by decide +kernel
theorem dX4_addWord_18 : decode cX4_addWord 18 = .ok (.iconst 4, 1) := by decide +kernel
theorem dX4_addWord_19 : decode cX4_addWord 19 = .ok (.ishl, 1) := by decide +kernel
theorem dX4_addWord_20 : decode cX4_addWord 20 = .ok (.iload_n 2, 1) := by decide +kernel
theorem dX4_addWord_21 : decode cX4_addWord 21 = .ok (.iconst 1, 1) := by decide +kernel
theorem dX4_addWord_22 : decode cX4_addWord 22 = .ok (.ishl, 1) := by decide +kernel
theorem dX4_addWord_23 : decode cX4_addWord 23 = .ok (.ior, 1) := by decide +kernel
theorem dX4_addWord_24 : decode cX4_addWord 24 = .ok (.iload_n 3, 1) := by decide +kernel
theorem dX4_addWord_25 : decode cX4_addWord 25 = .ok (.ifCond .eq 7, 3) := by decide +kernel
theorem dX4_addWord_28 : decode cX4_addWord 28 = .ok (.iconst 1, 1) := by decide +kernel
theorem dX4_addWord_29 : decode cX4_addWord 29 = .ok (.goto 4, 3) := by decide +kernel
theorem dX4_addWord_32 : decode cX4_addWord 32 = .ok (.iconst 0, 1) := by decide +kernel
theorem dX4_addWord_33 : decode cX4_addWord 33 = .ok (.ior, 1) := by decide +kernel
theorem dX4_addWord_34 : decode cX4_addWord 34 = .ok (.iastore, 1) := by decide +kernel
theorem dX4_addWord_35 : decode cX4_addWord 35 = .ok (.aload_n 0, 1) := by decide +kernel
theorem dX4_addWord_36 : decode cX4_addWord 36 = .ok (.dup, 1) := by decide +kernel
theorem dX4_addWord_37 : decode cX4_addWord 37 = .ok (.getfield 21, 3) := by decide +kernel
theorem dX4_addWord_40 : decode cX4_addWord 40 = .ok (.iconst 1, 1) := by decide +kernel
theorem dX4_addWord_41 : decode cX4_addWord 41 = .ok (.iadd, 1) := by decide +kernel
theorem dX4_addWord_42 : decode cX4_addWord 42 = .ok (.putfield 21, 3) := by decide +kernel
theorem dX4_addWord_45 : decode cX4_addWord 45 = .ok (.return_, 1) := by decide +kernel
theorem dX4_isPlace_0 : decode cX4_isPlace 0 = .ok (.iload_n 1, 1) := by decide +kernel
theorem dX4_isPlace_1 : decode cX4_isPlace 1 = .ok (.ifCond .lt 15, 3) := by decide +kernel
theorem dX4_isPlace_4 : decode cX4_isPlace 4 = .ok (.iload_n 1, 1) := by decide +kernel
theorem dX4_isPlace_5 : decode cX4_isPlace 5 = .ok (.aload_n 0, 1) := by decide +kernel
theorem dX4_isPlace_6 : decode cX4_isPlace 6 = .ok (.getfield 21, 3) := by decide +kernel
theorem dX4_isPlace_9 : decode cX4_isPlace 9 = .ok (.if_icmp .ge 7, 3) := by decide +kernel
theorem dX4_isPlace_12 : decode cX4_isPlace 12 = .ok (.iconst 1, 1) := by decide +kernel
theorem dX4_isPlace_13 : decode cX4_isPlace 13 = .ok (.goto 4, 3) := by decide +kernel
theorem dX4_isPlace_16 : decode cX4_isPlace 16 = .ok (.iconst 0, 1) := by decide +kernel
theorem dX4_isPlace_17 : decode cX4_isPlace 17 = .ok (.ireturn, 1) := by decide +kernel
theorem dX4_nameAt_0 : decode cX4_nameAt 0 = .ok (.aload_n 0, 1) := by decide +kernel
theorem dX4_nameAt_1 : decode cX4_nameAt 1 = .ok (.iload_n 1, 1) := by decide +kernel
theorem dX4_nameAt_2 : decode cX4_nameAt 2 = .ok (.invokevirtual 31, 3) := by decide +kernel
theorem dX4_nameAt_5 : decode cX4_nameAt 5 = .ok (.ifCond .eq 14, 3) := by decide +kernel
theorem dX4_nameAt_8 : decode cX4_nameAt 8 = .ok (.aload_n 0, 1) := by decide +kernel
theorem dX4_nameAt_9 : decode cX4_nameAt 9 = .ok (.getfield 9, 3) := by decide +kernel
theorem dX4_nameAt_12 : decode cX4_nameAt 12 = .ok (.iload_n 1, 1) := by decide +kernel
theorem dX4_nameAt_13 : decode cX4_nameAt 13 = .ok (.iaload, 1) := by decide +kernel
theorem dX4_nameAt_14 : decode cX4_nameAt 14 = .ok (.iconst 4, 1) := by decide +kernel
theorem dX4_nameAt_15 : decode cX4_nameAt 15 = .ok (.ishr, 1) := by decide +kernel
theorem dX4_nameAt_16 : decode cX4_nameAt 16 = .ok (.goto 4, 3) := by decide +kernel
theorem dX4_nameAt_19 : decode cX4_nameAt 19 = .ok (.iconst 0, 1) := by decide +kernel
theorem dX4_nameAt_20 : decode cX4_nameAt 20 = .ok (.ireturn, 1) := by decide +kernel
theorem dX4_hopsAt_0 : decode cX4_hopsAt 0 = .ok (.aload_n 0, 1) := by decide +kernel
theorem dX4_hopsAt_1 : decode cX4_hopsAt 1 = .ok (.iload_n 1, 1) := by decide +kernel
theorem dX4_hopsAt_2 : decode cX4_hopsAt 2 = .ok (.invokevirtual 31, 3) := by decide +kernel
theorem dX4_hopsAt_5 : decode cX4_hopsAt 5 = .ok (.ifCond .eq 17, 3) := by decide +kernel
theorem dX4_hopsAt_8 : decode cX4_hopsAt 8 = .ok (.aload_n 0, 1) := by decide +kernel
theorem dX4_hopsAt_9 : decode cX4_hopsAt 9 = .ok (.getfield 9, 3) := by decide +kernel
theorem dX4_hopsAt_12 : decode cX4_hopsAt 12 = .ok (.iload_n 1, 1) := by decide +kernel
theorem dX4_hopsAt_13 : decode cX4_hopsAt 13 = .ok (.iaload, 1) := by decide +kernel
theorem dX4_hopsAt_14 : decode cX4_hopsAt 14 = .ok (.iconst 1, 1) := by decide +kernel
theorem dX4_hopsAt_15 : decode cX4_hopsAt 15 = .ok (.ishr, 1) := by decide +kernel
theorem dX4_hopsAt_16 : decode cX4_hopsAt 16 = .ok (.bipush 7, 2) := by decide +kernel
theorem dX4_hopsAt_18 : decode cX4_hopsAt 18 = .ok (.iand, 1) := by decide +kernel
theorem dX4_hopsAt_19 : decode cX4_hopsAt 19 = .ok (.goto 4, 3) := by decide +kernel
theorem dX4_hopsAt_22 : decode cX4_hopsAt 22 = .ok (.iconst 0, 1) := by decide +kernel
theorem dX4_hopsAt_23 : decode cX4_hopsAt 23 = .ok (.ireturn, 1) := by decide +kernel
theorem dX4_isSpentAt_0 : decode cX4_isSpentAt 0 = .ok (.aload_n 0, 1) := by decide +kernel
theorem dX4_isSpentAt_1 : decode cX4_isSpentAt 1 = .ok (.iload_n 1, 1) := by decide +kernel
theorem dX4_isSpentAt_2 : decode cX4_isSpentAt 2 = .ok (.invokevirtual 31, 3) := by decide +kernel
theorem dX4_isSpentAt_5 : decode cX4_isSpentAt 5 = .ok (.ifCond .eq 18, 3) := by decide +kernel
theorem dX4_isSpentAt_8 : decode cX4_isSpentAt 8 = .ok (.aload_n 0, 1) := by decide +kernel
theorem dX4_isSpentAt_9 : decode cX4_isSpentAt 9 = .ok (.getfield 9, 3) := by decide +kernel
theorem dX4_isSpentAt_12 : decode cX4_isSpentAt 12 = .ok (.iload_n 1, 1) := by decide +kernel
theorem dX4_isSpentAt_13 : decode cX4_isSpentAt 13 = .ok (.iaload, 1) := by decide +kernel
theorem dX4_isSpentAt_14 : decode cX4_isSpentAt 14 = .ok (.iconst 1, 1) := by decide +kernel
theorem dX4_isSpentAt_15 : decode cX4_isSpentAt 15 = .ok (.iand, 1) := by decide +kernel
theorem dX4_isSpentAt_16 : decode cX4_isSpentAt 16 = .ok (.ifCond .eq 7, 3) := by decide +kernel
theorem dX4_isSpentAt_19 : decode cX4_isSpentAt 19 = .ok (.iconst 1, 1) := by decide +kernel
theorem dX4_isSpentAt_20 : decode cX4_isSpentAt 20 = .ok (.goto 4, 3) := by decide +kernel
theorem dX4_isSpentAt_23 : decode cX4_isSpentAt 23 = .ok (.iconst 0, 1) := by decide +kernel
theorem dX4_isSpentAt_24 : decode cX4_isSpentAt 24 = .ok (.ireturn, 1) := by decide +kernel
theorem dX4_firstUnspent_0 : decode cX4_firstUnspent 0 = .ok (.iconst 0, 1) := by decide +kernel
theorem dX4_firstUnspent_1 : decode cX4_firstUnspent 1 = .ok (.istore_n 1, 1) := by decide +kernel
theorem dX4_firstUnspent_2 : decode cX4_firstUnspent 2 = .ok (.iload_n 1, 1) := by decide +kernel
theorem dX4_firstUnspent_3 : decode cX4_firstUnspent 3 = .ok (.aload_n 0, 1) := by decide +kernel
theorem dX4_firstUnspent_4 : decode cX4_firstUnspent 4 = .ok (.getfield 21, 3) := by decide +kernel
theorem dX4_firstUnspent_7 : decode cX4_firstUnspent 7 = .ok (.if_icmp .ge 22, 3) := by decide +kernel
theorem dX4_firstUnspent_10 : decode cX4_firstUnspent 10 = .ok (.aload_n 0, 1) := by decide +kernel
theorem dX4_firstUnspent_11 : decode cX4_firstUnspent 11 = .ok (.getfield 9, 3) := by decide +kernel
theorem dX4_firstUnspent_14 : decode cX4_firstUnspent 14 = .ok (.iload_n 1, 1) := by decide +kernel
theorem dX4_firstUnspent_15 : decode cX4_firstUnspent 15 = .ok (.iaload, 1) := by decide +kernel
theorem dX4_firstUnspent_16 : decode cX4_firstUnspent 16 = .ok (.iconst 1, 1) := by decide +kernel
theorem dX4_firstUnspent_17 : decode cX4_firstUnspent 17 = .ok (.iand, 1) := by decide +kernel
theorem dX4_firstUnspent_18 : decode cX4_firstUnspent 18 = .ok (.ifCond .ne 5, 3) := by decide +kernel
theorem dX4_firstUnspent_21 : decode cX4_firstUnspent 21 = .ok (.iload_n 1, 1) := by decide +kernel
theorem dX4_firstUnspent_22 : decode cX4_firstUnspent 22 = .ok (.ireturn, 1) := by decide +kernel
theorem dX4_firstUnspent_23 : decode cX4_firstUnspent 23 = .ok (.iinc 1 1, 3) := by decide +kernel
theorem dX4_firstUnspent_26 : decode cX4_firstUnspent 26 = .ok (.goto (-24), 3) := by decide +kernel
theorem dX4_firstUnspent_29 : decode cX4_firstUnspent 29 = .ok (.bipush (-6), 2) := by decide +kernel
theorem dX4_firstUnspent_31 : decode cX4_firstUnspent 31 = .ok (.ireturn, 1) := by decide +kernel
theorem dX4_spentWords_0 : decode cX4_spentWords 0 = .ok (.iconst 0, 1) := by decide +kernel
theorem dX4_spentWords_1 : decode cX4_spentWords 1 = .ok (.istore_n 1, 1) := by decide +kernel
theorem dX4_spentWords_2 : decode cX4_spentWords 2 = .ok (.iconst 0, 1) := by decide +kernel
theorem dX4_spentWords_3 : decode cX4_spentWords 3 = .ok (.istore_n 2, 1) := by decide +kernel
theorem dX4_spentWords_4 : decode cX4_spentWords 4 = .ok (.iload_n 2, 1) := by decide +kernel
theorem dX4_spentWords_5 : decode cX4_spentWords 5 = .ok (.aload_n 0, 1) := by decide +kernel
theorem dX4_spentWords_6 : decode cX4_spentWords 6 = .ok (.getfield 21, 3) := by decide +kernel
theorem dX4_spentWords_9 : decode cX4_spentWords 9 = .ok (.if_icmp .ge 20, 3) := by decide +kernel
theorem dX4_spentWords_12 : decode cX4_spentWords 12 = .ok (.iload_n 1, 1) := by decide +kernel
theorem dX4_spentWords_13 : decode cX4_spentWords 13 = .ok (.aload_n 0, 1) := by decide +kernel
theorem dX4_spentWords_14 : decode cX4_spentWords 14 = .ok (.getfield 9, 3) := by decide +kernel
theorem dX4_spentWords_17 : decode cX4_spentWords 17 = .ok (.iload_n 2, 1) := by decide +kernel
theorem dX4_spentWords_18 : decode cX4_spentWords 18 = .ok (.iaload, 1) := by decide +kernel
theorem dX4_spentWords_19 : decode cX4_spentWords 19 = .ok (.iconst 1, 1) := by decide +kernel
theorem dX4_spentWords_20 : decode cX4_spentWords 20 = .ok (.iand, 1) := by decide +kernel
theorem dX4_spentWords_21 : decode cX4_spentWords 21 = .ok (.iadd, 1) := by decide +kernel
theorem dX4_spentWords_22 : decode cX4_spentWords 22 = .ok (.istore_n 1, 1) := by decide +kernel
theorem dX4_spentWords_23 : decode cX4_spentWords 23 = .ok (.iinc 2 1, 3) := by decide +kernel
theorem dX4_spentWords_26 : decode cX4_spentWords 26 = .ok (.goto (-22), 3) := by decide +kernel
theorem dX4_spentWords_29 : decode cX4_spentWords 29 = .ok (.iload_n 1, 1) := by decide +kernel
theorem dX4_spentWords_30 : decode cX4_spentWords 30 = .ok (.ireturn, 1) := by decide +kernel
theorem dX4_placeOfSpent_0 : decode cX4_placeOfSpent 0 = .ok (.iconst 0, 1) := by decide +kernel
theorem dX4_placeOfSpent_1 : decode cX4_placeOfSpent 1 = .ok (.istore_n 2, 1) := by decide +kernel
theorem dX4_placeOfSpent_2 : decode cX4_placeOfSpent 2 = .ok (.iconst 0, 1) := by decide +kernel
theorem dX4_placeOfSpent_3 : decode cX4_placeOfSpent 3 = .ok (.istore_n 3, 1) := by decide +kernel
theorem dX4_placeOfSpent_4 : decode cX4_placeOfSpent 4 = .ok (.iload_n 3, 1) := by decide +kernel
theorem dX4_placeOfSpent_5 : decode cX4_placeOfSpent 5 = .ok (.aload_n 0, 1) := by decide +kernel
theorem dX4_placeOfSpent_6 : decode cX4_placeOfSpent 6 = .ok (.getfield 21, 3) := by decide +kernel
theorem dX4_placeOfSpent_9 : decode cX4_placeOfSpent 9 = .ok (.if_icmp .ge 30, 3) := by decide +kernel
theorem dX4_placeOfSpent_12 : decode cX4_placeOfSpent 12 = .ok (.aload_n 0, 1) := by decide +kernel
theorem dX4_placeOfSpent_13 : decode cX4_placeOfSpent 13 = .ok (.getfield 9, 3) := by decide +kernel
theorem dX4_placeOfSpent_16 : decode cX4_placeOfSpent 16 = .ok (.iload_n 3, 1) := by decide +kernel
theorem dX4_placeOfSpent_17 : decode cX4_placeOfSpent 17 = .ok (.iaload, 1) := by decide +kernel
theorem dX4_placeOfSpent_18 : decode cX4_placeOfSpent 18 = .ok (.iconst 1, 1) := by decide +kernel
theorem dX4_placeOfSpent_19 : decode cX4_placeOfSpent 19 = .ok (.iand, 1) := by decide +kernel
theorem dX4_placeOfSpent_20 : decode cX4_placeOfSpent 20 = .ok (.ifCond .eq 13, 3) := by decide +kernel
theorem dX4_placeOfSpent_23 : decode cX4_placeOfSpent 23 = .ok (.iload_n 2, 1) := by decide +kernel
theorem dX4_placeOfSpent_24 : decode cX4_placeOfSpent 24 = .ok (.iload_n 1, 1) := by decide +kernel
theorem dX4_placeOfSpent_25 : decode cX4_placeOfSpent 25 = .ok (.if_icmp .ne 5, 3) := by decide +kernel
theorem dX4_placeOfSpent_28 : decode cX4_placeOfSpent 28 = .ok (.iload_n 3, 1) := by decide +kernel
theorem dX4_placeOfSpent_29 : decode cX4_placeOfSpent 29 = .ok (.ireturn, 1) := by decide +kernel
theorem dX4_placeOfSpent_30 : decode cX4_placeOfSpent 30 = .ok (.iinc 2 1, 3) := by decide +kernel
theorem dX4_placeOfSpent_33 : decode cX4_placeOfSpent 33 = .ok (.iinc 3 1, 3) := by decide +kernel
theorem dX4_placeOfSpent_36 : decode cX4_placeOfSpent 36 = .ok (.goto (-32), 3) := by decide +kernel
theorem dX4_placeOfSpent_39 : decode cX4_placeOfSpent 39 = .ok (.bipush (-6), 2) := by decide +kernel
theorem dX4_placeOfSpent_41 : decode cX4_placeOfSpent 41 = .ok (.ireturn, 1) := by decide +kernel
theorem dX4_wasSentBy_0 : decode cX4_wasSentBy 0 = .ok (.aload_n 0, 1) := by decide +kernel
theorem dX4_wasSentBy_1 : decode cX4_wasSentBy 1 = .ok (.getfield 25, 3) := by decide +kernel
theorem dX4_wasSentBy_4 : decode cX4_wasSentBy 4 = .ok (.iload_n 1, 1) := by decide +kernel
theorem dX4_wasSentBy_5 : decode cX4_wasSentBy 5 = .ok (.if_icmp .ne 5, 3) := by decide +kernel
theorem dX4_wasSentBy_8 : decode cX4_wasSentBy 8 = .ok (.iconst 1, 1) := by decide +kernel
theorem dX4_wasSentBy_9 : decode cX4_wasSentBy 9 = .ok (.ireturn, 1) := by decide +kernel
theorem dX4_wasSentBy_10 : decode cX4_wasSentBy 10 = .ok (.iload_n 1, 1) := by decide +kernel
theorem dX4_wasSentBy_11 : decode cX4_wasSentBy 11 = .ok (.iconst 4, 1) := by decide +kernel
theorem dX4_wasSentBy_12 : decode cX4_wasSentBy 12 = .ok (.ishl, 1) := by decide +kernel
theorem dX4_wasSentBy_13 : decode cX4_wasSentBy 13 = .ok (.istore_n 2, 1) := by decide +kernel
theorem dX4_wasSentBy_14 : decode cX4_wasSentBy 14 = .ok (.iconst 0, 1) := by decide +kernel
theorem dX4_wasSentBy_15 : decode cX4_wasSentBy 15 = .ok (.istore_n 3, 1) := by decide +kernel
theorem dX4_wasSentBy_16 : decode cX4_wasSentBy 16 = .ok (.iload_n 3, 1) := by decide +kernel
theorem dX4_wasSentBy_17 : decode cX4_wasSentBy 17 = .ok (.aload_n 0, 1) := by decide +kernel
theorem dX4_wasSentBy_18 : decode cX4_wasSentBy 18 = .ok (.getfield 21, 3) := by decide +kernel
theorem dX4_wasSentBy_21 : decode cX4_wasSentBy 21 = .ok (.if_icmp .ge 35, 3) := by decide +kernel
theorem dX4_wasSentBy_24 : decode cX4_wasSentBy 24 = .ok (.aload_n 0, 1) := by decide +kernel
theorem dX4_wasSentBy_25 : decode cX4_wasSentBy 25 = .ok (.getfield 9, 3) := by decide +kernel
theorem dX4_wasSentBy_28 : decode cX4_wasSentBy 28 = .ok (.iload_n 3, 1) := by decide +kernel
theorem dX4_wasSentBy_29 : decode cX4_wasSentBy 29 = .ok (.iaload, 1) := by decide +kernel
theorem dX4_wasSentBy_30 : decode cX4_wasSentBy 30 = .ok (.iconst 1, 1) := by decide +kernel
theorem dX4_wasSentBy_31 : decode cX4_wasSentBy 31 = .ok (.iand, 1) := by decide +kernel
theorem dX4_wasSentBy_32 : decode cX4_wasSentBy 32 = .ok (.ifCond .eq 18, 3) := by decide +kernel
theorem dX4_wasSentBy_35 : decode cX4_wasSentBy 35 = .ok (.aload_n 0, 1) := by decide +kernel
theorem dX4_wasSentBy_36 : decode cX4_wasSentBy 36 = .ok (.getfield 9, 3) := by decide +kernel
theorem dX4_wasSentBy_39 : decode cX4_wasSentBy 39 = .ok (.iload_n 3, 1) := by decide +kernel
theorem dX4_wasSentBy_40 : decode cX4_wasSentBy 40 = .ok (.iaload, 1) := by decide +kernel
theorem dX4_wasSentBy_41 : decode cX4_wasSentBy 41 = .ok (.bipush (-16), 2) := by decide +kernel
theorem dX4_wasSentBy_43 : decode cX4_wasSentBy 43 = .ok (.iand, 1) := by decide +kernel
theorem dX4_wasSentBy_44 : decode cX4_wasSentBy 44 = .ok (.iload_n 2, 1) := by decide +kernel
theorem dX4_wasSentBy_45 : decode cX4_wasSentBy 45 = .ok (.if_icmp .ne 5, 3) := by decide +kernel
theorem dX4_wasSentBy_48 : decode cX4_wasSentBy 48 = .ok (.iconst 1, 1) := by decide +kernel
theorem dX4_wasSentBy_49 : decode cX4_wasSentBy 49 = .ok (.ireturn, 1) := by decide +kernel
theorem dX4_wasSentBy_50 : decode cX4_wasSentBy 50 = .ok (.iinc 3 1, 3) := by decide +kernel
theorem dX4_wasSentBy_53 : decode cX4_wasSentBy 53 = .ok (.goto (-37), 3) := by decide +kernel
theorem dX4_wasSentBy_56 : decode cX4_wasSentBy 56 = .ok (.iconst 0, 1) := by decide +kernel
theorem dX4_wasSentBy_57 : decode cX4_wasSentBy 57 = .ok (.ireturn, 1) := by decide +kernel
theorem dX4_spend_0 : decode cX4_spend 0 = .ok (.aload_n 0, 1) := by decide +kernel
theorem dX4_spend_1 : decode cX4_spend 1 = .ok (.iload_n 1, 1) := by decide +kernel
theorem dX4_spend_2 : decode cX4_spend 2 = .ok (.invokevirtual 31, 3) := by decide +kernel
theorem dX4_spend_5 : decode cX4_spend 5 = .ok (.ifCond .eq 14, 3) := by decide +kernel
theorem dX4_spend_8 : decode cX4_spend 8 = .ok (.aload_n 0, 1) := by decide +kernel
theorem dX4_spend_9 : decode cX4_spend 9 = .ok (.getfield 9, 3) := by decide +kernel
theorem dX4_spend_12 : decode cX4_spend 12 = .ok (.iload_n 1, 1) := by decide +kernel
theorem dX4_spend_13 : decode cX4_spend 13 = .ok (.iload_n 2, 1) := by decide +kernel
theorem dX4_spend_14 : decode cX4_spend 14 = .ok (.iconst 4, 1) := by decide +kernel
theorem dX4_spend_15 : decode cX4_spend 15 = .ok (.ishl, 1) := by decide +kernel
theorem dX4_spend_16 : decode cX4_spend 16 = .ok (.iconst 1, 1) := by decide +kernel
theorem dX4_spend_17 : decode cX4_spend 17 = .ok (.ior, 1) := by decide +kernel
theorem dX4_spend_18 : decode cX4_spend 18 = .ok (.iastore, 1) := by decide +kernel
theorem dX4_spend_19 : decode cX4_spend 19 = .ok (.return_, 1) := by decide +kernel
theorem dX4_setHops_0 : decode cX4_setHops 0 = .ok (.aload_n 0, 1) := by decide +kernel
theorem dX4_setHops_1 : decode cX4_setHops 1 = .ok (.iload_n 1, 1) := by decide +kernel
theorem dX4_setHops_2 : decode cX4_setHops 2 = .ok (.invokevirtual 31, 3) := by decide +kernel
theorem dX4_setHops_5 : decode cX4_setHops 5 = .ok (.ifCond .eq 22, 3) := by decide +kernel
theorem dX4_setHops_8 : decode cX4_setHops 8 = .ok (.aload_n 0, 1) := by decide +kernel
theorem dX4_setHops_9 : decode cX4_setHops 9 = .ok (.getfield 9, 3) := by decide +kernel
theorem dX4_setHops_12 : decode cX4_setHops 12 = .ok (.iload_n 1, 1) := by decide +kernel
theorem dX4_setHops_13 : decode cX4_setHops 13 = .ok (.aload_n 0, 1) := by decide +kernel
theorem dX4_setHops_14 : decode cX4_setHops 14 = .ok (.getfield 9, 3) := by decide +kernel
theorem dX4_setHops_17 : decode cX4_setHops 17 = .ok (.iload_n 1, 1) := by decide +kernel
theorem dX4_setHops_18 : decode cX4_setHops 18 = .ok (.iaload, 1) := by decide +kernel
theorem dX4_setHops_19 : decode cX4_setHops 19 = .ok (.bipush (-15), 2) := by decide +kernel
theorem dX4_setHops_21 : decode cX4_setHops 21 = .ok (.iand, 1) := by decide +kernel
theorem dX4_setHops_22 : decode cX4_setHops 22 = .ok (.iload_n 2, 1) := by decide +kernel
theorem dX4_setHops_23 : decode cX4_setHops 23 = .ok (.iconst 1, 1) := by decide +kernel
theorem dX4_setHops_24 : decode cX4_setHops 24 = .ok (.ishl, 1) := by decide +kernel
theorem dX4_setHops_25 : decode cX4_setHops 25 = .ok (.ior, 1) := by decide +kernel
theorem dX4_setHops_26 : decode cX4_setHops 26 = .ok (.iastore, 1) := by decide +kernel
theorem dX4_setHops_27 : decode cX4_setHops 27 = .ok (.return_, 1) := by decide +kernel
theorem dX4_putAhead_0 : decode cX4_putAhead 0 = .ok (.aload_n 0, 1) := by decide +kernel
theorem dX4_putAhead_1 : decode cX4_putAhead 1 = .ok (.iload_n 1, 1) := by decide +kernel
theorem dX4_putAhead_2 : decode cX4_putAhead 2 = .ok (.invokevirtual 31, 3) := by decide +kernel
theorem dX4_putAhead_5 : decode cX4_putAhead 5 = .ok (.ifCond .eq 12, 3) := by decide +kernel
theorem dX4_putAhead_8 : decode cX4_putAhead 8 = .ok (.aload_n 0, 1) := by decide +kernel
theorem dX4_putAhead_9 : decode cX4_putAhead 9 = .ok (.getfield 21, 3) := by decide +kernel
theorem dX4_putAhead_12 : decode cX4_putAhead 12 = .ok (.bipush 8, 2) := by decide +kernel
theorem dX4_putAhead_14 : decode cX4_putAhead 14 = .ok (.if_icmp .lt 4, 3) := by decide +kernel
theorem dX4_putAhead_17 : decode cX4_putAhead 17 = .ok (.return_, 1) := by decide +kernel
theorem dX4_putAhead_18 : decode cX4_putAhead 18 = .ok (.aload_n 0, 1) := by decide +kernel
theorem dX4_putAhead_19 : decode cX4_putAhead 19 = .ok (.getfield 21, 3) := by decide +kernel
theorem dX4_putAhead_22 : decode cX4_putAhead 22 = .ok (.istore_n 3, 1) := by decide +kernel
theorem dX4_putAhead_23 : decode cX4_putAhead 23 = .ok (.iload_n 3, 1) := by decide +kernel
theorem dX4_putAhead_24 : decode cX4_putAhead 24 = .ok (.iload_n 1, 1) := by decide +kernel
theorem dX4_putAhead_25 : decode cX4_putAhead 25 = .ok (.if_icmp .le 23, 3) := by decide +kernel
theorem dX4_putAhead_28 : decode cX4_putAhead 28 = .ok (.aload_n 0, 1) := by decide +kernel
theorem dX4_putAhead_29 : decode cX4_putAhead 29 = .ok (.getfield 9, 3) := by decide +kernel
theorem dX4_putAhead_32 : decode cX4_putAhead 32 = .ok (.iload_n 3, 1) := by decide +kernel
theorem dX4_putAhead_33 : decode cX4_putAhead 33 = .ok (.aload_n 0, 1) := by decide +kernel
theorem dX4_putAhead_34 : decode cX4_putAhead 34 = .ok (.getfield 9, 3) := by decide +kernel
theorem dX4_putAhead_37 : decode cX4_putAhead 37 = .ok (.iload_n 3, 1) := by decide +kernel
theorem dX4_putAhead_38 : decode cX4_putAhead 38 = .ok (.iconst 1, 1) := by decide +kernel
theorem dX4_putAhead_39 : decode cX4_putAhead 39 = .ok (.isub, 1) := by decide +kernel
theorem dX4_putAhead_40 : decode cX4_putAhead 40 = .ok (.iaload, 1) := by decide +kernel
theorem dX4_putAhead_41 : decode cX4_putAhead 41 = .ok (.iastore, 1) := by decide +kernel
theorem dX4_putAhead_42 : decode cX4_putAhead 42 = .ok (.iinc 3 (-1), 3) := by decide +kernel
theorem dX4_putAhead_45 : decode cX4_putAhead 45 = .ok (.goto (-22), 3) := by decide +kernel
theorem dX4_putAhead_48 : decode cX4_putAhead 48 = .ok (.aload_n 0, 1) := by decide +kernel
theorem dX4_putAhead_49 : decode cX4_putAhead 49 = .ok (.getfield 9, 3) := by decide +kernel
theorem dX4_putAhead_52 : decode cX4_putAhead 52 = .ok (.iload_n 1, 1) := by decide +kernel
theorem dX4_putAhead_53 : decode cX4_putAhead 53 = .ok (.iload_n 2, 1) := by decide +kernel
theorem dX4_putAhead_54 : decode cX4_putAhead 54 = .ok (.iconst 4, 1) := by decide +kernel
theorem dX4_putAhead_55 : decode cX4_putAhead 55 = .ok (.ishl, 1) := by decide +kernel
theorem dX4_putAhead_56 : decode cX4_putAhead 56 = .ok (.iconst 1, 1) := by decide +kernel
theorem dX4_putAhead_57 : decode cX4_putAhead 57 = .ok (.ior, 1) := by decide +kernel
theorem dX4_putAhead_58 : decode cX4_putAhead 58 = .ok (.iastore, 1) := by decide +kernel
theorem dX4_putAhead_59 : decode cX4_putAhead 59 = .ok (.aload_n 0, 1) := by decide +kernel
theorem dX4_putAhead_60 : decode cX4_putAhead 60 = .ok (.dup, 1) := by decide +kernel
theorem dX4_putAhead_61 : decode cX4_putAhead 61 = .ok (.getfield 21, 3) := by decide +kernel
theorem dX4_putAhead_64 : decode cX4_putAhead 64 = .ok (.iconst 1, 1) := by decide +kernel
theorem dX4_putAhead_65 : decode cX4_putAhead 65 = .ok (.iadd, 1) := by decide +kernel
theorem dX4_putAhead_66 : decode cX4_putAhead 66 = .ok (.putfield 21, 3) := by decide +kernel
theorem dX4_putAhead_69 : decode cX4_putAhead 69 = .ok (.return_, 1) := by decide +kernel
theorem dX5_init_0 : decode cX5_init 0 = .ok (.aload_n 0, 1) := by decide +kernel
theorem dX5_init_1 : decode cX5_init 1 = .ok (.invokespecial 3, 3) := by decide +kernel
theorem dX5_init_4 : decode cX5_init 4 = .ok (.aload_n 0, 1) := by decide +kernel
theorem dX5_init_5 : decode cX5_init 5 = .ok (.bipush 40, 2) := by decide +kernel
theorem dX5_init_7 : decode cX5_init 7 = .ok (.newarray .int, 2) := by decide +kernel
theorem dX5_init_9 : decode cX5_init 9 = .ok (.putfield 9, 3) := by decide +kernel
theorem dX5_init_12 : decode cX5_init 12 = .ok (.return_, 1) := by decide +kernel
theorem dX5_add_0 : decode cX5_add 0 = .ok (.aload_n 0, 1) := by decide +kernel
theorem dX5_add_1 : decode cX5_add 1 = .ok (.getfield 15, 3) := by decide +kernel
theorem dX5_add_4 : decode cX5_add 4 = .ok (.bipush 40, 2) := by decide +kernel
theorem dX5_add_6 : decode cX5_add 6 = .ok (.if_icmp .ge 23, 3) := by decide +kernel
theorem dX5_add_9 : decode cX5_add 9 = .ok (.aload_n 0, 1) := by decide +kernel
theorem dX5_add_10 : decode cX5_add 10 = .ok (.getfield 9, 3) := by decide +kernel
theorem dX5_add_13 : decode cX5_add 13 = .ok (.aload_n 0, 1) := by decide +kernel
theorem dX5_add_14 : decode cX5_add 14 = .ok (.getfield 15, 3) := by decide +kernel
theorem dX5_add_17 : decode cX5_add 17 = .ok (.iload_n 1, 1) := by decide +kernel
theorem dX5_add_18 : decode cX5_add 18 = .ok (.iastore, 1) := by decide +kernel
theorem dX5_add_19 : decode cX5_add 19 = .ok (.aload_n 0, 1) := by decide +kernel
theorem dX5_add_20 : decode cX5_add 20 = .ok (.dup, 1) := by decide +kernel
theorem dX5_add_21 : decode cX5_add 21 = .ok (.getfield 15, 3) := by decide +kernel
theorem dX5_add_24 : decode cX5_add 24 = .ok (.iconst 1, 1) := by decide +kernel
theorem dX5_add_25 : decode cX5_add 25 = .ok (.iadd, 1) := by decide +kernel
theorem dX5_add_26 : decode cX5_add 26 = .ok (.putfield 15, 3) := by decide +kernel
theorem dX5_add_29 : decode cX5_add 29 = .ok (.return_, 1) := by decide +kernel
theorem dX5_clear_0 : decode cX5_clear 0 = .ok (.aload_n 0, 1) := by decide +kernel
theorem dX5_clear_1 : decode cX5_clear 1 = .ok (.iconst 0, 1) := by decide +kernel
theorem dX5_clear_2 : decode cX5_clear 2 = .ok (.putfield 15, 3) := by decide +kernel
theorem dX5_clear_5 : decode cX5_clear 5 = .ok (.return_, 1) := by decide +kernel
theorem dX5_readName_0 : decode cX5_readName 0 = .ok (.aload_n 0, 1) := by decide +kernel
theorem dX5_readName_1 : decode cX5_readName 1 = .ok (.iconst 0, 1) := by decide +kernel
theorem dX5_readName_2 : decode cX5_readName 2 = .ok (.putfield 19, 3) := by decide +kernel
theorem dX5_readName_5 : decode cX5_readName 5 = .ok (.aload_n 0, 1) := by decide +kernel
theorem dX5_readName_6 : decode cX5_readName 6 = .ok (.bipush 65, 2) := by decide +kernel
theorem dX5_readName_8 : decode cX5_readName 8 = .ok (.iconst 3, 1) := by decide +kernel
theorem dX5_readName_9 : decode cX5_readName 9 = .ok (.invokevirtual 22, 3) := by decide +kernel
theorem dX5_readName_12 : decode cX5_readName 12 = .ok (.istore_n 1, 1) := by decide +kernel
theorem dX5_readName_13 : decode cX5_readName 13 = .ok (.aload_n 0, 1) := by decide +kernel
theorem dX5_readName_14 : decode cX5_readName 14 = .ok (.getfield 19, 3) := by decide +kernel
theorem dX5_readName_17 : decode cX5_readName 17 = .ok (.aload_n 0, 1) := by decide +kernel
theorem dX5_readName_18 : decode cX5_readName 18 = .ok (.getfield 15, 3) := by decide +kernel
theorem dX5_readName_21 : decode cX5_readName 21 = .ok (.if_icmp .ne 7, 3) := by decide +kernel
theorem dX5_readName_24 : decode cX5_readName 24 = .ok (.iload_n 1, 1) := by decide +kernel
theorem dX5_readName_25 : decode cX5_readName 25 = .ok (.goto 4, 3) := by decide +kernel
theorem dX5_readName_28 : decode cX5_readName 28 = .ok (.iconst 0, 1) := by decide +kernel
theorem dX5_readName_29 : decode cX5_readName 29 = .ok (.ireturn, 1) := by decide +kernel
theorem dX5_readPacket_0 : decode cX5_readPacket 0 = .ok (.aload_n 0, 1) := by decide +kernel
theorem dX5_readPacket_1 : decode cX5_readPacket 1 = .ok (.iconst 0, 1) := by decide +kernel
theorem dX5_readPacket_2 : decode cX5_readPacket 2 = .ok (.putfield 19, 3) := by decide +kernel
theorem dX5_readPacket_5 : decode cX5_readPacket 5 = .ok (.aload_n 1, 1) := by decide +kernel
theorem dX5_readPacket_6 : decode cX5_readPacket 6 = .ok (.invokevirtual 26, 3) := by decide +kernel
theorem dX5_readPacket_9 : decode cX5_readPacket 9 = .ok (.aload_n 1, 1) := by decide +kernel
theorem dX5_readPacket_10 : decode cX5_readPacket 10 = .ok (.aload_n 0, 1) := by decide +kernel
theorem dX5_readPacket_11 : decode cX5_readPacket 11 = .ok (.bipush 65, 2) := by decide +kernel
theorem dX5_readPacket_13 : decode cX5_readPacket 13 = .ok (.iconst 3, 1) := by decide +kernel
theorem dX5_readPacket_14 : decode cX5_readPacket 14 = .ok (.invokevirtual 22, 3) := by decide +kernel
theorem dX5_readPacket_17 : decode cX5_readPacket 17 = .ok (.putfield 31, 3) := by decide +kernel
theorem dX5_readPacket_20 : decode cX5_readPacket 20 = .ok (.aload_n 1, 1) := by decide +kernel
theorem dX5_readPacket_21 : decode cX5_readPacket 21 = .ok (.getfield 31, 3) := by decide +kernel
theorem dX5_readPacket_24 : decode cX5_readPacket 24 = .ok (.ifCond .eq 29, 3) := by decide +kernel
theorem dX5_readPacket_27 : decode cX5_readPacket 27 = .ok (.aload_n 0, 1) := by decide +kernel
theorem dX5_readPacket_28 : decode cX5_readPacket 28 = .ok (.bipush 62, 2) := by decide +kernel
theorem dX5_readPacket_30 : decode cX5_readPacket 30 = .ok (.invokevirtual 34, 3) := by decide +kernel
theorem dX5_readPacket_33 : decode cX5_readPacket 33 = .ok (.ifCond .eq 20, 3) := by decide +kernel
theorem dX5_readPacket_36 : decode cX5_readPacket 36 = .ok (.aload_n 0, 1) := by decide +kernel
theorem dX5_readPacket_37 : decode cX5_readPacket 37 = .ok (.aload_n 1, 1) := by decide +kernel
theorem dX5_readPacket_38 : decode cX5_readPacket 38 = .ok (.invokevirtual 38, 3) := by decide +kernel
theorem dX5_readPacket_41 : decode cX5_readPacket 41 = .ok (.ifCond .eq 12, 3) := by decide +kernel
theorem dX5_readPacket_44 : decode cX5_readPacket 44 = .ok (.aload_n 0, 1) := by decide +kernel
theorem dX5_readPacket_45 : decode cX5_readPacket 45 = .ok (.bipush 58, 2) := by decide +kernel
theorem dX5_readPacket_47 : decode cX5_readPacket 47 = .ok (.invokevirtual 34, 3) := by decide +kernel
theorem dX5_readPacket_50 : decode cX5_readPacket 50 = .ok (.ifCond .ne 8, 3) := by decide +kernel
theorem dX5_readPacket_53 : decode cX5_readPacket 53 = .ok (.aload_n 0, 1) := by decide +kernel
theorem dX5_readPacket_54 : decode cX5_readPacket 54 = .ok (.getfield 19, 3) := by decide +kernel
theorem dX5_readPacket_57 : decode cX5_readPacket 57 = .ok (.ireturn, 1) := by decide +kernel
theorem dX5_readPacket_58 : decode cX5_readPacket 58 = .ok (.aload_n 1, 1) := by decide +kernel
theorem dX5_readPacket_59 : decode cX5_readPacket 59 = .ok (.aload_n 0, 1) := by decide +kernel
theorem dX5_readPacket_60 : decode cX5_readPacket 60 = .ok (.bipush 97, 2) := by decide +kernel
theorem dX5_readPacket_62 : decode cX5_readPacket 62 = .ok (.iconst 4, 1) := by decide +kernel
theorem dX5_readPacket_63 : decode cX5_readPacket 63 = .ok (.invokevirtual 22, 3) := by decide +kernel
theorem dX5_readPacket_66 : decode cX5_readPacket 66 = .ok (.putfield 42, 3) := by decide +kernel
theorem dX5_readPacket_69 : decode cX5_readPacket 69 = .ok (.aload_n 1, 1) := by decide +kernel
theorem dX5_readPacket_70 : decode cX5_readPacket 70 = .ok (.getfield 42, 3) := by decide +kernel
theorem dX5_readPacket_73 : decode cX5_readPacket 73 = .ok (.ifCond .eq 14, 3) := by decide +kernel
theorem dX5_readPacket_76 : decode cX5_readPacket 76 = .ok (.aload_n 0, 1) := by decide +kernel
theorem dX5_readPacket_77 : decode cX5_readPacket 77 = .ok (.getfield 19, 3) := by decide +kernel
theorem dX5_readPacket_80 : decode cX5_readPacket 80 = .ok (.aload_n 0, 1) := by decide +kernel
theorem dX5_readPacket_81 : decode cX5_readPacket 81 = .ok (.getfield 15, 3) := by decide +kernel
theorem dX5_readPacket_84 : decode cX5_readPacket 84 = .ok (.if_icmp .ge 8, 3) := by decide +kernel
theorem dX5_readPacket_87 : decode cX5_readPacket 87 = .ok (.aload_n 0, 1) := by decide +kernel
theorem dX5_readPacket_88 : decode cX5_readPacket 88 = .ok (.getfield 19, 3) := by decide +kernel
theorem dX5_readPacket_91 : decode cX5_readPacket 91 = .ok (.ireturn, 1) := by decide +kernel
theorem dX5_readPacket_92 : decode cX5_readPacket 92 = .ok (.bipush (-6), 2) := by decide +kernel
theorem dX5_readPacket_94 : decode cX5_readPacket 94 = .ok (.ireturn, 1) := by decide +kernel
theorem dX5_readWords_0 : decode cX5_readWords 0 = .ok (.aload_n 0, 1) := by decide +kernel
theorem dX5_readWords_1 : decode cX5_readWords 1 = .ok (.invokevirtual 45, 3) := by decide +kernel
theorem dX5_readWords_4 : decode cX5_readWords 4 = .ok (.bipush 58, 2) := by decide +kernel
theorem dX5_readWords_6 : decode cX5_readWords 6 = .ok (.if_icmp .ne 5, 3) := by decide +kernel
theorem dX5_readWords_9 : decode cX5_readWords 9 = .ok (.iconst 1, 1) := by decide +kernel
theorem dX5_readWords_10 : decode cX5_readWords 10 = .ok (.ireturn, 1) := by decide +kernel
theorem dX5_readWords_11 : decode cX5_readWords 11 = .ok (.iconst 0, 1) := by decide +kernel
theorem dX5_readWords_12 : decode cX5_readWords 12 = .ok (.istore_n 2, 1) := by decide +kernel
theorem dX5_readWords_13 : decode cX5_readWords 13 = .ok (.iload_n 2, 1) := by decide +kernel
theorem dX5_readWords_14 : decode cX5_readWords 14 = .ok (.iconst 5, 1) := by decide +kernel
theorem dX5_readWords_15 : decode cX5_readWords 15 = .ok (.if_icmp .ge 34, 3) := by decide +kernel
theorem dX5_readWords_18 : decode cX5_readWords 18 = .ok (.iload_n 2, 1) := by decide +kernel
theorem dX5_readWords_19 : decode cX5_readWords 19 = .ok (.ifCond .le 14, 3) := by decide +kernel
theorem dX5_readWords_22 : decode cX5_readWords 22 = .ok (.aload_n 0, 1) := by decide +kernel
theorem dX5_readWords_23 : decode cX5_readWords 23 = .ok (.bipush 44, 2) := by decide +kernel
theorem dX5_readWords_25 : decode cX5_readWords 25 = .ok (.invokevirtual 34, 3) := by decide +kernel
theorem dX5_readWords_28 : decode cX5_readWords 28 = .ok (.ifCond .ne 5, 3) := by decide +kernel
theorem dX5_readWords_31 : decode cX5_readWords 31 = .ok (.iconst 1, 1) := by decide +kernel
theorem dX5_readWords_32 : decode cX5_readWords 32 = .ok (.ireturn, 1) := by decide +kernel
theorem dX5_readWords_33 : decode cX5_readWords 33 = .ok (.aload_n 0, 1) := by decide +kernel
theorem dX5_readWords_34 : decode cX5_readWords 34 = .ok (.aload_n 1, 1) := by decide +kernel
theorem dX5_readWords_35 : decode cX5_readWords 35 = .ok (.invokevirtual 49, 3) := by decide +kernel
theorem dX5_readWords_38 : decode cX5_readWords 38 = .ok (.ifCond .ne 5, 3) := by decide +kernel
theorem dX5_readWords_41 : decode cX5_readWords 41 = .ok (.iconst 0, 1) := by decide +kernel
theorem dX5_readWords_42 : decode cX5_readWords 42 = .ok (.ireturn, 1) := by decide +kernel
theorem dX5_readWords_43 : decode cX5_readWords 43 = .ok (.iinc 2 1, 3) := by decide +kernel
theorem dX5_readWords_46 : decode cX5_readWords 46 = .ok (.goto (-33), 3) := by decide +kernel
theorem dX5_readWords_49 : decode cX5_readWords 49 = .ok (.iconst 1, 1) := by decide +kernel
theorem dX5_readWords_50 : decode cX5_readWords 50 = .ok (.ireturn, 1) := by decide +kernel
theorem dX5_readWord_0 : decode cX5_readWord 0 = .ok (.aload_n 0, 1) := by decide +kernel
theorem dX5_readWord_1 : decode cX5_readWord 1 = .ok (.bipush 65, 2) := by decide +kernel
theorem dX5_readWord_3 : decode cX5_readWord 3 = .ok (.iconst 3, 1) := by decide +kernel
theorem dX5_readWord_4 : decode cX5_readWord 4 = .ok (.invokevirtual 22, 3) := by decide +kernel
theorem dX5_readWord_7 : decode cX5_readWord 7 = .ok (.istore_n 2, 1) := by decide +kernel
theorem dX5_readWord_8 : decode cX5_readWord 8 = .ok (.iload_n 2, 1) := by decide +kernel
theorem dX5_readWord_9 : decode cX5_readWord 9 = .ok (.ifCond .ne 5, 3) := by decide +kernel
theorem dX5_readWord_12 : decode cX5_readWord 12 = .ok (.iconst 0, 1) := by decide +kernel
theorem dX5_readWord_13 : decode cX5_readWord 13 = .ok (.ireturn, 1) := by decide +kernel
theorem dX5_readWord_14 : decode cX5_readWord 14 = .ok (.iconst 0, 1) := by decide +kernel
theorem dX5_readWord_15 : decode cX5_readWord 15 = .ok (.istore_n 3, 1) := by decide +kernel
theorem dX5_readWord_16 : decode cX5_readWord 16 = .ok (.aload_n 0, 1) := by decide +kernel
theorem dX5_readWord_17 : decode cX5_readWord 17 = .ok (.bipush 45, 2) := by decide +kernel
theorem dX5_readWord_19 : decode cX5_readWord 19 = .ok (.invokevirtual 34, 3) := by decide +kernel
theorem dX5_readWord_22 : decode cX5_readWord 22 = .ok (.ifCond .eq 30, 3) := by decide +kernel
theorem dX5_readWord_25 : decode cX5_readWord 25 = .ok (.aload_n 0, 1) := by decide +kernel
theorem dX5_readWord_26 : decode cX5_readWord 26 = .ok (.invokevirtual 45, 3) := by decide +kernel
theorem dX5_readWord_29 : decode cX5_readWord 29 = .ok (.bipush 48, 2) := by decide +kernel
theorem dX5_readWord_31 : decode cX5_readWord 31 = .ok (.isub, 1) := by decide +kernel
theorem dX5_readWord_32 : decode cX5_readWord 32 = .ok (.istore_n 3, 1) := by decide +kernel
theorem dX5_readWord_33 : decode cX5_readWord 33 = .ok (.iload_n 3, 1) := by decide +kernel
theorem dX5_readWord_34 : decode cX5_readWord 34 = .ok (.invokestatic 52, 3) := by decide +kernel
theorem dX5_readWord_37 : decode cX5_readWord 37 = .ok (.ifCond .ne 5, 3) := by decide +kernel
theorem dX5_readWord_40 : decode cX5_readWord 40 = .ok (.iconst 0, 1) := by decide +kernel
theorem dX5_readWord_41 : decode cX5_readWord 41 = .ok (.ireturn, 1) := by decide +kernel
theorem dX5_readWord_42 : decode cX5_readWord 42 = .ok (.aload_n 0, 1) := by decide +kernel
theorem dX5_readWord_43 : decode cX5_readWord 43 = .ok (.dup, 1) := by decide +kernel
theorem dX5_readWord_44 : decode cX5_readWord 44 = .ok (.getfield 19, 3) := by decide +kernel
theorem dX5_readWord_47 : decode cX5_readWord 47 = .ok (.iconst 1, 1) := by decide +kernel
theorem dX5_readWord_48 : decode cX5_readWord 48 = .ok (.iadd, 1) := by decide +kernel
theorem dX5_readWord_49 : decode cX5_readWord 49 = .ok (.putfield 19, 3) := by decide +kernel
theorem dX5_readWord_52 : decode cX5_readWord 52 = .ok (.aload_n 1, 1) := by decide +kernel
theorem dX5_readWord_53 : decode cX5_readWord 53 = .ok (.iload_n 2, 1) := by decide +kernel
theorem dX5_readWord_54 : decode cX5_readWord 54 = .ok (.iload_n 3, 1) := by decide +kernel
theorem dX5_readWord_55 : decode cX5_readWord 55 = .ok (.aload_n 0, 1) := by decide +kernel
theorem dX5_readWord_56 : decode cX5_readWord 56 = .ok (.bipush 42, 2) := by decide +kernel
theorem dX5_readWord_58 : decode cX5_readWord 58 = .ok (.invokevirtual 34, 3) := by decide +kernel
theorem dX5_readWord_61 : decode cX5_readWord 61 = .ok (.invokevirtual 55, 3) := by decide +kernel
theorem dX5_readWord_64 : decode cX5_readWord 64 = .ok (.iconst 1, 1) := by decide +kernel
theorem dX5_readWord_65 : decode cX5_readWord 65 = .ok (.ireturn, 1) := by decide +kernel
theorem dX5_readLetters_0 : decode cX5_readLetters 0 = .ok (.iconst 0, 1) := by decide +kernel
theorem dX5_readLetters_1 : decode cX5_readLetters 1 = .ok (.istore_n 3, 1) := by decide +kernel
theorem dX5_readLetters_2 : decode cX5_readLetters 2 = .ok (.iconst 0, 1) := by decide +kernel
theorem dX5_readLetters_3 : decode cX5_readLetters 3 = .ok (.istore 4, 2) := by decide +kernel
theorem dX5_readLetters_5 : decode cX5_readLetters 5 = .ok (.iload 4, 2) := by decide +kernel
theorem dX5_readLetters_7 : decode cX5_readLetters 7 = .ok (.iload_n 2, 1) := by decide +kernel
theorem dX5_readLetters_8 : decode cX5_readLetters 8 = .ok (.if_icmp .ge 51, 3) := by decide +kernel
theorem dX5_readLetters_11 : decode cX5_readLetters 11 = .ok (.aload_n 0, 1) := by decide +kernel
theorem dX5_readLetters_12 : decode cX5_readLetters 12 = .ok (.invokevirtual 45, 3) := by decide +kernel
theorem dX5_readLetters_15 : decode cX5_readLetters 15 = .ok (.iload_n 1, 1) := by decide +kernel
theorem dX5_readLetters_16 : decode cX5_readLetters 16 = .ok (.isub, 1) := by decide +kernel
theorem dX5_readLetters_17 : decode cX5_readLetters 17 = .ok (.iconst 1, 1) := by decide +kernel
theorem dX5_readLetters_18 : decode cX5_readLetters 18 = .ok (.iadd, 1) := by decide +kernel
theorem dX5_readLetters_19 : decode cX5_readLetters 19 = .ok (.istore 5, 2) := by decide +kernel
theorem dX5_readLetters_21 : decode cX5_readLetters 21 = .ok (.iload 5, 2) := by decide +kernel
theorem dX5_readLetters_23 : decode cX5_readLetters 23 = .ok (.iconst 1, 1) := by decide +kernel
theorem dX5_readLetters_24 : decode cX5_readLetters 24 = .ok (.if_icmp .lt 10, 3) := by decide +kernel
theorem dX5_readLetters_27 : decode cX5_readLetters 27 = .ok (.iload 5, 2) := by decide +kernel
theorem dX5_readLetters_29 : decode cX5_readLetters 29 = .ok (.bipush 26, 2) := by decide +kernel
theorem dX5_readLetters_31 : decode cX5_readLetters 31 = .ok (.if_icmp .le 5, 3) := by decide +kernel
theorem dX5_readLetters_34 : decode cX5_readLetters 34 = .ok (.iload_n 3, 1) := by decide +kernel
theorem dX5_readLetters_35 : decode cX5_readLetters 35 = .ok (.ireturn, 1) := by decide +kernel
theorem dX5_readLetters_36 : decode cX5_readLetters 36 = .ok (.iload_n 3, 1) := by decide +kernel
theorem dX5_readLetters_37 : decode cX5_readLetters 37 = .ok (.iconst 5, 1) := by decide +kernel
theorem dX5_readLetters_38 : decode cX5_readLetters 38 = .ok (.ishl, 1) := by decide +kernel
theorem dX5_readLetters_39 : decode cX5_readLetters 39 = .ok (.iload 5, 2) := by decide +kernel
theorem dX5_readLetters_41 : decode cX5_readLetters 41 = .ok (.ior, 1) := by decide +kernel
theorem dX5_readLetters_42 : decode cX5_readLetters 42 = .ok (.istore_n 3, 1) := by decide +kernel
theorem dX5_readLetters_43 : decode cX5_readLetters 43 = .ok (.aload_n 0, 1) := by decide +kernel
theorem dX5_readLetters_44 : decode cX5_readLetters 44 = .ok (.dup, 1) := by decide +kernel
theorem dX5_readLetters_45 : decode cX5_readLetters 45 = .ok (.getfield 19, 3) := by decide +kernel
theorem dX5_readLetters_48 : decode cX5_readLetters 48 = .ok (.iconst 1, 1) := by decide +kernel
theorem dX5_readLetters_49 : decode cX5_readLetters 49 = .ok (.iadd, 1) := by decide +kernel
theorem dX5_readLetters_50 : decode cX5_readLetters 50 = .ok (.putfield 19, 3) := by decide +kernel
theorem dX5_readLetters_53 : decode cX5_readLetters 53 = .ok (.iinc 4 1, 3) := by decide +kernel
theorem dX5_readLetters_56 : decode cX5_readLetters 56 = .ok (.goto (-51), 3) := by decide +kernel
theorem dX5_readLetters_59 : decode cX5_readLetters 59 = .ok (.iload_n 3, 1) := by decide +kernel
theorem dX5_readLetters_60 : decode cX5_readLetters 60 = .ok (.ireturn, 1) := by decide +kernel
theorem dX5_take_0 : decode cX5_take 0 = .ok (.aload_n 0, 1) := by decide +kernel
theorem dX5_take_1 : decode cX5_take 1 = .ok (.invokevirtual 45, 3) := by decide +kernel
theorem dX5_take_4 : decode cX5_take 4 = .ok (.iload_n 1, 1) := by decide +kernel
theorem dX5_take_5 : decode cX5_take 5 = .ok (.if_icmp .eq 5, 3) := by decide +kernel
theorem dX5_take_8 : decode cX5_take 8 = .ok (.iconst 0, 1) := by decide +kernel
theorem dX5_take_9 : decode cX5_take 9 = .ok (.ireturn, 1) := by decide +kernel
theorem dX5_take_10 : decode cX5_take 10 = .ok (.aload_n 0, 1) := by decide +kernel
theorem dX5_take_11 : decode cX5_take 11 = .ok (.dup, 1) := by decide +kernel
theorem dX5_take_12 : decode cX5_take 12 = .ok (.getfield 19, 3) := by decide +kernel
theorem dX5_take_15 : decode cX5_take 15 = .ok (.iconst 1, 1) := by decide +kernel
theorem dX5_take_16 : decode cX5_take 16 = .ok (.iadd, 1) := by decide +kernel
theorem dX5_take_17 : decode cX5_take 17 = .ok (.putfield 19, 3) := by decide +kernel
theorem dX5_take_20 : decode cX5_take 20 = .ok (.iconst 1, 1) := by decide +kernel
theorem dX5_take_21 : decode cX5_take 21 = .ok (.ireturn, 1) := by decide +kernel
theorem dX5_peek_0 : decode cX5_peek 0 = .ok (.aload_n 0, 1) := by decide +kernel
theorem dX5_peek_1 : decode cX5_peek 1 = .ok (.getfield 19, 3) := by decide +kernel
theorem dX5_peek_4 : decode cX5_peek 4 = .ok (.ifCond .lt 35, 3) := by decide +kernel
theorem dX5_peek_7 : decode cX5_peek 7 = .ok (.aload_n 0, 1) := by decide +kernel
theorem dX5_peek_8 : decode cX5_peek 8 = .ok (.getfield 19, 3) := by decide +kernel
theorem dX5_peek_11 : decode cX5_peek 11 = .ok (.aload_n 0, 1) := by decide +kernel
theorem dX5_peek_12 : decode cX5_peek 12 = .ok (.getfield 15, 3) := by decide +kernel
theorem dX5_peek_15 : decode cX5_peek 15 = .ok (.if_icmp .ge 24, 3) := by decide +kernel
theorem dX5_peek_18 : decode cX5_peek 18 = .ok (.aload_n 0, 1) := by decide +kernel
theorem dX5_peek_19 : decode cX5_peek 19 = .ok (.getfield 19, 3) := by decide +kernel
theorem dX5_peek_22 : decode cX5_peek 22 = .ok (.bipush 40, 2) := by decide +kernel
theorem dX5_peek_24 : decode cX5_peek 24 = .ok (.if_icmp .ge 15, 3) := by decide +kernel
theorem dX5_peek_27 : decode cX5_peek 27 = .ok (.aload_n 0, 1) := by decide +kernel
theorem dX5_peek_28 : decode cX5_peek 28 = .ok (.getfield 9, 3) := by decide +kernel
theorem dX5_peek_31 : decode cX5_peek 31 = .ok (.aload_n 0, 1) := by decide +kernel
theorem dX5_peek_32 : decode cX5_peek 32 = .ok (.getfield 19, 3) := by decide +kernel
theorem dX5_peek_35 : decode cX5_peek 35 = .ok (.iaload, 1) := by decide +kernel
theorem dX5_peek_36 : decode cX5_peek 36 = .ok (.goto 4, 3) := by decide +kernel
theorem dX5_peek_39 : decode cX5_peek 39 = .ok (.iconst 0, 1) := by decide +kernel
theorem dX5_peek_40 : decode cX5_peek 40 = .ok (.ireturn, 1) := by decide +kernel
theorem dX6_init_0 : decode cX6_init 0 = .ok (.aload_n 0, 1) := by decide +kernel
theorem dX6_init_1 : decode cX6_init 1 = .ok (.invokespecial 3, 3) := by decide +kernel
theorem dX6_init_4 : decode cX6_init 4 = .ok (.aload_n 0, 1) := by decide +kernel
theorem dX6_init_5 : decode cX6_init 5 = .ok (.new 9, 3) := by decide +kernel
theorem dX6_init_8 : decode cX6_init 8 = .ok (.dup, 1) := by decide +kernel
theorem dX6_init_9 : decode cX6_init 9 = .ok (.invokespecial 11, 3) := by decide +kernel
theorem dX6_init_12 : decode cX6_init 12 = .ok (.putfield 12, 3) := by decide +kernel
theorem dX6_init_15 : decode cX6_init 15 = .ok (.aload_n 0, 1) := by decide +kernel
theorem dX6_init_16 : decode cX6_init 16 = .ok (.new 9, 3) := by decide +kernel
theorem dX6_init_19 : decode cX6_init 19 = .ok (.dup, 1) := by decide +kernel
theorem dX6_init_20 : decode cX6_init 20 = .ok (.invokespecial 11, 3) := by decide +kernel
theorem dX6_init_23 : decode cX6_init 23 = .ok (.putfield 18, 3) := by decide +kernel
theorem dX6_init_26 : decode cX6_init 26 = .ok (.aload_n 0, 1) := by decide +kernel
theorem dX6_init_27 : decode cX6_init 27 = .ok (.iconst 3, 1) := by decide +kernel
theorem dX6_init_28 : decode cX6_init 28 = .ok (.putfield 21, 3) := by decide +kernel
theorem dX6_init_31 : decode cX6_init 31 = .ok (.aload_n 0, 1) := by decide +kernel
theorem dX6_init_32 : decode cX6_init 32 = .ok (.iconst 1, 1) := by decide +kernel
theorem dX6_init_33 : decode cX6_init 33 = .ok (.putfield 25, 3) := by decide +kernel
theorem dX6_init_36 : decode cX6_init 36 = .ok (.aload_n 0, 1) := by decide +kernel
theorem dX6_init_37 : decode cX6_init 37 = .ok (.bipush 10, 2) := by decide +kernel
theorem dX6_init_39 : decode cX6_init 39 = .ok (.putfield 28, 3) := by decide +kernel
theorem dX6_init_42 : decode cX6_init 42 = .ok (.aload_n 0, 1) := by decide +kernel
theorem dX6_init_43 : decode cX6_init 43 = .ok (.bipush 9, 2) := by decide +kernel
theorem dX6_init_45 : decode cX6_init 45 = .ok (.newarray .int, 2) := by decide +kernel
theorem dX6_init_47 : decode cX6_init 47 = .ok (.putfield 31, 3) := by decide +kernel
theorem dX6_init_50 : decode cX6_init 50 = .ok (.aload_n 0, 1) := by decide +kernel
theorem dX6_init_51 : decode cX6_init 51 = .ok (.new 35, 3) := by decide +kernel
theorem dX6_init_54 : decode cX6_init 54 = .ok (.dup, 1) := by decide +kernel
theorem dX6_init_55 : decode cX6_init 55 = .ok (.invokespecial 37, 3) := by decide +kernel
theorem dX6_init_58 : decode cX6_init 58 = .ok (.putfield 38, 3) := by decide +kernel
theorem dX6_init_61 : decode cX6_init 61 = .ok (.aload_n 0, 1) := by decide +kernel
theorem dX6_init_62 : decode cX6_init 62 = .ok (.new 42, 3) := by decide +kernel
theorem dX6_init_65 : decode cX6_init 65 = .ok (.dup, 1) := by decide +kernel
theorem dX6_init_66 : decode cX6_init 66 = .ok (.invokespecial 44, 3) := by decide +kernel
theorem dX6_init_69 : decode cX6_init 69 = .ok (.putfield 45, 3) := by decide +kernel
theorem dX6_init_72 : decode cX6_init 72 = .ok (.aload_n 0, 1) := by decide +kernel
theorem dX6_init_73 : decode cX6_init 73 = .ok (.new 49, 3) := by decide +kernel
theorem dX6_init_76 : decode cX6_init 76 = .ok (.dup, 1) := by decide +kernel
theorem dX6_init_77 : decode cX6_init 77 = .ok (.invokespecial 51, 3) := by decide +kernel
theorem dX6_init_80 : decode cX6_init 80 = .ok (.putfield 52, 3) := by decide +kernel
theorem dX6_init_83 : decode cX6_init 83 = .ok (.aload_n 0, 1) := by decide +kernel
theorem dX6_init_84 : decode cX6_init 84 = .ok (.new 49, 3) := by decide +kernel
theorem dX6_init_87 : decode cX6_init 87 = .ok (.dup, 1) := by decide +kernel
theorem dX6_init_88 : decode cX6_init 88 = .ok (.invokespecial 51, 3) := by decide +kernel
theorem dX6_init_91 : decode cX6_init 91 = .ok (.putfield 56, 3) := by decide +kernel
theorem dX6_init_94 : decode cX6_init 94 = .ok (.aload_n 0, 1) := by decide +kernel
theorem dX6_init_95 : decode cX6_init 95 = .ok (.new 49, 3) := by decide +kernel
theorem dX6_init_98 : decode cX6_init 98 = .ok (.dup, 1) := by decide +kernel
theorem dX6_init_99 : decode cX6_init 99 = .ok (.invokespecial 51, 3) := by decide +kernel
theorem dX6_init_102 : decode cX6_init 102 = .ok (.putfield 59, 3) := by decide +kernel
theorem dX6_init_105 : decode cX6_init 105 = .ok (.aload_n 0, 1) := by decide +kernel
theorem dX6_init_106 : decode cX6_init 106 = .ok (.iload_n 1, 1) := by decide +kernel
theorem dX6_init_107 : decode cX6_init 107 = .ok (.putfield 62, 3) := by decide +kernel
theorem dX6_init_110 : decode cX6_init 110 = .ok (.return_, 1) := by decide +kernel
theorem dX6_copyFrom_0 : decode cX6_copyFrom 0 = .ok (.aload_n 0, 1) := by decide +kernel
theorem dX6_copyFrom_1 : decode cX6_copyFrom 1 = .ok (.aload_n 1, 1) := by decide +kernel
theorem dX6_copyFrom_2 : decode cX6_copyFrom 2 = .ok (.invokevirtual 65, 3) := by decide +kernel
theorem dX6_copyFrom_5 : decode cX6_copyFrom 5 = .ok (.aload_n 1, 1) := by decide +kernel
theorem dX6_copyFrom_6 : decode cX6_copyFrom 6 = .ok (.getfield 31, 3) := by decide +kernel
theorem dX6_copyFrom_9 : decode cX6_copyFrom 9 = .ok (.iconst 0, 1) := by decide +kernel
theorem dX6_copyFrom_10 : decode cX6_copyFrom 10 = .ok (.aload_n 0, 1) := by decide +kernel
theorem dX6_copyFrom_11 : decode cX6_copyFrom 11 = .ok (.getfield 31, 3) := by decide +kernel
theorem dX6_copyFrom_14 : decode cX6_copyFrom 14 = .ok (.iconst 0, 1) := by decide +kernel
theorem dX6_copyFrom_15 : decode cX6_copyFrom 15 = .ok (.bipush 9, 2) := by decide +kernel
theorem dX6_copyFrom_17 : decode cX6_copyFrom 17 = .ok (.invokestatic 69, 3) := by decide +kernel
theorem dX6_copyFrom_20 : decode cX6_copyFrom 20 = .ok (.aload_n 0, 1) := by decide +kernel
theorem dX6_copyFrom_21 : decode cX6_copyFrom 21 = .ok (.getfield 38, 3) := by decide +kernel
theorem dX6_copyFrom_24 : decode cX6_copyFrom 24 = .ok (.aload_n 1, 1) := by decide +kernel
theorem dX6_copyFrom_25 : decode cX6_copyFrom 25 = .ok (.getfield 38, 3) := by decide +kernel
theorem dX6_copyFrom_28 : decode cX6_copyFrom 28 = .ok (.invokevirtual 75, 3) := by decide +kernel
theorem dX6_copyFrom_31 : decode cX6_copyFrom 31 = .ok (.aload_n 0, 1) := by decide +kernel
theorem dX6_copyFrom_32 : decode cX6_copyFrom 32 = .ok (.getfield 45, 3) := by decide +kernel
theorem dX6_copyFrom_35 : decode cX6_copyFrom 35 = .ok (.aload_n 1, 1) := by decide +kernel
theorem dX6_copyFrom_36 : decode cX6_copyFrom 36 = .ok (.getfield 45, 3) := by decide +kernel
theorem dX6_copyFrom_39 : decode cX6_copyFrom 39 = .ok (.invokevirtual 79, 3) := by decide +kernel
theorem dX6_copyFrom_42 : decode cX6_copyFrom 42 = .ok (.aload_n 0, 1) := by decide +kernel
theorem dX6_copyFrom_43 : decode cX6_copyFrom 43 = .ok (.getfield 52, 3) := by decide +kernel
theorem dX6_copyFrom_46 : decode cX6_copyFrom 46 = .ok (.aload_n 1, 1) := by decide +kernel
theorem dX6_copyFrom_47 : decode cX6_copyFrom 47 = .ok (.getfield 52, 3) := by decide +kernel
theorem dX6_copyFrom_50 : decode cX6_copyFrom 50 = .ok (.invokevirtual 82, 3) := by decide +kernel
theorem dX6_copyFrom_53 : decode cX6_copyFrom 53 = .ok (.aload_n 0, 1) := by decide +kernel
theorem dX6_copyFrom_54 : decode cX6_copyFrom 54 = .ok (.aload_n 1, 1) := by decide +kernel
theorem dX6_copyFrom_55 : decode cX6_copyFrom 55 = .ok (.getfield 85, 3) := by decide +kernel
theorem dX6_copyFrom_58 : decode cX6_copyFrom 58 = .ok (.putfield 85, 3) := by decide +kernel
theorem dX6_copyFrom_61 : decode cX6_copyFrom 61 = .ok (.return_, 1) := by decide +kernel
theorem dX6_beginLike_0 : decode cX6_beginLike 0 = .ok (.aload_n 0, 1) := by decide +kernel
theorem dX6_beginLike_1 : decode cX6_beginLike 1 = .ok (.aload_n 1, 1) := by decide +kernel
theorem dX6_beginLike_2 : decode cX6_beginLike 2 = .ok (.invokevirtual 65, 3) := by decide +kernel
theorem dX6_beginLike_5 : decode cX6_beginLike 5 = .ok (.iconst 0, 1) := by decide +kernel
theorem dX6_beginLike_6 : decode cX6_beginLike 6 = .ok (.istore_n 2, 1) := by decide +kernel
theorem dX6_beginLike_7 : decode cX6_beginLike 7 = .ok (.iload_n 2, 1) := by decide +kernel
theorem dX6_beginLike_8 : decode cX6_beginLike 8 = .ok (.bipush 9, 2) := by decide +kernel
theorem dX6_beginLike_10 : decode cX6_beginLike 10 = .ok (.if_icmp .ge 16, 3) := by decide +kernel
theorem dX6_beginLike_13 : decode cX6_beginLike 13 = .ok (.aload_n 0, 1) := by decide +kernel
theorem dX6_beginLike_14 : decode cX6_beginLike 14 = .ok (.getfield 31, 3) := by decide +kernel
theorem dX6_beginLike_17 : decode cX6_beginLike 17 = .ok (.iload_n 2, 1) := by decide +kernel
theorem dX6_beginLike_18 : decode cX6_beginLike 18 = .ok (.iconst 0, 1) := by decide +kernel
theorem dX6_beginLike_19 : decode cX6_beginLike 19 = .ok (.iastore, 1) := by decide +kernel
theorem dX6_beginLike_20 : decode cX6_beginLike 20 = .ok (.iinc 2 1, 3) := by decide +kernel
theorem dX6_beginLike_23 : decode cX6_beginLike 23 = .ok (.goto (-16), 3) := by decide +kernel
theorem dX6_beginLike_26 : decode cX6_beginLike 26 = .ok (.aload_n 0, 1) := by decide +kernel
theorem dX6_beginLike_27 : decode cX6_beginLike 27 = .ok (.getfield 38, 3) := by decide +kernel
theorem dX6_beginLike_30 : decode cX6_beginLike 30 = .ok (.invokevirtual 88, 3) := by decide +kernel
theorem dX6_beginLike_33 : decode cX6_beginLike 33 = .ok (.aload_n 0, 1) := by decide +kernel
theorem dX6_beginLike_34 : decode cX6_beginLike 34 = .ok (.getfield 45, 3) := by decide +kernel
theorem dX6_beginLike_37 : decode cX6_beginLike 37 = .ok (.invokevirtual 91, 3) := by decide +kernel
theorem dX6_beginLike_40 : decode cX6_beginLike 40 = .ok (.return_, 1) := by decide +kernel
theorem dX6_copySettings_0 : decode cX6_copySettings 0 = .ok (.aload_n 0, 1) := by decide +kernel
theorem dX6_copySettings_1 : decode cX6_copySettings 1 = .ok (.aload_n 1, 1) := by decide +kernel
theorem dX6_copySettings_2 : decode cX6_copySettings 2 = .ok (.getfield 62, 3) := by decide +kernel
theorem dX6_copySettings_5 : decode cX6_copySettings 5 = .ok (.putfield 62, 3) := by decide +kernel
theorem dX6_copySettings_8 : decode cX6_copySettings 8 = .ok (.aload_n 0, 1) := by decide +kernel
theorem dX6_copySettings_9 : decode cX6_copySettings 9 = .ok (.getfield 12, 3) := by decide +kernel
theorem dX6_copySettings_12 : decode cX6_copySettings 12 = .ok (.aload_n 1, 1) := by decide +kernel
theorem dX6_copySettings_13 : decode cX6_copySettings 13 = .ok (.getfield 12, 3) := by decide +kernel
theorem dX6_copySettings_16 : decode cX6_copySettings 16 = .ok (.invokevirtual 92, 3) := by decide +kernel
theorem dX6_copySettings_19 : decode cX6_copySettings 19 = .ok (.aload_n 0, 1) := by decide +kernel
theorem dX6_copySettings_20 : decode cX6_copySettings 20 = .ok (.getfield 18, 3) := by decide +kernel
theorem dX6_copySettings_23 : decode cX6_copySettings 23 = .ok (.aload_n 1, 1) := by decide +kernel
theorem dX6_copySettings_24 : decode cX6_copySettings 24 = .ok (.getfield 18, 3) := by decide +kernel
theorem dX6_copySettings_27 : decode cX6_copySettings 27 = .ok (.invokevirtual 92, 3) := by decide +kernel
theorem dX6_copySettings_30 : decode cX6_copySettings 30 = .ok (.aload_n 0, 1) := by decide +kernel
theorem dX6_copySettings_31 : decode cX6_copySettings 31 = .ok (.aload_n 1, 1) := by decide +kernel
theorem dX6_copySettings_32 : decode cX6_copySettings 32 = .ok (.getfield 21, 3) := by decide +kernel
theorem dX6_copySettings_35 : decode cX6_copySettings 35 = .ok (.putfield 21, 3) := by decide +kernel
theorem dX6_copySettings_38 : decode cX6_copySettings 38 = .ok (.aload_n 0, 1) := by decide +kernel
theorem dX6_copySettings_39 : decode cX6_copySettings 39 = .ok (.aload_n 1, 1) := by decide +kernel
theorem dX6_copySettings_40 : decode cX6_copySettings 40 = .ok (.getfield 25, 3) := by decide +kernel
theorem dX6_copySettings_43 : decode cX6_copySettings 43 = .ok (.putfield 25, 3) := by decide +kernel
theorem dX6_copySettings_46 : decode cX6_copySettings 46 = .ok (.aload_n 0, 1) := by decide +kernel
theorem dX6_copySettings_47 : decode cX6_copySettings 47 = .ok (.aload_n 1, 1) := by decide +kernel
theorem dX6_copySettings_48 : decode cX6_copySettings 48 = .ok (.getfield 28, 3) := by decide +kernel
theorem dX6_copySettings_51 : decode cX6_copySettings 51 = .ok (.putfield 28, 3) := by decide +kernel
theorem dX6_copySettings_54 : decode cX6_copySettings 54 = .ok (.return_, 1) := by decide +kernel
theorem dX6_hasHeard_0 : decode cX6_hasHeard 0 = .ok (.aload_n 0, 1) := by decide +kernel
theorem dX6_hasHeard_1 : decode cX6_hasHeard 1 = .ok (.getfield 31, 3) := by decide +kernel
theorem dX6_hasHeard_4 : decode cX6_hasHeard 4 = .ok (.iconst 1, 1) := by decide +kernel
theorem dX6_hasHeard_5 : decode cX6_hasHeard 5 = .ok (.iaload, 1) := by decide +kernel
theorem dX6_hasHeard_6 : decode cX6_hasHeard 6 = .ok (.ifCond .le 7, 3) := by decide +kernel
theorem dX6_hasHeard_9 : decode cX6_hasHeard 9 = .ok (.iconst 1, 1) := by decide +kernel
theorem dX6_hasHeard_10 : decode cX6_hasHeard 10 = .ok (.goto 4, 3) := by decide +kernel
theorem dX6_hasHeard_13 : decode cX6_hasHeard 13 = .ok (.iconst 0, 1) := by decide +kernel
theorem dX6_hasHeard_14 : decode cX6_hasHeard 14 = .ok (.ireturn, 1) := by decide +kernel
theorem dX6_originate_0 : decode cX6_originate 0 = .ok (.aload_n 0, 1) := by decide +kernel
theorem dX6_originate_1 : decode cX6_originate 1 = .ok (.getfield 38, 3) := by decide +kernel
theorem dX6_originate_4 : decode cX6_originate 4 = .ok (.aload_n 1, 1) := by decide +kernel
theorem dX6_originate_5 : decode cX6_originate 5 = .ok (.iload_n 2, 1) := by decide +kernel
theorem dX6_originate_6 : decode cX6_originate 6 = .ok (.invokevirtual 95, 3) := by decide +kernel
theorem dX6_originate_9 : decode cX6_originate 9 = .ok (.pop, 1) := by decide +kernel
theorem dX6_originate_10 : decode cX6_originate 10 = .ok (.aload_n 0, 1) := by decide +kernel
theorem dX6_originate_11 : decode cX6_originate 11 = .ok (.getfield 45, 3) := by decide +kernel
theorem dX6_originate_14 : decode cX6_originate 14 = .ok (.aload_n 0, 1) := by decide +kernel
theorem dX6_originate_15 : decode cX6_originate 15 = .ok (.getfield 45, 3) := by decide +kernel
theorem dX6_originate_18 : decode cX6_originate 18 = .ok (.aload_n 1, 1) := by decide +kernel
theorem dX6_originate_19 : decode cX6_originate 19 = .ok (.invokevirtual 99, 3) := by decide +kernel
theorem dX6_originate_22 : decode cX6_originate 22 = .ok (.invokevirtual 103, 3) := by decide +kernel
theorem dX6_originate_25 : decode cX6_originate 25 = .ok (.aload_n 0, 1) := by decide +kernel
theorem dX6_originate_26 : decode cX6_originate 26 = .ok (.getfield 45, 3) := by decide +kernel
theorem dX6_originate_29 : decode cX6_originate 29 = .ok (.aload_n 1, 1) := by decide +kernel
theorem dX6_originate_30 : decode cX6_originate 30 = .ok (.iload_n 2, 1) := by decide +kernel
theorem dX6_originate_31 : decode cX6_originate 31 = .ok (.invokevirtual 107, 3) := by decide +kernel
theorem dX6_originate_34 : decode cX6_originate 34 = .ok (.return_, 1) := by decide +kernel
theorem dX6_startSending_0 : decode cX6_startSending 0 = .ok (.aload_n 0, 1) := by decide +kernel
end
section
theorem dX6_startSending_1 : decode cX6_startSending 1 = .ok (.getfield 38, 3) := by decide +kernel
theorem dX6_startSending_4 : decode cX6_startSending 4 = .ok (.iload_n 1, 1) := by decide +kernel
theorem dX6_startSending_5 : decode cX6_startSending 5 = .ok (.aload_n 0, 1) := by decide +kernel
theorem dX6_startSending_6 : decode cX6_startSending 6 = .ok (.getfield 56, 3) := by decide +kernel
theorem dX6_startSending_9 : decode cX6_startSending 9 = .ok (.invokevirtual 110, 3) := by decide +kernel
theorem dX6_startSending_12 : decode cX6_startSending 12 = .ok (.ifCond .ne 5, 3) := by decide +kernel
theorem dX6_startSending_15 : decode cX6_startSending 15 = .ok (.iconst 0, 1) := by decide +kernel
theorem dX6_startSending_16 : decode cX6_startSending 16 = .ok (.ireturn, 1) := by decide +kernel
theorem dX6_startSending_17 : decode cX6_startSending 17 = .ok (.aload_n 0, 1) := by decide +kernel
theorem dX6_startSending_18 : decode cX6_startSending 18 = .ok (.getfield 31, 3) := by decide +kernel
theorem dX6_startSending_21 : decode cX6_startSending 21 = .ok (.iconst 0, 1) := by decide +kernel
theorem dX6_startSending_22 : decode cX6_startSending 22 = .ok (.dup2, 1) := by decide +kernel
theorem dX6_startSending_23 : decode cX6_startSending 23 = .ok (.iaload, 1) := by decide +kernel
theorem dX6_startSending_24 : decode cX6_startSending 24 = .ok (.iconst 1, 1) := by decide +kernel
theorem dX6_startSending_25 : decode cX6_startSending 25 = .ok (.iadd, 1) := by decide +kernel
theorem dX6_startSending_26 : decode cX6_startSending 26 = .ok (.iastore, 1) := by decide +kernel
theorem dX6_startSending_27 : decode cX6_startSending 27 = .ok (.iconst 1, 1) := by decide +kernel
theorem dX6_startSending_28 : decode cX6_startSending 28 = .ok (.ireturn, 1) := by decide +kernel
theorem dX6_hear_0 : decode cX6_hear 0 = .ok (.aload_n 0, 1) := by decide +kernel
theorem dX6_hear_1 : decode cX6_hear 1 = .ok (.getfield 52, 3) := by decide +kernel
theorem dX6_hear_4 : decode cX6_hear 4 = .ok (.aload_n 1, 1) := by decide +kernel
theorem dX6_hear_5 : decode cX6_hear 5 = .ok (.invokevirtual 82, 3) := by decide +kernel
theorem dX6_hear_8 : decode cX6_hear 8 = .ok (.aload_n 0, 1) := by decide +kernel
theorem dX6_hear_9 : decode cX6_hear 9 = .ok (.iload_n 2, 1) := by decide +kernel
theorem dX6_hear_10 : decode cX6_hear 10 = .ok (.putfield 85, 3) := by decide +kernel
theorem dX6_hear_13 : decode cX6_hear 13 = .ok (.aload_n 0, 1) := by decide +kernel
theorem dX6_hear_14 : decode cX6_hear 14 = .ok (.getfield 31, 3) := by decide +kernel
theorem dX6_hear_17 : decode cX6_hear 17 = .ok (.iconst 1, 1) := by decide +kernel
theorem dX6_hear_18 : decode cX6_hear 18 = .ok (.dup2, 1) := by decide +kernel
theorem dX6_hear_19 : decode cX6_hear 19 = .ok (.iaload, 1) := by decide +kernel
theorem dX6_hear_20 : decode cX6_hear 20 = .ok (.iconst 1, 1) := by decide +kernel
theorem dX6_hear_21 : decode cX6_hear 21 = .ok (.iadd, 1) := by decide +kernel
theorem dX6_hear_22 : decode cX6_hear 22 = .ok (.iastore, 1) := by decide +kernel
theorem dX6_hear_23 : decode cX6_hear 23 = .ok (.aload_n 0, 1) := by decide +kernel
theorem dX6_hear_24 : decode cX6_hear 24 = .ok (.getfield 45, 3) := by decide +kernel
theorem dX6_hear_27 : decode cX6_hear 27 = .ok (.iload_n 2, 1) := by decide +kernel
theorem dX6_hear_28 : decode cX6_hear 28 = .ok (.aload_n 0, 1) := by decide +kernel
theorem dX6_hear_29 : decode cX6_hear 29 = .ok (.getfield 28, 3) := by decide +kernel
theorem dX6_hear_32 : decode cX6_hear 32 = .ok (.invokevirtual 114, 3) := by decide +kernel
theorem dX6_hear_35 : decode cX6_hear 35 = .ok (.aload_n 1, 1) := by decide +kernel
theorem dX6_hear_36 : decode cX6_hear 36 = .ok (.aload_n 0, 1) := by decide +kernel
theorem dX6_hear_37 : decode cX6_hear 37 = .ok (.getfield 62, 3) := by decide +kernel
theorem dX6_hear_40 : decode cX6_hear 40 = .ok (.invokevirtual 118, 3) := by decide +kernel
theorem dX6_hear_43 : decode cX6_hear 43 = .ok (.ifCond .eq 14, 3) := by decide +kernel
theorem dX6_hear_46 : decode cX6_hear 46 = .ok (.aload_n 0, 1) := by decide +kernel
theorem dX6_hear_47 : decode cX6_hear 47 = .ok (.getfield 31, 3) := by decide +kernel
theorem dX6_hear_50 : decode cX6_hear 50 = .ok (.iconst 2, 1) := by decide +kernel
theorem dX6_hear_51 : decode cX6_hear 51 = .ok (.dup2, 1) := by decide +kernel
theorem dX6_hear_52 : decode cX6_hear 52 = .ok (.iaload, 1) := by decide +kernel
theorem dX6_hear_53 : decode cX6_hear 53 = .ok (.iconst 1, 1) := by decide +kernel
theorem dX6_hear_54 : decode cX6_hear 54 = .ok (.iadd, 1) := by decide +kernel
theorem dX6_hear_55 : decode cX6_hear 55 = .ok (.iastore, 1) := by decide +kernel
theorem dX6_hear_56 : decode cX6_hear 56 = .ok (.return_, 1) := by decide +kernel
theorem dX6_hear_57 : decode cX6_hear 57 = .ok (.aload_n 0, 1) := by decide +kernel
theorem dX6_hear_58 : decode cX6_hear 58 = .ok (.getfield 45, 3) := by decide +kernel
theorem dX6_hear_61 : decode cX6_hear 61 = .ok (.aload_n 1, 1) := by decide +kernel
theorem dX6_hear_62 : decode cX6_hear 62 = .ok (.invokevirtual 99, 3) := by decide +kernel
theorem dX6_hear_65 : decode cX6_hear 65 = .ok (.bipush (-6), 2) := by decide +kernel
theorem dX6_hear_67 : decode cX6_hear 67 = .ok (.if_icmp .eq 14, 3) := by decide +kernel
theorem dX6_hear_70 : decode cX6_hear 70 = .ok (.aload_n 0, 1) := by decide +kernel
theorem dX6_hear_71 : decode cX6_hear 71 = .ok (.getfield 31, 3) := by decide +kernel
theorem dX6_hear_74 : decode cX6_hear 74 = .ok (.iconst 3, 1) := by decide +kernel
theorem dX6_hear_75 : decode cX6_hear 75 = .ok (.dup2, 1) := by decide +kernel
theorem dX6_hear_76 : decode cX6_hear 76 = .ok (.iaload, 1) := by decide +kernel
theorem dX6_hear_77 : decode cX6_hear 77 = .ok (.iconst 1, 1) := by decide +kernel
theorem dX6_hear_78 : decode cX6_hear 78 = .ok (.iadd, 1) := by decide +kernel
theorem dX6_hear_79 : decode cX6_hear 79 = .ok (.iastore, 1) := by decide +kernel
theorem dX6_hear_80 : decode cX6_hear 80 = .ok (.return_, 1) := by decide +kernel
theorem dX6_hear_81 : decode cX6_hear 81 = .ok (.aload_n 0, 1) := by decide +kernel
theorem dX6_hear_82 : decode cX6_hear 82 = .ok (.getfield 45, 3) := by decide +kernel
theorem dX6_hear_85 : decode cX6_hear 85 = .ok (.aload_n 1, 1) := by decide +kernel
theorem dX6_hear_86 : decode cX6_hear 86 = .ok (.iload_n 2, 1) := by decide +kernel
theorem dX6_hear_87 : decode cX6_hear 87 = .ok (.invokevirtual 107, 3) := by decide +kernel
theorem dX6_hear_90 : decode cX6_hear 90 = .ok (.aload_n 1, 1) := by decide +kernel
theorem dX6_hear_91 : decode cX6_hear 91 = .ok (.invokevirtual 122, 3) := by decide +kernel
theorem dX6_hear_94 : decode cX6_hear 94 = .ok (.istore_n 3, 1) := by decide +kernel
theorem dX6_hear_95 : decode cX6_hear 95 = .ok (.iload_n 3, 1) := by decide +kernel
theorem dX6_hear_96 : decode cX6_hear 96 = .ok (.bipush (-6), 2) := by decide +kernel
theorem dX6_hear_98 : decode cX6_hear 98 = .ok (.if_icmp .ne 14, 3) := by decide +kernel
theorem dX6_hear_101 : decode cX6_hear 101 = .ok (.aload_n 0, 1) := by decide +kernel
theorem dX6_hear_102 : decode cX6_hear 102 = .ok (.getfield 31, 3) := by decide +kernel
theorem dX6_hear_105 : decode cX6_hear 105 = .ok (.iconst 4, 1) := by decide +kernel
theorem dX6_hear_106 : decode cX6_hear 106 = .ok (.dup2, 1) := by decide +kernel
theorem dX6_hear_107 : decode cX6_hear 107 = .ok (.iaload, 1) := by decide +kernel
theorem dX6_hear_108 : decode cX6_hear 108 = .ok (.iconst 1, 1) := by decide +kernel
theorem dX6_hear_109 : decode cX6_hear 109 = .ok (.iadd, 1) := by decide +kernel
theorem dX6_hear_110 : decode cX6_hear 110 = .ok (.iastore, 1) := by decide +kernel
theorem dX6_hear_111 : decode cX6_hear 111 = .ok (.return_, 1) := by decide +kernel
theorem dX6_hear_112 : decode cX6_hear 112 = .ok (.aload_n 0, 1) := by decide +kernel
theorem dX6_hear_113 : decode cX6_hear 113 = .ok (.getfield 59, 3) := by decide +kernel
theorem dX6_hear_116 : decode cX6_hear 116 = .ok (.aload_n 1, 1) := by decide +kernel
theorem dX6_hear_117 : decode cX6_hear 117 = .ok (.invokevirtual 82, 3) := by decide +kernel
theorem dX6_hear_120 : decode cX6_hear 120 = .ok (.aload_n 0, 1) := by decide +kernel
theorem dX6_hear_121 : decode cX6_hear 121 = .ok (.aload_n 0, 1) := by decide +kernel
theorem dX6_hear_122 : decode cX6_hear 122 = .ok (.getfield 59, 3) := by decide +kernel
theorem dX6_hear_125 : decode cX6_hear 125 = .ok (.iload_n 3, 1) := by decide +kernel
theorem dX6_hear_126 : decode cX6_hear 126 = .ok (.invokevirtual 126, 3) := by decide +kernel
theorem dX6_hear_129 : decode cX6_hear 129 = .ok (.ifCond .ne 15, 3) := by decide +kernel
theorem dX6_hear_132 : decode cX6_hear 132 = .ok (.aload_n 0, 1) := by decide +kernel
theorem dX6_hear_133 : decode cX6_hear 133 = .ok (.getfield 31, 3) := by decide +kernel
theorem dX6_hear_136 : decode cX6_hear 136 = .ok (.bipush 6, 2) := by decide +kernel
theorem dX6_hear_138 : decode cX6_hear 138 = .ok (.dup2, 1) := by decide +kernel
theorem dX6_hear_139 : decode cX6_hear 139 = .ok (.iaload, 1) := by decide +kernel
theorem dX6_hear_140 : decode cX6_hear 140 = .ok (.iconst 1, 1) := by decide +kernel
theorem dX6_hear_141 : decode cX6_hear 141 = .ok (.iadd, 1) := by decide +kernel
theorem dX6_hear_142 : decode cX6_hear 142 = .ok (.iastore, 1) := by decide +kernel
theorem dX6_hear_143 : decode cX6_hear 143 = .ok (.return_, 1) := by decide +kernel
theorem dX6_hear_144 : decode cX6_hear 144 = .ok (.aload_n 0, 1) := by decide +kernel
theorem dX6_hear_145 : decode cX6_hear 145 = .ok (.getfield 31, 3) := by decide +kernel
theorem dX6_hear_148 : decode cX6_hear 148 = .ok (.iconst 5, 1) := by decide +kernel
theorem dX6_hear_149 : decode cX6_hear 149 = .ok (.dup2, 1) := by decide +kernel
theorem dX6_hear_150 : decode cX6_hear 150 = .ok (.iaload, 1) := by decide +kernel
theorem dX6_hear_151 : decode cX6_hear 151 = .ok (.iconst 1, 1) := by decide +kernel
theorem dX6_hear_152 : decode cX6_hear 152 = .ok (.iadd, 1) := by decide +kernel
theorem dX6_hear_153 : decode cX6_hear 153 = .ok (.iastore, 1) := by decide +kernel
theorem dX6_hear_154 : decode cX6_hear 154 = .ok (.aload_n 0, 1) := by decide +kernel
theorem dX6_hear_155 : decode cX6_hear 155 = .ok (.getfield 38, 3) := by decide +kernel
theorem dX6_hear_158 : decode cX6_hear 158 = .ok (.aload_n 0, 1) := by decide +kernel
theorem dX6_hear_159 : decode cX6_hear 159 = .ok (.getfield 59, 3) := by decide +kernel
theorem dX6_hear_162 : decode cX6_hear 162 = .ok (.iload_n 2, 1) := by decide +kernel
theorem dX6_hear_163 : decode cX6_hear 163 = .ok (.aload_n 0, 1) := by decide +kernel
theorem dX6_hear_164 : decode cX6_hear 164 = .ok (.getfield 25, 3) := by decide +kernel
theorem dX6_hear_167 : decode cX6_hear 167 = .ok (.iadd, 1) := by decide +kernel
theorem dX6_hear_168 : decode cX6_hear 168 = .ok (.invokevirtual 95, 3) := by decide +kernel
theorem dX6_hear_171 : decode cX6_hear 171 = .ok (.ifCond .ne 14, 3) := by decide +kernel
theorem dX6_hear_174 : decode cX6_hear 174 = .ok (.aload_n 0, 1) := by decide +kernel
theorem dX6_hear_175 : decode cX6_hear 175 = .ok (.getfield 31, 3) := by decide +kernel
theorem dX6_hear_178 : decode cX6_hear 178 = .ok (.bipush 8, 2) := by decide +kernel
theorem dX6_hear_180 : decode cX6_hear 180 = .ok (.dup2, 1) := by decide +kernel
theorem dX6_hear_181 : decode cX6_hear 181 = .ok (.iaload, 1) := by decide +kernel
theorem dX6_hear_182 : decode cX6_hear 182 = .ok (.iconst 1, 1) := by decide +kernel
theorem dX6_hear_183 : decode cX6_hear 183 = .ok (.iadd, 1) := by decide +kernel
theorem dX6_hear_184 : decode cX6_hear 184 = .ok (.iastore, 1) := by decide +kernel
theorem dX6_hear_185 : decode cX6_hear 185 = .ok (.return_, 1) := by decide +kernel
theorem dX6_changeIfMeant_0 : decode cX6_changeIfMeant 0 = .ok (.aload_n 1, 1) := by decide +kernel
theorem dX6_changeIfMeant_1 : decode cX6_changeIfMeant 1 = .ok (.iload_n 2, 1) := by decide +kernel
theorem dX6_changeIfMeant_2 : decode cX6_changeIfMeant 2 = .ok (.invokevirtual 129, 3) := by decide +kernel
theorem dX6_changeIfMeant_5 : decode cX6_changeIfMeant 5 = .ok (.istore_n 3, 1) := by decide +kernel
theorem dX6_changeIfMeant_6 : decode cX6_changeIfMeant 6 = .ok (.aload_n 1, 1) := by decide +kernel
theorem dX6_changeIfMeant_7 : decode cX6_changeIfMeant 7 = .ok (.iload_n 2, 1) := by decide +kernel
theorem dX6_changeIfMeant_8 : decode cX6_changeIfMeant 8 = .ok (.invokevirtual 133, 3) := by decide +kernel
theorem dX6_changeIfMeant_11 : decode cX6_changeIfMeant 11 = .ok (.istore 4, 2) := by decide +kernel
theorem dX6_changeIfMeant_13 : decode cX6_changeIfMeant 13 = .ok (.iload_n 3, 1) := by decide +kernel
theorem dX6_changeIfMeant_14 : decode cX6_changeIfMeant 14 = .ok (.aload_n 0, 1) := by decide +kernel
theorem dX6_changeIfMeant_15 : decode cX6_changeIfMeant 15 = .ok (.getfield 62, 3) := by decide +kernel
theorem dX6_changeIfMeant_18 : decode cX6_changeIfMeant 18 = .ok (.if_icmp .eq 19, 3) := by decide +kernel
theorem dX6_changeIfMeant_21 : decode cX6_changeIfMeant 21 = .ok (.iload 4, 2) := by decide +kernel
theorem dX6_changeIfMeant_23 : decode cX6_changeIfMeant 23 = .ok (.ifCond .ne 25, 3) := by decide +kernel
theorem dX6_changeIfMeant_26 : decode cX6_changeIfMeant 26 = .ok (.aload_n 0, 1) := by decide +kernel
theorem dX6_changeIfMeant_27 : decode cX6_changeIfMeant 27 = .ok (.getfield 12, 3) := by decide +kernel
theorem dX6_changeIfMeant_30 : decode cX6_changeIfMeant 30 = .ok (.iload_n 3, 1) := by decide +kernel
theorem dX6_changeIfMeant_31 : decode cX6_changeIfMeant 31 = .ok (.invokevirtual 136, 3) := by decide +kernel
theorem dX6_changeIfMeant_34 : decode cX6_changeIfMeant 34 = .ok (.ifCond .eq 14, 3) := by decide +kernel
theorem dX6_changeIfMeant_37 : decode cX6_changeIfMeant 37 = .ok (.aload_n 1, 1) := by decide +kernel
theorem dX6_changeIfMeant_38 : decode cX6_changeIfMeant 38 = .ok (.iload_n 2, 1) := by decide +kernel
theorem dX6_changeIfMeant_39 : decode cX6_changeIfMeant 39 = .ok (.aload_n 0, 1) := by decide +kernel
theorem dX6_changeIfMeant_40 : decode cX6_changeIfMeant 40 = .ok (.getfield 62, 3) := by decide +kernel
theorem dX6_changeIfMeant_43 : decode cX6_changeIfMeant 43 = .ok (.invokevirtual 139, 3) := by decide +kernel
theorem dX6_changeIfMeant_46 : decode cX6_changeIfMeant 46 = .ok (.iconst 1, 1) := by decide +kernel
theorem dX6_changeIfMeant_47 : decode cX6_changeIfMeant 47 = .ok (.ireturn, 1) := by decide +kernel
theorem dX6_changeIfMeant_48 : decode cX6_changeIfMeant 48 = .ok (.iload 4, 2) := by decide +kernel
theorem dX6_changeIfMeant_50 : decode cX6_changeIfMeant 50 = .ok (.ifCond .eq 14, 3) := by decide +kernel
theorem dX6_changeIfMeant_53 : decode cX6_changeIfMeant 53 = .ok (.aload_n 0, 1) := by decide +kernel
theorem dX6_changeIfMeant_54 : decode cX6_changeIfMeant 54 = .ok (.getfield 18, 3) := by decide +kernel
theorem dX6_changeIfMeant_57 : decode cX6_changeIfMeant 57 = .ok (.iload_n 3, 1) := by decide +kernel
theorem dX6_changeIfMeant_58 : decode cX6_changeIfMeant 58 = .ok (.invokevirtual 136, 3) := by decide +kernel
theorem dX6_changeIfMeant_61 : decode cX6_changeIfMeant 61 = .ok (.ifCond .ne 5, 3) := by decide +kernel
theorem dX6_changeIfMeant_64 : decode cX6_changeIfMeant 64 = .ok (.iconst 0, 1) := by decide +kernel
theorem dX6_changeIfMeant_65 : decode cX6_changeIfMeant 65 = .ok (.ireturn, 1) := by decide +kernel
theorem dX6_changeIfMeant_66 : decode cX6_changeIfMeant 66 = .ok (.iload 4, 2) := by decide +kernel
theorem dX6_changeIfMeant_68 : decode cX6_changeIfMeant 68 = .ok (.aload_n 0, 1) := by decide +kernel
theorem dX6_changeIfMeant_69 : decode cX6_changeIfMeant 69 = .ok (.getfield 21, 3) := by decide +kernel
theorem dX6_changeIfMeant_72 : decode cX6_changeIfMeant 72 = .ok (.invokestatic 142, 3) := by decide +kernel
theorem dX6_changeIfMeant_75 : decode cX6_changeIfMeant 75 = .ok (.iconst 1, 1) := by decide +kernel
theorem dX6_changeIfMeant_76 : decode cX6_changeIfMeant 76 = .ok (.isub, 1) := by decide +kernel
theorem dX6_changeIfMeant_77 : decode cX6_changeIfMeant 77 = .ok (.istore 5, 2) := by decide +kernel
theorem dX6_changeIfMeant_79 : decode cX6_changeIfMeant 79 = .ok (.iload 5, 2) := by decide +kernel
theorem dX6_changeIfMeant_81 : decode cX6_changeIfMeant 81 = .ok (.ifCond .ne 15, 3) := by decide +kernel
theorem dX6_changeIfMeant_84 : decode cX6_changeIfMeant 84 = .ok (.aload_n 1, 1) := by decide +kernel
theorem dX6_changeIfMeant_85 : decode cX6_changeIfMeant 85 = .ok (.iload_n 2, 1) := by decide +kernel
theorem dX6_changeIfMeant_86 : decode cX6_changeIfMeant 86 = .ok (.aload_n 0, 1) := by decide +kernel
theorem dX6_changeIfMeant_87 : decode cX6_changeIfMeant 87 = .ok (.getfield 62, 3) := by decide +kernel
theorem dX6_changeIfMeant_90 : decode cX6_changeIfMeant 90 = .ok (.invokevirtual 139, 3) := by decide +kernel
theorem dX6_changeIfMeant_93 : decode cX6_changeIfMeant 93 = .ok (.goto 19, 3) := by decide +kernel
theorem dX6_changeIfMeant_96 : decode cX6_changeIfMeant 96 = .ok (.aload_n 1, 1) := by decide +kernel
theorem dX6_changeIfMeant_97 : decode cX6_changeIfMeant 97 = .ok (.iload_n 2, 1) := by decide +kernel
theorem dX6_changeIfMeant_98 : decode cX6_changeIfMeant 98 = .ok (.iload 5, 2) := by decide +kernel
theorem dX6_changeIfMeant_100 : decode cX6_changeIfMeant 100 = .ok (.invokevirtual 148, 3) := by decide +kernel
theorem dX6_changeIfMeant_103 : decode cX6_changeIfMeant 103 = .ok (.aload_n 1, 1) := by decide +kernel
theorem dX6_changeIfMeant_104 : decode cX6_changeIfMeant 104 = .ok (.iload_n 2, 1) := by decide +kernel
theorem dX6_changeIfMeant_105 : decode cX6_changeIfMeant 105 = .ok (.aload_n 0, 1) := by decide +kernel
theorem dX6_changeIfMeant_106 : decode cX6_changeIfMeant 106 = .ok (.getfield 62, 3) := by decide +kernel
theorem dX6_changeIfMeant_109 : decode cX6_changeIfMeant 109 = .ok (.invokevirtual 151, 3) := by decide +kernel
theorem dX6_changeIfMeant_112 : decode cX6_changeIfMeant 112 = .ok (.iconst 1, 1) := by decide +kernel
theorem dX6_changeIfMeant_113 : decode cX6_changeIfMeant 113 = .ok (.ireturn, 1) := by decide +kernel
theorem dX7_init_0 : decode cX7_init 0 = .ok (.aload_n 0, 1) := by decide +kernel
theorem dX7_init_1 : decode cX7_init 1 = .ok (.invokespecial 3, 3) := by decide +kernel
theorem dX7_init_4 : decode cX7_init 4 = .ok (.aload_n 0, 1) := by decide +kernel
theorem dX7_init_5 : decode cX7_init 5 = .ok (.new 9, 3) := by decide +kernel
theorem dX7_init_8 : decode cX7_init 8 = .ok (.dup, 1) := by decide +kernel
theorem dX7_init_9 : decode cX7_init 9 = .ok (.invokespecial 11, 3) := by decide +kernel
theorem dX7_init_12 : decode cX7_init 12 = .ok (.putfield 12, 3) := by decide +kernel
theorem dX7_init_15 : decode cX7_init 15 = .ok (.aload_n 0, 1) := by decide +kernel
theorem dX7_init_16 : decode cX7_init 16 = .ok (.new 18, 3) := by decide +kernel
theorem dX7_init_19 : decode cX7_init 19 = .ok (.dup, 1) := by decide +kernel
theorem dX7_init_20 : decode cX7_init 20 = .ok (.invokespecial 20, 3) := by decide +kernel
theorem dX7_init_23 : decode cX7_init 23 = .ok (.putfield 21, 3) := by decide +kernel
theorem dX7_init_26 : decode cX7_init 26 = .ok (.return_, 1) := by decide +kernel
theorem dX7_prepare_0 : decode cX7_prepare 0 = .ok (.aload_n 0, 1) := by decide +kernel
theorem dX7_prepare_1 : decode cX7_prepare 1 = .ok (.getfield 12, 3) := by decide +kernel
theorem dX7_prepare_4 : decode cX7_prepare 4 = .ok (.aload_n 1, 1) := by decide +kernel
theorem dX7_prepare_5 : decode cX7_prepare 5 = .ok (.invokevirtual 25, 3) := by decide +kernel
theorem dX7_prepare_8 : decode cX7_prepare 8 = .ok (.return_, 1) := by decide +kernel
theorem dX7_spread_0 : decode cX7_spread 0 = .ok (.aload_n 0, 1) := by decide +kernel
theorem dX7_spread_1 : decode cX7_spread 1 = .ok (.iconst 0, 1) := by decide +kernel
theorem dX7_spread_2 : decode cX7_spread 2 = .ok (.putfield 29, 3) := by decide +kernel
theorem dX7_spread_5 : decode cX7_spread 5 = .ok (.aload_n 0, 1) := by decide +kernel
theorem dX7_spread_6 : decode cX7_spread 6 = .ok (.bipush (-6), 2) := by decide +kernel
theorem dX7_spread_8 : decode cX7_spread 8 = .ok (.putfield 33, 3) := by decide +kernel
theorem dX7_spread_11 : decode cX7_spread 11 = .ok (.iload_n 1, 1) := by decide +kernel
theorem dX7_spread_12 : decode cX7_spread 12 = .ok (.invokestatic 36, 3) := by decide +kernel
theorem dX7_spread_15 : decode cX7_spread 15 = .ok (.ifCond .ne 4, 3) := by decide +kernel
theorem dX7_spread_18 : decode cX7_spread 18 = .ok (.return_, 1) := by decide +kernel
theorem dX7_spread_19 : decode cX7_spread 19 = .ok (.aload_n 0, 1) := by decide +kernel
theorem dX7_spread_20 : decode cX7_spread 20 = .ok (.getfield 21, 3) := by decide +kernel
theorem dX7_spread_23 : decode cX7_spread 23 = .ok (.invokevirtual 40, 3) := by decide +kernel
theorem dX7_spread_26 : decode cX7_spread 26 = .ok (.aload_n 0, 1) := by decide +kernel
theorem dX7_spread_27 : decode cX7_spread 27 = .ok (.getfield 21, 3) := by decide +kernel
theorem dX7_spread_30 : decode cX7_spread 30 = .ok (.aload_n 0, 1) := by decide +kernel
theorem dX7_spread_31 : decode cX7_spread 31 = .ok (.getfield 12, 3) := by decide +kernel
theorem dX7_spread_34 : decode cX7_spread 34 = .ok (.getfield 43, 3) := by decide +kernel
theorem dX7_spread_37 : decode cX7_spread 37 = .ok (.iload_n 1, 1) := by decide +kernel
theorem dX7_spread_38 : decode cX7_spread 38 = .ok (.aaload, 1) := by decide +kernel
theorem dX7_spread_39 : decode cX7_spread 39 = .ok (.getfield 47, 3) := by decide +kernel
theorem dX7_spread_42 : decode cX7_spread 42 = .ok (.putfield 52, 3) := by decide +kernel
theorem dX7_spread_45 : decode cX7_spread 45 = .ok (.aload_n 0, 1) := by decide +kernel
theorem dX7_spread_46 : decode cX7_spread 46 = .ok (.getfield 21, 3) := by decide +kernel
theorem dX7_spread_49 : decode cX7_spread 49 = .ok (.iconst 1, 1) := by decide +kernel
theorem dX7_spread_50 : decode cX7_spread 50 = .ok (.putfield 55, 3) := by decide +kernel
theorem dX7_spread_53 : decode cX7_spread 53 = .ok (.aload_n 0, 1) := by decide +kernel
theorem dX7_spread_54 : decode cX7_spread 54 = .ok (.getfield 21, 3) := by decide +kernel
theorem dX7_spread_57 : decode cX7_spread 57 = .ok (.iload_n 2, 1) := by decide +kernel
theorem dX7_spread_58 : decode cX7_spread 58 = .ok (.iload_n 3, 1) := by decide +kernel
theorem dX7_spread_59 : decode cX7_spread 59 = .ok (.iconst 0, 1) := by decide +kernel
theorem dX7_spread_60 : decode cX7_spread 60 = .ok (.invokevirtual 58, 3) := by decide +kernel
theorem dX7_spread_63 : decode cX7_spread 63 = .ok (.aload_n 0, 1) := by decide +kernel
theorem dX7_spread_64 : decode cX7_spread 64 = .ok (.getfield 12, 3) := by decide +kernel
theorem dX7_spread_67 : decode cX7_spread 67 = .ok (.getfield 43, 3) := by decide +kernel
theorem dX7_spread_70 : decode cX7_spread 70 = .ok (.iload_n 1, 1) := by decide +kernel
theorem dX7_spread_71 : decode cX7_spread 71 = .ok (.aaload, 1) := by decide +kernel
theorem dX7_spread_72 : decode cX7_spread 72 = .ok (.aload_n 0, 1) := by decide +kernel
theorem dX7_spread_73 : decode cX7_spread 73 = .ok (.getfield 21, 3) := by decide +kernel
theorem dX7_spread_76 : decode cX7_spread 76 = .ok (.iconst 0, 1) := by decide +kernel
theorem dX7_spread_77 : decode cX7_spread 77 = .ok (.invokevirtual 62, 3) := by decide +kernel
theorem dX7_spread_80 : decode cX7_spread 80 = .ok (.iconst 0, 1) := by decide +kernel
theorem dX7_spread_81 : decode cX7_spread 81 = .ok (.istore 4, 2) := by decide +kernel
theorem dX7_spread_83 : decode cX7_spread 83 = .ok (.iload 4, 2) := by decide +kernel
theorem dX7_spread_85 : decode cX7_spread 85 = .ok (.ldc 66, 2) := by decide +kernel
theorem dX7_spread_87 : decode cX7_spread 87 = .ok (.if_icmp .ge 65, 3) := by decide +kernel
theorem dX7_spread_90 : decode cX7_spread 90 = .ok (.aload_n 0, 1) := by decide +kernel
theorem dX7_spread_91 : decode cX7_spread 91 = .ok (.getfield 12, 3) := by decide +kernel
theorem dX7_spread_94 : decode cX7_spread 94 = .ok (.invokevirtual 67, 3) := by decide +kernel
theorem dX7_spread_97 : decode cX7_spread 97 = .ok (.ifCond .le 55, 3) := by decide +kernel
theorem dX7_spread_100 : decode cX7_spread 100 = .ok (.aload_n 0, 1) := by decide +kernel
theorem dX7_spread_101 : decode cX7_spread 101 = .ok (.getfield 12, 3) := by decide +kernel
theorem dX7_spread_104 : decode cX7_spread 104 = .ok (.getfield 71, 3) := by decide +kernel
theorem dX7_spread_107 : decode cX7_spread 107 = .ok (.istore 5, 2) := by decide +kernel
theorem dX7_spread_109 : decode cX7_spread 109 = .ok (.aload_n 0, 1) := by decide +kernel
theorem dX7_spread_110 : decode cX7_spread 110 = .ok (.getfield 12, 3) := by decide +kernel
theorem dX7_spread_113 : decode cX7_spread 113 = .ok (.invokevirtual 74, 3) := by decide +kernel
theorem dX7_spread_116 : decode cX7_spread 116 = .ok (.aload_n 0, 1) := by decide +kernel
theorem dX7_spread_117 : decode cX7_spread 117 = .ok (.getfield 12, 3) := by decide +kernel
theorem dX7_spread_120 : decode cX7_spread 120 = .ok (.invokevirtual 77, 3) := by decide +kernel
theorem dX7_spread_123 : decode cX7_spread 123 = .ok (.istore 6, 2) := by decide +kernel
theorem dX7_spread_125 : decode cX7_spread 125 = .ok (.iload 6, 2) := by decide +kernel
theorem dX7_spread_127 : decode cX7_spread 127 = .ok (.aload_n 0, 1) := by decide +kernel
theorem dX7_spread_128 : decode cX7_spread 128 = .ok (.getfield 29, 3) := by decide +kernel
theorem dX7_spread_131 : decode cX7_spread 131 = .ok (.if_icmp .eq 15, 3) := by decide +kernel
theorem dX7_spread_134 : decode cX7_spread 134 = .ok (.aload_n 0, 1) := by decide +kernel
theorem dX7_spread_135 : decode cX7_spread 135 = .ok (.iload 6, 2) := by decide +kernel
theorem dX7_spread_137 : decode cX7_spread 137 = .ok (.putfield 29, 3) := by decide +kernel
theorem dX7_spread_140 : decode cX7_spread 140 = .ok (.aload_n 0, 1) := by decide +kernel
theorem dX7_spread_141 : decode cX7_spread 141 = .ok (.iload 5, 2) := by decide +kernel
theorem dX7_spread_143 : decode cX7_spread 143 = .ok (.putfield 33, 3) := by decide +kernel
theorem dX7_spread_146 : decode cX7_spread 146 = .ok (.iinc 4 1, 3) := by decide +kernel
theorem dX7_spread_149 : decode cX7_spread 149 = .ok (.goto (-66), 3) := by decide +kernel
theorem dX7_spread_152 : decode cX7_spread 152 = .ok (.return_, 1) := by decide +kernel
theorem dX8_init_0 : decode cX8_init 0 = .ok (.aload_n 0, 1) := by decide +kernel
theorem dX8_init_1 : decode cX8_init 1 = .ok (.invokespecial 3, 3) := by decide +kernel
theorem dX8_init_4 : decode cX8_init 4 = .ok (.aload_n 0, 1) := by decide +kernel
theorem dX8_init_5 : decode cX8_init 5 = .ok (.bipush 64, 2) := by decide +kernel
theorem dX8_init_7 : decode cX8_init 7 = .ok (.newarray .int, 2) := by decide +kernel
theorem dX8_init_9 : decode cX8_init 9 = .ok (.putfield 9, 3) := by decide +kernel
theorem dX8_init_12 : decode cX8_init 12 = .ok (.return_, 1) := by decide +kernel
theorem dX8_write_0 : decode cX8_write 0 = .ok (.aload_n 0, 1) := by decide +kernel
theorem dX8_write_1 : decode cX8_write 1 = .ok (.iconst 0, 1) := by decide +kernel
theorem dX8_write_2 : decode cX8_write 2 = .ok (.putfield 15, 3) := by decide +kernel
theorem dX8_write_5 : decode cX8_write 5 = .ok (.aload_n 0, 1) := by decide +kernel
theorem dX8_write_6 : decode cX8_write 6 = .ok (.aload_n 1, 1) := by decide +kernel
theorem dX8_write_7 : decode cX8_write 7 = .ok (.getfield 19, 3) := by decide +kernel
theorem dX8_write_10 : decode cX8_write 10 = .ok (.bipush 65, 2) := by decide +kernel
theorem dX8_write_12 : decode cX8_write 12 = .ok (.invokevirtual 24, 3) := by decide +kernel
theorem dX8_write_15 : decode cX8_write 15 = .ok (.aload_n 0, 1) := by decide +kernel
theorem dX8_write_16 : decode cX8_write 16 = .ok (.bipush 62, 2) := by decide +kernel
theorem dX8_write_18 : decode cX8_write 18 = .ok (.invokevirtual 28, 3) := by decide +kernel
theorem dX8_write_21 : decode cX8_write 21 = .ok (.iconst 0, 1) := by decide +kernel
theorem dX8_write_22 : decode cX8_write 22 = .ok (.istore_n 2, 1) := by decide +kernel
theorem dX8_write_23 : decode cX8_write 23 = .ok (.iload_n 2, 1) := by decide +kernel
theorem dX8_write_24 : decode cX8_write 24 = .ok (.aload_n 1, 1) := by decide +kernel
theorem dX8_write_25 : decode cX8_write 25 = .ok (.getfield 32, 3) := by decide +kernel
theorem dX8_write_28 : decode cX8_write 28 = .ok (.if_icmp .ge 25, 3) := by decide +kernel
theorem dX8_write_31 : decode cX8_write 31 = .ok (.iload_n 2, 1) := by decide +kernel
theorem dX8_write_32 : decode cX8_write 32 = .ok (.ifCond .le 9, 3) := by decide +kernel
theorem dX8_write_35 : decode cX8_write 35 = .ok (.aload_n 0, 1) := by decide +kernel
theorem dX8_write_36 : decode cX8_write 36 = .ok (.bipush 44, 2) := by decide +kernel
theorem dX8_write_38 : decode cX8_write 38 = .ok (.invokevirtual 28, 3) := by decide +kernel
theorem dX8_write_41 : decode cX8_write 41 = .ok (.aload_n 0, 1) := by decide +kernel
theorem dX8_write_42 : decode cX8_write 42 = .ok (.aload_n 1, 1) := by decide +kernel
theorem dX8_write_43 : decode cX8_write 43 = .ok (.iload_n 2, 1) := by decide +kernel
theorem dX8_write_44 : decode cX8_write 44 = .ok (.invokevirtual 33, 3) := by decide +kernel
theorem dX8_write_47 : decode cX8_write 47 = .ok (.iinc 2 1, 3) := by decide +kernel
theorem dX8_write_50 : decode cX8_write 50 = .ok (.goto (-27), 3) := by decide +kernel
theorem dX8_write_53 : decode cX8_write 53 = .ok (.aload_n 0, 1) := by decide +kernel
theorem dX8_write_54 : decode cX8_write 54 = .ok (.bipush 58, 2) := by decide +kernel
theorem dX8_write_56 : decode cX8_write 56 = .ok (.invokevirtual 28, 3) := by decide +kernel
theorem dX8_write_59 : decode cX8_write 59 = .ok (.aload_n 0, 1) := by decide +kernel
theorem dX8_write_60 : decode cX8_write 60 = .ok (.aload_n 1, 1) := by decide +kernel
theorem dX8_write_61 : decode cX8_write 61 = .ok (.getfield 37, 3) := by decide +kernel
theorem dX8_write_64 : decode cX8_write 64 = .ok (.bipush 97, 2) := by decide +kernel
theorem dX8_write_66 : decode cX8_write 66 = .ok (.invokevirtual 24, 3) := by decide +kernel
theorem dX8_write_69 : decode cX8_write 69 = .ok (.return_, 1) := by decide +kernel
theorem dX8_signAt_0 : decode cX8_signAt 0 = .ok (.iload_n 1, 1) := by decide +kernel
theorem dX8_signAt_1 : decode cX8_signAt 1 = .ok (.ifCond .lt 26, 3) := by decide +kernel
theorem dX8_signAt_4 : decode cX8_signAt 4 = .ok (.iload_n 1, 1) := by decide +kernel
theorem dX8_signAt_5 : decode cX8_signAt 5 = .ok (.aload_n 0, 1) := by decide +kernel
theorem dX8_signAt_6 : decode cX8_signAt 6 = .ok (.getfield 15, 3) := by decide +kernel
theorem dX8_signAt_9 : decode cX8_signAt 9 = .ok (.if_icmp .ge 18, 3) := by decide +kernel
theorem dX8_signAt_12 : decode cX8_signAt 12 = .ok (.iload_n 1, 1) := by decide +kernel
theorem dX8_signAt_13 : decode cX8_signAt 13 = .ok (.bipush 64, 2) := by decide +kernel
theorem dX8_signAt_15 : decode cX8_signAt 15 = .ok (.if_icmp .ge 12, 3) := by decide +kernel
theorem dX8_signAt_18 : decode cX8_signAt 18 = .ok (.aload_n 0, 1) := by decide +kernel
theorem dX8_signAt_19 : decode cX8_signAt 19 = .ok (.getfield 9, 3) := by decide +kernel
theorem dX8_signAt_22 : decode cX8_signAt 22 = .ok (.iload_n 1, 1) := by decide +kernel
theorem dX8_signAt_23 : decode cX8_signAt 23 = .ok (.iaload, 1) := by decide +kernel
theorem dX8_signAt_24 : decode cX8_signAt 24 = .ok (.goto 5, 3) := by decide +kernel
theorem dX8_signAt_27 : decode cX8_signAt 27 = .ok (.bipush (-6), 2) := by decide +kernel
theorem dX8_signAt_29 : decode cX8_signAt 29 = .ok (.ireturn, 1) := by decide +kernel
theorem dX8_putWord_0 : decode cX8_putWord 0 = .ok (.aload_n 0, 1) := by decide +kernel
theorem dX8_putWord_1 : decode cX8_putWord 1 = .ok (.aload_n 1, 1) := by decide +kernel
theorem dX8_putWord_2 : decode cX8_putWord 2 = .ok (.iload_n 2, 1) := by decide +kernel
theorem dX8_putWord_3 : decode cX8_putWord 3 = .ok (.invokevirtual 40, 3) := by decide +kernel
theorem dX8_putWord_6 : decode cX8_putWord 6 = .ok (.bipush 65, 2) := by decide +kernel
theorem dX8_putWord_8 : decode cX8_putWord 8 = .ok (.invokevirtual 24, 3) := by decide +kernel
theorem dX8_putWord_11 : decode cX8_putWord 11 = .ok (.aload_n 1, 1) := by decide +kernel
theorem dX8_putWord_12 : decode cX8_putWord 12 = .ok (.iload_n 2, 1) := by decide +kernel
theorem dX8_putWord_13 : decode cX8_putWord 13 = .ok (.invokevirtual 44, 3) := by decide +kernel
theorem dX8_putWord_16 : decode cX8_putWord 16 = .ok (.ifCond .le 21, 3) := by decide +kernel
theorem dX8_putWord_19 : decode cX8_putWord 19 = .ok (.aload_n 0, 1) := by decide +kernel
theorem dX8_putWord_20 : decode cX8_putWord 20 = .ok (.bipush 45, 2) := by decide +kernel
theorem dX8_putWord_22 : decode cX8_putWord 22 = .ok (.invokevirtual 28, 3) := by decide +kernel
theorem dX8_putWord_25 : decode cX8_putWord 25 = .ok (.aload_n 0, 1) := by decide +kernel
theorem dX8_putWord_26 : decode cX8_putWord 26 = .ok (.bipush 48, 2) := by decide +kernel
theorem dX8_putWord_28 : decode cX8_putWord 28 = .ok (.aload_n 1, 1) := by decide +kernel
theorem dX8_putWord_29 : decode cX8_putWord 29 = .ok (.iload_n 2, 1) := by decide +kernel
theorem dX8_putWord_30 : decode cX8_putWord 30 = .ok (.invokevirtual 44, 3) := by decide +kernel
theorem dX8_putWord_33 : decode cX8_putWord 33 = .ok (.iadd, 1) := by decide +kernel
theorem dX8_putWord_34 : decode cX8_putWord 34 = .ok (.invokevirtual 28, 3) := by decide +kernel
theorem dX8_putWord_37 : decode cX8_putWord 37 = .ok (.aload_n 1, 1) := by decide +kernel
theorem dX8_putWord_38 : decode cX8_putWord 38 = .ok (.iload_n 2, 1) := by decide +kernel
theorem dX8_putWord_39 : decode cX8_putWord 39 = .ok (.invokevirtual 47, 3) := by decide +kernel
theorem dX8_putWord_42 : decode cX8_putWord 42 = .ok (.ifCond .eq 9, 3) := by decide +kernel
theorem dX8_putWord_45 : decode cX8_putWord 45 = .ok (.aload_n 0, 1) := by decide +kernel
theorem dX8_putWord_46 : decode cX8_putWord 46 = .ok (.bipush 42, 2) := by decide +kernel
theorem dX8_putWord_48 : decode cX8_putWord 48 = .ok (.invokevirtual 28, 3) := by decide +kernel
theorem dX8_putWord_51 : decode cX8_putWord 51 = .ok (.return_, 1) := by decide +kernel
theorem dX8_putLetters_0 : decode cX8_putLetters 0 = .ok (.iconst 3, 1) := by decide +kernel
theorem dX8_putLetters_1 : decode cX8_putLetters 1 = .ok (.istore_n 3, 1) := by decide +kernel
theorem dX8_putLetters_2 : decode cX8_putLetters 2 = .ok (.iload_n 3, 1) := by decide +kernel
theorem dX8_putLetters_3 : decode cX8_putLetters 3 = .ok (.ifCond .lt 34, 3) := by decide +kernel
theorem dX8_putLetters_6 : decode cX8_putLetters 6 = .ok (.iload_n 1, 1) := by decide +kernel
theorem dX8_putLetters_7 : decode cX8_putLetters 7 = .ok (.iconst 5, 1) := by decide +kernel
theorem dX8_putLetters_8 : decode cX8_putLetters 8 = .ok (.iload_n 3, 1) := by decide +kernel
theorem dX8_putLetters_9 : decode cX8_putLetters 9 = .ok (.imul, 1) := by decide +kernel
theorem dX8_putLetters_10 : decode cX8_putLetters 10 = .ok (.ishr, 1) := by decide +kernel
theorem dX8_putLetters_11 : decode cX8_putLetters 11 = .ok (.bipush 31, 2) := by decide +kernel
theorem dX8_putLetters_13 : decode cX8_putLetters 13 = .ok (.iand, 1) := by decide +kernel
theorem dX8_putLetters_14 : decode cX8_putLetters 14 = .ok (.istore 4, 2) := by decide +kernel
theorem dX8_putLetters_16 : decode cX8_putLetters 16 = .ok (.iload 4, 2) := by decide +kernel
theorem dX8_putLetters_18 : decode cX8_putLetters 18 = .ok (.ifCond .le 13, 3) := by decide +kernel
theorem dX8_putLetters_21 : decode cX8_putLetters 21 = .ok (.aload_n 0, 1) := by decide +kernel
theorem dX8_putLetters_22 : decode cX8_putLetters 22 = .ok (.iload_n 2, 1) := by decide +kernel
theorem dX8_putLetters_23 : decode cX8_putLetters 23 = .ok (.iload 4, 2) := by decide +kernel
theorem dX8_putLetters_25 : decode cX8_putLetters 25 = .ok (.iadd, 1) := by decide +kernel
theorem dX8_putLetters_26 : decode cX8_putLetters 26 = .ok (.iconst 1, 1) := by decide +kernel
theorem dX8_putLetters_27 : decode cX8_putLetters 27 = .ok (.isub, 1) := by decide +kernel
theorem dX8_putLetters_28 : decode cX8_putLetters 28 = .ok (.invokevirtual 28, 3) := by decide +kernel
theorem dX8_putLetters_31 : decode cX8_putLetters 31 = .ok (.iinc 3 (-1), 3) := by decide +kernel
theorem dX8_putLetters_34 : decode cX8_putLetters 34 = .ok (.goto (-32), 3) := by decide +kernel
theorem dX8_putLetters_37 : decode cX8_putLetters 37 = .ok (.return_, 1) := by decide +kernel
theorem dX8_put_0 : decode cX8_put 0 = .ok (.aload_n 0, 1) := by decide +kernel
theorem dX8_put_1 : decode cX8_put 1 = .ok (.getfield 15, 3) := by decide +kernel
theorem dX8_put_4 : decode cX8_put 4 = .ok (.bipush 64, 2) := by decide +kernel
theorem dX8_put_6 : decode cX8_put 6 = .ok (.if_icmp .ge 23, 3) := by decide +kernel
theorem dX8_put_9 : decode cX8_put 9 = .ok (.aload_n 0, 1) := by decide +kernel
theorem dX8_put_10 : decode cX8_put 10 = .ok (.getfield 9, 3) := by decide +kernel
theorem dX8_put_13 : decode cX8_put 13 = .ok (.aload_n 0, 1) := by decide +kernel
theorem dX8_put_14 : decode cX8_put 14 = .ok (.getfield 15, 3) := by decide +kernel
theorem dX8_put_17 : decode cX8_put 17 = .ok (.iload_n 1, 1) := by decide +kernel
theorem dX8_put_18 : decode cX8_put 18 = .ok (.iastore, 1) := by decide +kernel
theorem dX8_put_19 : decode cX8_put 19 = .ok (.aload_n 0, 1) := by decide +kernel
theorem dX8_put_20 : decode cX8_put 20 = .ok (.dup, 1) := by decide +kernel
theorem dX8_put_21 : decode cX8_put 21 = .ok (.getfield 15, 3) := by decide +kernel
theorem dX8_put_24 : decode cX8_put 24 = .ok (.iconst 1, 1) := by decide +kernel
theorem dX8_put_25 : decode cX8_put 25 = .ok (.iadd, 1) := by decide +kernel
theorem dX8_put_26 : decode cX8_put 26 = .ok (.putfield 15, 3) := by decide +kernel
theorem dX8_put_29 : decode cX8_put 29 = .ok (.return_, 1) := by decide +kernel
theorem dX9_init_0 : decode cX9_init 0 = .ok (.aload_n 0, 1) := by decide +kernel
theorem dX9_init_1 : decode cX9_init 1 = .ok (.invokespecial 1, 3) := by decide +kernel
theorem dX9_init_4 : decode cX9_init 4 = .ok (.aload_n 0, 1) := by decide +kernel
theorem dX9_init_5 : decode cX9_init 5 = .ok (.new 7, 3) := by decide +kernel
theorem dX9_init_8 : decode cX9_init 8 = .ok (.dup, 1) := by decide +kernel
theorem dX9_init_9 : decode cX9_init 9 = .ok (.invokespecial 9, 3) := by decide +kernel
theorem dX9_init_12 : decode cX9_init 12 = .ok (.putfield 10, 3) := by decide +kernel
theorem dX9_init_15 : decode cX9_init 15 = .ok (.aload_n 0, 1) := by decide +kernel
theorem dX9_init_16 : decode cX9_init 16 = .ok (.new 16, 3) := by decide +kernel
theorem dX9_init_19 : decode cX9_init 19 = .ok (.dup, 1) := by decide +kernel
theorem dX9_init_20 : decode cX9_init 20 = .ok (.invokespecial 18, 3) := by decide +kernel
theorem dX9_init_23 : decode cX9_init 23 = .ok (.putfield 19, 3) := by decide +kernel
theorem dX9_init_26 : decode cX9_init 26 = .ok (.aload_n 0, 1) := by decide +kernel
theorem dX9_init_27 : decode cX9_init 27 = .ok (.new 23, 3) := by decide +kernel
theorem dX9_init_30 : decode cX9_init 30 = .ok (.dup, 1) := by decide +kernel
theorem dX9_init_31 : decode cX9_init 31 = .ok (.invokespecial 25, 3) := by decide +kernel
theorem dX9_init_34 : decode cX9_init 34 = .ok (.putfield 26, 3) := by decide +kernel
theorem dX9_init_37 : decode cX9_init 37 = .ok (.aload_n 0, 1) := by decide +kernel
theorem dX9_init_38 : decode cX9_init 38 = .ok (.iconst 2, 1) := by decide +kernel
theorem dX9_init_39 : decode cX9_init 39 = .ok (.anewarray 16, 3) := by decide +kernel
theorem dX9_init_42 : decode cX9_init 42 = .ok (.putfield 30, 3) := by decide +kernel
theorem dX9_init_45 : decode cX9_init 45 = .ok (.aload_n 0, 1) := by decide +kernel
theorem dX9_init_46 : decode cX9_init 46 = .ok (.new 34, 3) := by decide +kernel
theorem dX9_init_49 : decode cX9_init 49 = .ok (.dup, 1) := by decide +kernel
theorem dX9_init_50 : decode cX9_init 50 = .ok (.invokespecial 36, 3) := by decide +kernel
theorem dX9_init_53 : decode cX9_init 53 = .ok (.putfield 37, 3) := by decide +kernel
theorem dX9_init_56 : decode cX9_init 56 = .ok (.aload_n 0, 1) := by decide +kernel
theorem dX9_init_57 : decode cX9_init 57 = .ok (.new 41, 3) := by decide +kernel
theorem dX9_init_60 : decode cX9_init 60 = .ok (.dup, 1) := by decide +kernel
theorem dX9_init_61 : decode cX9_init 61 = .ok (.invokespecial 43, 3) := by decide +kernel
theorem dX9_init_64 : decode cX9_init 64 = .ok (.putfield 44, 3) := by decide +kernel
theorem dX9_init_67 : decode cX9_init 67 = .ok (.return_, 1) := by decide +kernel
theorem dX9_say_0 : decode cX9_say 0 = .ok (.iload_n 1, 1) := by decide +kernel
theorem dX9_say_1 : decode cX9_say 1 = .ok (.bipush 33, 2) := by decide +kernel
theorem dX9_say_3 : decode cX9_say 3 = .ok (.if_icmp .lt 9, 3) := by decide +kernel
theorem dX9_say_6 : decode cX9_say 6 = .ok (.iload_n 1, 1) := by decide +kernel
theorem dX9_say_7 : decode cX9_say 7 = .ok (.bipush 126, 2) := by decide +kernel
theorem dX9_say_9 : decode cX9_say 9 = .ok (.if_icmp .le 6, 3) := by decide +kernel
theorem dX9_say_12 : decode cX9_say 12 = .ok (.bipush (-2), 2) := by decide +kernel
theorem dX9_say_14 : decode cX9_say 14 = .ok (.ireturn, 1) := by decide +kernel
theorem dX9_say_15 : decode cX9_say 15 = .ok (.aload_n 0, 1) := by decide +kernel
theorem dX9_say_16 : decode cX9_say 16 = .ok (.getfield 10, 3) := by decide +kernel
theorem dX9_say_19 : decode cX9_say 19 = .ok (.getfield 48, 3) := by decide +kernel
theorem dX9_say_22 : decode cX9_say 22 = .ok (.bipush 40, 2) := by decide +kernel
theorem dX9_say_24 : decode cX9_say 24 = .ok (.if_icmp .lt 6, 3) := by decide +kernel
theorem dX9_say_27 : decode cX9_say 27 = .ok (.bipush (-4), 2) := by decide +kernel
theorem dX9_say_29 : decode cX9_say 29 = .ok (.ireturn, 1) := by decide +kernel
theorem dX9_say_30 : decode cX9_say 30 = .ok (.aload_n 0, 1) := by decide +kernel
theorem dX9_say_31 : decode cX9_say 31 = .ok (.getfield 10, 3) := by decide +kernel
theorem dX9_say_34 : decode cX9_say 34 = .ok (.iload_n 1, 1) := by decide +kernel
theorem dX9_say_35 : decode cX9_say 35 = .ok (.invokevirtual 52, 3) := by decide +kernel
theorem dX9_say_38 : decode cX9_say 38 = .ok (.aload_n 0, 1) := by decide +kernel
theorem dX9_say_39 : decode cX9_say 39 = .ok (.getfield 10, 3) := by decide +kernel
theorem dX9_say_42 : decode cX9_say 42 = .ok (.getfield 48, 3) := by decide +kernel
theorem dX9_say_45 : decode cX9_say 45 = .ok (.ireturn, 1) := by decide +kernel
theorem dX9_wipe_0 : decode cX9_wipe 0 = .ok (.aload_n 0, 1) := by decide +kernel
theorem dX9_wipe_1 : decode cX9_wipe 1 = .ok (.getfield 10, 3) := by decide +kernel
theorem dX9_wipe_4 : decode cX9_wipe 4 = .ok (.getfield 48, 3) := by decide +kernel
theorem dX9_wipe_7 : decode cX9_wipe 7 = .ok (.istore_n 1, 1) := by decide +kernel
theorem dX9_wipe_8 : decode cX9_wipe 8 = .ok (.aload_n 0, 1) := by decide +kernel
theorem dX9_wipe_9 : decode cX9_wipe 9 = .ok (.getfield 10, 3) := by decide +kernel
theorem dX9_wipe_12 : decode cX9_wipe 12 = .ok (.invokevirtual 56, 3) := by decide +kernel
theorem dX9_wipe_15 : decode cX9_wipe 15 = .ok (.iload_n 1, 1) := by decide +kernel
theorem dX9_wipe_16 : decode cX9_wipe 16 = .ok (.ireturn, 1) := by decide +kernel
theorem dX9_fault_0 : decode cX9_fault 0 = .ok (.aload_n 0, 1) := by decide +kernel
theorem dX9_fault_1 : decode cX9_fault 1 = .ok (.getfield 10, 3) := by decide +kernel
theorem dX9_fault_4 : decode cX9_fault 4 = .ok (.aload_n 0, 1) := by decide +kernel
theorem dX9_fault_5 : decode cX9_fault 5 = .ok (.getfield 37, 3) := by decide +kernel
theorem dX9_fault_8 : decode cX9_fault 8 = .ok (.invokevirtual 59, 3) := by decide +kernel
theorem dX9_fault_11 : decode cX9_fault 11 = .ok (.ireturn, 1) := by decide +kernel
theorem dX9_name_0 : decode cX9_name 0 = .ok (.iload_n 1, 1) := by decide +kernel
theorem dX9_name_1 : decode cX9_name 1 = .ok (.invokestatic 63, 3) := by decide +kernel
theorem dX9_name_4 : decode cX9_name 4 = .ok (.ifCond .ne 5, 3) := by decide +kernel
theorem dX9_name_7 : decode cX9_name 7 = .ok (.iconst (-1), 1) := by decide +kernel
theorem dX9_name_8 : decode cX9_name 8 = .ok (.ireturn, 1) := by decide +kernel
theorem dX9_name_9 : decode cX9_name 9 = .ok (.iload_n 2, 1) := by decide +kernel
theorem dX9_name_10 : decode cX9_name 10 = .ok (.ifCond .lt 8, 3) := by decide +kernel
theorem dX9_name_13 : decode cX9_name 13 = .ok (.iload_n 2, 1) := by decide +kernel
theorem dX9_name_14 : decode cX9_name 14 = .ok (.iconst 2, 1) := by decide +kernel
theorem dX9_name_15 : decode cX9_name 15 = .ok (.if_icmp .le 6, 3) := by decide +kernel
theorem dX9_name_18 : decode cX9_name 18 = .ok (.bipush (-2), 2) := by decide +kernel
theorem dX9_name_20 : decode cX9_name 20 = .ok (.ireturn, 1) := by decide +kernel
theorem dX9_name_21 : decode cX9_name 21 = .ok (.aload_n 0, 1) := by decide +kernel
theorem dX9_name_22 : decode cX9_name 22 = .ok (.getfield 10, 3) := by decide +kernel
theorem dX9_name_25 : decode cX9_name 25 = .ok (.invokevirtual 67, 3) := by decide +kernel
theorem dX9_name_28 : decode cX9_name 28 = .ok (.istore_n 3, 1) := by decide +kernel
theorem dX9_name_29 : decode cX9_name 29 = .ok (.iload_n 3, 1) := by decide +kernel
theorem dX9_name_30 : decode cX9_name 30 = .ok (.ifCond .ne 6, 3) := by decide +kernel
theorem dX9_name_33 : decode cX9_name 33 = .ok (.bipush (-7), 2) := by decide +kernel
theorem dX9_name_35 : decode cX9_name 35 = .ok (.ireturn, 1) := by decide +kernel
theorem dX9_name_36 : decode cX9_name 36 = .ok (.aload_n 0, 1) := by decide +kernel
theorem dX9_name_37 : decode cX9_name 37 = .ok (.getfield 19, 3) := by decide +kernel
theorem dX9_name_40 : decode cX9_name 40 = .ok (.getfield 71, 3) := by decide +kernel
theorem dX9_name_43 : decode cX9_name 43 = .ok (.iload_n 1, 1) := by decide +kernel
theorem dX9_name_44 : decode cX9_name 44 = .ok (.aaload, 1) := by decide +kernel
theorem dX9_name_45 : decode cX9_name 45 = .ok (.astore 4, 2) := by decide +kernel
theorem dX9_name_47 : decode cX9_name 47 = .ok (.iload_n 2, 1) := by decide +kernel
theorem dX9_name_48 : decode cX9_name 48 = .ok (.ifCond .ne 44, 3) := by decide +kernel
theorem dX9_name_51 : decode cX9_name 51 = .ok (.aload_n 0, 1) := by decide +kernel
theorem dX9_name_52 : decode cX9_name 52 = .ok (.getfield 19, 3) := by decide +kernel
theorem dX9_name_55 : decode cX9_name 55 = .ok (.iload_n 3, 1) := by decide +kernel
theorem dX9_name_56 : decode cX9_name 56 = .ok (.invokevirtual 75, 3) := by decide +kernel
theorem dX9_name_59 : decode cX9_name 59 = .ok (.istore 5, 2) := by decide +kernel
theorem dX9_name_61 : decode cX9_name 61 = .ok (.iload 5, 2) := by decide +kernel
theorem dX9_name_63 : decode cX9_name 63 = .ok (.bipush (-6), 2) := by decide +kernel
theorem dX9_name_65 : decode cX9_name 65 = .ok (.if_icmp .eq 12, 3) := by decide +kernel
theorem dX9_name_68 : decode cX9_name 68 = .ok (.iload 5, 2) := by decide +kernel
theorem dX9_name_70 : decode cX9_name 70 = .ok (.iload_n 1, 1) := by decide +kernel
theorem dX9_name_71 : decode cX9_name 71 = .ok (.if_icmp .eq 6, 3) := by decide +kernel
theorem dX9_name_74 : decode cX9_name 74 = .ok (.bipush (-3), 2) := by decide +kernel
theorem dX9_name_76 : decode cX9_name 76 = .ok (.ireturn, 1) := by decide +kernel
theorem dX9_name_77 : decode cX9_name 77 = .ok (.aload 4, 2) := by decide +kernel
theorem dX9_name_79 : decode cX9_name 79 = .ok (.iload_n 3, 1) := by decide +kernel
theorem dX9_name_80 : decode cX9_name 80 = .ok (.putfield 79, 3) := by decide +kernel
theorem dX9_name_83 : decode cX9_name 83 = .ok (.aload_n 0, 1) := by decide +kernel
theorem dX9_name_84 : decode cX9_name 84 = .ok (.getfield 10, 3) := by decide +kernel
theorem dX9_name_87 : decode cX9_name 87 = .ok (.invokevirtual 56, 3) := by decide +kernel
theorem dX9_name_90 : decode cX9_name 90 = .ok (.iconst 1, 1) := by decide +kernel
theorem dX9_name_91 : decode cX9_name 91 = .ok (.ireturn, 1) := by decide +kernel
theorem dX9_name_92 : decode cX9_name 92 = .ok (.iload_n 2, 1) := by decide +kernel
theorem dX9_name_93 : decode cX9_name 93 = .ok (.iconst 1, 1) := by decide +kernel
theorem dX9_name_94 : decode cX9_name 94 = .ok (.if_icmp .ne 11, 3) := by decide +kernel
theorem dX9_name_97 : decode cX9_name 97 = .ok (.aload 4, 2) := by decide +kernel
theorem dX9_name_99 : decode cX9_name 99 = .ok (.getfield 84, 3) := by decide +kernel
theorem dX9_name_102 : decode cX9_name 102 = .ok (.goto 8, 3) := by decide +kernel
theorem dX9_name_105 : decode cX9_name 105 = .ok (.aload 4, 2) := by decide +kernel
theorem dX9_name_107 : decode cX9_name 107 = .ok (.getfield 88, 3) := by decide +kernel
theorem dX9_name_110 : decode cX9_name 110 = .ok (.astore 5, 2) := by decide +kernel
theorem dX9_name_112 : decode cX9_name 112 = .ok (.aload 5, 2) := by decide +kernel
theorem dX9_name_114 : decode cX9_name 114 = .ok (.getfield 91, 3) := by decide +kernel
theorem dX9_name_117 : decode cX9_name 117 = .ok (.iconst 2, 1) := by decide +kernel
theorem dX9_name_118 : decode cX9_name 118 = .ok (.if_icmp .lt 6, 3) := by decide +kernel
theorem dX9_name_121 : decode cX9_name 121 = .ok (.bipush (-4), 2) := by decide +kernel
theorem dX9_name_123 : decode cX9_name 123 = .ok (.ireturn, 1) := by decide +kernel
theorem dX9_name_124 : decode cX9_name 124 = .ok (.aload 5, 2) := by decide +kernel
theorem dX9_name_126 : decode cX9_name 126 = .ok (.iload_n 3, 1) := by decide +kernel
theorem dX9_name_127 : decode cX9_name 127 = .ok (.invokevirtual 94, 3) := by decide +kernel
theorem dX9_name_130 : decode cX9_name 130 = .ok (.aload_n 0, 1) := by decide +kernel
theorem dX9_name_131 : decode cX9_name 131 = .ok (.getfield 10, 3) := by decide +kernel
theorem dX9_name_134 : decode cX9_name 134 = .ok (.invokevirtual 56, 3) := by decide +kernel
theorem dX9_name_137 : decode cX9_name 137 = .ok (.aload 5, 2) := by decide +kernel
theorem dX9_name_139 : decode cX9_name 139 = .ok (.getfield 91, 3) := by decide +kernel
theorem dX9_name_142 : decode cX9_name 142 = .ok (.ireturn, 1) := by decide +kernel
theorem dX9_forget_0 : decode cX9_forget 0 = .ok (.iload_n 1, 1) := by decide +kernel
theorem dX9_forget_1 : decode cX9_forget 1 = .ok (.invokestatic 63, 3) := by decide +kernel
theorem dX9_forget_4 : decode cX9_forget 4 = .ok (.ifCond .ne 5, 3) := by decide +kernel
theorem dX9_forget_7 : decode cX9_forget 7 = .ok (.iconst (-1), 1) := by decide +kernel
theorem dX9_forget_8 : decode cX9_forget 8 = .ok (.ireturn, 1) := by decide +kernel
theorem dX9_forget_9 : decode cX9_forget 9 = .ok (.iload_n 2, 1) := by decide +kernel
theorem dX9_forget_10 : decode cX9_forget 10 = .ok (.iconst 1, 1) := by decide +kernel
theorem dX9_forget_11 : decode cX9_forget 11 = .ok (.if_icmp .lt 8, 3) := by decide +kernel
theorem dX9_forget_14 : decode cX9_forget 14 = .ok (.iload_n 2, 1) := by decide +kernel
theorem dX9_forget_15 : decode cX9_forget 15 = .ok (.iconst 2, 1) := by decide +kernel
theorem dX9_forget_16 : decode cX9_forget 16 = .ok (.if_icmp .le 6, 3) := by decide +kernel
theorem dX9_forget_19 : decode cX9_forget 19 = .ok (.bipush (-2), 2) := by decide +kernel
theorem dX9_forget_21 : decode cX9_forget 21 = .ok (.ireturn, 1) := by decide +kernel
theorem dX9_forget_22 : decode cX9_forget 22 = .ok (.aload_n 0, 1) := by decide +kernel
theorem dX9_forget_23 : decode cX9_forget 23 = .ok (.getfield 19, 3) := by decide +kernel
theorem dX9_forget_26 : decode cX9_forget 26 = .ok (.getfield 71, 3) := by decide +kernel
theorem dX9_forget_29 : decode cX9_forget 29 = .ok (.iload_n 1, 1) := by decide +kernel
theorem dX9_forget_30 : decode cX9_forget 30 = .ok (.aaload, 1) := by decide +kernel
theorem dX9_forget_31 : decode cX9_forget 31 = .ok (.astore_n 3, 1) := by decide +kernel
theorem dX9_forget_32 : decode cX9_forget 32 = .ok (.iload_n 2, 1) := by decide +kernel
theorem dX9_forget_33 : decode cX9_forget 33 = .ok (.iconst 1, 1) := by decide +kernel
theorem dX9_forget_34 : decode cX9_forget 34 = .ok (.if_icmp .ne 10, 3) := by decide +kernel
theorem dX9_forget_37 : decode cX9_forget 37 = .ok (.aload_n 3, 1) := by decide +kernel
theorem dX9_forget_38 : decode cX9_forget 38 = .ok (.getfield 84, 3) := by decide +kernel
theorem dX9_forget_41 : decode cX9_forget 41 = .ok (.goto 7, 3) := by decide +kernel
theorem dX9_forget_44 : decode cX9_forget 44 = .ok (.aload_n 3, 1) := by decide +kernel
theorem dX9_forget_45 : decode cX9_forget 45 = .ok (.getfield 88, 3) := by decide +kernel
theorem dX9_forget_48 : decode cX9_forget 48 = .ok (.astore 4, 2) := by decide +kernel
theorem dX9_forget_50 : decode cX9_forget 50 = .ok (.aload 4, 2) := by decide +kernel
theorem dX9_forget_52 : decode cX9_forget 52 = .ok (.getfield 91, 3) := by decide +kernel
theorem dX9_forget_55 : decode cX9_forget 55 = .ok (.istore 5, 2) := by decide +kernel
theorem dX9_forget_57 : decode cX9_forget 57 = .ok (.aload 4, 2) := by decide +kernel
theorem dX9_forget_59 : decode cX9_forget 59 = .ok (.invokevirtual 95, 3) := by decide +kernel
theorem dX9_forget_62 : decode cX9_forget 62 = .ok (.iload 5, 2) := by decide +kernel
theorem dX9_forget_64 : decode cX9_forget 64 = .ok (.ireturn, 1) := by decide +kernel
theorem dX9_set_0 : decode cX9_set 0 = .ok (.iload_n 1, 1) := by decide +kernel
theorem dX9_set_1 : decode cX9_set 1 = .ok (.invokestatic 63, 3) := by decide +kernel
theorem dX9_set_4 : decode cX9_set 4 = .ok (.ifCond .ne 5, 3) := by decide +kernel
theorem dX9_set_7 : decode cX9_set 7 = .ok (.iconst (-1), 1) := by decide +kernel
theorem dX9_set_8 : decode cX9_set 8 = .ok (.ireturn, 1) := by decide +kernel
theorem dX9_set_9 : decode cX9_set 9 = .ok (.iload_n 2, 1) := by decide +kernel
theorem dX9_set_10 : decode cX9_set 10 = .ok (.iload_n 3, 1) := by decide +kernel
theorem dX9_set_11 : decode cX9_set 11 = .ok (.invokestatic 96, 3) := by decide +kernel
theorem dX9_set_14 : decode cX9_set 14 = .ok (.ifCond .ne 6, 3) := by decide +kernel
theorem dX9_set_17 : decode cX9_set 17 = .ok (.bipush (-2), 2) := by decide +kernel
theorem dX9_set_19 : decode cX9_set 19 = .ok (.ireturn, 1) := by decide +kernel
theorem dX9_set_20 : decode cX9_set 20 = .ok (.aload_n 0, 1) := by decide +kernel
theorem dX9_set_21 : decode cX9_set 21 = .ok (.getfield 19, 3) := by decide +kernel
theorem dX9_set_24 : decode cX9_set 24 = .ok (.getfield 71, 3) := by decide +kernel
theorem dX9_set_27 : decode cX9_set 27 = .ok (.iload_n 1, 1) := by decide +kernel
theorem dX9_set_28 : decode cX9_set 28 = .ok (.aaload, 1) := by decide +kernel
theorem dX9_set_29 : decode cX9_set 29 = .ok (.astore 4, 2) := by decide +kernel
theorem dX9_set_31 : decode cX9_set 31 = .ok (.iload_n 2, 1) := by decide +kernel
theorem dX9_set_32 : decode cX9_set 32 = .ok (.ifCond .ne 19, 3) := by decide +kernel
theorem dX9_set_35 : decode cX9_set 35 = .ok (.aload 4, 2) := by decide +kernel
theorem dX9_set_37 : decode cX9_set 37 = .ok (.getfield 100, 3) := by decide +kernel
theorem dX9_set_40 : decode cX9_set 40 = .ok (.istore 5, 2) := by decide +kernel
theorem dX9_set_42 : decode cX9_set 42 = .ok (.aload 4, 2) := by decide +kernel
theorem dX9_set_44 : decode cX9_set 44 = .ok (.iload_n 3, 1) := by decide +kernel
theorem dX9_set_45 : decode cX9_set 45 = .ok (.putfield 100, 3) := by decide +kernel
theorem dX9_set_48 : decode cX9_set 48 = .ok (.goto 37, 3) := by decide +kernel
theorem dX9_set_51 : decode cX9_set 51 = .ok (.iload_n 2, 1) := by decide +kernel
theorem dX9_set_52 : decode cX9_set 52 = .ok (.iconst 1, 1) := by decide +kernel
theorem dX9_set_53 : decode cX9_set 53 = .ok (.if_icmp .ne 19, 3) := by decide +kernel
theorem dX9_set_56 : decode cX9_set 56 = .ok (.aload 4, 2) := by decide +kernel
theorem dX9_set_58 : decode cX9_set 58 = .ok (.getfield 103, 3) := by decide +kernel
theorem dX9_set_61 : decode cX9_set 61 = .ok (.istore 5, 2) := by decide +kernel
theorem dX9_set_63 : decode cX9_set 63 = .ok (.aload 4, 2) := by decide +kernel
theorem dX9_set_65 : decode cX9_set 65 = .ok (.iload_n 3, 1) := by decide +kernel
theorem dX9_set_66 : decode cX9_set 66 = .ok (.putfield 103, 3) := by decide +kernel
theorem dX9_set_69 : decode cX9_set 69 = .ok (.goto 16, 3) := by decide +kernel
theorem dX9_set_72 : decode cX9_set 72 = .ok (.aload 4, 2) := by decide +kernel
theorem dX9_set_74 : decode cX9_set 74 = .ok (.getfield 106, 3) := by decide +kernel
theorem dX9_set_77 : decode cX9_set 77 = .ok (.istore 5, 2) := by decide +kernel
theorem dX9_set_79 : decode cX9_set 79 = .ok (.aload 4, 2) := by decide +kernel
theorem dX9_set_81 : decode cX9_set 81 = .ok (.iload_n 3, 1) := by decide +kernel
theorem dX9_set_82 : decode cX9_set 82 = .ok (.putfield 106, 3) := by decide +kernel
theorem dX9_set_85 : decode cX9_set 85 = .ok (.iload 5, 2) := by decide +kernel
theorem dX9_set_87 : decode cX9_set 87 = .ok (.ireturn, 1) := by decide +kernel
theorem dX9_near_0 : decode cX9_near 0 = .ok (.iload_n 1, 1) := by decide +kernel
theorem dX9_near_1 : decode cX9_near 1 = .ok (.invokestatic 63, 3) := by decide +kernel
theorem dX9_near_4 : decode cX9_near 4 = .ok (.ifCond .eq 10, 3) := by decide +kernel
theorem dX9_near_7 : decode cX9_near 7 = .ok (.iload_n 2, 1) := by decide +kernel
theorem dX9_near_8 : decode cX9_near 8 = .ok (.invokestatic 63, 3) := by decide +kernel
theorem dX9_near_11 : decode cX9_near 11 = .ok (.ifCond .ne 5, 3) := by decide +kernel
theorem dX9_near_14 : decode cX9_near 14 = .ok (.iconst (-1), 1) := by decide +kernel
theorem dX9_near_15 : decode cX9_near 15 = .ok (.ireturn, 1) := by decide +kernel
theorem dX9_near_16 : decode cX9_near 16 = .ok (.iload_n 3, 1) := by decide +kernel
theorem dX9_near_17 : decode cX9_near 17 = .ok (.ifCond .lt 13, 3) := by decide +kernel
theorem dX9_near_20 : decode cX9_near 20 = .ok (.iload_n 3, 1) := by decide +kernel
theorem dX9_near_21 : decode cX9_near 21 = .ok (.iconst 1, 1) := by decide +kernel
theorem dX9_near_22 : decode cX9_near 22 = .ok (.if_icmp .gt 8, 3) := by decide +kernel
theorem dX9_near_25 : decode cX9_near 25 = .ok (.iload_n 1, 1) := by decide +kernel
theorem dX9_near_26 : decode cX9_near 26 = .ok (.iload_n 2, 1) := by decide +kernel
theorem dX9_near_27 : decode cX9_near 27 = .ok (.if_icmp .ne 6, 3) := by decide +kernel
theorem dX9_near_30 : decode cX9_near 30 = .ok (.bipush (-2), 2) := by decide +kernel
theorem dX9_near_32 : decode cX9_near 32 = .ok (.ireturn, 1) := by decide +kernel
theorem dX9_near_33 : decode cX9_near 33 = .ok (.aload_n 0, 1) := by decide +kernel
theorem dX9_near_34 : decode cX9_near 34 = .ok (.getfield 19, 3) := by decide +kernel
theorem dX9_near_37 : decode cX9_near 37 = .ok (.iload_n 1, 1) := by decide +kernel
theorem dX9_near_38 : decode cX9_near 38 = .ok (.iload_n 2, 1) := by decide +kernel
theorem dX9_near_39 : decode cX9_near 39 = .ok (.iload_n 3, 1) := by decide +kernel
theorem dX9_near_40 : decode cX9_near 40 = .ok (.iconst 1, 1) := by decide +kernel
theorem dX9_near_41 : decode cX9_near 41 = .ok (.if_icmp .ne 7, 3) := by decide +kernel
theorem dX9_near_44 : decode cX9_near 44 = .ok (.iconst 1, 1) := by decide +kernel
theorem dX9_near_45 : decode cX9_near 45 = .ok (.goto 4, 3) := by decide +kernel
theorem dX9_near_48 : decode cX9_near 48 = .ok (.iconst 0, 1) := by decide +kernel
theorem dX9_near_49 : decode cX9_near 49 = .ok (.invokevirtual 109, 3) := by decide +kernel
theorem dX9_near_52 : decode cX9_near 52 = .ok (.aload_n 0, 1) := by decide +kernel
theorem dX9_near_53 : decode cX9_near 53 = .ok (.getfield 19, 3) := by decide +kernel
theorem dX9_near_56 : decode cX9_near 56 = .ok (.getfield 113, 3) := by decide +kernel
theorem dX9_near_59 : decode cX9_near 59 = .ok (.iload_n 1, 1) := by decide +kernel
theorem dX9_near_60 : decode cX9_near 60 = .ok (.iaload, 1) := by decide +kernel
theorem dX9_near_61 : decode cX9_near 61 = .ok (.invokestatic 117, 3) := by decide +kernel
theorem dX9_near_64 : decode cX9_near 64 = .ok (.ireturn, 1) := by decide +kernel
theorem dX9_send_0 : decode cX9_send 0 = .ok (.iload_n 1, 1) := by decide +kernel
theorem dX9_send_1 : decode cX9_send 1 = .ok (.invokestatic 63, 3) := by decide +kernel
theorem dX9_send_4 : decode cX9_send 4 = .ok (.ifCond .ne 5, 3) := by decide +kernel
theorem dX9_send_7 : decode cX9_send 7 = .ok (.iconst (-1), 1) := by decide +kernel
theorem dX9_send_8 : decode cX9_send 8 = .ok (.ireturn, 1) := by decide +kernel
theorem dX9_send_9 : decode cX9_send 9 = .ok (.aload_n 0, 1) := by decide +kernel
theorem dX9_send_10 : decode cX9_send 10 = .ok (.getfield 10, 3) := by decide +kernel
theorem dX9_send_13 : decode cX9_send 13 = .ok (.aload_n 0, 1) := by decide +kernel
theorem dX9_send_14 : decode cX9_send 14 = .ok (.getfield 37, 3) := by decide +kernel
theorem dX9_send_17 : decode cX9_send 17 = .ok (.invokevirtual 59, 3) := by decide +kernel
theorem dX9_send_20 : decode cX9_send 20 = .ok (.bipush (-6), 2) := by decide +kernel
theorem dX9_send_22 : decode cX9_send 22 = .ok (.if_icmp .eq 6, 3) := by decide +kernel
theorem dX9_send_25 : decode cX9_send 25 = .ok (.bipush (-7), 2) := by decide +kernel
theorem dX9_send_27 : decode cX9_send 27 = .ok (.ireturn, 1) := by decide +kernel
theorem dX9_send_28 : decode cX9_send 28 = .ok (.aload_n 0, 1) := by decide +kernel
theorem dX9_send_29 : decode cX9_send 29 = .ok (.getfield 19, 3) := by decide +kernel
theorem dX9_send_32 : decode cX9_send 32 = .ok (.getfield 71, 3) := by decide +kernel
theorem dX9_send_35 : decode cX9_send 35 = .ok (.iload_n 1, 1) := by decide +kernel
theorem dX9_send_36 : decode cX9_send 36 = .ok (.aaload, 1) := by decide +kernel
theorem dX9_send_37 : decode cX9_send 37 = .ok (.astore_n 2, 1) := by decide +kernel
theorem dX9_send_38 : decode cX9_send 38 = .ok (.aload_n 2, 1) := by decide +kernel
theorem dX9_send_39 : decode cX9_send 39 = .ok (.getfield 122, 3) := by decide +kernel
theorem dX9_send_42 : decode cX9_send 42 = .ok (.getfield 126, 3) := by decide +kernel
theorem dX9_send_45 : decode cX9_send 45 = .ok (.bipush 12, 2) := by decide +kernel
theorem dX9_send_47 : decode cX9_send 47 = .ok (.if_icmp .lt 6, 3) := by decide +kernel
theorem dX9_send_50 : decode cX9_send 50 = .ok (.bipush (-4), 2) := by decide +kernel
theorem dX9_send_52 : decode cX9_send 52 = .ok (.ireturn, 1) := by decide +kernel
theorem dX9_send_53 : decode cX9_send 53 = .ok (.aload_n 2, 1) := by decide +kernel
theorem dX9_send_54 : decode cX9_send 54 = .ok (.aload_n 0, 1) := by decide +kernel
theorem dX9_send_55 : decode cX9_send 55 = .ok (.getfield 37, 3) := by decide +kernel
theorem dX9_send_58 : decode cX9_send 58 = .ok (.aload_n 0, 1) := by decide +kernel
theorem dX9_send_59 : decode cX9_send 59 = .ok (.getfield 19, 3) := by decide +kernel
theorem dX9_send_62 : decode cX9_send 62 = .ok (.getfield 129, 3) := by decide +kernel
theorem dX9_send_65 : decode cX9_send 65 = .ok (.invokevirtual 132, 3) := by decide +kernel
theorem dX9_send_68 : decode cX9_send 68 = .ok (.aload_n 0, 1) := by decide +kernel
theorem dX9_send_69 : decode cX9_send 69 = .ok (.getfield 10, 3) := by decide +kernel
theorem dX9_send_72 : decode cX9_send 72 = .ok (.invokevirtual 56, 3) := by decide +kernel
theorem dX9_send_75 : decode cX9_send 75 = .ok (.aload_n 2, 1) := by decide +kernel
theorem dX9_send_76 : decode cX9_send 76 = .ok (.getfield 122, 3) := by decide +kernel
theorem dX9_send_79 : decode cX9_send 79 = .ok (.getfield 126, 3) := by decide +kernel
theorem dX9_send_82 : decode cX9_send 82 = .ok (.ireturn, 1) := by decide +kernel
theorem dX9_run_0 : decode cX9_run 0 = .ok (.iload_n 1, 1) := by decide +kernel
theorem dX9_run_1 : decode cX9_run 1 = .ok (.iconst 1, 1) := by decide +kernel
theorem dX9_run_2 : decode cX9_run 2 = .ok (.if_icmp .lt 9, 3) := by decide +kernel
theorem dX9_run_5 : decode cX9_run 5 = .ok (.iload_n 1, 1) := by decide +kernel
theorem dX9_run_6 : decode cX9_run 6 = .ok (.bipush 50, 2) := by decide +kernel
theorem dX9_run_8 : decode cX9_run 8 = .ok (.if_icmp .le 6, 3) := by decide +kernel
theorem dX9_run_11 : decode cX9_run 11 = .ok (.bipush (-2), 2) := by decide +kernel
theorem dX9_run_13 : decode cX9_run 13 = .ok (.ireturn, 1) := by decide +kernel
theorem dX9_run_14 : decode cX9_run 14 = .ok (.iconst 0, 1) := by decide +kernel
theorem dX9_run_15 : decode cX9_run 15 = .ok (.istore_n 2, 1) := by decide +kernel
theorem dX9_run_16 : decode cX9_run 16 = .ok (.iload_n 2, 1) := by decide +kernel
theorem dX9_run_17 : decode cX9_run 17 = .ok (.iload_n 1, 1) := by decide +kernel
theorem dX9_run_18 : decode cX9_run 18 = .ok (.if_icmp .ge 16, 3) := by decide +kernel
theorem dX9_run_21 : decode cX9_run 21 = .ok (.aload_n 0, 1) := by decide +kernel
theorem dX9_run_22 : decode cX9_run 22 = .ok (.getfield 19, 3) := by decide +kernel
theorem dX9_run_25 : decode cX9_run 25 = .ok (.invokevirtual 136, 3) := by decide +kernel
theorem dX9_run_28 : decode cX9_run 28 = .ok (.iinc 2 1, 3) := by decide +kernel
theorem dX9_run_31 : decode cX9_run 31 = .ok (.goto (-15), 3) := by decide +kernel
theorem dX9_run_34 : decode cX9_run 34 = .ok (.aload_n 0, 1) := by decide +kernel
theorem dX9_run_35 : decode cX9_run 35 = .ok (.getfield 19, 3) := by decide +kernel
theorem dX9_run_38 : decode cX9_run 38 = .ok (.invokevirtual 139, 3) := by decide +kernel
theorem dX9_run_41 : decode cX9_run 41 = .ok (.ireturn, 1) := by decide +kernel
theorem dX9_heard_0 : decode cX9_heard 0 = .ok (.iload_n 1, 1) := by decide +kernel
theorem dX9_heard_1 : decode cX9_heard 1 = .ok (.invokestatic 63, 3) := by decide +kernel
theorem dX9_heard_4 : decode cX9_heard 4 = .ok (.ifCond .ne 5, 3) := by decide +kernel
theorem dX9_heard_7 : decode cX9_heard 7 = .ok (.iconst (-1), 1) := by decide +kernel
theorem dX9_heard_8 : decode cX9_heard 8 = .ok (.ireturn, 1) := by decide +kernel
theorem dX9_heard_9 : decode cX9_heard 9 = .ok (.iload_n 2, 1) := by decide +kernel
theorem dX9_heard_10 : decode cX9_heard 10 = .ok (.ifCond .lt 9, 3) := by decide +kernel
theorem dX9_heard_13 : decode cX9_heard 13 = .ok (.iload_n 2, 1) := by decide +kernel
theorem dX9_heard_14 : decode cX9_heard 14 = .ok (.bipush 10, 2) := by decide +kernel
theorem dX9_heard_16 : decode cX9_heard 16 = .ok (.if_icmp .le 6, 3) := by decide +kernel
theorem dX9_heard_19 : decode cX9_heard 19 = .ok (.bipush (-2), 2) := by decide +kernel
theorem dX9_heard_21 : decode cX9_heard 21 = .ok (.ireturn, 1) := by decide +kernel
theorem dX9_heard_22 : decode cX9_heard 22 = .ok (.aload_n 0, 1) := by decide +kernel
theorem dX9_heard_23 : decode cX9_heard 23 = .ok (.getfield 19, 3) := by decide +kernel
theorem dX9_heard_26 : decode cX9_heard 26 = .ok (.getfield 71, 3) := by decide +kernel
theorem dX9_heard_29 : decode cX9_heard 29 = .ok (.iload_n 1, 1) := by decide +kernel
theorem dX9_heard_30 : decode cX9_heard 30 = .ok (.aaload, 1) := by decide +kernel
theorem dX9_heard_31 : decode cX9_heard 31 = .ok (.astore_n 3, 1) := by decide +kernel
theorem dX9_heard_32 : decode cX9_heard 32 = .ok (.iload_n 2, 1) := by decide +kernel
theorem dX9_heard_33 : decode cX9_heard 33 = .ok (.bipush 9, 2) := by decide +kernel
theorem dX9_heard_35 : decode cX9_heard 35 = .ok (.if_icmp .ge 10, 3) := by decide +kernel
theorem dX9_heard_38 : decode cX9_heard 38 = .ok (.aload_n 3, 1) := by decide +kernel
theorem dX9_heard_39 : decode cX9_heard 39 = .ok (.getfield 142, 3) := by decide +kernel
theorem dX9_heard_42 : decode cX9_heard 42 = .ok (.iload_n 2, 1) := by decide +kernel
theorem dX9_heard_43 : decode cX9_heard 43 = .ok (.iaload, 1) := by decide +kernel
theorem dX9_heard_44 : decode cX9_heard 44 = .ok (.ireturn, 1) := by decide +kernel
theorem dX9_heard_45 : decode cX9_heard 45 = .ok (.iload_n 2, 1) := by decide +kernel
theorem dX9_heard_46 : decode cX9_heard 46 = .ok (.bipush 9, 2) := by decide +kernel
theorem dX9_heard_48 : decode cX9_heard 48 = .ok (.if_icmp .ne 13, 3) := by decide +kernel
theorem dX9_heard_51 : decode cX9_heard 51 = .ok (.aload_n 3, 1) := by decide +kernel
theorem dX9_heard_52 : decode cX9_heard 52 = .ok (.getfield 122, 3) := by decide +kernel
theorem dX9_heard_55 : decode cX9_heard 55 = .ok (.getfield 126, 3) := by decide +kernel
theorem dX9_heard_58 : decode cX9_heard 58 = .ok (.goto 10, 3) := by decide +kernel
theorem dX9_heard_61 : decode cX9_heard 61 = .ok (.aload_n 3, 1) := by decide +kernel
theorem dX9_heard_62 : decode cX9_heard 62 = .ok (.getfield 145, 3) := by decide +kernel
theorem dX9_heard_65 : decode cX9_heard 65 = .ok (.getfield 149, 3) := by decide +kernel
theorem dX9_heard_68 : decode cX9_heard 68 = .ok (.ireturn, 1) := by decide +kernel
theorem dX9_written_0 : decode cX9_written 0 = .ok (.iload_n 1, 1) := by decide +kernel
theorem dX9_written_1 : decode cX9_written 1 = .ok (.invokestatic 63, 3) := by decide +kernel
theorem dX9_written_4 : decode cX9_written 4 = .ok (.ifCond .ne 5, 3) := by decide +kernel
theorem dX9_written_7 : decode cX9_written 7 = .ok (.iconst (-1), 1) := by decide +kernel
theorem dX9_written_8 : decode cX9_written 8 = .ok (.ireturn, 1) := by decide +kernel
theorem dX9_written_9 : decode cX9_written 9 = .ok (.iload_n 2, 1) := by decide +kernel
theorem dX9_written_10 : decode cX9_written 10 = .ok (.iconst (-1), 1) := by decide +kernel
theorem dX9_written_11 : decode cX9_written 11 = .ok (.if_icmp .ge 6, 3) := by decide +kernel
theorem dX9_written_14 : decode cX9_written 14 = .ok (.bipush (-2), 2) := by decide +kernel
theorem dX9_written_16 : decode cX9_written 16 = .ok (.ireturn, 1) := by decide +kernel
theorem dX9_written_17 : decode cX9_written 17 = .ok (.aload_n 0, 1) := by decide +kernel
theorem dX9_written_18 : decode cX9_written 18 = .ok (.getfield 19, 3) := by decide +kernel
theorem dX9_written_21 : decode cX9_written 21 = .ok (.getfield 71, 3) := by decide +kernel
theorem dX9_written_24 : decode cX9_written 24 = .ok (.iload_n 1, 1) := by decide +kernel
theorem dX9_written_25 : decode cX9_written 25 = .ok (.aaload, 1) := by decide +kernel
theorem dX9_written_26 : decode cX9_written 26 = .ok (.astore_n 3, 1) := by decide +kernel
theorem dX9_written_27 : decode cX9_written 27 = .ok (.aload_n 3, 1) := by decide +kernel
theorem dX9_written_28 : decode cX9_written 28 = .ok (.invokevirtual 152, 3) := by decide +kernel
theorem dX9_written_31 : decode cX9_written 31 = .ok (.ifCond .ne 6, 3) := by decide +kernel
theorem dX9_written_34 : decode cX9_written 34 = .ok (.bipush (-3), 2) := by decide +kernel
theorem dX9_written_36 : decode cX9_written 36 = .ok (.ireturn, 1) := by decide +kernel
theorem dX9_written_37 : decode cX9_written 37 = .ok (.aload_n 0, 1) := by decide +kernel
theorem dX9_written_38 : decode cX9_written 38 = .ok (.getfield 44, 3) := by decide +kernel
theorem dX9_written_41 : decode cX9_written 41 = .ok (.aload_n 3, 1) := by decide +kernel
theorem dX9_written_42 : decode cX9_written 42 = .ok (.getfield 156, 3) := by decide +kernel
theorem dX9_written_45 : decode cX9_written 45 = .ok (.invokevirtual 159, 3) := by decide +kernel
theorem dX9_written_48 : decode cX9_written 48 = .ok (.iload_n 2, 1) := by decide +kernel
theorem dX9_written_49 : decode cX9_written 49 = .ok (.iconst (-1), 1) := by decide +kernel
theorem dX9_written_50 : decode cX9_written 50 = .ok (.if_icmp .ne 13, 3) := by decide +kernel
theorem dX9_written_53 : decode cX9_written 53 = .ok (.aload_n 0, 1) := by decide +kernel
theorem dX9_written_54 : decode cX9_written 54 = .ok (.getfield 44, 3) := by decide +kernel
theorem dX9_written_57 : decode cX9_written 57 = .ok (.getfield 163, 3) := by decide +kernel
theorem dX9_written_60 : decode cX9_written 60 = .ok (.goto 11, 3) := by decide +kernel
theorem dX9_written_63 : decode cX9_written 63 = .ok (.aload_n 0, 1) := by decide +kernel
theorem dX9_written_64 : decode cX9_written 64 = .ok (.getfield 44, 3) := by decide +kernel
theorem dX9_written_67 : decode cX9_written 67 = .ok (.iload_n 2, 1) := by decide +kernel
theorem dX9_written_68 : decode cX9_written 68 = .ok (.invokevirtual 164, 3) := by decide +kernel
theorem dX9_written_71 : decode cX9_written 71 = .ok (.ireturn, 1) := by decide +kernel
theorem dX9_last_0 : decode cX9_last 0 = .ok (.iload_n 1, 1) := by decide +kernel
theorem dX9_last_1 : decode cX9_last 1 = .ok (.invokestatic 63, 3) := by decide +kernel
theorem dX9_last_4 : decode cX9_last 4 = .ok (.ifCond .ne 5, 3) := by decide +kernel
theorem dX9_last_7 : decode cX9_last 7 = .ok (.iconst (-1), 1) := by decide +kernel
theorem dX9_last_8 : decode cX9_last 8 = .ok (.ireturn, 1) := by decide +kernel
theorem dX9_last_9 : decode cX9_last 9 = .ok (.iload_n 2, 1) := by decide +kernel
theorem dX9_last_10 : decode cX9_last 10 = .ok (.ifCond .lt 8, 3) := by decide +kernel
theorem dX9_last_13 : decode cX9_last 13 = .ok (.iload_n 2, 1) := by decide +kernel
theorem dX9_last_14 : decode cX9_last 14 = .ok (.iconst 3, 1) := by decide +kernel
theorem dX9_last_15 : decode cX9_last 15 = .ok (.if_icmp .le 6, 3) := by decide +kernel
theorem dX9_last_18 : decode cX9_last 18 = .ok (.bipush (-2), 2) := by decide +kernel
theorem dX9_last_20 : decode cX9_last 20 = .ok (.ireturn, 1) := by decide +kernel
theorem dX9_last_21 : decode cX9_last 21 = .ok (.aload_n 0, 1) := by decide +kernel
theorem dX9_last_22 : decode cX9_last 22 = .ok (.getfield 19, 3) := by decide +kernel
theorem dX9_last_25 : decode cX9_last 25 = .ok (.getfield 71, 3) := by decide +kernel
theorem dX9_last_28 : decode cX9_last 28 = .ok (.iload_n 1, 1) := by decide +kernel
theorem dX9_last_29 : decode cX9_last 29 = .ok (.aaload, 1) := by decide +kernel
theorem dX9_last_30 : decode cX9_last 30 = .ok (.astore_n 3, 1) := by decide +kernel
theorem dX9_last_31 : decode cX9_last 31 = .ok (.aload_n 3, 1) := by decide +kernel
theorem dX9_last_32 : decode cX9_last 32 = .ok (.invokevirtual 152, 3) := by decide +kernel
theorem dX9_last_35 : decode cX9_last 35 = .ok (.ifCond .ne 6, 3) := by decide +kernel
theorem dX9_last_38 : decode cX9_last 38 = .ok (.bipush (-3), 2) := by decide +kernel
theorem dX9_last_40 : decode cX9_last 40 = .ok (.ireturn, 1) := by decide +kernel
theorem dX9_last_41 : decode cX9_last 41 = .ok (.aload_n 3, 1) := by decide +kernel
theorem dX9_last_42 : decode cX9_last 42 = .ok (.getfield 156, 3) := by decide +kernel
theorem dX9_last_45 : decode cX9_last 45 = .ok (.astore 4, 2) := by decide +kernel
theorem dX9_last_47 : decode cX9_last 47 = .ok (.iload_n 2, 1) := by decide +kernel
theorem dX9_last_48 : decode cX9_last 48 = .ok (.ifCond .ne 9, 3) := by decide +kernel
theorem dX9_last_51 : decode cX9_last 51 = .ok (.aload 4, 2) := by decide +kernel
theorem dX9_last_53 : decode cX9_last 53 = .ok (.getfield 167, 3) := by decide +kernel
theorem dX9_last_56 : decode cX9_last 56 = .ok (.ireturn, 1) := by decide +kernel
theorem dX9_last_57 : decode cX9_last 57 = .ok (.iload_n 2, 1) := by decide +kernel
theorem dX9_last_58 : decode cX9_last 58 = .ok (.iconst 1, 1) := by decide +kernel
theorem dX9_last_59 : decode cX9_last 59 = .ok (.if_icmp .ne 9, 3) := by decide +kernel
theorem dX9_last_62 : decode cX9_last 62 = .ok (.aload 4, 2) := by decide +kernel
theorem dX9_last_64 : decode cX9_last 64 = .ok (.invokevirtual 168, 3) := by decide +kernel
theorem dX9_last_67 : decode cX9_last 67 = .ok (.ireturn, 1) := by decide +kernel
theorem dX9_last_68 : decode cX9_last 68 = .ok (.iload_n 2, 1) := by decide +kernel
theorem dX9_last_69 : decode cX9_last 69 = .ok (.iconst 2, 1) := by decide +kernel
theorem dX9_last_70 : decode cX9_last 70 = .ok (.if_icmp .ne 8, 3) := by decide +kernel
theorem dX9_last_73 : decode cX9_last 73 = .ok (.aload_n 3, 1) := by decide +kernel
theorem dX9_last_74 : decode cX9_last 74 = .ok (.getfield 171, 3) := by decide +kernel
theorem dX9_last_77 : decode cX9_last 77 = .ok (.ireturn, 1) := by decide +kernel
theorem dX9_last_78 : decode cX9_last 78 = .ok (.aload 4, 2) := by decide +kernel
theorem dX9_last_80 : decode cX9_last 80 = .ok (.invokevirtual 174, 3) := by decide +kernel
theorem dX9_last_83 : decode cX9_last 83 = .ok (.istore 5, 2) := by decide +kernel
theorem dX9_last_85 : decode cX9_last 85 = .ok (.iload 5, 2) := by decide +kernel
theorem dX9_last_87 : decode cX9_last 87 = .ok (.bipush (-6), 2) := by decide +kernel
theorem dX9_last_89 : decode cX9_last 89 = .ok (.if_icmp .ne 8, 3) := by decide +kernel
theorem dX9_last_92 : decode cX9_last 92 = .ok (.bipush (-6), 2) := by decide +kernel
theorem dX9_last_94 : decode cX9_last 94 = .ok (.goto 10, 3) := by decide +kernel
theorem dX9_last_97 : decode cX9_last 97 = .ok (.aload 4, 2) := by decide +kernel
theorem dX9_last_99 : decode cX9_last 99 = .ok (.iload 5, 2) := by decide +kernel
theorem dX9_last_101 : decode cX9_last 101 = .ok (.invokevirtual 177, 3) := by decide +kernel
theorem dX9_last_104 : decode cX9_last 104 = .ok (.ireturn, 1) := by decide +kernel
theorem dX9_trail_0 : decode cX9_trail 0 = .ok (.iload_n 1, 1) := by decide +kernel
theorem dX9_trail_1 : decode cX9_trail 1 = .ok (.invokestatic 63, 3) := by decide +kernel
theorem dX9_trail_4 : decode cX9_trail 4 = .ok (.ifCond .ne 5, 3) := by decide +kernel
theorem dX9_trail_7 : decode cX9_trail 7 = .ok (.iconst (-1), 1) := by decide +kernel
theorem dX9_trail_8 : decode cX9_trail 8 = .ok (.ireturn, 1) := by decide +kernel
theorem dX9_trail_9 : decode cX9_trail 9 = .ok (.aload_n 0, 1) := by decide +kernel
theorem dX9_trail_10 : decode cX9_trail 10 = .ok (.getfield 19, 3) := by decide +kernel
theorem dX9_trail_13 : decode cX9_trail 13 = .ok (.getfield 71, 3) := by decide +kernel
theorem dX9_trail_16 : decode cX9_trail 16 = .ok (.iload_n 1, 1) := by decide +kernel
theorem dX9_trail_17 : decode cX9_trail 17 = .ok (.aaload, 1) := by decide +kernel
theorem dX9_trail_18 : decode cX9_trail 18 = .ok (.astore_n 3, 1) := by decide +kernel
theorem dX9_trail_19 : decode cX9_trail 19 = .ok (.aload_n 3, 1) := by decide +kernel
theorem dX9_trail_20 : decode cX9_trail 20 = .ok (.invokevirtual 152, 3) := by decide +kernel
theorem dX9_trail_23 : decode cX9_trail 23 = .ok (.ifCond .ne 6, 3) := by decide +kernel
theorem dX9_trail_26 : decode cX9_trail 26 = .ok (.bipush (-3), 2) := by decide +kernel
theorem dX9_trail_28 : decode cX9_trail 28 = .ok (.ireturn, 1) := by decide +kernel
theorem dX9_trail_29 : decode cX9_trail 29 = .ok (.iload_n 2, 1) := by decide +kernel
theorem dX9_trail_30 : decode cX9_trail 30 = .ok (.iconst (-1), 1) := by decide +kernel
theorem dX9_trail_31 : decode cX9_trail 31 = .ok (.if_icmp .ne 11, 3) := by decide +kernel
theorem dX9_trail_34 : decode cX9_trail 34 = .ok (.aload_n 3, 1) := by decide +kernel
theorem dX9_trail_35 : decode cX9_trail 35 = .ok (.getfield 156, 3) := by decide +kernel
theorem dX9_trail_38 : decode cX9_trail 38 = .ok (.invokevirtual 168, 3) := by decide +kernel
theorem dX9_trail_41 : decode cX9_trail 41 = .ok (.ireturn, 1) := by decide +kernel
theorem dX9_trail_42 : decode cX9_trail 42 = .ok (.aload_n 3, 1) := by decide +kernel
theorem dX9_trail_43 : decode cX9_trail 43 = .ok (.getfield 156, 3) := by decide +kernel
theorem dX9_trail_46 : decode cX9_trail 46 = .ok (.iload_n 2, 1) := by decide +kernel
theorem dX9_trail_47 : decode cX9_trail 47 = .ok (.invokevirtual 180, 3) := by decide +kernel
theorem dX9_trail_50 : decode cX9_trail 50 = .ok (.istore 4, 2) := by decide +kernel
theorem dX9_trail_52 : decode cX9_trail 52 = .ok (.iload 4, 2) := by decide +kernel
theorem dX9_trail_54 : decode cX9_trail 54 = .ok (.bipush (-6), 2) := by decide +kernel
theorem dX9_trail_56 : decode cX9_trail 56 = .ok (.if_icmp .ne 8, 3) := by decide +kernel
theorem dX9_trail_59 : decode cX9_trail 59 = .ok (.bipush (-6), 2) := by decide +kernel
theorem dX9_trail_61 : decode cX9_trail 61 = .ok (.goto 19, 3) := by decide +kernel
theorem dX9_trail_64 : decode cX9_trail 64 = .ok (.aload_n 0, 1) := by decide +kernel
theorem dX9_trail_65 : decode cX9_trail 65 = .ok (.getfield 19, 3) := by decide +kernel
theorem dX9_trail_68 : decode cX9_trail 68 = .ok (.aload_n 3, 1) := by decide +kernel
theorem dX9_trail_69 : decode cX9_trail 69 = .ok (.getfield 156, 3) := by decide +kernel
theorem dX9_trail_72 : decode cX9_trail 72 = .ok (.iload 4, 2) := by decide +kernel
theorem dX9_trail_74 : decode cX9_trail 74 = .ok (.invokevirtual 183, 3) := by decide +kernel
theorem dX9_trail_77 : decode cX9_trail 77 = .ok (.invokevirtual 75, 3) := by decide +kernel
theorem dX9_trail_80 : decode cX9_trail 80 = .ok (.ireturn, 1) := by decide +kernel
theorem dX9_reach_0 : decode cX9_reach 0 = .ok (.iload_n 1, 1) := by decide +kernel
theorem dX9_reach_1 : decode cX9_reach 1 = .ok (.invokestatic 63, 3) := by decide +kernel
theorem dX9_reach_4 : decode cX9_reach 4 = .ok (.ifCond .ne 5, 3) := by decide +kernel
theorem dX9_reach_7 : decode cX9_reach 7 = .ok (.iconst (-1), 1) := by decide +kernel
theorem dX9_reach_8 : decode cX9_reach 8 = .ok (.ireturn, 1) := by decide +kernel
theorem dX9_reach_9 : decode cX9_reach 9 = .ok (.iload_n 2, 1) := by decide +kernel
theorem dX9_reach_10 : decode cX9_reach 10 = .ok (.invokestatic 186, 3) := by decide +kernel
theorem dX9_reach_13 : decode cX9_reach 13 = .ok (.ifCond .eq 12, 3) := by decide +kernel
theorem dX9_reach_16 : decode cX9_reach 16 = .ok (.iload_n 3, 1) := by decide +kernel
theorem dX9_reach_17 : decode cX9_reach 17 = .ok (.ifCond .lt 8, 3) := by decide +kernel
theorem dX9_reach_20 : decode cX9_reach 20 = .ok (.iload_n 3, 1) := by decide +kernel
theorem dX9_reach_21 : decode cX9_reach 21 = .ok (.iconst 3, 1) := by decide +kernel
theorem dX9_reach_22 : decode cX9_reach 22 = .ok (.if_icmp .le 6, 3) := by decide +kernel
theorem dX9_reach_25 : decode cX9_reach 25 = .ok (.bipush (-2), 2) := by decide +kernel
theorem dX9_reach_27 : decode cX9_reach 27 = .ok (.ireturn, 1) := by decide +kernel
theorem dX9_reach_28 : decode cX9_reach 28 = .ok (.aload_n 0, 1) := by decide +kernel
theorem dX9_reach_29 : decode cX9_reach 29 = .ok (.getfield 10, 3) := by decide +kernel
theorem dX9_reach_32 : decode cX9_reach 32 = .ok (.invokevirtual 67, 3) := by decide +kernel
theorem dX9_reach_35 : decode cX9_reach 35 = .ok (.istore 4, 2) := by decide +kernel
theorem dX9_reach_37 : decode cX9_reach 37 = .ok (.iload 4, 2) := by decide +kernel
theorem dX9_reach_39 : decode cX9_reach 39 = .ok (.ifCond .ne 6, 3) := by decide +kernel
theorem dX9_reach_42 : decode cX9_reach 42 = .ok (.bipush (-7), 2) := by decide +kernel
theorem dX9_reach_44 : decode cX9_reach 44 = .ok (.ireturn, 1) := by decide +kernel
theorem dX9_reach_45 : decode cX9_reach 45 = .ok (.aload_n 0, 1) := by decide +kernel
theorem dX9_reach_46 : decode cX9_reach 46 = .ok (.getfield 26, 3) := by decide +kernel
theorem dX9_reach_49 : decode cX9_reach 49 = .ok (.aload_n 0, 1) := by decide +kernel
theorem dX9_reach_50 : decode cX9_reach 50 = .ok (.getfield 19, 3) := by decide +kernel
theorem dX9_reach_53 : decode cX9_reach 53 = .ok (.invokevirtual 189, 3) := by decide +kernel
theorem dX9_reach_56 : decode cX9_reach 56 = .ok (.aload_n 0, 1) := by decide +kernel
theorem dX9_reach_57 : decode cX9_reach 57 = .ok (.getfield 26, 3) := by decide +kernel
theorem dX9_reach_60 : decode cX9_reach 60 = .ok (.iload_n 1, 1) := by decide +kernel
theorem dX9_reach_61 : decode cX9_reach 61 = .ok (.iload 4, 2) := by decide +kernel
theorem dX9_reach_63 : decode cX9_reach 63 = .ok (.iload_n 2, 1) := by decide +kernel
theorem dX9_reach_64 : decode cX9_reach 64 = .ok (.invokevirtual 193, 3) := by decide +kernel
theorem dX9_reach_67 : decode cX9_reach 67 = .ok (.iload_n 3, 1) := by decide +kernel
theorem dX9_reach_68 : decode cX9_reach 68 = .ok (.ifCond .ne 11, 3) := by decide +kernel
theorem dX9_reach_71 : decode cX9_reach 71 = .ok (.aload_n 0, 1) := by decide +kernel
theorem dX9_reach_72 : decode cX9_reach 72 = .ok (.getfield 26, 3) := by decide +kernel
theorem dX9_reach_75 : decode cX9_reach 75 = .ok (.getfield 197, 3) := by decide +kernel
theorem dX9_reach_78 : decode cX9_reach 78 = .ok (.ireturn, 1) := by decide +kernel
theorem dX9_reach_79 : decode cX9_reach 79 = .ok (.iload_n 3, 1) := by decide +kernel
theorem dX9_reach_80 : decode cX9_reach 80 = .ok (.iconst 1, 1) := by decide +kernel
theorem dX9_reach_81 : decode cX9_reach 81 = .ok (.if_icmp .ne 11, 3) := by decide +kernel
theorem dX9_reach_84 : decode cX9_reach 84 = .ok (.aload_n 0, 1) := by decide +kernel
theorem dX9_reach_85 : decode cX9_reach 85 = .ok (.getfield 26, 3) := by decide +kernel
theorem dX9_reach_88 : decode cX9_reach 88 = .ok (.getfield 200, 3) := by decide +kernel
theorem dX9_reach_91 : decode cX9_reach 91 = .ok (.ireturn, 1) := by decide +kernel
theorem dX9_reach_92 : decode cX9_reach 92 = .ok (.aload_n 0, 1) := by decide +kernel
theorem dX9_reach_93 : decode cX9_reach 93 = .ok (.getfield 26, 3) := by decide +kernel
theorem dX9_reach_96 : decode cX9_reach 96 = .ok (.getfield 203, 3) := by decide +kernel
theorem dX9_reach_99 : decode cX9_reach 99 = .ok (.iload_n 3, 1) := by decide +kernel
theorem dX9_reach_100 : decode cX9_reach 100 = .ok (.iconst 2, 1) := by decide +kernel
theorem dX9_reach_101 : decode cX9_reach 101 = .ok (.if_icmp .ne 7, 3) := by decide +kernel
theorem dX9_reach_104 : decode cX9_reach 104 = .ok (.iconst 0, 1) := by decide +kernel
theorem dX9_reach_105 : decode cX9_reach 105 = .ok (.goto 5, 3) := by decide +kernel
theorem dX9_reach_108 : decode cX9_reach 108 = .ok (.bipush 7, 2) := by decide +kernel
theorem dX9_reach_110 : decode cX9_reach 110 = .ok (.invokevirtual 204, 3) := by decide +kernel
theorem dX9_reach_113 : decode cX9_reach 113 = .ok (.ireturn, 1) := by decide +kernel
theorem dX9_fewest_0 : decode cX9_fewest 0 = .ok (.iload_n 1, 1) := by decide +kernel
theorem dX9_fewest_1 : decode cX9_fewest 1 = .ok (.invokestatic 63, 3) := by decide +kernel
theorem dX9_fewest_4 : decode cX9_fewest 4 = .ok (.ifCond .eq 10, 3) := by decide +kernel
theorem dX9_fewest_7 : decode cX9_fewest 7 = .ok (.iload_n 2, 1) := by decide +kernel
theorem dX9_fewest_8 : decode cX9_fewest 8 = .ok (.invokestatic 63, 3) := by decide +kernel
theorem dX9_fewest_11 : decode cX9_fewest 11 = .ok (.ifCond .ne 5, 3) := by decide +kernel
theorem dX9_fewest_14 : decode cX9_fewest 14 = .ok (.iconst (-1), 1) := by decide +kernel
theorem dX9_fewest_15 : decode cX9_fewest 15 = .ok (.ireturn, 1) := by decide +kernel
theorem dX9_fewest_16 : decode cX9_fewest 16 = .ok (.iload_n 1, 1) := by decide +kernel
theorem dX9_fewest_17 : decode cX9_fewest 17 = .ok (.iload_n 2, 1) := by decide +kernel
theorem dX9_fewest_18 : decode cX9_fewest 18 = .ok (.if_icmp .ne 6, 3) := by decide +kernel
theorem dX9_fewest_21 : decode cX9_fewest 21 = .ok (.bipush (-2), 2) := by decide +kernel
theorem dX9_fewest_23 : decode cX9_fewest 23 = .ok (.ireturn, 1) := by decide +kernel
theorem dX9_fewest_24 : decode cX9_fewest 24 = .ok (.aload_n 0, 1) := by decide +kernel
theorem dX9_fewest_25 : decode cX9_fewest 25 = .ok (.getfield 10, 3) := by decide +kernel
theorem dX9_fewest_28 : decode cX9_fewest 28 = .ok (.invokevirtual 67, 3) := by decide +kernel
theorem dX9_fewest_31 : decode cX9_fewest 31 = .ok (.istore_n 3, 1) := by decide +kernel
theorem dX9_fewest_32 : decode cX9_fewest 32 = .ok (.iload_n 3, 1) := by decide +kernel
theorem dX9_fewest_33 : decode cX9_fewest 33 = .ok (.ifCond .ne 6, 3) := by decide +kernel
theorem dX9_fewest_36 : decode cX9_fewest 36 = .ok (.bipush (-7), 2) := by decide +kernel
theorem dX9_fewest_38 : decode cX9_fewest 38 = .ok (.ireturn, 1) := by decide +kernel
theorem dX9_fewest_39 : decode cX9_fewest 39 = .ok (.iconst 1, 1) := by decide +kernel
theorem dX9_fewest_40 : decode cX9_fewest 40 = .ok (.istore 4, 2) := by decide +kernel
theorem dX9_fewest_42 : decode cX9_fewest 42 = .ok (.iload 4, 2) := by decide +kernel
theorem dX9_fewest_44 : decode cX9_fewest 44 = .ok (.bipush 7, 2) := by decide +kernel
theorem dX9_fewest_46 : decode cX9_fewest 46 = .ok (.if_icmp .gt 48, 3) := by decide +kernel
theorem dX9_fewest_49 : decode cX9_fewest 49 = .ok (.aload_n 0, 1) := by decide +kernel
theorem dX9_fewest_50 : decode cX9_fewest 50 = .ok (.getfield 26, 3) := by decide +kernel
theorem dX9_fewest_53 : decode cX9_fewest 53 = .ok (.aload_n 0, 1) := by decide +kernel
theorem dX9_fewest_54 : decode cX9_fewest 54 = .ok (.getfield 19, 3) := by decide +kernel
theorem dX9_fewest_57 : decode cX9_fewest 57 = .ok (.invokevirtual 189, 3) := by decide +kernel
theorem dX9_fewest_60 : decode cX9_fewest 60 = .ok (.aload_n 0, 1) := by decide +kernel
theorem dX9_fewest_61 : decode cX9_fewest 61 = .ok (.getfield 26, 3) := by decide +kernel
theorem dX9_fewest_64 : decode cX9_fewest 64 = .ok (.iload_n 1, 1) := by decide +kernel
theorem dX9_fewest_65 : decode cX9_fewest 65 = .ok (.iload_n 3, 1) := by decide +kernel
theorem dX9_fewest_66 : decode cX9_fewest 66 = .ok (.iload 4, 2) := by decide +kernel
theorem dX9_fewest_68 : decode cX9_fewest 68 = .ok (.invokevirtual 193, 3) := by decide +kernel
theorem dX9_fewest_71 : decode cX9_fewest 71 = .ok (.aload_n 0, 1) := by decide +kernel
theorem dX9_fewest_72 : decode cX9_fewest 72 = .ok (.getfield 26, 3) := by decide +kernel
theorem dX9_fewest_75 : decode cX9_fewest 75 = .ok (.getfield 197, 3) := by decide +kernel
theorem dX9_fewest_78 : decode cX9_fewest 78 = .ok (.iload_n 2, 1) := by decide +kernel
theorem dX9_fewest_79 : decode cX9_fewest 79 = .ok (.invokestatic 207, 3) := by decide +kernel
theorem dX9_fewest_82 : decode cX9_fewest 82 = .ok (.ifCond .eq 6, 3) := by decide +kernel
theorem dX9_fewest_85 : decode cX9_fewest 85 = .ok (.iload 4, 2) := by decide +kernel
theorem dX9_fewest_87 : decode cX9_fewest 87 = .ok (.ireturn, 1) := by decide +kernel
theorem dX9_fewest_88 : decode cX9_fewest 88 = .ok (.iinc 4 1, 3) := by decide +kernel
theorem dX9_fewest_91 : decode cX9_fewest 91 = .ok (.goto (-49), 3) := by decide +kernel
theorem dX9_fewest_94 : decode cX9_fewest 94 = .ok (.bipush (-6), 2) := by decide +kernel
theorem dX9_fewest_96 : decode cX9_fewest 96 = .ok (.ireturn, 1) := by decide +kernel
theorem dX9_bridges_0 : decode cX9_bridges 0 = .ok (.iload_n 1, 1) := by decide +kernel
theorem dX9_bridges_1 : decode cX9_bridges 1 = .ok (.invokestatic 63, 3) := by decide +kernel
theorem dX9_bridges_4 : decode cX9_bridges 4 = .ok (.ifCond .eq 10, 3) := by decide +kernel
theorem dX9_bridges_7 : decode cX9_bridges 7 = .ok (.iload_n 2, 1) := by decide +kernel
theorem dX9_bridges_8 : decode cX9_bridges 8 = .ok (.invokestatic 63, 3) := by decide +kernel
theorem dX9_bridges_11 : decode cX9_bridges 11 = .ok (.ifCond .ne 5, 3) := by decide +kernel
theorem dX9_bridges_14 : decode cX9_bridges 14 = .ok (.iconst (-1), 1) := by decide +kernel
theorem dX9_bridges_15 : decode cX9_bridges 15 = .ok (.ireturn, 1) := by decide +kernel
theorem dX9_bridges_16 : decode cX9_bridges 16 = .ok (.iload_n 1, 1) := by decide +kernel
theorem dX9_bridges_17 : decode cX9_bridges 17 = .ok (.iload_n 2, 1) := by decide +kernel
theorem dX9_bridges_18 : decode cX9_bridges 18 = .ok (.if_icmp .eq 10, 3) := by decide +kernel
theorem dX9_bridges_21 : decode cX9_bridges 21 = .ok (.iload_n 3, 1) := by decide +kernel
theorem dX9_bridges_22 : decode cX9_bridges 22 = .ok (.invokestatic 186, 3) := by decide +kernel
theorem dX9_bridges_25 : decode cX9_bridges 25 = .ok (.ifCond .ne 6, 3) := by decide +kernel
theorem dX9_bridges_28 : decode cX9_bridges 28 = .ok (.bipush (-2), 2) := by decide +kernel
theorem dX9_bridges_30 : decode cX9_bridges 30 = .ok (.ireturn, 1) := by decide +kernel
theorem dX9_bridges_31 : decode cX9_bridges 31 = .ok (.aload_n 0, 1) := by decide +kernel
theorem dX9_bridges_32 : decode cX9_bridges 32 = .ok (.getfield 10, 3) := by decide +kernel
theorem dX9_bridges_35 : decode cX9_bridges 35 = .ok (.invokevirtual 67, 3) := by decide +kernel
theorem dX9_bridges_38 : decode cX9_bridges 38 = .ok (.istore 4, 2) := by decide +kernel
theorem dX9_bridges_40 : decode cX9_bridges 40 = .ok (.iload 4, 2) := by decide +kernel
theorem dX9_bridges_42 : decode cX9_bridges 42 = .ok (.ifCond .ne 6, 3) := by decide +kernel
theorem dX9_bridges_45 : decode cX9_bridges 45 = .ok (.bipush (-7), 2) := by decide +kernel
theorem dX9_bridges_47 : decode cX9_bridges 47 = .ok (.ireturn, 1) := by decide +kernel
theorem dX9_bridges_48 : decode cX9_bridges 48 = .ok (.aload_n 0, 1) := by decide +kernel
theorem dX9_bridges_49 : decode cX9_bridges 49 = .ok (.getfield 26, 3) := by decide +kernel
theorem dX9_bridges_52 : decode cX9_bridges 52 = .ok (.aload_n 0, 1) := by decide +kernel
theorem dX9_bridges_53 : decode cX9_bridges 53 = .ok (.getfield 19, 3) := by decide +kernel
theorem dX9_bridges_56 : decode cX9_bridges 56 = .ok (.invokevirtual 189, 3) := by decide +kernel
theorem dX9_bridges_59 : decode cX9_bridges 59 = .ok (.aload_n 0, 1) := by decide +kernel
theorem dX9_bridges_60 : decode cX9_bridges 60 = .ok (.getfield 26, 3) := by decide +kernel
theorem dX9_bridges_63 : decode cX9_bridges 63 = .ok (.iload_n 1, 1) := by decide +kernel
theorem dX9_bridges_64 : decode cX9_bridges 64 = .ok (.iload 4, 2) := by decide +kernel
theorem dX9_bridges_66 : decode cX9_bridges 66 = .ok (.iload_n 3, 1) := by decide +kernel
theorem dX9_bridges_67 : decode cX9_bridges 67 = .ok (.invokevirtual 193, 3) := by decide +kernel
theorem dX9_bridges_70 : decode cX9_bridges 70 = .ok (.aload_n 0, 1) := by decide +kernel
theorem dX9_bridges_71 : decode cX9_bridges 71 = .ok (.getfield 26, 3) := by decide +kernel
theorem dX9_bridges_74 : decode cX9_bridges 74 = .ok (.getfield 197, 3) := by decide +kernel
theorem dX9_bridges_77 : decode cX9_bridges 77 = .ok (.iload_n 2, 1) := by decide +kernel
theorem dX9_bridges_78 : decode cX9_bridges 78 = .ok (.invokestatic 207, 3) := by decide +kernel
theorem dX9_bridges_81 : decode cX9_bridges 81 = .ok (.ifCond .ne 6, 3) := by decide +kernel
theorem dX9_bridges_84 : decode cX9_bridges 84 = .ok (.bipush (-6), 2) := by decide +kernel
theorem dX9_bridges_86 : decode cX9_bridges 86 = .ok (.ireturn, 1) := by decide +kernel
theorem dX9_bridges_87 : decode cX9_bridges 87 = .ok (.iconst 0, 1) := by decide +kernel
theorem dX9_bridges_88 : decode cX9_bridges 88 = .ok (.istore 5, 2) := by decide +kernel
theorem dX9_bridges_90 : decode cX9_bridges 90 = .ok (.iconst 0, 1) := by decide +kernel
theorem dX9_bridges_91 : decode cX9_bridges 91 = .ok (.istore 6, 2) := by decide +kernel
theorem dX9_bridges_93 : decode cX9_bridges 93 = .ok (.iload 6, 2) := by decide +kernel
theorem dX9_bridges_95 : decode cX9_bridges 95 = .ok (.bipush 6, 2) := by decide +kernel
theorem dX9_bridges_97 : decode cX9_bridges 97 = .ok (.if_icmp .ge 78, 3) := by decide +kernel
theorem dX9_bridges_100 : decode cX9_bridges 100 = .ok (.iload 6, 2) := by decide +kernel
theorem dX9_bridges_102 : decode cX9_bridges 102 = .ok (.iload_n 1, 1) := by decide +kernel
theorem dX9_bridges_103 : decode cX9_bridges 103 = .ok (.if_icmp .eq 66, 3) := by decide +kernel
theorem dX9_bridges_106 : decode cX9_bridges 106 = .ok (.iload 6, 2) := by decide +kernel
theorem dX9_bridges_108 : decode cX9_bridges 108 = .ok (.iload_n 2, 1) := by decide +kernel
theorem dX9_bridges_109 : decode cX9_bridges 109 = .ok (.if_icmp .eq 60, 3) := by decide +kernel
theorem dX9_bridges_112 : decode cX9_bridges 112 = .ok (.aload_n 0, 1) := by decide +kernel
theorem dX9_bridges_113 : decode cX9_bridges 113 = .ok (.getfield 26, 3) := by decide +kernel
theorem dX9_bridges_116 : decode cX9_bridges 116 = .ok (.aload_n 0, 1) := by decide +kernel
theorem dX9_bridges_117 : decode cX9_bridges 117 = .ok (.getfield 19, 3) := by decide +kernel
theorem dX9_bridges_120 : decode cX9_bridges 120 = .ok (.invokevirtual 189, 3) := by decide +kernel
theorem dX9_bridges_123 : decode cX9_bridges 123 = .ok (.aload_n 0, 1) := by decide +kernel
theorem dX9_bridges_124 : decode cX9_bridges 124 = .ok (.getfield 26, 3) := by decide +kernel
theorem dX9_bridges_127 : decode cX9_bridges 127 = .ok (.getfield 203, 3) := by decide +kernel
theorem dX9_bridges_130 : decode cX9_bridges 130 = .ok (.iload 6, 2) := by decide +kernel
theorem dX9_bridges_132 : decode cX9_bridges 132 = .ok (.invokevirtual 210, 3) := by decide +kernel
theorem dX9_bridges_135 : decode cX9_bridges 135 = .ok (.aload_n 0, 1) := by decide +kernel
theorem dX9_bridges_136 : decode cX9_bridges 136 = .ok (.getfield 26, 3) := by decide +kernel
theorem dX9_bridges_139 : decode cX9_bridges 139 = .ok (.iload_n 1, 1) := by decide +kernel
theorem dX9_bridges_140 : decode cX9_bridges 140 = .ok (.iload 4, 2) := by decide +kernel
theorem dX9_bridges_142 : decode cX9_bridges 142 = .ok (.iload_n 3, 1) := by decide +kernel
theorem dX9_bridges_143 : decode cX9_bridges 143 = .ok (.invokevirtual 193, 3) := by decide +kernel
theorem dX9_bridges_146 : decode cX9_bridges 146 = .ok (.aload_n 0, 1) := by decide +kernel
theorem dX9_bridges_147 : decode cX9_bridges 147 = .ok (.getfield 26, 3) := by decide +kernel
theorem dX9_bridges_150 : decode cX9_bridges 150 = .ok (.getfield 197, 3) := by decide +kernel
theorem dX9_bridges_153 : decode cX9_bridges 153 = .ok (.iload_n 2, 1) := by decide +kernel
theorem dX9_bridges_154 : decode cX9_bridges 154 = .ok (.invokestatic 207, 3) := by decide +kernel
theorem dX9_bridges_157 : decode cX9_bridges 157 = .ok (.ifCond .ne 12, 3) := by decide +kernel
theorem dX9_bridges_160 : decode cX9_bridges 160 = .ok (.iload 5, 2) := by decide +kernel
theorem dX9_bridges_162 : decode cX9_bridges 162 = .ok (.iconst 1, 1) := by decide +kernel
theorem dX9_bridges_163 : decode cX9_bridges 163 = .ok (.iload 6, 2) := by decide +kernel
theorem dX9_bridges_165 : decode cX9_bridges 165 = .ok (.ishl, 1) := by decide +kernel
theorem dX9_bridges_166 : decode cX9_bridges 166 = .ok (.ior, 1) := by decide +kernel
theorem dX9_bridges_167 : decode cX9_bridges 167 = .ok (.istore 5, 2) := by decide +kernel
theorem dX9_bridges_169 : decode cX9_bridges 169 = .ok (.iinc 6 1, 3) := by decide +kernel
theorem dX9_bridges_172 : decode cX9_bridges 172 = .ok (.goto (-79), 3) := by decide +kernel
theorem dX9_bridges_175 : decode cX9_bridges 175 = .ok (.iload 5, 2) := by decide +kernel
theorem dX9_bridges_177 : decode cX9_bridges 177 = .ok (.ireturn, 1) := by decide +kernel
theorem dX9_image_0 : decode cX9_image 0 = .ok (.iload_n 1, 1) := by decide +kernel
theorem dX9_image_1 : decode cX9_image 1 = .ok (.ifCond .lt 8, 3) := by decide +kernel
theorem dX9_image_4 : decode cX9_image 4 = .ok (.iload_n 1, 1) := by decide +kernel
theorem dX9_image_5 : decode cX9_image 5 = .ok (.iconst 2, 1) := by decide +kernel
theorem dX9_image_6 : decode cX9_image 6 = .ok (.if_icmp .lt 6, 3) := by decide +kernel
theorem dX9_image_9 : decode cX9_image 9 = .ok (.bipush (-2), 2) := by decide +kernel
theorem dX9_image_11 : decode cX9_image 11 = .ok (.ireturn, 1) := by decide +kernel
theorem dX9_image_12 : decode cX9_image 12 = .ok (.aload_n 0, 1) := by decide +kernel
theorem dX9_image_13 : decode cX9_image 13 = .ok (.getfield 30, 3) := by decide +kernel
theorem dX9_image_16 : decode cX9_image 16 = .ok (.iload_n 1, 1) := by decide +kernel
theorem dX9_image_17 : decode cX9_image 17 = .ok (.aaload, 1) := by decide +kernel
theorem dX9_image_18 : decode cX9_image 18 = .ok (.ifnonnull 16, 3) := by decide +kernel
theorem dX9_image_21 : decode cX9_image 21 = .ok (.aload_n 0, 1) := by decide +kernel
theorem dX9_image_22 : decode cX9_image 22 = .ok (.getfield 30, 3) := by decide +kernel
theorem dX9_image_25 : decode cX9_image 25 = .ok (.iload_n 1, 1) := by decide +kernel
theorem dX9_image_26 : decode cX9_image 26 = .ok (.new 16, 3) := by decide +kernel
theorem dX9_image_29 : decode cX9_image 29 = .ok (.dup, 1) := by decide +kernel
theorem dX9_image_30 : decode cX9_image 30 = .ok (.invokespecial 18, 3) := by decide +kernel
theorem dX9_image_33 : decode cX9_image 33 = .ok (.aastore, 1) := by decide +kernel
theorem dX9_image_34 : decode cX9_image 34 = .ok (.aload_n 0, 1) := by decide +kernel
theorem dX9_image_35 : decode cX9_image 35 = .ok (.getfield 30, 3) := by decide +kernel
theorem dX9_image_38 : decode cX9_image 38 = .ok (.iload_n 1, 1) := by decide +kernel
theorem dX9_image_39 : decode cX9_image 39 = .ok (.aaload, 1) := by decide +kernel
theorem dX9_image_40 : decode cX9_image 40 = .ok (.aload_n 0, 1) := by decide +kernel
theorem dX9_image_41 : decode cX9_image 41 = .ok (.getfield 19, 3) := by decide +kernel
theorem dX9_image_44 : decode cX9_image 44 = .ok (.invokevirtual 213, 3) := by decide +kernel
theorem dX9_image_47 : decode cX9_image 47 = .ok (.iconst 1, 1) := by decide +kernel
theorem dX9_image_48 : decode cX9_image 48 = .ok (.ireturn, 1) := by decide +kernel
theorem dX9_restore_0 : decode cX9_restore 0 = .ok (.iload_n 1, 1) := by decide +kernel
theorem dX9_restore_1 : decode cX9_restore 1 = .ok (.ifCond .lt 8, 3) := by decide +kernel
theorem dX9_restore_4 : decode cX9_restore 4 = .ok (.iload_n 1, 1) := by decide +kernel
theorem dX9_restore_5 : decode cX9_restore 5 = .ok (.iconst 2, 1) := by decide +kernel
theorem dX9_restore_6 : decode cX9_restore 6 = .ok (.if_icmp .lt 6, 3) := by decide +kernel
theorem dX9_restore_9 : decode cX9_restore 9 = .ok (.bipush (-2), 2) := by decide +kernel
theorem dX9_restore_11 : decode cX9_restore 11 = .ok (.ireturn, 1) := by decide +kernel
theorem dX9_restore_12 : decode cX9_restore 12 = .ok (.aload_n 0, 1) := by decide +kernel
theorem dX9_restore_13 : decode cX9_restore 13 = .ok (.getfield 30, 3) := by decide +kernel
theorem dX9_restore_16 : decode cX9_restore 16 = .ok (.iload_n 1, 1) := by decide +kernel
theorem dX9_restore_17 : decode cX9_restore 17 = .ok (.aaload, 1) := by decide +kernel
theorem dX9_restore_18 : decode cX9_restore 18 = .ok (.ifnonnull 6, 3) := by decide +kernel
theorem dX9_restore_21 : decode cX9_restore 21 = .ok (.bipush (-3), 2) := by decide +kernel
theorem dX9_restore_23 : decode cX9_restore 23 = .ok (.ireturn, 1) := by decide +kernel
theorem dX9_restore_24 : decode cX9_restore 24 = .ok (.aload_n 0, 1) := by decide +kernel
theorem dX9_restore_25 : decode cX9_restore 25 = .ok (.getfield 19, 3) := by decide +kernel
theorem dX9_restore_28 : decode cX9_restore 28 = .ok (.aload_n 0, 1) := by decide +kernel
theorem dX9_restore_29 : decode cX9_restore 29 = .ok (.getfield 30, 3) := by decide +kernel
theorem dX9_restore_32 : decode cX9_restore 32 = .ok (.iload_n 1, 1) := by decide +kernel
theorem dX9_restore_33 : decode cX9_restore 33 = .ok (.aaload, 1) := by decide +kernel
theorem dX9_restore_34 : decode cX9_restore 34 = .ok (.invokevirtual 213, 3) := by decide +kernel
theorem dX9_restore_37 : decode cX9_restore 37 = .ok (.iconst 1, 1) := by decide +kernel
theorem dX9_restore_38 : decode cX9_restore 38 = .ok (.ireturn, 1) := by decide +kernel
theorem dX9_count_0 : decode cX9_count 0 = .ok (.iload_n 1, 1) := by decide +kernel
theorem dX9_count_1 : decode cX9_count 1 = .ok (.tableswitch 99 0 6 #[43, 51, 59, 67, 76, 86, 94], 43) := by decide +kernel
theorem dX9_count_44 : decode cX9_count 44 = .ok (.aload_n 0, 1) := by decide +kernel
theorem dX9_count_45 : decode cX9_count 45 = .ok (.getfield 19, 3) := by decide +kernel
theorem dX9_count_48 : decode cX9_count 48 = .ok (.getfield 129, 3) := by decide +kernel
theorem dX9_count_51 : decode cX9_count 51 = .ok (.ireturn, 1) := by decide +kernel
theorem dX9_count_52 : decode cX9_count 52 = .ok (.aload_n 0, 1) := by decide +kernel
theorem dX9_count_53 : decode cX9_count 53 = .ok (.getfield 10, 3) := by decide +kernel
theorem dX9_count_56 : decode cX9_count 56 = .ok (.getfield 48, 3) := by decide +kernel
theorem dX9_count_59 : decode cX9_count 59 = .ok (.ireturn, 1) := by decide +kernel
theorem dX9_count_60 : decode cX9_count 60 = .ok (.aload_n 0, 1) := by decide +kernel
theorem dX9_count_61 : decode cX9_count 61 = .ok (.getfield 19, 3) := by decide +kernel
theorem dX9_count_64 : decode cX9_count 64 = .ok (.invokevirtual 139, 3) := by decide +kernel
theorem dX9_count_67 : decode cX9_count 67 = .ok (.ireturn, 1) := by decide +kernel
theorem dX9_count_68 : decode cX9_count 68 = .ok (.aload_n 0, 1) := by decide +kernel
theorem dX9_count_69 : decode cX9_count 69 = .ok (.getfield 19, 3) := by decide +kernel
theorem dX9_count_72 : decode cX9_count 72 = .ok (.iconst 0, 1) := by decide +kernel
theorem dX9_count_73 : decode cX9_count 73 = .ok (.invokevirtual 204, 3) := by decide +kernel
theorem dX9_count_76 : decode cX9_count 76 = .ok (.ireturn, 1) := by decide +kernel
theorem dX9_count_77 : decode cX9_count 77 = .ok (.aload_n 0, 1) := by decide +kernel
theorem dX9_count_78 : decode cX9_count 78 = .ok (.getfield 19, 3) := by decide +kernel
theorem dX9_count_81 : decode cX9_count 81 = .ok (.bipush 7, 2) := by decide +kernel
theorem dX9_count_83 : decode cX9_count 83 = .ok (.invokevirtual 204, 3) := by decide +kernel
theorem dX9_count_86 : decode cX9_count 86 = .ok (.ireturn, 1) := by decide +kernel
theorem dX9_count_87 : decode cX9_count 87 = .ok (.aload_n 0, 1) := by decide +kernel
theorem dX9_count_88 : decode cX9_count 88 = .ok (.getfield 19, 3) := by decide +kernel
theorem dX9_count_91 : decode cX9_count 91 = .ok (.invokevirtual 216, 3) := by decide +kernel
theorem dX9_count_94 : decode cX9_count 94 = .ok (.ireturn, 1) := by decide +kernel
theorem dX9_count_95 : decode cX9_count 95 = .ok (.aload_n 0, 1) := by decide +kernel
theorem dX9_count_96 : decode cX9_count 96 = .ok (.invokevirtual 219, 3) := by decide +kernel
theorem dX9_count_99 : decode cX9_count 99 = .ok (.ireturn, 1) := by decide +kernel
theorem dX9_count_100 : decode cX9_count 100 = .ok (.bipush (-2), 2) := by decide +kernel
theorem dX9_count_102 : decode cX9_count 102 = .ok (.ireturn, 1) := by decide +kernel
theorem dX9_imagesKept_0 : decode cX9_imagesKept 0 = .ok (.iconst 0, 1) := by decide +kernel
theorem dX9_imagesKept_1 : decode cX9_imagesKept 1 = .ok (.istore_n 1, 1) := by decide +kernel
theorem dX9_imagesKept_2 : decode cX9_imagesKept 2 = .ok (.iconst 0, 1) := by decide +kernel
theorem dX9_imagesKept_3 : decode cX9_imagesKept 3 = .ok (.istore_n 2, 1) := by decide +kernel
theorem dX9_imagesKept_4 : decode cX9_imagesKept 4 = .ok (.iload_n 2, 1) := by decide +kernel
theorem dX9_imagesKept_5 : decode cX9_imagesKept 5 = .ok (.iconst 2, 1) := by decide +kernel
theorem dX9_imagesKept_6 : decode cX9_imagesKept 6 = .ok (.if_icmp .ge 24, 3) := by decide +kernel
theorem dX9_imagesKept_9 : decode cX9_imagesKept 9 = .ok (.aload_n 0, 1) := by decide +kernel
theorem dX9_imagesKept_10 : decode cX9_imagesKept 10 = .ok (.getfield 30, 3) := by decide +kernel
theorem dX9_imagesKept_13 : decode cX9_imagesKept 13 = .ok (.iload_n 2, 1) := by decide +kernel
theorem dX9_imagesKept_14 : decode cX9_imagesKept 14 = .ok (.aaload, 1) := by decide +kernel
theorem dX9_imagesKept_15 : decode cX9_imagesKept 15 = .ok (.ifnull 9, 3) := by decide +kernel
theorem dX9_imagesKept_18 : decode cX9_imagesKept 18 = .ok (.iload_n 1, 1) := by decide +kernel
theorem dX9_imagesKept_19 : decode cX9_imagesKept 19 = .ok (.iconst 1, 1) := by decide +kernel
theorem dX9_imagesKept_20 : decode cX9_imagesKept 20 = .ok (.iload_n 2, 1) := by decide +kernel
theorem dX9_imagesKept_21 : decode cX9_imagesKept 21 = .ok (.ishl, 1) := by decide +kernel
theorem dX9_imagesKept_22 : decode cX9_imagesKept 22 = .ok (.ior, 1) := by decide +kernel
theorem dX9_imagesKept_23 : decode cX9_imagesKept 23 = .ok (.istore_n 1, 1) := by decide +kernel
theorem dX9_imagesKept_24 : decode cX9_imagesKept 24 = .ok (.iinc 2 1, 3) := by decide +kernel
theorem dX9_imagesKept_27 : decode cX9_imagesKept 27 = .ok (.goto (-23), 3) := by decide +kernel
theorem dX9_imagesKept_30 : decode cX9_imagesKept 30 = .ok (.iload_n 1, 1) := by decide +kernel
theorem dX9_imagesKept_31 : decode cX9_imagesKept 31 = .ok (.ireturn, 1) := by decide +kernel
theorem dX9_isStation_0 : decode cX9_isStation 0 = .ok (.iload_n 0, 1) := by decide +kernel
theorem dX9_isStation_1 : decode cX9_isStation 1 = .ok (.ifCond .lt 13, 3) := by decide +kernel
theorem dX9_isStation_4 : decode cX9_isStation 4 = .ok (.iload_n 0, 1) := by decide +kernel
theorem dX9_isStation_5 : decode cX9_isStation 5 = .ok (.bipush 6, 2) := by decide +kernel
theorem dX9_isStation_7 : decode cX9_isStation 7 = .ok (.if_icmp .ge 7, 3) := by decide +kernel
theorem dX9_isStation_10 : decode cX9_isStation 10 = .ok (.iconst 1, 1) := by decide +kernel
theorem dX9_isStation_11 : decode cX9_isStation 11 = .ok (.goto 4, 3) := by decide +kernel
theorem dX9_isStation_14 : decode cX9_isStation 14 = .ok (.iconst 0, 1) := by decide +kernel
theorem dX9_isStation_15 : decode cX9_isStation 15 = .ok (.ireturn, 1) := by decide +kernel
theorem dX9_isHops_0 : decode cX9_isHops 0 = .ok (.iload_n 0, 1) := by decide +kernel
theorem dX9_isHops_1 : decode cX9_isHops 1 = .ok (.iconst 1, 1) := by decide +kernel
theorem dX9_isHops_2 : decode cX9_isHops 2 = .ok (.if_icmp .lt 13, 3) := by decide +kernel
theorem dX9_isHops_5 : decode cX9_isHops 5 = .ok (.iload_n 0, 1) := by decide +kernel
theorem dX9_isHops_6 : decode cX9_isHops 6 = .ok (.bipush 7, 2) := by decide +kernel
theorem dX9_isHops_8 : decode cX9_isHops 8 = .ok (.if_icmp .gt 7, 3) := by decide +kernel
theorem dX9_isHops_11 : decode cX9_isHops 11 = .ok (.iconst 1, 1) := by decide +kernel
theorem dX9_isHops_12 : decode cX9_isHops 12 = .ok (.goto 4, 3) := by decide +kernel
theorem dX9_isHops_15 : decode cX9_isHops 15 = .ok (.iconst 0, 1) := by decide +kernel
theorem dX9_isHops_16 : decode cX9_isHops 16 = .ok (.ireturn, 1) := by decide +kernel
theorem dX9_isIn_0 : decode cX9_isIn 0 = .ok (.iload_n 0, 1) := by decide +kernel
theorem dX9_isIn_1 : decode cX9_isIn 1 = .ok (.iload_n 1, 1) := by decide +kernel
theorem dX9_isIn_2 : decode cX9_isIn 2 = .ok (.ishr, 1) := by decide +kernel
theorem dX9_isIn_3 : decode cX9_isIn 3 = .ok (.iconst 1, 1) := by decide +kernel
theorem dX9_isIn_4 : decode cX9_isIn 4 = .ok (.iand, 1) := by decide +kernel
theorem dX9_isIn_5 : decode cX9_isIn 5 = .ok (.ifCond .eq 7, 3) := by decide +kernel
theorem dX9_isIn_8 : decode cX9_isIn 8 = .ok (.iconst 1, 1) := by decide +kernel
theorem dX9_isIn_9 : decode cX9_isIn 9 = .ok (.goto 4, 3) := by decide +kernel
theorem dX9_isIn_12 : decode cX9_isIn 12 = .ok (.iconst 0, 1) := by decide +kernel
theorem dX9_isIn_13 : decode cX9_isIn 13 = .ok (.ireturn, 1) := by decide +kernel
theorem dX9_isSetting_0 : decode cX9_isSetting 0 = .ok (.iload_n 0, 1) := by decide +kernel
theorem dX9_isSetting_1 : decode cX9_isSetting 1 = .ok (.tableswitch 76 0 2 #[27, 44, 60], 27) := by decide +kernel
theorem dX9_isSetting_28 : decode cX9_isSetting 28 = .ok (.iload_n 1, 1) := by decide +kernel
theorem dX9_isSetting_29 : decode cX9_isSetting 29 = .ok (.iconst 1, 1) := by decide +kernel
theorem dX9_isSetting_30 : decode cX9_isSetting 30 = .ok (.if_icmp .lt 13, 3) := by decide +kernel
theorem dX9_isSetting_33 : decode cX9_isSetting 33 = .ok (.iload_n 1, 1) := by decide +kernel
theorem dX9_isSetting_34 : decode cX9_isSetting 34 = .ok (.bipush 7, 2) := by decide +kernel
theorem dX9_isSetting_36 : decode cX9_isSetting 36 = .ok (.if_icmp .gt 7, 3) := by decide +kernel
theorem dX9_isSetting_39 : decode cX9_isSetting 39 = .ok (.iconst 1, 1) := by decide +kernel
theorem dX9_isSetting_40 : decode cX9_isSetting 40 = .ok (.goto 4, 3) := by decide +kernel
theorem dX9_isSetting_43 : decode cX9_isSetting 43 = .ok (.iconst 0, 1) := by decide +kernel
theorem dX9_isSetting_44 : decode cX9_isSetting 44 = .ok (.ireturn, 1) := by decide +kernel
theorem dX9_isSetting_45 : decode cX9_isSetting 45 = .ok (.iload_n 1, 1) := by decide +kernel
theorem dX9_isSetting_46 : decode cX9_isSetting 46 = .ok (.iconst 1, 1) := by decide +kernel
theorem dX9_isSetting_47 : decode cX9_isSetting 47 = .ok (.if_icmp .lt 12, 3) := by decide +kernel
theorem dX9_isSetting_50 : decode cX9_isSetting 50 = .ok (.iload_n 1, 1) := by decide +kernel
theorem dX9_isSetting_51 : decode cX9_isSetting 51 = .ok (.iconst 3, 1) := by decide +kernel
theorem dX9_isSetting_52 : decode cX9_isSetting 52 = .ok (.if_icmp .gt 7, 3) := by decide +kernel
theorem dX9_isSetting_55 : decode cX9_isSetting 55 = .ok (.iconst 1, 1) := by decide +kernel
theorem dX9_isSetting_56 : decode cX9_isSetting 56 = .ok (.goto 4, 3) := by decide +kernel
theorem dX9_isSetting_59 : decode cX9_isSetting 59 = .ok (.iconst 0, 1) := by decide +kernel
theorem dX9_isSetting_60 : decode cX9_isSetting 60 = .ok (.ireturn, 1) := by decide +kernel
theorem dX9_isSetting_61 : decode cX9_isSetting 61 = .ok (.iload_n 1, 1) := by decide +kernel
theorem dX9_isSetting_62 : decode cX9_isSetting 62 = .ok (.ifCond .lt 13, 3) := by decide +kernel
theorem dX9_isSetting_65 : decode cX9_isSetting 65 = .ok (.iload_n 1, 1) := by decide +kernel
theorem dX9_isSetting_66 : decode cX9_isSetting 66 = .ok (.bipush 60, 2) := by decide +kernel
theorem dX9_isSetting_68 : decode cX9_isSetting 68 = .ok (.if_icmp .gt 7, 3) := by decide +kernel
theorem dX9_isSetting_71 : decode cX9_isSetting 71 = .ok (.iconst 1, 1) := by decide +kernel
theorem dX9_isSetting_72 : decode cX9_isSetting 72 = .ok (.goto 4, 3) := by decide +kernel
theorem dX9_isSetting_75 : decode cX9_isSetting 75 = .ok (.iconst 0, 1) := by decide +kernel
theorem dX9_isSetting_76 : decode cX9_isSetting 76 = .ok (.ireturn, 1) := by decide +kernel
theorem dX9_isSetting_77 : decode cX9_isSetting 77 = .ok (.iconst 0, 1) := by decide +kernel
theorem dX9_isSetting_78 : decode cX9_isSetting 78 = .ok (.ireturn, 1) := by decide +kernel
theorem dX10_init_0 : decode cX10_init 0 = .ok (.aload_n 0, 1) := by decide +kernel
theorem dX10_init_1 : decode cX10_init 1 = .ok (.invokespecial 1, 3) := by decide +kernel
theorem dX10_init_4 : decode cX10_init 4 = .ok (.aload_n 0, 1) := by decide +kernel
theorem dX10_init_5 : decode cX10_init 5 = .ok (.sipush 1387, 3) := by decide +kernel
theorem dX10_init_8 : decode cX10_init 8 = .ok (.newarray .int, 2) := by decide +kernel
theorem dX10_init_10 : decode cX10_init 10 = .ok (.putfield 7, 3) := by decide +kernel
theorem dX10_init_13 : decode cX10_init 13 = .ok (.aload_n 0, 1) := by decide +kernel
theorem dX10_init_14 : decode cX10_init 14 = .ok (.sipush 4161, 3) := by decide +kernel
theorem dX10_init_17 : decode cX10_init 17 = .ok (.newarray .int, 2) := by decide +kernel
theorem dX10_init_19 : decode cX10_init 19 = .ok (.putfield 13, 3) := by decide +kernel
theorem dX10_init_22 : decode cX10_init 22 = .ok (.aload_n 0, 1) := by decide +kernel
theorem dX10_init_23 : decode cX10_init 23 = .ok (.iconst 2, 1) := by decide +kernel
theorem dX10_init_24 : decode cX10_init 24 = .ok (.newarray .boolean, 2) := by decide +kernel
theorem dX10_init_26 : decode cX10_init 26 = .ok (.putfield 16, 3) := by decide +kernel
theorem dX10_init_29 : decode cX10_init 29 = .ok (.aload_n 0, 1) := by decide +kernel
theorem dX10_init_30 : decode cX10_init 30 = .ok (.bipush 40, 2) := by decide +kernel
theorem dX10_init_32 : decode cX10_init 32 = .ok (.newarray .int, 2) := by decide +kernel
theorem dX10_init_34 : decode cX10_init 34 = .ok (.putfield 20, 3) := by decide +kernel
theorem dX10_init_37 : decode cX10_init 37 = .ok (.aload_n 0, 1) := by decide +kernel
theorem dX10_init_38 : decode cX10_init 38 = .ok (.bipush 11, 2) := by decide +kernel
theorem dX10_init_40 : decode cX10_init 40 = .ok (.newarray .int, 2) := by decide +kernel
theorem dX10_init_42 : decode cX10_init 42 = .ok (.putfield 23, 3) := by decide +kernel
theorem dX10_init_45 : decode cX10_init 45 = .ok (.aload_n 0, 1) := by decide +kernel
theorem dX10_init_46 : decode cX10_init 46 = .ok (.bipush 66, 2) := by decide +kernel
theorem dX10_init_48 : decode cX10_init 48 = .ok (.newarray .int, 2) := by decide +kernel
theorem dX10_init_50 : decode cX10_init 50 = .ok (.putfield 26, 3) := by decide +kernel
theorem dX10_init_53 : decode cX10_init 53 = .ok (.aload_n 0, 1) := by decide +kernel
theorem dX10_init_54 : decode cX10_init 54 = .ok (.bipush 6, 2) := by decide +kernel
theorem dX10_init_56 : decode cX10_init 56 = .ok (.newarray .boolean, 2) := by decide +kernel
theorem dX10_init_58 : decode cX10_init 58 = .ok (.putfield 29, 3) := by decide +kernel
theorem dX10_init_61 : decode cX10_init 61 = .ok (.aload_n 0, 1) := by decide +kernel
theorem dX10_init_62 : decode cX10_init 62 = .ok (.bipush 6, 2) := by decide +kernel
theorem dX10_init_64 : decode cX10_init 64 = .ok (.newarray .int, 2) := by decide +kernel
theorem dX10_init_66 : decode cX10_init 66 = .ok (.putfield 32, 3) := by decide +kernel
theorem dX10_init_69 : decode cX10_init 69 = .ok (.aload_n 0, 1) := by decide +kernel
theorem dX10_init_70 : decode cX10_init 70 = .ok (.bipush 6, 2) := by decide +kernel
theorem dX10_init_72 : decode cX10_init 72 = .ok (.newarray .int, 2) := by decide +kernel
theorem dX10_init_74 : decode cX10_init 74 = .ok (.putfield 35, 3) := by decide +kernel
theorem dX10_init_77 : decode cX10_init 77 = .ok (.aload_n 0, 1) := by decide +kernel
theorem dX10_init_78 : decode cX10_init 78 = .ok (.bipush 80, 2) := by decide +kernel
theorem dX10_init_80 : decode cX10_init 80 = .ok (.newarray .int, 2) := by decide +kernel
theorem dX10_init_82 : decode cX10_init 82 = .ok (.putfield 38, 3) := by decide +kernel
theorem dX10_init_85 : decode cX10_init 85 = .ok (.iconst 0, 1) := by decide +kernel
theorem dX10_init_86 : decode cX10_init 86 = .ok (.istore_n 1, 1) := by decide +kernel
theorem dX10_init_87 : decode cX10_init 87 = .ok (.iload_n 1, 1) := by decide +kernel
theorem dX10_init_88 : decode cX10_init 88 = .ok (.bipush 6, 2) := by decide +kernel
theorem dX10_init_90 : decode cX10_init 90 = .ok (.if_icmp .ge 63, 3) := by decide +kernel
theorem dX10_init_93 : decode cX10_init 93 = .ok (.aload_n 0, 1) := by decide +kernel
theorem dX10_init_94 : decode cX10_init 94 = .ok (.getfield 7, 3) := by decide +kernel
theorem dX10_init_97 : decode cX10_init 97 = .ok (.iconst 0, 1) := by decide +kernel
theorem dX10_init_98 : decode cX10_init 98 = .ok (.iload_n 1, 1) := by decide +kernel
theorem dX10_init_99 : decode cX10_init 99 = .ok (.iadd, 1) := by decide +kernel
theorem dX10_init_100 : decode cX10_init 100 = .ok (.iconst 1, 1) := by decide +kernel
theorem dX10_init_101 : decode cX10_init 101 = .ok (.iload_n 1, 1) := by decide +kernel
theorem dX10_init_102 : decode cX10_init 102 = .ok (.iadd, 1) := by decide +kernel
theorem dX10_init_103 : decode cX10_init 103 = .ok (.iastore, 1) := by decide +kernel
theorem dX10_init_104 : decode cX10_init 104 = .ok (.aload_n 0, 1) := by decide +kernel
theorem dX10_init_105 : decode cX10_init 105 = .ok (.getfield 7, 3) := by decide +kernel
theorem dX10_init_108 : decode cX10_init 108 = .ok (.bipush 42, 2) := by decide +kernel
theorem dX10_init_110 : decode cX10_init 110 = .ok (.iload_n 1, 1) := by decide +kernel
theorem dX10_init_111 : decode cX10_init 111 = .ok (.iadd, 1) := by decide +kernel
theorem dX10_init_112 : decode cX10_init 112 = .ok (.iconst 3, 1) := by decide +kernel
theorem dX10_init_113 : decode cX10_init 113 = .ok (.iastore, 1) := by decide +kernel
theorem dX10_init_114 : decode cX10_init 114 = .ok (.aload_n 0, 1) := by decide +kernel
theorem dX10_init_115 : decode cX10_init 115 = .ok (.getfield 7, 3) := by decide +kernel
theorem dX10_init_118 : decode cX10_init 118 = .ok (.bipush 48, 2) := by decide +kernel
theorem dX10_init_120 : decode cX10_init 120 = .ok (.iload_n 1, 1) := by decide +kernel
theorem dX10_init_121 : decode cX10_init 121 = .ok (.iadd, 1) := by decide +kernel
theorem dX10_init_122 : decode cX10_init 122 = .ok (.iconst 1, 1) := by decide +kernel
theorem dX10_init_123 : decode cX10_init 123 = .ok (.iastore, 1) := by decide +kernel
theorem dX10_init_124 : decode cX10_init 124 = .ok (.aload_n 0, 1) := by decide +kernel
theorem dX10_init_125 : decode cX10_init 125 = .ok (.getfield 7, 3) := by decide +kernel
theorem dX10_init_128 : decode cX10_init 128 = .ok (.bipush 54, 2) := by decide +kernel
theorem dX10_init_130 : decode cX10_init 130 = .ok (.iload_n 1, 1) := by decide +kernel
theorem dX10_init_131 : decode cX10_init 131 = .ok (.iadd, 1) := by decide +kernel
theorem dX10_init_132 : decode cX10_init 132 = .ok (.bipush 10, 2) := by decide +kernel
theorem dX10_init_134 : decode cX10_init 134 = .ok (.iastore, 1) := by decide +kernel
theorem dX10_init_135 : decode cX10_init 135 = .ok (.aload_n 0, 1) := by decide +kernel
theorem dX10_init_136 : decode cX10_init 136 = .ok (.getfield 7, 3) := by decide +kernel
theorem dX10_init_139 : decode cX10_init 139 = .ok (.sipush 1380, 3) := by decide +kernel
theorem dX10_init_142 : decode cX10_init 142 = .ok (.iload_n 1, 1) := by decide +kernel
theorem dX10_init_143 : decode cX10_init 143 = .ok (.iadd, 1) := by decide +kernel
theorem dX10_init_144 : decode cX10_init 144 = .ok (.bipush (-6), 2) := by decide +kernel
theorem dX10_init_146 : decode cX10_init 146 = .ok (.iastore, 1) := by decide +kernel
theorem dX10_init_147 : decode cX10_init 147 = .ok (.iinc 1 1, 3) := by decide +kernel
theorem dX10_init_150 : decode cX10_init 150 = .ok (.goto (-63), 3) := by decide +kernel
theorem dX10_init_153 : decode cX10_init 153 = .ok (.return_, 1) := by decide +kernel
theorem dX10_in_0 : decode cX10_in 0 = .ok (.iload_n 0, 1) := by decide +kernel
theorem dX10_in_1 : decode cX10_in 1 = .ok (.iload_n 1, 1) := by decide +kernel
theorem dX10_in_2 : decode cX10_in 2 = .ok (.if_icmp .lt 12, 3) := by decide +kernel
theorem dX10_in_5 : decode cX10_in 5 = .ok (.iload_n 0, 1) := by decide +kernel
theorem dX10_in_6 : decode cX10_in 6 = .ok (.iload_n 2, 1) := by decide +kernel
theorem dX10_in_7 : decode cX10_in 7 = .ok (.if_icmp .gt 7, 3) := by decide +kernel
theorem dX10_in_10 : decode cX10_in 10 = .ok (.iconst 1, 1) := by decide +kernel
theorem dX10_in_11 : decode cX10_in 11 = .ok (.goto 4, 3) := by decide +kernel
theorem dX10_in_14 : decode cX10_in 14 = .ok (.iconst 0, 1) := by decide +kernel
theorem dX10_in_15 : decode cX10_in 15 = .ok (.ireturn, 1) := by decide +kernel
theorem dX10_isStation_0 : decode cX10_isStation 0 = .ok (.iload_n 0, 1) := by decide +kernel
theorem dX10_isStation_1 : decode cX10_isStation 1 = .ok (.iconst 0, 1) := by decide +kernel
theorem dX10_isStation_2 : decode cX10_isStation 2 = .ok (.iconst 5, 1) := by decide +kernel
theorem dX10_isStation_3 : decode cX10_isStation 3 = .ok (.invokestatic 41, 3) := by decide +kernel
theorem dX10_isStation_6 : decode cX10_isStation 6 = .ok (.ireturn, 1) := by decide +kernel
theorem dX10_say_0 : decode cX10_say 0 = .ok (.iload_n 1, 1) := by decide +kernel
theorem dX10_say_1 : decode cX10_say 1 = .ok (.bipush 33, 2) := by decide +kernel
theorem dX10_say_3 : decode cX10_say 3 = .ok (.bipush 126, 2) := by decide +kernel
theorem dX10_say_5 : decode cX10_say 5 = .ok (.invokestatic 41, 3) := by decide +kernel
theorem dX10_say_8 : decode cX10_say 8 = .ok (.ifCond .ne 6, 3) := by decide +kernel
theorem dX10_say_11 : decode cX10_say 11 = .ok (.bipush (-2), 2) := by decide +kernel
theorem dX10_say_13 : decode cX10_say 13 = .ok (.ireturn, 1) := by decide +kernel
theorem dX10_say_14 : decode cX10_say 14 = .ok (.aload_n 0, 1) := by decide +kernel
theorem dX10_say_15 : decode cX10_say 15 = .ok (.getfield 45, 3) := by decide +kernel
theorem dX10_say_18 : decode cX10_say 18 = .ok (.bipush 40, 2) := by decide +kernel
theorem dX10_say_20 : decode cX10_say 20 = .ok (.if_icmp .ne 6, 3) := by decide +kernel
theorem dX10_say_23 : decode cX10_say 23 = .ok (.bipush (-4), 2) := by decide +kernel
theorem dX10_say_25 : decode cX10_say 25 = .ok (.ireturn, 1) := by decide +kernel
theorem dX10_say_26 : decode cX10_say 26 = .ok (.aload_n 0, 1) := by decide +kernel
theorem dX10_say_27 : decode cX10_say 27 = .ok (.getfield 20, 3) := by decide +kernel
theorem dX10_say_30 : decode cX10_say 30 = .ok (.aload_n 0, 1) := by decide +kernel
theorem dX10_say_31 : decode cX10_say 31 = .ok (.getfield 45, 3) := by decide +kernel
theorem dX10_say_34 : decode cX10_say 34 = .ok (.iload_n 1, 1) := by decide +kernel
theorem dX10_say_35 : decode cX10_say 35 = .ok (.iastore, 1) := by decide +kernel
theorem dX10_say_36 : decode cX10_say 36 = .ok (.aload_n 0, 1) := by decide +kernel
theorem dX10_say_37 : decode cX10_say 37 = .ok (.dup, 1) := by decide +kernel
theorem dX10_say_38 : decode cX10_say 38 = .ok (.getfield 45, 3) := by decide +kernel
theorem dX10_say_41 : decode cX10_say 41 = .ok (.iconst 1, 1) := by decide +kernel
theorem dX10_say_42 : decode cX10_say 42 = .ok (.iadd, 1) := by decide +kernel
theorem dX10_say_43 : decode cX10_say 43 = .ok (.putfield 45, 3) := by decide +kernel
theorem dX10_say_46 : decode cX10_say 46 = .ok (.aload_n 0, 1) := by decide +kernel
theorem dX10_say_47 : decode cX10_say 47 = .ok (.getfield 45, 3) := by decide +kernel
theorem dX10_say_50 : decode cX10_say 50 = .ok (.ireturn, 1) := by decide +kernel
theorem dX10_wipe_0 : decode cX10_wipe 0 = .ok (.aload_n 0, 1) := by decide +kernel
theorem dX10_wipe_1 : decode cX10_wipe 1 = .ok (.getfield 45, 3) := by decide +kernel
theorem dX10_wipe_4 : decode cX10_wipe 4 = .ok (.istore_n 1, 1) := by decide +kernel
theorem dX10_wipe_5 : decode cX10_wipe 5 = .ok (.aload_n 0, 1) := by decide +kernel
theorem dX10_wipe_6 : decode cX10_wipe 6 = .ok (.iconst 0, 1) := by decide +kernel
theorem dX10_wipe_7 : decode cX10_wipe 7 = .ok (.putfield 45, 3) := by decide +kernel
theorem dX10_wipe_10 : decode cX10_wipe 10 = .ok (.iload_n 1, 1) := by decide +kernel
theorem dX10_wipe_11 : decode cX10_wipe 11 = .ok (.ireturn, 1) := by decide +kernel
theorem dX10_isAt_0 : decode cX10_isAt 0 = .ok (.aload_n 0, 1) := by decide +kernel
theorem dX10_isAt_1 : decode cX10_isAt 1 = .ok (.getfield 49, 3) := by decide +kernel
theorem dX10_isAt_4 : decode cX10_isAt 4 = .ok (.aload_n 0, 1) := by decide +kernel
theorem dX10_isAt_5 : decode cX10_isAt 5 = .ok (.getfield 45, 3) := by decide +kernel
theorem dX10_isAt_8 : decode cX10_isAt 8 = .ok (.if_icmp .ge 20, 3) := by decide +kernel
theorem dX10_isAt_11 : decode cX10_isAt 11 = .ok (.aload_n 0, 1) := by decide +kernel
theorem dX10_isAt_12 : decode cX10_isAt 12 = .ok (.getfield 20, 3) := by decide +kernel
theorem dX10_isAt_15 : decode cX10_isAt 15 = .ok (.aload_n 0, 1) := by decide +kernel
theorem dX10_isAt_16 : decode cX10_isAt 16 = .ok (.getfield 49, 3) := by decide +kernel
theorem dX10_isAt_19 : decode cX10_isAt 19 = .ok (.iaload, 1) := by decide +kernel
theorem dX10_isAt_20 : decode cX10_isAt 20 = .ok (.iload_n 1, 1) := by decide +kernel
theorem dX10_isAt_21 : decode cX10_isAt 21 = .ok (.if_icmp .ne 7, 3) := by decide +kernel
theorem dX10_isAt_24 : decode cX10_isAt 24 = .ok (.iconst 1, 1) := by decide +kernel
theorem dX10_isAt_25 : decode cX10_isAt 25 = .ok (.goto 4, 3) := by decide +kernel
theorem dX10_isAt_28 : decode cX10_isAt 28 = .ok (.iconst 0, 1) := by decide +kernel
theorem dX10_isAt_29 : decode cX10_isAt 29 = .ok (.ireturn, 1) := by decide +kernel
theorem dX10_isLetter_0 : decode cX10_isLetter 0 = .ok (.aload_n 0, 1) := by decide +kernel
theorem dX10_isLetter_1 : decode cX10_isLetter 1 = .ok (.getfield 49, 3) := by decide +kernel
theorem dX10_isLetter_4 : decode cX10_isLetter 4 = .ok (.aload_n 0, 1) := by decide +kernel
theorem dX10_isLetter_5 : decode cX10_isLetter 5 = .ok (.getfield 45, 3) := by decide +kernel
theorem dX10_isLetter_8 : decode cX10_isLetter 8 = .ok (.if_icmp .ge 27, 3) := by decide +kernel
theorem dX10_isLetter_11 : decode cX10_isLetter 11 = .ok (.aload_n 0, 1) := by decide +kernel
theorem dX10_isLetter_12 : decode cX10_isLetter 12 = .ok (.getfield 20, 3) := by decide +kernel
theorem dX10_isLetter_15 : decode cX10_isLetter 15 = .ok (.aload_n 0, 1) := by decide +kernel
theorem dX10_isLetter_16 : decode cX10_isLetter 16 = .ok (.getfield 49, 3) := by decide +kernel
theorem dX10_isLetter_19 : decode cX10_isLetter 19 = .ok (.iaload, 1) := by decide +kernel
theorem dX10_isLetter_20 : decode cX10_isLetter 20 = .ok (.iload_n 1, 1) := by decide +kernel
theorem dX10_isLetter_21 : decode cX10_isLetter 21 = .ok (.iload_n 1, 1) := by decide +kernel
theorem dX10_isLetter_22 : decode cX10_isLetter 22 = .ok (.bipush 25, 2) := by decide +kernel
theorem dX10_isLetter_24 : decode cX10_isLetter 24 = .ok (.iadd, 1) := by decide +kernel
theorem dX10_isLetter_25 : decode cX10_isLetter 25 = .ok (.invokestatic 41, 3) := by decide +kernel
theorem dX10_isLetter_28 : decode cX10_isLetter 28 = .ok (.ifCond .eq 7, 3) := by decide +kernel
theorem dX10_isLetter_31 : decode cX10_isLetter 31 = .ok (.iconst 1, 1) := by decide +kernel
theorem dX10_isLetter_32 : decode cX10_isLetter 32 = .ok (.goto 4, 3) := by decide +kernel
theorem dX10_isLetter_35 : decode cX10_isLetter 35 = .ok (.iconst 0, 1) := by decide +kernel
theorem dX10_isLetter_36 : decode cX10_isLetter 36 = .ok (.ireturn, 1) := by decide +kernel
theorem dX10_readLetters_0 : decode cX10_readLetters 0 = .ok (.iconst 0, 1) := by decide +kernel
theorem dX10_readLetters_1 : decode cX10_readLetters 1 = .ok (.istore_n 3, 1) := by decide +kernel
theorem dX10_readLetters_2 : decode cX10_readLetters 2 = .ok (.iconst 0, 1) := by decide +kernel
theorem dX10_readLetters_3 : decode cX10_readLetters 3 = .ok (.istore 4, 2) := by decide +kernel
theorem dX10_readLetters_5 : decode cX10_readLetters 5 = .ok (.iload 4, 2) := by decide +kernel
theorem dX10_readLetters_7 : decode cX10_readLetters 7 = .ok (.iload_n 2, 1) := by decide +kernel
theorem dX10_readLetters_8 : decode cX10_readLetters 8 = .ok (.if_icmp .ge 46, 3) := by decide +kernel
theorem dX10_readLetters_11 : decode cX10_readLetters 11 = .ok (.aload_n 0, 1) := by decide +kernel
theorem dX10_readLetters_12 : decode cX10_readLetters 12 = .ok (.iload_n 1, 1) := by decide +kernel
theorem dX10_readLetters_13 : decode cX10_readLetters 13 = .ok (.invokevirtual 52, 3) := by decide +kernel
theorem dX10_readLetters_16 : decode cX10_readLetters 16 = .ok (.ifCond .eq 38, 3) := by decide +kernel
theorem dX10_readLetters_19 : decode cX10_readLetters 19 = .ok (.bipush 27, 2) := by decide +kernel
theorem dX10_readLetters_21 : decode cX10_readLetters 21 = .ok (.iload_n 3, 1) := by decide +kernel
theorem dX10_readLetters_22 : decode cX10_readLetters 22 = .ok (.imul, 1) := by decide +kernel
theorem dX10_readLetters_23 : decode cX10_readLetters 23 = .ok (.aload_n 0, 1) := by decide +kernel
theorem dX10_readLetters_24 : decode cX10_readLetters 24 = .ok (.getfield 20, 3) := by decide +kernel
theorem dX10_readLetters_27 : decode cX10_readLetters 27 = .ok (.aload_n 0, 1) := by decide +kernel
theorem dX10_readLetters_28 : decode cX10_readLetters 28 = .ok (.getfield 49, 3) := by decide +kernel
theorem dX10_readLetters_31 : decode cX10_readLetters 31 = .ok (.iaload, 1) := by decide +kernel
theorem dX10_readLetters_32 : decode cX10_readLetters 32 = .ok (.iadd, 1) := by decide +kernel
theorem dX10_readLetters_33 : decode cX10_readLetters 33 = .ok (.iload_n 1, 1) := by decide +kernel
theorem dX10_readLetters_34 : decode cX10_readLetters 34 = .ok (.isub, 1) := by decide +kernel
theorem dX10_readLetters_35 : decode cX10_readLetters 35 = .ok (.iconst 1, 1) := by decide +kernel
theorem dX10_readLetters_36 : decode cX10_readLetters 36 = .ok (.iadd, 1) := by decide +kernel
theorem dX10_readLetters_37 : decode cX10_readLetters 37 = .ok (.istore_n 3, 1) := by decide +kernel
theorem dX10_readLetters_38 : decode cX10_readLetters 38 = .ok (.iinc 4 1, 3) := by decide +kernel
theorem dX10_readLetters_41 : decode cX10_readLetters 41 = .ok (.aload_n 0, 1) := by decide +kernel
theorem dX10_readLetters_42 : decode cX10_readLetters 42 = .ok (.dup, 1) := by decide +kernel
theorem dX10_readLetters_43 : decode cX10_readLetters 43 = .ok (.getfield 49, 3) := by decide +kernel
theorem dX10_readLetters_46 : decode cX10_readLetters 46 = .ok (.iconst 1, 1) := by decide +kernel
theorem dX10_readLetters_47 : decode cX10_readLetters 47 = .ok (.iadd, 1) := by decide +kernel
theorem dX10_readLetters_48 : decode cX10_readLetters 48 = .ok (.putfield 49, 3) := by decide +kernel
theorem dX10_readLetters_51 : decode cX10_readLetters 51 = .ok (.goto (-46), 3) := by decide +kernel
theorem dX10_readLetters_54 : decode cX10_readLetters 54 = .ok (.aload_n 0, 1) := by decide +kernel
theorem dX10_readLetters_55 : decode cX10_readLetters 55 = .ok (.aload_n 0, 1) := by decide +kernel
theorem dX10_readLetters_56 : decode cX10_readLetters 56 = .ok (.getfield 56, 3) := by decide +kernel
theorem dX10_readLetters_59 : decode cX10_readLetters 59 = .ok (.ifCond .ne 8, 3) := by decide +kernel
theorem dX10_readLetters_62 : decode cX10_readLetters 62 = .ok (.iload 4, 2) := by decide +kernel
theorem dX10_readLetters_64 : decode cX10_readLetters 64 = .ok (.ifCond .ne 7, 3) := by decide +kernel
theorem dX10_readLetters_67 : decode cX10_readLetters 67 = .ok (.iconst 1, 1) := by decide +kernel
theorem dX10_readLetters_68 : decode cX10_readLetters 68 = .ok (.goto 4, 3) := by decide +kernel
theorem dX10_readLetters_71 : decode cX10_readLetters 71 = .ok (.iconst 0, 1) := by decide +kernel
theorem dX10_readLetters_72 : decode cX10_readLetters 72 = .ok (.putfield 56, 3) := by decide +kernel
theorem dX10_readLetters_75 : decode cX10_readLetters 75 = .ok (.iload_n 3, 1) := by decide +kernel
theorem dX10_readLetters_76 : decode cX10_readLetters 76 = .ok (.ireturn, 1) := by decide +kernel
theorem dX10_readSign_0 : decode cX10_readSign 0 = .ok (.aload_n 0, 1) := by decide +kernel
theorem dX10_readSign_1 : decode cX10_readSign 1 = .ok (.getfield 56, 3) := by decide +kernel
theorem dX10_readSign_4 : decode cX10_readSign 4 = .ok (.ifCond .ne 41, 3) := by decide +kernel
theorem dX10_readSign_7 : decode cX10_readSign 7 = .ok (.aload_n 0, 1) := by decide +kernel
theorem dX10_readSign_8 : decode cX10_readSign 8 = .ok (.aload_n 0, 1) := by decide +kernel
theorem dX10_readSign_9 : decode cX10_readSign 9 = .ok (.iload_n 1, 1) := by decide +kernel
theorem dX10_readSign_10 : decode cX10_readSign 10 = .ok (.invokevirtual 60, 3) := by decide +kernel
theorem dX10_readSign_13 : decode cX10_readSign 13 = .ok (.ifCond .ne 7, 3) := by decide +kernel
theorem dX10_readSign_16 : decode cX10_readSign 16 = .ok (.iconst 1, 1) := by decide +kernel
theorem dX10_readSign_17 : decode cX10_readSign 17 = .ok (.goto 4, 3) := by decide +kernel
end
section
theorem dX10_readSign_20 : decode cX10_readSign 20 = .ok (.iconst 0, 1) := by decide +kernel
theorem dX10_readSign_21 : decode cX10_readSign 21 = .ok (.putfield 56, 3) := by decide +kernel
theorem dX10_readSign_24 : decode cX10_readSign 24 = .ok (.aload_n 0, 1) := by decide +kernel
theorem dX10_readSign_25 : decode cX10_readSign 25 = .ok (.dup, 1) := by decide +kernel
theorem dX10_readSign_26 : decode cX10_readSign 26 = .ok (.getfield 49, 3) := by decide +kernel
theorem dX10_readSign_29 : decode cX10_readSign 29 = .ok (.aload_n 0, 1) := by decide +kernel
theorem dX10_readSign_30 : decode cX10_readSign 30 = .ok (.getfield 56, 3) := by decide +kernel
theorem dX10_readSign_33 : decode cX10_readSign 33 = .ok (.ifCond .eq 7, 3) := by decide +kernel
theorem dX10_readSign_36 : decode cX10_readSign 36 = .ok (.iconst 0, 1) := by decide +kernel
theorem dX10_readSign_37 : decode cX10_readSign 37 = .ok (.goto 4, 3) := by decide +kernel
theorem dX10_readSign_40 : decode cX10_readSign 40 = .ok (.iconst 1, 1) := by decide +kernel
theorem dX10_readSign_41 : decode cX10_readSign 41 = .ok (.iadd, 1) := by decide +kernel
theorem dX10_readSign_42 : decode cX10_readSign 42 = .ok (.putfield 49, 3) := by decide +kernel
theorem dX10_readSign_45 : decode cX10_readSign 45 = .ok (.return_, 1) := by decide +kernel
theorem dX10_readWord_0 : decode cX10_readWord 0 = .ok (.aload_n 0, 1) := by decide +kernel
theorem dX10_readWord_1 : decode cX10_readWord 1 = .ok (.bipush 65, 2) := by decide +kernel
theorem dX10_readWord_3 : decode cX10_readWord 3 = .ok (.iconst 3, 1) := by decide +kernel
theorem dX10_readWord_4 : decode cX10_readWord 4 = .ok (.invokevirtual 63, 3) := by decide +kernel
theorem dX10_readWord_7 : decode cX10_readWord 7 = .ok (.istore_n 1, 1) := by decide +kernel
theorem dX10_readWord_8 : decode cX10_readWord 8 = .ok (.iconst 0, 1) := by decide +kernel
theorem dX10_readWord_9 : decode cX10_readWord 9 = .ok (.istore_n 2, 1) := by decide +kernel
theorem dX10_readWord_10 : decode cX10_readWord 10 = .ok (.aload_n 0, 1) := by decide +kernel
theorem dX10_readWord_11 : decode cX10_readWord 11 = .ok (.getfield 56, 3) := by decide +kernel
theorem dX10_readWord_14 : decode cX10_readWord 14 = .ok (.ifCond .ne 106, 3) := by decide +kernel
theorem dX10_readWord_17 : decode cX10_readWord 17 = .ok (.aload_n 0, 1) := by decide +kernel
theorem dX10_readWord_18 : decode cX10_readWord 18 = .ok (.bipush 45, 2) := by decide +kernel
theorem dX10_readWord_20 : decode cX10_readWord 20 = .ok (.invokevirtual 60, 3) := by decide +kernel
theorem dX10_readWord_23 : decode cX10_readWord 23 = .ok (.ifCond .eq 97, 3) := by decide +kernel
theorem dX10_readWord_26 : decode cX10_readWord 26 = .ok (.aload_n 0, 1) := by decide +kernel
theorem dX10_readWord_27 : decode cX10_readWord 27 = .ok (.dup, 1) := by decide +kernel
theorem dX10_readWord_28 : decode cX10_readWord 28 = .ok (.getfield 49, 3) := by decide +kernel
theorem dX10_readWord_31 : decode cX10_readWord 31 = .ok (.iconst 1, 1) := by decide +kernel
theorem dX10_readWord_32 : decode cX10_readWord 32 = .ok (.iadd, 1) := by decide +kernel
theorem dX10_readWord_33 : decode cX10_readWord 33 = .ok (.putfield 49, 3) := by decide +kernel
theorem dX10_readWord_36 : decode cX10_readWord 36 = .ok (.aload_n 0, 1) := by decide +kernel
theorem dX10_readWord_37 : decode cX10_readWord 37 = .ok (.aload_n 0, 1) := by decide +kernel
theorem dX10_readWord_38 : decode cX10_readWord 38 = .ok (.getfield 49, 3) := by decide +kernel
theorem dX10_readWord_41 : decode cX10_readWord 41 = .ok (.aload_n 0, 1) := by decide +kernel
theorem dX10_readWord_42 : decode cX10_readWord 42 = .ok (.getfield 45, 3) := by decide +kernel
theorem dX10_readWord_45 : decode cX10_readWord 45 = .ok (.if_icmp .eq 22, 3) := by decide +kernel
theorem dX10_readWord_48 : decode cX10_readWord 48 = .ok (.aload_n 0, 1) := by decide +kernel
theorem dX10_readWord_49 : decode cX10_readWord 49 = .ok (.getfield 20, 3) := by decide +kernel
theorem dX10_readWord_52 : decode cX10_readWord 52 = .ok (.aload_n 0, 1) := by decide +kernel
theorem dX10_readWord_53 : decode cX10_readWord 53 = .ok (.getfield 49, 3) := by decide +kernel
theorem dX10_readWord_56 : decode cX10_readWord 56 = .ok (.iaload, 1) := by decide +kernel
theorem dX10_readWord_57 : decode cX10_readWord 57 = .ok (.bipush 49, 2) := by decide +kernel
theorem dX10_readWord_59 : decode cX10_readWord 59 = .ok (.bipush 55, 2) := by decide +kernel
theorem dX10_readWord_61 : decode cX10_readWord 61 = .ok (.invokestatic 41, 3) := by decide +kernel
theorem dX10_readWord_64 : decode cX10_readWord 64 = .ok (.ifCond .ne 7, 3) := by decide +kernel
theorem dX10_readWord_67 : decode cX10_readWord 67 = .ok (.iconst 1, 1) := by decide +kernel
theorem dX10_readWord_68 : decode cX10_readWord 68 = .ok (.goto 4, 3) := by decide +kernel
theorem dX10_readWord_71 : decode cX10_readWord 71 = .ok (.iconst 0, 1) := by decide +kernel
theorem dX10_readWord_72 : decode cX10_readWord 72 = .ok (.putfield 56, 3) := by decide +kernel
theorem dX10_readWord_75 : decode cX10_readWord 75 = .ok (.aload_n 0, 1) := by decide +kernel
theorem dX10_readWord_76 : decode cX10_readWord 76 = .ok (.getfield 56, 3) := by decide +kernel
theorem dX10_readWord_79 : decode cX10_readWord 79 = .ok (.ifCond .eq 7, 3) := by decide +kernel
theorem dX10_readWord_82 : decode cX10_readWord 82 = .ok (.iconst 0, 1) := by decide +kernel
theorem dX10_readWord_83 : decode cX10_readWord 83 = .ok (.goto 15, 3) := by decide +kernel
theorem dX10_readWord_86 : decode cX10_readWord 86 = .ok (.aload_n 0, 1) := by decide +kernel
theorem dX10_readWord_87 : decode cX10_readWord 87 = .ok (.getfield 20, 3) := by decide +kernel
theorem dX10_readWord_90 : decode cX10_readWord 90 = .ok (.aload_n 0, 1) := by decide +kernel
theorem dX10_readWord_91 : decode cX10_readWord 91 = .ok (.getfield 49, 3) := by decide +kernel
theorem dX10_readWord_94 : decode cX10_readWord 94 = .ok (.iaload, 1) := by decide +kernel
theorem dX10_readWord_95 : decode cX10_readWord 95 = .ok (.bipush 48, 2) := by decide +kernel
theorem dX10_readWord_97 : decode cX10_readWord 97 = .ok (.isub, 1) := by decide +kernel
theorem dX10_readWord_98 : decode cX10_readWord 98 = .ok (.istore_n 2, 1) := by decide +kernel
theorem dX10_readWord_99 : decode cX10_readWord 99 = .ok (.aload_n 0, 1) := by decide +kernel
theorem dX10_readWord_100 : decode cX10_readWord 100 = .ok (.dup, 1) := by decide +kernel
theorem dX10_readWord_101 : decode cX10_readWord 101 = .ok (.getfield 49, 3) := by decide +kernel
theorem dX10_readWord_104 : decode cX10_readWord 104 = .ok (.aload_n 0, 1) := by decide +kernel
theorem dX10_readWord_105 : decode cX10_readWord 105 = .ok (.getfield 56, 3) := by decide +kernel
theorem dX10_readWord_108 : decode cX10_readWord 108 = .ok (.ifCond .eq 7, 3) := by decide +kernel
theorem dX10_readWord_111 : decode cX10_readWord 111 = .ok (.iconst 0, 1) := by decide +kernel
theorem dX10_readWord_112 : decode cX10_readWord 112 = .ok (.goto 4, 3) := by decide +kernel
theorem dX10_readWord_115 : decode cX10_readWord 115 = .ok (.iconst 1, 1) := by decide +kernel
theorem dX10_readWord_116 : decode cX10_readWord 116 = .ok (.iadd, 1) := by decide +kernel
theorem dX10_readWord_117 : decode cX10_readWord 117 = .ok (.putfield 49, 3) := by decide +kernel
theorem dX10_readWord_120 : decode cX10_readWord 120 = .ok (.aload_n 0, 1) := by decide +kernel
theorem dX10_readWord_121 : decode cX10_readWord 121 = .ok (.getfield 56, 3) := by decide +kernel
theorem dX10_readWord_124 : decode cX10_readWord 124 = .ok (.ifCond .ne 16, 3) := by decide +kernel
theorem dX10_readWord_127 : decode cX10_readWord 127 = .ok (.aload_n 0, 1) := by decide +kernel
theorem dX10_readWord_128 : decode cX10_readWord 128 = .ok (.bipush 42, 2) := by decide +kernel
theorem dX10_readWord_130 : decode cX10_readWord 130 = .ok (.invokevirtual 60, 3) := by decide +kernel
theorem dX10_readWord_133 : decode cX10_readWord 133 = .ok (.ifCond .eq 7, 3) := by decide +kernel
theorem dX10_readWord_136 : decode cX10_readWord 136 = .ok (.iconst 1, 1) := by decide +kernel
theorem dX10_readWord_137 : decode cX10_readWord 137 = .ok (.goto 4, 3) := by decide +kernel
theorem dX10_readWord_140 : decode cX10_readWord 140 = .ok (.iconst 0, 1) := by decide +kernel
theorem dX10_readWord_141 : decode cX10_readWord 141 = .ok (.istore_n 3, 1) := by decide +kernel
theorem dX10_readWord_142 : decode cX10_readWord 142 = .ok (.aload_n 0, 1) := by decide +kernel
theorem dX10_readWord_143 : decode cX10_readWord 143 = .ok (.dup, 1) := by decide +kernel
theorem dX10_readWord_144 : decode cX10_readWord 144 = .ok (.getfield 49, 3) := by decide +kernel
theorem dX10_readWord_147 : decode cX10_readWord 147 = .ok (.iload_n 3, 1) := by decide +kernel
theorem dX10_readWord_148 : decode cX10_readWord 148 = .ok (.ifCond .eq 7, 3) := by decide +kernel
theorem dX10_readWord_151 : decode cX10_readWord 151 = .ok (.iconst 1, 1) := by decide +kernel
theorem dX10_readWord_152 : decode cX10_readWord 152 = .ok (.goto 4, 3) := by decide +kernel
theorem dX10_readWord_155 : decode cX10_readWord 155 = .ok (.iconst 0, 1) := by decide +kernel
theorem dX10_readWord_156 : decode cX10_readWord 156 = .ok (.iadd, 1) := by decide +kernel
theorem dX10_readWord_157 : decode cX10_readWord 157 = .ok (.putfield 49, 3) := by decide +kernel
theorem dX10_readWord_160 : decode cX10_readWord 160 = .ok (.aload_n 0, 1) := by decide +kernel
theorem dX10_readWord_161 : decode cX10_readWord 161 = .ok (.getfield 23, 3) := by decide +kernel
theorem dX10_readWord_164 : decode cX10_readWord 164 = .ok (.iconst 3, 1) := by decide +kernel
theorem dX10_readWord_165 : decode cX10_readWord 165 = .ok (.aload_n 0, 1) := by decide +kernel
theorem dX10_readWord_166 : decode cX10_readWord 166 = .ok (.getfield 23, 3) := by decide +kernel
theorem dX10_readWord_169 : decode cX10_readWord 169 = .ok (.iconst 2, 1) := by decide +kernel
theorem dX10_readWord_170 : decode cX10_readWord 170 = .ok (.iaload, 1) := by decide +kernel
theorem dX10_readWord_171 : decode cX10_readWord 171 = .ok (.iadd, 1) := by decide +kernel
theorem dX10_readWord_172 : decode cX10_readWord 172 = .ok (.bipush 16, 2) := by decide +kernel
theorem dX10_readWord_174 : decode cX10_readWord 174 = .ok (.iload_n 1, 1) := by decide +kernel
theorem dX10_readWord_175 : decode cX10_readWord 175 = .ok (.imul, 1) := by decide +kernel
theorem dX10_readWord_176 : decode cX10_readWord 176 = .ok (.iconst 2, 1) := by decide +kernel
theorem dX10_readWord_177 : decode cX10_readWord 177 = .ok (.iload_n 2, 1) := by decide +kernel
theorem dX10_readWord_178 : decode cX10_readWord 178 = .ok (.imul, 1) := by decide +kernel
theorem dX10_readWord_179 : decode cX10_readWord 179 = .ok (.iadd, 1) := by decide +kernel
theorem dX10_readWord_180 : decode cX10_readWord 180 = .ok (.iload_n 3, 1) := by decide +kernel
theorem dX10_readWord_181 : decode cX10_readWord 181 = .ok (.ifCond .eq 7, 3) := by decide +kernel
theorem dX10_readWord_184 : decode cX10_readWord 184 = .ok (.iconst 1, 1) := by decide +kernel
theorem dX10_readWord_185 : decode cX10_readWord 185 = .ok (.goto 4, 3) := by decide +kernel
theorem dX10_readWord_188 : decode cX10_readWord 188 = .ok (.iconst 0, 1) := by decide +kernel
theorem dX10_readWord_189 : decode cX10_readWord 189 = .ok (.iadd, 1) := by decide +kernel
theorem dX10_readWord_190 : decode cX10_readWord 190 = .ok (.iastore, 1) := by decide +kernel
theorem dX10_readWord_191 : decode cX10_readWord 191 = .ok (.aload_n 0, 1) := by decide +kernel
theorem dX10_readWord_192 : decode cX10_readWord 192 = .ok (.getfield 23, 3) := by decide +kernel
theorem dX10_readWord_195 : decode cX10_readWord 195 = .ok (.iconst 2, 1) := by decide +kernel
theorem dX10_readWord_196 : decode cX10_readWord 196 = .ok (.dup2, 1) := by decide +kernel
theorem dX10_readWord_197 : decode cX10_readWord 197 = .ok (.iaload, 1) := by decide +kernel
theorem dX10_readWord_198 : decode cX10_readWord 198 = .ok (.iconst 1, 1) := by decide +kernel
theorem dX10_readWord_199 : decode cX10_readWord 199 = .ok (.iadd, 1) := by decide +kernel
theorem dX10_readWord_200 : decode cX10_readWord 200 = .ok (.iastore, 1) := by decide +kernel
theorem dX10_readWord_201 : decode cX10_readWord 201 = .ok (.return_, 1) := by decide +kernel
theorem dX10_readPacket_0 : decode cX10_readPacket 0 = .ok (.aload_n 0, 1) := by decide +kernel
theorem dX10_readPacket_1 : decode cX10_readPacket 1 = .ok (.iconst 0, 1) := by decide +kernel
theorem dX10_readPacket_2 : decode cX10_readPacket 2 = .ok (.putfield 49, 3) := by decide +kernel
theorem dX10_readPacket_5 : decode cX10_readPacket 5 = .ok (.aload_n 0, 1) := by decide +kernel
theorem dX10_readPacket_6 : decode cX10_readPacket 6 = .ok (.iconst 0, 1) := by decide +kernel
theorem dX10_readPacket_7 : decode cX10_readPacket 7 = .ok (.putfield 56, 3) := by decide +kernel
theorem dX10_readPacket_10 : decode cX10_readPacket 10 = .ok (.aload_n 0, 1) := by decide +kernel
theorem dX10_readPacket_11 : decode cX10_readPacket 11 = .ok (.getfield 23, 3) := by decide +kernel
theorem dX10_readPacket_14 : decode cX10_readPacket 14 = .ok (.iconst 2, 1) := by decide +kernel
theorem dX10_readPacket_15 : decode cX10_readPacket 15 = .ok (.iconst 0, 1) := by decide +kernel
theorem dX10_readPacket_16 : decode cX10_readPacket 16 = .ok (.iastore, 1) := by decide +kernel
theorem dX10_readPacket_17 : decode cX10_readPacket 17 = .ok (.aload_n 0, 1) := by decide +kernel
theorem dX10_readPacket_18 : decode cX10_readPacket 18 = .ok (.getfield 23, 3) := by decide +kernel
theorem dX10_readPacket_21 : decode cX10_readPacket 21 = .ok (.iconst 0, 1) := by decide +kernel
theorem dX10_readPacket_22 : decode cX10_readPacket 22 = .ok (.aload_n 0, 1) := by decide +kernel
theorem dX10_readPacket_23 : decode cX10_readPacket 23 = .ok (.bipush 65, 2) := by decide +kernel
theorem dX10_readPacket_25 : decode cX10_readPacket 25 = .ok (.iconst 3, 1) := by decide +kernel
theorem dX10_readPacket_26 : decode cX10_readPacket 26 = .ok (.invokevirtual 63, 3) := by decide +kernel
theorem dX10_readPacket_29 : decode cX10_readPacket 29 = .ok (.iastore, 1) := by decide +kernel
theorem dX10_readPacket_30 : decode cX10_readPacket 30 = .ok (.aload_n 0, 1) := by decide +kernel
theorem dX10_readPacket_31 : decode cX10_readPacket 31 = .ok (.bipush 62, 2) := by decide +kernel
theorem dX10_readPacket_33 : decode cX10_readPacket 33 = .ok (.invokevirtual 67, 3) := by decide +kernel
theorem dX10_readPacket_36 : decode cX10_readPacket 36 = .ok (.aload_n 0, 1) := by decide +kernel
theorem dX10_readPacket_37 : decode cX10_readPacket 37 = .ok (.getfield 56, 3) := by decide +kernel
theorem dX10_readPacket_40 : decode cX10_readPacket 40 = .ok (.ifCond .ne 16, 3) := by decide +kernel
theorem dX10_readPacket_43 : decode cX10_readPacket 43 = .ok (.aload_n 0, 1) := by decide +kernel
theorem dX10_readPacket_44 : decode cX10_readPacket 44 = .ok (.bipush 65, 2) := by decide +kernel
theorem dX10_readPacket_46 : decode cX10_readPacket 46 = .ok (.invokevirtual 52, 3) := by decide +kernel
theorem dX10_readPacket_49 : decode cX10_readPacket 49 = .ok (.ifCond .eq 7, 3) := by decide +kernel
theorem dX10_readPacket_52 : decode cX10_readPacket 52 = .ok (.iconst 1, 1) := by decide +kernel
theorem dX10_readPacket_53 : decode cX10_readPacket 53 = .ok (.goto 4, 3) := by decide +kernel
theorem dX10_readPacket_56 : decode cX10_readPacket 56 = .ok (.iconst 0, 1) := by decide +kernel
theorem dX10_readPacket_57 : decode cX10_readPacket 57 = .ok (.istore_n 1, 1) := by decide +kernel
theorem dX10_readPacket_58 : decode cX10_readPacket 58 = .ok (.iload_n 1, 1) := by decide +kernel
theorem dX10_readPacket_59 : decode cX10_readPacket 59 = .ok (.ifCond .eq 60, 3) := by decide +kernel
theorem dX10_readPacket_62 : decode cX10_readPacket 62 = .ok (.aload_n 0, 1) := by decide +kernel
theorem dX10_readPacket_63 : decode cX10_readPacket 63 = .ok (.invokevirtual 71, 3) := by decide +kernel
theorem dX10_readPacket_66 : decode cX10_readPacket 66 = .ok (.aload_n 0, 1) := by decide +kernel
theorem dX10_readPacket_67 : decode cX10_readPacket 67 = .ok (.getfield 56, 3) := by decide +kernel
theorem dX10_readPacket_70 : decode cX10_readPacket 70 = .ok (.ifCond .ne 26, 3) := by decide +kernel
theorem dX10_readPacket_73 : decode cX10_readPacket 73 = .ok (.aload_n 0, 1) := by decide +kernel
theorem dX10_readPacket_74 : decode cX10_readPacket 74 = .ok (.getfield 23, 3) := by decide +kernel
theorem dX10_readPacket_77 : decode cX10_readPacket 77 = .ok (.iconst 2, 1) := by decide +kernel
theorem dX10_readPacket_78 : decode cX10_readPacket 78 = .ok (.iaload, 1) := by decide +kernel
theorem dX10_readPacket_79 : decode cX10_readPacket 79 = .ok (.iconst 5, 1) := by decide +kernel
theorem dX10_readPacket_80 : decode cX10_readPacket 80 = .ok (.if_icmp .ge 16, 3) := by decide +kernel
theorem dX10_readPacket_83 : decode cX10_readPacket 83 = .ok (.aload_n 0, 1) := by decide +kernel
theorem dX10_readPacket_84 : decode cX10_readPacket 84 = .ok (.bipush 44, 2) := by decide +kernel
theorem dX10_readPacket_86 : decode cX10_readPacket 86 = .ok (.invokevirtual 60, 3) := by decide +kernel
theorem dX10_readPacket_89 : decode cX10_readPacket 89 = .ok (.ifCond .eq 7, 3) := by decide +kernel
theorem dX10_readPacket_92 : decode cX10_readPacket 92 = .ok (.iconst 1, 1) := by decide +kernel
theorem dX10_readPacket_93 : decode cX10_readPacket 93 = .ok (.goto 4, 3) := by decide +kernel
theorem dX10_readPacket_96 : decode cX10_readPacket 96 = .ok (.iconst 0, 1) := by decide +kernel
theorem dX10_readPacket_97 : decode cX10_readPacket 97 = .ok (.istore_n 1, 1) := by decide +kernel
theorem dX10_readPacket_98 : decode cX10_readPacket 98 = .ok (.aload_n 0, 1) := by decide +kernel
theorem dX10_readPacket_99 : decode cX10_readPacket 99 = .ok (.dup, 1) := by decide +kernel
theorem dX10_readPacket_100 : decode cX10_readPacket 100 = .ok (.getfield 49, 3) := by decide +kernel
theorem dX10_readPacket_103 : decode cX10_readPacket 103 = .ok (.iload_n 1, 1) := by decide +kernel
theorem dX10_readPacket_104 : decode cX10_readPacket 104 = .ok (.ifCond .eq 7, 3) := by decide +kernel
theorem dX10_readPacket_107 : decode cX10_readPacket 107 = .ok (.iconst 1, 1) := by decide +kernel
theorem dX10_readPacket_108 : decode cX10_readPacket 108 = .ok (.goto 4, 3) := by decide +kernel
theorem dX10_readPacket_111 : decode cX10_readPacket 111 = .ok (.iconst 0, 1) := by decide +kernel
theorem dX10_readPacket_112 : decode cX10_readPacket 112 = .ok (.iadd, 1) := by decide +kernel
theorem dX10_readPacket_113 : decode cX10_readPacket 113 = .ok (.putfield 49, 3) := by decide +kernel
theorem dX10_readPacket_116 : decode cX10_readPacket 116 = .ok (.goto (-58), 3) := by decide +kernel
theorem dX10_readPacket_119 : decode cX10_readPacket 119 = .ok (.aload_n 0, 1) := by decide +kernel
theorem dX10_readPacket_120 : decode cX10_readPacket 120 = .ok (.bipush 58, 2) := by decide +kernel
theorem dX10_readPacket_122 : decode cX10_readPacket 122 = .ok (.invokevirtual 67, 3) := by decide +kernel
theorem dX10_readPacket_125 : decode cX10_readPacket 125 = .ok (.aload_n 0, 1) := by decide +kernel
theorem dX10_readPacket_126 : decode cX10_readPacket 126 = .ok (.getfield 56, 3) := by decide +kernel
theorem dX10_readPacket_129 : decode cX10_readPacket 129 = .ok (.ifCond .ne 16, 3) := by decide +kernel
theorem dX10_readPacket_132 : decode cX10_readPacket 132 = .ok (.aload_n 0, 1) := by decide +kernel
theorem dX10_readPacket_133 : decode cX10_readPacket 133 = .ok (.getfield 23, 3) := by decide +kernel
theorem dX10_readPacket_136 : decode cX10_readPacket 136 = .ok (.iconst 1, 1) := by decide +kernel
theorem dX10_readPacket_137 : decode cX10_readPacket 137 = .ok (.aload_n 0, 1) := by decide +kernel
theorem dX10_readPacket_138 : decode cX10_readPacket 138 = .ok (.bipush 97, 2) := by decide +kernel
theorem dX10_readPacket_140 : decode cX10_readPacket 140 = .ok (.iconst 4, 1) := by decide +kernel
theorem dX10_readPacket_141 : decode cX10_readPacket 141 = .ok (.invokevirtual 63, 3) := by decide +kernel
theorem dX10_readPacket_144 : decode cX10_readPacket 144 = .ok (.iastore, 1) := by decide +kernel
theorem dX10_readPacket_145 : decode cX10_readPacket 145 = .ok (.aload_n 0, 1) := by decide +kernel
theorem dX10_readPacket_146 : decode cX10_readPacket 146 = .ok (.getfield 56, 3) := by decide +kernel
theorem dX10_readPacket_149 : decode cX10_readPacket 149 = .ok (.ifCond .ne 14, 3) := by decide +kernel
theorem dX10_readPacket_152 : decode cX10_readPacket 152 = .ok (.aload_n 0, 1) := by decide +kernel
theorem dX10_readPacket_153 : decode cX10_readPacket 153 = .ok (.getfield 49, 3) := by decide +kernel
theorem dX10_readPacket_156 : decode cX10_readPacket 156 = .ok (.aload_n 0, 1) := by decide +kernel
theorem dX10_readPacket_157 : decode cX10_readPacket 157 = .ok (.getfield 45, 3) := by decide +kernel
theorem dX10_readPacket_160 : decode cX10_readPacket 160 = .ok (.if_icmp .ge 10, 3) := by decide +kernel
theorem dX10_readPacket_163 : decode cX10_readPacket 163 = .ok (.aload_n 0, 1) := by decide +kernel
theorem dX10_readPacket_164 : decode cX10_readPacket 164 = .ok (.getfield 49, 3) := by decide +kernel
theorem dX10_readPacket_167 : decode cX10_readPacket 167 = .ok (.goto 5, 3) := by decide +kernel
theorem dX10_readPacket_170 : decode cX10_readPacket 170 = .ok (.bipush (-6), 2) := by decide +kernel
theorem dX10_readPacket_172 : decode cX10_readPacket 172 = .ok (.ireturn, 1) := by decide +kernel
theorem dX10_fault_0 : decode cX10_fault 0 = .ok (.aload_n 0, 1) := by decide +kernel
theorem dX10_fault_1 : decode cX10_fault 1 = .ok (.invokevirtual 74, 3) := by decide +kernel
theorem dX10_fault_4 : decode cX10_fault 4 = .ok (.ireturn, 1) := by decide +kernel
theorem dX10_readName_0 : decode cX10_readName 0 = .ok (.aload_n 0, 1) := by decide +kernel
theorem dX10_readName_1 : decode cX10_readName 1 = .ok (.iconst 0, 1) := by decide +kernel
theorem dX10_readName_2 : decode cX10_readName 2 = .ok (.putfield 49, 3) := by decide +kernel
theorem dX10_readName_5 : decode cX10_readName 5 = .ok (.aload_n 0, 1) := by decide +kernel
theorem dX10_readName_6 : decode cX10_readName 6 = .ok (.iconst 0, 1) := by decide +kernel
theorem dX10_readName_7 : decode cX10_readName 7 = .ok (.putfield 56, 3) := by decide +kernel
theorem dX10_readName_10 : decode cX10_readName 10 = .ok (.aload_n 0, 1) := by decide +kernel
theorem dX10_readName_11 : decode cX10_readName 11 = .ok (.bipush 65, 2) := by decide +kernel
theorem dX10_readName_13 : decode cX10_readName 13 = .ok (.iconst 3, 1) := by decide +kernel
theorem dX10_readName_14 : decode cX10_readName 14 = .ok (.invokevirtual 63, 3) := by decide +kernel
theorem dX10_readName_17 : decode cX10_readName 17 = .ok (.istore_n 1, 1) := by decide +kernel
theorem dX10_readName_18 : decode cX10_readName 18 = .ok (.aload_n 0, 1) := by decide +kernel
theorem dX10_readName_19 : decode cX10_readName 19 = .ok (.getfield 56, 3) := by decide +kernel
theorem dX10_readName_22 : decode cX10_readName 22 = .ok (.ifCond .ne 14, 3) := by decide +kernel
theorem dX10_readName_25 : decode cX10_readName 25 = .ok (.aload_n 0, 1) := by decide +kernel
theorem dX10_readName_26 : decode cX10_readName 26 = .ok (.getfield 49, 3) := by decide +kernel
theorem dX10_readName_29 : decode cX10_readName 29 = .ok (.aload_n 0, 1) := by decide +kernel
theorem dX10_readName_30 : decode cX10_readName 30 = .ok (.getfield 45, 3) := by decide +kernel
theorem dX10_readName_33 : decode cX10_readName 33 = .ok (.if_icmp .ge 8, 3) := by decide +kernel
theorem dX10_readName_36 : decode cX10_readName 36 = .ok (.bipush (-6), 2) := by decide +kernel
theorem dX10_readName_38 : decode cX10_readName 38 = .ok (.goto 4, 3) := by decide +kernel
theorem dX10_readName_41 : decode cX10_readName 41 = .ok (.iload_n 1, 1) := by decide +kernel
theorem dX10_readName_42 : decode cX10_readName 42 = .ok (.ireturn, 1) := by decide +kernel
theorem dX10_name_0 : decode cX10_name 0 = .ok (.iload_n 1, 1) := by decide +kernel
theorem dX10_name_1 : decode cX10_name 1 = .ok (.invokestatic 78, 3) := by decide +kernel
theorem dX10_name_4 : decode cX10_name 4 = .ok (.ifCond .ne 5, 3) := by decide +kernel
theorem dX10_name_7 : decode cX10_name 7 = .ok (.iconst (-1), 1) := by decide +kernel
theorem dX10_name_8 : decode cX10_name 8 = .ok (.ireturn, 1) := by decide +kernel
theorem dX10_name_9 : decode cX10_name 9 = .ok (.iload_n 2, 1) := by decide +kernel
theorem dX10_name_10 : decode cX10_name 10 = .ok (.iconst 0, 1) := by decide +kernel
theorem dX10_name_11 : decode cX10_name 11 = .ok (.iconst 2, 1) := by decide +kernel
theorem dX10_name_12 : decode cX10_name 12 = .ok (.invokestatic 41, 3) := by decide +kernel
theorem dX10_name_15 : decode cX10_name 15 = .ok (.ifCond .ne 6, 3) := by decide +kernel
theorem dX10_name_18 : decode cX10_name 18 = .ok (.bipush (-2), 2) := by decide +kernel
theorem dX10_name_20 : decode cX10_name 20 = .ok (.ireturn, 1) := by decide +kernel
theorem dX10_name_21 : decode cX10_name 21 = .ok (.aload_n 0, 1) := by decide +kernel
theorem dX10_name_22 : decode cX10_name 22 = .ok (.invokevirtual 81, 3) := by decide +kernel
theorem dX10_name_25 : decode cX10_name 25 = .ok (.istore_n 3, 1) := by decide +kernel
theorem dX10_name_26 : decode cX10_name 26 = .ok (.iload_n 3, 1) := by decide +kernel
theorem dX10_name_27 : decode cX10_name 27 = .ok (.ifCond .ge 6, 3) := by decide +kernel
theorem dX10_name_30 : decode cX10_name 30 = .ok (.bipush (-7), 2) := by decide +kernel
theorem dX10_name_32 : decode cX10_name 32 = .ok (.ireturn, 1) := by decide +kernel
theorem dX10_name_33 : decode cX10_name 33 = .ok (.iload_n 2, 1) := by decide +kernel
theorem dX10_name_34 : decode cX10_name 34 = .ok (.ifCond .ne 12, 3) := by decide +kernel
theorem dX10_name_37 : decode cX10_name 37 = .ok (.aload_n 0, 1) := by decide +kernel
theorem dX10_name_38 : decode cX10_name 38 = .ok (.iload_n 1, 1) := by decide +kernel
theorem dX10_name_39 : decode cX10_name 39 = .ok (.iload_n 3, 1) := by decide +kernel
theorem dX10_name_40 : decode cX10_name 40 = .ok (.invokevirtual 84, 3) := by decide +kernel
theorem dX10_name_43 : decode cX10_name 43 = .ok (.goto 33, 3) := by decide +kernel
theorem dX10_name_46 : decode cX10_name 46 = .ok (.aload_n 0, 1) := by decide +kernel
theorem dX10_name_47 : decode cX10_name 47 = .ok (.iload_n 1, 1) := by decide +kernel
theorem dX10_name_48 : decode cX10_name 48 = .ok (.iload_n 3, 1) := by decide +kernel
theorem dX10_name_49 : decode cX10_name 49 = .ok (.iload_n 2, 1) := by decide +kernel
theorem dX10_name_50 : decode cX10_name 50 = .ok (.iconst 1, 1) := by decide +kernel
theorem dX10_name_51 : decode cX10_name 51 = .ok (.if_icmp .ne 8, 3) := by decide +kernel
theorem dX10_name_54 : decode cX10_name 54 = .ok (.bipush 6, 2) := by decide +kernel
theorem dX10_name_56 : decode cX10_name 56 = .ok (.goto 5, 3) := by decide +kernel
theorem dX10_name_59 : decode cX10_name 59 = .ok (.bipush 24, 2) := by decide +kernel
theorem dX10_name_61 : decode cX10_name 61 = .ok (.iload_n 2, 1) := by decide +kernel
theorem dX10_name_62 : decode cX10_name 62 = .ok (.iconst 1, 1) := by decide +kernel
theorem dX10_name_63 : decode cX10_name 63 = .ok (.if_icmp .ne 8, 3) := by decide +kernel
theorem dX10_name_66 : decode cX10_name 66 = .ok (.bipush 18, 2) := by decide +kernel
theorem dX10_name_68 : decode cX10_name 68 = .ok (.goto 5, 3) := by decide +kernel
theorem dX10_name_71 : decode cX10_name 71 = .ok (.bipush 36, 2) := by decide +kernel
theorem dX10_name_73 : decode cX10_name 73 = .ok (.invokevirtual 87, 3) := by decide +kernel
theorem dX10_name_76 : decode cX10_name 76 = .ok (.ireturn, 1) := by decide +kernel
theorem dX10_call_0 : decode cX10_call 0 = .ok (.iconst 0, 1) := by decide +kernel
theorem dX10_call_1 : decode cX10_call 1 = .ok (.istore_n 3, 1) := by decide +kernel
theorem dX10_call_2 : decode cX10_call 2 = .ok (.iload_n 3, 1) := by decide +kernel
theorem dX10_call_3 : decode cX10_call 3 = .ok (.bipush 6, 2) := by decide +kernel
theorem dX10_call_5 : decode cX10_call 5 = .ok (.if_icmp .ge 29, 3) := by decide +kernel
theorem dX10_call_8 : decode cX10_call 8 = .ok (.iload_n 3, 1) := by decide +kernel
theorem dX10_call_9 : decode cX10_call 9 = .ok (.iload_n 1, 1) := by decide +kernel
theorem dX10_call_10 : decode cX10_call 10 = .ok (.if_icmp .eq 18, 3) := by decide +kernel
theorem dX10_call_13 : decode cX10_call 13 = .ok (.aload_n 0, 1) := by decide +kernel
theorem dX10_call_14 : decode cX10_call 14 = .ok (.getfield 7, 3) := by decide +kernel
theorem dX10_call_17 : decode cX10_call 17 = .ok (.iconst 0, 1) := by decide +kernel
theorem dX10_call_18 : decode cX10_call 18 = .ok (.iload_n 3, 1) := by decide +kernel
theorem dX10_call_19 : decode cX10_call 19 = .ok (.iadd, 1) := by decide +kernel
theorem dX10_call_20 : decode cX10_call 20 = .ok (.iaload, 1) := by decide +kernel
theorem dX10_call_21 : decode cX10_call 21 = .ok (.iload_n 2, 1) := by decide +kernel
theorem dX10_call_22 : decode cX10_call 22 = .ok (.if_icmp .ne 6, 3) := by decide +kernel
theorem dX10_call_25 : decode cX10_call 25 = .ok (.bipush (-3), 2) := by decide +kernel
theorem dX10_call_27 : decode cX10_call 27 = .ok (.ireturn, 1) := by decide +kernel
theorem dX10_call_28 : decode cX10_call 28 = .ok (.iinc 3 1, 3) := by decide +kernel
theorem dX10_call_31 : decode cX10_call 31 = .ok (.goto (-29), 3) := by decide +kernel
theorem dX10_call_34 : decode cX10_call 34 = .ok (.aload_n 0, 1) := by decide +kernel
theorem dX10_call_35 : decode cX10_call 35 = .ok (.getfield 7, 3) := by decide +kernel
theorem dX10_call_38 : decode cX10_call 38 = .ok (.iconst 0, 1) := by decide +kernel
theorem dX10_call_39 : decode cX10_call 39 = .ok (.iload_n 1, 1) := by decide +kernel
theorem dX10_call_40 : decode cX10_call 40 = .ok (.iadd, 1) := by decide +kernel
theorem dX10_call_41 : decode cX10_call 41 = .ok (.iload_n 2, 1) := by decide +kernel
theorem dX10_call_42 : decode cX10_call 42 = .ok (.iastore, 1) := by decide +kernel
theorem dX10_call_43 : decode cX10_call 43 = .ok (.aload_n 0, 1) := by decide +kernel
theorem dX10_call_44 : decode cX10_call 44 = .ok (.iconst 0, 1) := by decide +kernel
theorem dX10_call_45 : decode cX10_call 45 = .ok (.putfield 45, 3) := by decide +kernel
theorem dX10_call_48 : decode cX10_call 48 = .ok (.iconst 1, 1) := by decide +kernel
theorem dX10_call_49 : decode cX10_call 49 = .ok (.ireturn, 1) := by decide +kernel
theorem dX10_more_0 : decode cX10_more 0 = .ok (.aload_n 0, 1) := by decide +kernel
theorem dX10_more_1 : decode cX10_more 1 = .ok (.getfield 7, 3) := by decide +kernel
theorem dX10_more_4 : decode cX10_more 4 = .ok (.iload 4, 2) := by decide +kernel
theorem dX10_more_6 : decode cX10_more 6 = .ok (.iload_n 1, 1) := by decide +kernel
theorem dX10_more_7 : decode cX10_more 7 = .ok (.iadd, 1) := by decide +kernel
theorem dX10_more_8 : decode cX10_more 8 = .ok (.iaload, 1) := by decide +kernel
theorem dX10_more_9 : decode cX10_more 9 = .ok (.istore 5, 2) := by decide +kernel
theorem dX10_more_11 : decode cX10_more 11 = .ok (.iload 5, 2) := by decide +kernel
theorem dX10_more_13 : decode cX10_more 13 = .ok (.iconst 2, 1) := by decide +kernel
theorem dX10_more_14 : decode cX10_more 14 = .ok (.if_icmp .ne 6, 3) := by decide +kernel
theorem dX10_more_17 : decode cX10_more 17 = .ok (.bipush (-4), 2) := by decide +kernel
theorem dX10_more_19 : decode cX10_more 19 = .ok (.ireturn, 1) := by decide +kernel
theorem dX10_more_20 : decode cX10_more 20 = .ok (.aload_n 0, 1) := by decide +kernel
theorem dX10_more_21 : decode cX10_more 21 = .ok (.getfield 7, 3) := by decide +kernel
theorem dX10_more_24 : decode cX10_more 24 = .ok (.iload_n 3, 1) := by decide +kernel
theorem dX10_more_25 : decode cX10_more 25 = .ok (.iconst 2, 1) := by decide +kernel
theorem dX10_more_26 : decode cX10_more 26 = .ok (.iload_n 1, 1) := by decide +kernel
theorem dX10_more_27 : decode cX10_more 27 = .ok (.imul, 1) := by decide +kernel
theorem dX10_more_28 : decode cX10_more 28 = .ok (.iadd, 1) := by decide +kernel
theorem dX10_more_29 : decode cX10_more 29 = .ok (.iload 5, 2) := by decide +kernel
theorem dX10_more_31 : decode cX10_more 31 = .ok (.iadd, 1) := by decide +kernel
theorem dX10_more_32 : decode cX10_more 32 = .ok (.iload_n 2, 1) := by decide +kernel
theorem dX10_more_33 : decode cX10_more 33 = .ok (.iastore, 1) := by decide +kernel
theorem dX10_more_34 : decode cX10_more 34 = .ok (.aload_n 0, 1) := by decide +kernel
theorem dX10_more_35 : decode cX10_more 35 = .ok (.getfield 7, 3) := by decide +kernel
theorem dX10_more_38 : decode cX10_more 38 = .ok (.iload 4, 2) := by decide +kernel
theorem dX10_more_40 : decode cX10_more 40 = .ok (.iload_n 1, 1) := by decide +kernel
theorem dX10_more_41 : decode cX10_more 41 = .ok (.iadd, 1) := by decide +kernel
theorem dX10_more_42 : decode cX10_more 42 = .ok (.dup2, 1) := by decide +kernel
theorem dX10_more_43 : decode cX10_more 43 = .ok (.iaload, 1) := by decide +kernel
theorem dX10_more_44 : decode cX10_more 44 = .ok (.iconst 1, 1) := by decide +kernel
theorem dX10_more_45 : decode cX10_more 45 = .ok (.iadd, 1) := by decide +kernel
theorem dX10_more_46 : decode cX10_more 46 = .ok (.iastore, 1) := by decide +kernel
theorem dX10_more_47 : decode cX10_more 47 = .ok (.aload_n 0, 1) := by decide +kernel
theorem dX10_more_48 : decode cX10_more 48 = .ok (.iconst 0, 1) := by decide +kernel
theorem dX10_more_49 : decode cX10_more 49 = .ok (.putfield 45, 3) := by decide +kernel
theorem dX10_more_52 : decode cX10_more 52 = .ok (.iload 5, 2) := by decide +kernel
theorem dX10_more_54 : decode cX10_more 54 = .ok (.iconst 1, 1) := by decide +kernel
theorem dX10_more_55 : decode cX10_more 55 = .ok (.iadd, 1) := by decide +kernel
theorem dX10_more_56 : decode cX10_more 56 = .ok (.ireturn, 1) := by decide +kernel
theorem dX10_forget_0 : decode cX10_forget 0 = .ok (.iload_n 1, 1) := by decide +kernel
theorem dX10_forget_1 : decode cX10_forget 1 = .ok (.invokestatic 78, 3) := by decide +kernel
theorem dX10_forget_4 : decode cX10_forget 4 = .ok (.ifCond .ne 5, 3) := by decide +kernel
theorem dX10_forget_7 : decode cX10_forget 7 = .ok (.iconst (-1), 1) := by decide +kernel
theorem dX10_forget_8 : decode cX10_forget 8 = .ok (.ireturn, 1) := by decide +kernel
theorem dX10_forget_9 : decode cX10_forget 9 = .ok (.iload_n 2, 1) := by decide +kernel
theorem dX10_forget_10 : decode cX10_forget 10 = .ok (.iconst 1, 1) := by decide +kernel
theorem dX10_forget_11 : decode cX10_forget 11 = .ok (.iconst 2, 1) := by decide +kernel
theorem dX10_forget_12 : decode cX10_forget 12 = .ok (.invokestatic 41, 3) := by decide +kernel
theorem dX10_forget_15 : decode cX10_forget 15 = .ok (.ifCond .ne 6, 3) := by decide +kernel
theorem dX10_forget_18 : decode cX10_forget 18 = .ok (.bipush (-2), 2) := by decide +kernel
theorem dX10_forget_20 : decode cX10_forget 20 = .ok (.ireturn, 1) := by decide +kernel
theorem dX10_forget_21 : decode cX10_forget 21 = .ok (.iload_n 2, 1) := by decide +kernel
theorem dX10_forget_22 : decode cX10_forget 22 = .ok (.iconst 1, 1) := by decide +kernel
theorem dX10_forget_23 : decode cX10_forget 23 = .ok (.if_icmp .ne 8, 3) := by decide +kernel
theorem dX10_forget_26 : decode cX10_forget 26 = .ok (.bipush 18, 2) := by decide +kernel
theorem dX10_forget_28 : decode cX10_forget 28 = .ok (.goto 5, 3) := by decide +kernel
theorem dX10_forget_31 : decode cX10_forget 31 = .ok (.bipush 36, 2) := by decide +kernel
theorem dX10_forget_33 : decode cX10_forget 33 = .ok (.istore_n 3, 1) := by decide +kernel
theorem dX10_forget_34 : decode cX10_forget 34 = .ok (.aload_n 0, 1) := by decide +kernel
theorem dX10_forget_35 : decode cX10_forget 35 = .ok (.getfield 7, 3) := by decide +kernel
theorem dX10_forget_38 : decode cX10_forget 38 = .ok (.iload_n 3, 1) := by decide +kernel
theorem dX10_forget_39 : decode cX10_forget 39 = .ok (.iload_n 1, 1) := by decide +kernel
theorem dX10_forget_40 : decode cX10_forget 40 = .ok (.iadd, 1) := by decide +kernel
theorem dX10_forget_41 : decode cX10_forget 41 = .ok (.iaload, 1) := by decide +kernel
theorem dX10_forget_42 : decode cX10_forget 42 = .ok (.istore 4, 2) := by decide +kernel
theorem dX10_forget_44 : decode cX10_forget 44 = .ok (.aload_n 0, 1) := by decide +kernel
theorem dX10_forget_45 : decode cX10_forget 45 = .ok (.getfield 7, 3) := by decide +kernel
theorem dX10_forget_48 : decode cX10_forget 48 = .ok (.iload_n 3, 1) := by decide +kernel
theorem dX10_forget_49 : decode cX10_forget 49 = .ok (.iload_n 1, 1) := by decide +kernel
theorem dX10_forget_50 : decode cX10_forget 50 = .ok (.iadd, 1) := by decide +kernel
theorem dX10_forget_51 : decode cX10_forget 51 = .ok (.iconst 0, 1) := by decide +kernel
theorem dX10_forget_52 : decode cX10_forget 52 = .ok (.iastore, 1) := by decide +kernel
theorem dX10_forget_53 : decode cX10_forget 53 = .ok (.iload 4, 2) := by decide +kernel
theorem dX10_forget_55 : decode cX10_forget 55 = .ok (.ireturn, 1) := by decide +kernel
theorem dX10_set_0 : decode cX10_set 0 = .ok (.iload_n 1, 1) := by decide +kernel
theorem dX10_set_1 : decode cX10_set 1 = .ok (.invokestatic 78, 3) := by decide +kernel
theorem dX10_set_4 : decode cX10_set 4 = .ok (.ifCond .ne 5, 3) := by decide +kernel
theorem dX10_set_7 : decode cX10_set 7 = .ok (.iconst (-1), 1) := by decide +kernel
theorem dX10_set_8 : decode cX10_set 8 = .ok (.ireturn, 1) := by decide +kernel
theorem dX10_set_9 : decode cX10_set 9 = .ok (.iload_n 2, 1) := by decide +kernel
theorem dX10_set_10 : decode cX10_set 10 = .ok (.iconst 0, 1) := by decide +kernel
theorem dX10_set_11 : decode cX10_set 11 = .ok (.iconst 2, 1) := by decide +kernel
theorem dX10_set_12 : decode cX10_set 12 = .ok (.invokestatic 41, 3) := by decide +kernel
theorem dX10_set_15 : decode cX10_set 15 = .ok (.ifCond .eq 40, 3) := by decide +kernel
theorem dX10_set_18 : decode cX10_set 18 = .ok (.iload_n 3, 1) := by decide +kernel
theorem dX10_set_19 : decode cX10_set 19 = .ok (.iload_n 2, 1) := by decide +kernel
theorem dX10_set_20 : decode cX10_set 20 = .ok (.iconst 2, 1) := by decide +kernel
theorem dX10_set_21 : decode cX10_set 21 = .ok (.if_icmp .ne 7, 3) := by decide +kernel
theorem dX10_set_24 : decode cX10_set 24 = .ok (.iconst 0, 1) := by decide +kernel
theorem dX10_set_25 : decode cX10_set 25 = .ok (.goto 4, 3) := by decide +kernel
theorem dX10_set_28 : decode cX10_set 28 = .ok (.iconst 1, 1) := by decide +kernel
theorem dX10_set_29 : decode cX10_set 29 = .ok (.iload_n 2, 1) := by decide +kernel
theorem dX10_set_30 : decode cX10_set 30 = .ok (.ifCond .ne 8, 3) := by decide +kernel
theorem dX10_set_33 : decode cX10_set 33 = .ok (.bipush 7, 2) := by decide +kernel
theorem dX10_set_35 : decode cX10_set 35 = .ok (.goto 14, 3) := by decide +kernel
theorem dX10_set_38 : decode cX10_set 38 = .ok (.iload_n 2, 1) := by decide +kernel
theorem dX10_set_39 : decode cX10_set 39 = .ok (.iconst 1, 1) := by decide +kernel
theorem dX10_set_40 : decode cX10_set 40 = .ok (.if_icmp .ne 7, 3) := by decide +kernel
theorem dX10_set_43 : decode cX10_set 43 = .ok (.iconst 3, 1) := by decide +kernel
theorem dX10_set_44 : decode cX10_set 44 = .ok (.goto 5, 3) := by decide +kernel
theorem dX10_set_47 : decode cX10_set 47 = .ok (.bipush 60, 2) := by decide +kernel
theorem dX10_set_49 : decode cX10_set 49 = .ok (.invokestatic 41, 3) := by decide +kernel
theorem dX10_set_52 : decode cX10_set 52 = .ok (.ifCond .ne 6, 3) := by decide +kernel
theorem dX10_set_55 : decode cX10_set 55 = .ok (.bipush (-2), 2) := by decide +kernel
theorem dX10_set_57 : decode cX10_set 57 = .ok (.ireturn, 1) := by decide +kernel
theorem dX10_set_58 : decode cX10_set 58 = .ok (.bipush 42, 2) := by decide +kernel
theorem dX10_set_60 : decode cX10_set 60 = .ok (.bipush 6, 2) := by decide +kernel
theorem dX10_set_62 : decode cX10_set 62 = .ok (.iload_n 2, 1) := by decide +kernel
theorem dX10_set_63 : decode cX10_set 63 = .ok (.imul, 1) := by decide +kernel
theorem dX10_set_64 : decode cX10_set 64 = .ok (.iadd, 1) := by decide +kernel
theorem dX10_set_65 : decode cX10_set 65 = .ok (.iload_n 1, 1) := by decide +kernel
theorem dX10_set_66 : decode cX10_set 66 = .ok (.iadd, 1) := by decide +kernel
theorem dX10_set_67 : decode cX10_set 67 = .ok (.istore 4, 2) := by decide +kernel
theorem dX10_set_69 : decode cX10_set 69 = .ok (.aload_n 0, 1) := by decide +kernel
theorem dX10_set_70 : decode cX10_set 70 = .ok (.getfield 7, 3) := by decide +kernel
theorem dX10_set_73 : decode cX10_set 73 = .ok (.iload 4, 2) := by decide +kernel
theorem dX10_set_75 : decode cX10_set 75 = .ok (.iaload, 1) := by decide +kernel
theorem dX10_set_76 : decode cX10_set 76 = .ok (.istore 5, 2) := by decide +kernel
theorem dX10_set_78 : decode cX10_set 78 = .ok (.aload_n 0, 1) := by decide +kernel
theorem dX10_set_79 : decode cX10_set 79 = .ok (.getfield 7, 3) := by decide +kernel
theorem dX10_set_82 : decode cX10_set 82 = .ok (.iload 4, 2) := by decide +kernel
theorem dX10_set_84 : decode cX10_set 84 = .ok (.iload_n 3, 1) := by decide +kernel
theorem dX10_set_85 : decode cX10_set 85 = .ok (.iastore, 1) := by decide +kernel
theorem dX10_set_86 : decode cX10_set 86 = .ok (.iload 5, 2) := by decide +kernel
theorem dX10_set_88 : decode cX10_set 88 = .ok (.ireturn, 1) := by decide +kernel
theorem dX10_areNear_0 : decode cX10_areNear 0 = .ok (.aload_n 0, 1) := by decide +kernel
theorem dX10_areNear_1 : decode cX10_areNear 1 = .ok (.getfield 7, 3) := by decide +kernel
theorem dX10_areNear_4 : decode cX10_areNear 4 = .ok (.bipush 60, 2) := by decide +kernel
theorem dX10_areNear_6 : decode cX10_areNear 6 = .ok (.bipush 6, 2) := by decide +kernel
theorem dX10_areNear_8 : decode cX10_areNear 8 = .ok (.iload_n 1, 1) := by decide +kernel
theorem dX10_areNear_9 : decode cX10_areNear 9 = .ok (.imul, 1) := by decide +kernel
theorem dX10_areNear_10 : decode cX10_areNear 10 = .ok (.iadd, 1) := by decide +kernel
theorem dX10_areNear_11 : decode cX10_areNear 11 = .ok (.iload_n 2, 1) := by decide +kernel
theorem dX10_areNear_12 : decode cX10_areNear 12 = .ok (.iadd, 1) := by decide +kernel
theorem dX10_areNear_13 : decode cX10_areNear 13 = .ok (.iaload, 1) := by decide +kernel
theorem dX10_areNear_14 : decode cX10_areNear 14 = .ok (.iconst 1, 1) := by decide +kernel
theorem dX10_areNear_15 : decode cX10_areNear 15 = .ok (.if_icmp .ne 7, 3) := by decide +kernel
theorem dX10_areNear_18 : decode cX10_areNear 18 = .ok (.iconst 1, 1) := by decide +kernel
theorem dX10_areNear_19 : decode cX10_areNear 19 = .ok (.goto 4, 3) := by decide +kernel
theorem dX10_areNear_22 : decode cX10_areNear 22 = .ok (.iconst 0, 1) := by decide +kernel
theorem dX10_areNear_23 : decode cX10_areNear 23 = .ok (.ireturn, 1) := by decide +kernel
theorem dX10_near_0 : decode cX10_near 0 = .ok (.iload_n 1, 1) := by decide +kernel
theorem dX10_near_1 : decode cX10_near 1 = .ok (.invokestatic 78, 3) := by decide +kernel
theorem dX10_near_4 : decode cX10_near 4 = .ok (.ifCond .eq 10, 3) := by decide +kernel
theorem dX10_near_7 : decode cX10_near 7 = .ok (.iload_n 2, 1) := by decide +kernel
theorem dX10_near_8 : decode cX10_near 8 = .ok (.invokestatic 78, 3) := by decide +kernel
theorem dX10_near_11 : decode cX10_near 11 = .ok (.ifCond .ne 5, 3) := by decide +kernel
theorem dX10_near_14 : decode cX10_near 14 = .ok (.iconst (-1), 1) := by decide +kernel
theorem dX10_near_15 : decode cX10_near 15 = .ok (.ireturn, 1) := by decide +kernel
theorem dX10_near_16 : decode cX10_near 16 = .ok (.iload_n 3, 1) := by decide +kernel
theorem dX10_near_17 : decode cX10_near 17 = .ok (.iconst 0, 1) := by decide +kernel
theorem dX10_near_18 : decode cX10_near 18 = .ok (.iconst 1, 1) := by decide +kernel
theorem dX10_near_19 : decode cX10_near 19 = .ok (.invokestatic 41, 3) := by decide +kernel
theorem dX10_near_22 : decode cX10_near 22 = .ok (.ifCond .eq 8, 3) := by decide +kernel
theorem dX10_near_25 : decode cX10_near 25 = .ok (.iload_n 1, 1) := by decide +kernel
theorem dX10_near_26 : decode cX10_near 26 = .ok (.iload_n 2, 1) := by decide +kernel
theorem dX10_near_27 : decode cX10_near 27 = .ok (.if_icmp .ne 6, 3) := by decide +kernel
theorem dX10_near_30 : decode cX10_near 30 = .ok (.bipush (-2), 2) := by decide +kernel
theorem dX10_near_32 : decode cX10_near 32 = .ok (.ireturn, 1) := by decide +kernel
theorem dX10_near_33 : decode cX10_near 33 = .ok (.aload_n 0, 1) := by decide +kernel
theorem dX10_near_34 : decode cX10_near 34 = .ok (.getfield 7, 3) := by decide +kernel
theorem dX10_near_37 : decode cX10_near 37 = .ok (.bipush 60, 2) := by decide +kernel
theorem dX10_near_39 : decode cX10_near 39 = .ok (.bipush 6, 2) := by decide +kernel
theorem dX10_near_41 : decode cX10_near 41 = .ok (.iload_n 1, 1) := by decide +kernel
theorem dX10_near_42 : decode cX10_near 42 = .ok (.imul, 1) := by decide +kernel
theorem dX10_near_43 : decode cX10_near 43 = .ok (.iadd, 1) := by decide +kernel
theorem dX10_near_44 : decode cX10_near 44 = .ok (.iload_n 2, 1) := by decide +kernel
theorem dX10_near_45 : decode cX10_near 45 = .ok (.iadd, 1) := by decide +kernel
theorem dX10_near_46 : decode cX10_near 46 = .ok (.iload_n 3, 1) := by decide +kernel
theorem dX10_near_47 : decode cX10_near 47 = .ok (.iastore, 1) := by decide +kernel
theorem dX10_near_48 : decode cX10_near 48 = .ok (.aload_n 0, 1) := by decide +kernel
theorem dX10_near_49 : decode cX10_near 49 = .ok (.getfield 7, 3) := by decide +kernel
theorem dX10_near_52 : decode cX10_near 52 = .ok (.bipush 60, 2) := by decide +kernel
theorem dX10_near_54 : decode cX10_near 54 = .ok (.bipush 6, 2) := by decide +kernel
theorem dX10_near_56 : decode cX10_near 56 = .ok (.iload_n 2, 1) := by decide +kernel
theorem dX10_near_57 : decode cX10_near 57 = .ok (.imul, 1) := by decide +kernel
theorem dX10_near_58 : decode cX10_near 58 = .ok (.iadd, 1) := by decide +kernel
theorem dX10_near_59 : decode cX10_near 59 = .ok (.iload_n 1, 1) := by decide +kernel
theorem dX10_near_60 : decode cX10_near 60 = .ok (.iadd, 1) := by decide +kernel
theorem dX10_near_61 : decode cX10_near 61 = .ok (.iload_n 3, 1) := by decide +kernel
theorem dX10_near_62 : decode cX10_near 62 = .ok (.iastore, 1) := by decide +kernel
theorem dX10_near_63 : decode cX10_near 63 = .ok (.iconst 0, 1) := by decide +kernel
theorem dX10_near_64 : decode cX10_near 64 = .ok (.istore 4, 2) := by decide +kernel
theorem dX10_near_66 : decode cX10_near 66 = .ok (.iconst 0, 1) := by decide +kernel
theorem dX10_near_67 : decode cX10_near 67 = .ok (.istore 5, 2) := by decide +kernel
theorem dX10_near_69 : decode cX10_near 69 = .ok (.iload 5, 2) := by decide +kernel
theorem dX10_near_71 : decode cX10_near 71 = .ok (.bipush 6, 2) := by decide +kernel
theorem dX10_near_73 : decode cX10_near 73 = .ok (.if_icmp .ge 29, 3) := by decide +kernel
theorem dX10_near_76 : decode cX10_near 76 = .ok (.iload 4, 2) := by decide +kernel
theorem dX10_near_78 : decode cX10_near 78 = .ok (.aload_n 0, 1) := by decide +kernel
theorem dX10_near_79 : decode cX10_near 79 = .ok (.iload_n 1, 1) := by decide +kernel
theorem dX10_near_80 : decode cX10_near 80 = .ok (.iload 5, 2) := by decide +kernel
theorem dX10_near_82 : decode cX10_near 82 = .ok (.invokevirtual 91, 3) := by decide +kernel
theorem dX10_near_85 : decode cX10_near 85 = .ok (.ifCond .eq 7, 3) := by decide +kernel
theorem dX10_near_88 : decode cX10_near 88 = .ok (.iconst 1, 1) := by decide +kernel
theorem dX10_near_89 : decode cX10_near 89 = .ok (.goto 4, 3) := by decide +kernel
theorem dX10_near_92 : decode cX10_near 92 = .ok (.iconst 0, 1) := by decide +kernel
theorem dX10_near_93 : decode cX10_near 93 = .ok (.iadd, 1) := by decide +kernel
theorem dX10_near_94 : decode cX10_near 94 = .ok (.istore 4, 2) := by decide +kernel
theorem dX10_near_96 : decode cX10_near 96 = .ok (.iinc 5 1, 3) := by decide +kernel
theorem dX10_near_99 : decode cX10_near 99 = .ok (.goto (-30), 3) := by decide +kernel
theorem dX10_near_102 : decode cX10_near 102 = .ok (.iload 4, 2) := by decide +kernel
theorem dX10_near_104 : decode cX10_near 104 = .ok (.ireturn, 1) := by decide +kernel
theorem dX10_slot_0 : decode cX10_slot 0 = .ok (.sipush 156, 3) := by decide +kernel
theorem dX10_slot_3 : decode cX10_slot 3 = .ok (.bipush 12, 2) := by decide +kernel
theorem dX10_slot_5 : decode cX10_slot 5 = .ok (.bipush 12, 2) := by decide +kernel
theorem dX10_slot_7 : decode cX10_slot 7 = .ok (.iload_n 0, 1) := by decide +kernel
theorem dX10_slot_8 : decode cX10_slot 8 = .ok (.imul, 1) := by decide +kernel
theorem dX10_slot_9 : decode cX10_slot 9 = .ok (.iload_n 1, 1) := by decide +kernel
theorem dX10_slot_10 : decode cX10_slot 10 = .ok (.iadd, 1) := by decide +kernel
theorem dX10_slot_11 : decode cX10_slot 11 = .ok (.imul, 1) := by decide +kernel
theorem dX10_slot_12 : decode cX10_slot 12 = .ok (.iadd, 1) := by decide +kernel
theorem dX10_slot_13 : decode cX10_slot 13 = .ok (.ireturn, 1) := by decide +kernel
theorem dX10_known_0 : decode cX10_known 0 = .ok (.sipush 1026, 3) := by decide +kernel
theorem dX10_known_3 : decode cX10_known 3 = .ok (.iconst 3, 1) := by decide +kernel
theorem dX10_known_4 : decode cX10_known 4 = .ok (.bipush 16, 2) := by decide +kernel
theorem dX10_known_6 : decode cX10_known 6 = .ok (.iload_n 0, 1) := by decide +kernel
theorem dX10_known_7 : decode cX10_known 7 = .ok (.imul, 1) := by decide +kernel
theorem dX10_known_8 : decode cX10_known 8 = .ok (.iload_n 1, 1) := by decide +kernel
theorem dX10_known_9 : decode cX10_known 9 = .ok (.iadd, 1) := by decide +kernel
theorem dX10_known_10 : decode cX10_known 10 = .ok (.imul, 1) := by decide +kernel
theorem dX10_known_11 : decode cX10_known 11 = .ok (.iadd, 1) := by decide +kernel
theorem dX10_known_12 : decode cX10_known 12 = .ok (.ireturn, 1) := by decide +kernel
theorem dX10_keep_0 : decode cX10_keep 0 = .ok (.aload_n 0, 1) := by decide +kernel
theorem dX10_keep_1 : decode cX10_keep 1 = .ok (.getfield 7, 3) := by decide +kernel
theorem dX10_keep_4 : decode cX10_keep 4 = .ok (.sipush 150, 3) := by decide +kernel
theorem dX10_keep_7 : decode cX10_keep 7 = .ok (.iload_n 1, 1) := by decide +kernel
theorem dX10_keep_8 : decode cX10_keep 8 = .ok (.iadd, 1) := by decide +kernel
theorem dX10_keep_9 : decode cX10_keep 9 = .ok (.iaload, 1) := by decide +kernel
theorem dX10_keep_10 : decode cX10_keep 10 = .ok (.istore_n 3, 1) := by decide +kernel
theorem dX10_keep_11 : decode cX10_keep 11 = .ok (.iload_n 3, 1) := by decide +kernel
theorem dX10_keep_12 : decode cX10_keep 12 = .ok (.bipush 12, 2) := by decide +kernel
theorem dX10_keep_14 : decode cX10_keep 14 = .ok (.if_icmp .ne 5, 3) := by decide +kernel
theorem dX10_keep_17 : decode cX10_keep 17 = .ok (.iconst 0, 1) := by decide +kernel
theorem dX10_keep_18 : decode cX10_keep 18 = .ok (.ireturn, 1) := by decide +kernel
theorem dX10_keep_19 : decode cX10_keep 19 = .ok (.iconst 0, 1) := by decide +kernel
theorem dX10_keep_20 : decode cX10_keep 20 = .ok (.istore 4, 2) := by decide +kernel
theorem dX10_keep_22 : decode cX10_keep 22 = .ok (.iload 4, 2) := by decide +kernel
theorem dX10_keep_24 : decode cX10_keep 24 = .ok (.bipush 11, 2) := by decide +kernel
theorem dX10_keep_26 : decode cX10_keep 26 = .ok (.if_icmp .ge 29, 3) := by decide +kernel
theorem dX10_keep_29 : decode cX10_keep 29 = .ok (.aload_n 0, 1) := by decide +kernel
theorem dX10_keep_30 : decode cX10_keep 30 = .ok (.getfield 7, 3) := by decide +kernel
theorem dX10_keep_33 : decode cX10_keep 33 = .ok (.iload_n 1, 1) := by decide +kernel
theorem dX10_keep_34 : decode cX10_keep 34 = .ok (.iload_n 3, 1) := by decide +kernel
theorem dX10_keep_35 : decode cX10_keep 35 = .ok (.invokestatic 95, 3) := by decide +kernel
theorem dX10_keep_38 : decode cX10_keep 38 = .ok (.iload 4, 2) := by decide +kernel
theorem dX10_keep_40 : decode cX10_keep 40 = .ok (.iadd, 1) := by decide +kernel
theorem dX10_keep_41 : decode cX10_keep 41 = .ok (.aload_n 0, 1) := by decide +kernel
theorem dX10_keep_42 : decode cX10_keep 42 = .ok (.getfield 23, 3) := by decide +kernel
theorem dX10_keep_45 : decode cX10_keep 45 = .ok (.iload 4, 2) := by decide +kernel
theorem dX10_keep_47 : decode cX10_keep 47 = .ok (.iaload, 1) := by decide +kernel
theorem dX10_keep_48 : decode cX10_keep 48 = .ok (.iastore, 1) := by decide +kernel
theorem dX10_keep_49 : decode cX10_keep 49 = .ok (.iinc 4 1, 3) := by decide +kernel
theorem dX10_keep_52 : decode cX10_keep 52 = .ok (.goto (-30), 3) := by decide +kernel
theorem dX10_keep_55 : decode cX10_keep 55 = .ok (.aload_n 0, 1) := by decide +kernel
theorem dX10_keep_56 : decode cX10_keep 56 = .ok (.getfield 7, 3) := by decide +kernel
theorem dX10_keep_59 : decode cX10_keep 59 = .ok (.iload_n 1, 1) := by decide +kernel
theorem dX10_keep_60 : decode cX10_keep 60 = .ok (.iload_n 3, 1) := by decide +kernel
theorem dX10_keep_61 : decode cX10_keep 61 = .ok (.invokestatic 95, 3) := by decide +kernel
theorem dX10_keep_64 : decode cX10_keep 64 = .ok (.bipush 11, 2) := by decide +kernel
theorem dX10_keep_66 : decode cX10_keep 66 = .ok (.iadd, 1) := by decide +kernel
theorem dX10_keep_67 : decode cX10_keep 67 = .ok (.iload_n 2, 1) := by decide +kernel
theorem dX10_keep_68 : decode cX10_keep 68 = .ok (.iastore, 1) := by decide +kernel
theorem dX10_keep_69 : decode cX10_keep 69 = .ok (.aload_n 0, 1) := by decide +kernel
theorem dX10_keep_70 : decode cX10_keep 70 = .ok (.getfield 7, 3) := by decide +kernel
theorem dX10_keep_73 : decode cX10_keep 73 = .ok (.sipush 150, 3) := by decide +kernel
theorem dX10_keep_76 : decode cX10_keep 76 = .ok (.iload_n 1, 1) := by decide +kernel
theorem dX10_keep_77 : decode cX10_keep 77 = .ok (.iadd, 1) := by decide +kernel
theorem dX10_keep_78 : decode cX10_keep 78 = .ok (.dup2, 1) := by decide +kernel
theorem dX10_keep_79 : decode cX10_keep 79 = .ok (.iaload, 1) := by decide +kernel
theorem dX10_keep_80 : decode cX10_keep 80 = .ok (.iconst 1, 1) := by decide +kernel
theorem dX10_keep_81 : decode cX10_keep 81 = .ok (.iadd, 1) := by decide +kernel
theorem dX10_keep_82 : decode cX10_keep 82 = .ok (.iastore, 1) := by decide +kernel
theorem dX10_keep_83 : decode cX10_keep 83 = .ok (.iconst 1, 1) := by decide +kernel
theorem dX10_keep_84 : decode cX10_keep 84 = .ok (.ireturn, 1) := by decide +kernel
theorem dX10_placeKnown_0 : decode cX10_placeKnown 0 = .ok (.bipush (-6), 2) := by decide +kernel
theorem dX10_placeKnown_2 : decode cX10_placeKnown 2 = .ok (.istore 4, 2) := by decide +kernel
theorem dX10_placeKnown_4 : decode cX10_placeKnown 4 = .ok (.iconst 0, 1) := by decide +kernel
theorem dX10_placeKnown_5 : decode cX10_placeKnown 5 = .ok (.istore 5, 2) := by decide +kernel
theorem dX10_placeKnown_7 : decode cX10_placeKnown 7 = .ok (.iload 5, 2) := by decide +kernel
theorem dX10_placeKnown_9 : decode cX10_placeKnown 9 = .ok (.aload_n 0, 1) := by decide +kernel
theorem dX10_placeKnown_10 : decode cX10_placeKnown 10 = .ok (.getfield 7, 3) := by decide +kernel
theorem dX10_placeKnown_13 : decode cX10_placeKnown 13 = .ok (.sipush 1020, 3) := by decide +kernel
theorem dX10_placeKnown_16 : decode cX10_placeKnown 16 = .ok (.iload_n 1, 1) := by decide +kernel
theorem dX10_placeKnown_17 : decode cX10_placeKnown 17 = .ok (.iadd, 1) := by decide +kernel
theorem dX10_placeKnown_18 : decode cX10_placeKnown 18 = .ok (.iaload, 1) := by decide +kernel
theorem dX10_placeKnown_19 : decode cX10_placeKnown 19 = .ok (.if_icmp .ge 50, 3) := by decide +kernel
theorem dX10_placeKnown_22 : decode cX10_placeKnown 22 = .ok (.aload_n 0, 1) := by decide +kernel
theorem dX10_placeKnown_23 : decode cX10_placeKnown 23 = .ok (.getfield 7, 3) := by decide +kernel
theorem dX10_placeKnown_26 : decode cX10_placeKnown 26 = .ok (.iload_n 1, 1) := by decide +kernel
theorem dX10_placeKnown_27 : decode cX10_placeKnown 27 = .ok (.iload 5, 2) := by decide +kernel
theorem dX10_placeKnown_29 : decode cX10_placeKnown 29 = .ok (.invokestatic 98, 3) := by decide +kernel
theorem dX10_placeKnown_32 : decode cX10_placeKnown 32 = .ok (.iaload, 1) := by decide +kernel
theorem dX10_placeKnown_33 : decode cX10_placeKnown 33 = .ok (.iload_n 2, 1) := by decide +kernel
theorem dX10_placeKnown_34 : decode cX10_placeKnown 34 = .ok (.if_icmp .ne 25, 3) := by decide +kernel
theorem dX10_placeKnown_37 : decode cX10_placeKnown 37 = .ok (.aload_n 0, 1) := by decide +kernel
theorem dX10_placeKnown_38 : decode cX10_placeKnown 38 = .ok (.getfield 7, 3) := by decide +kernel
theorem dX10_placeKnown_41 : decode cX10_placeKnown 41 = .ok (.iload_n 1, 1) := by decide +kernel
theorem dX10_placeKnown_42 : decode cX10_placeKnown 42 = .ok (.iload 5, 2) := by decide +kernel
theorem dX10_placeKnown_44 : decode cX10_placeKnown 44 = .ok (.invokestatic 98, 3) := by decide +kernel
theorem dX10_placeKnown_47 : decode cX10_placeKnown 47 = .ok (.iconst 1, 1) := by decide +kernel
theorem dX10_placeKnown_48 : decode cX10_placeKnown 48 = .ok (.iadd, 1) := by decide +kernel
theorem dX10_placeKnown_49 : decode cX10_placeKnown 49 = .ok (.iaload, 1) := by decide +kernel
theorem dX10_placeKnown_50 : decode cX10_placeKnown 50 = .ok (.iload_n 3, 1) := by decide +kernel
theorem dX10_placeKnown_51 : decode cX10_placeKnown 51 = .ok (.if_icmp .ne 8, 3) := by decide +kernel
theorem dX10_placeKnown_54 : decode cX10_placeKnown 54 = .ok (.iload 5, 2) := by decide +kernel
theorem dX10_placeKnown_56 : decode cX10_placeKnown 56 = .ok (.goto 5, 3) := by decide +kernel
theorem dX10_placeKnown_59 : decode cX10_placeKnown 59 = .ok (.iload 4, 2) := by decide +kernel
theorem dX10_placeKnown_61 : decode cX10_placeKnown 61 = .ok (.istore 4, 2) := by decide +kernel
theorem dX10_placeKnown_63 : decode cX10_placeKnown 63 = .ok (.iinc 5 1, 3) := by decide +kernel
theorem dX10_placeKnown_66 : decode cX10_placeKnown 66 = .ok (.goto (-59), 3) := by decide +kernel
theorem dX10_placeKnown_69 : decode cX10_placeKnown 69 = .ok (.iload 4, 2) := by decide +kernel
theorem dX10_placeKnown_71 : decode cX10_placeKnown 71 = .ok (.ireturn, 1) := by decide +kernel
theorem dX10_unknow_0 : decode cX10_unknow 0 = .ok (.aload_n 0, 1) := by decide +kernel
theorem dX10_unknow_1 : decode cX10_unknow 1 = .ok (.getfield 7, 3) := by decide +kernel
theorem dX10_unknow_4 : decode cX10_unknow 4 = .ok (.sipush 1020, 3) := by decide +kernel
theorem dX10_unknow_7 : decode cX10_unknow 7 = .ok (.iload_n 1, 1) := by decide +kernel
theorem dX10_unknow_8 : decode cX10_unknow 8 = .ok (.iadd, 1) := by decide +kernel
theorem dX10_unknow_9 : decode cX10_unknow 9 = .ok (.dup2, 1) := by decide +kernel
theorem dX10_unknow_10 : decode cX10_unknow 10 = .ok (.iaload, 1) := by decide +kernel
theorem dX10_unknow_11 : decode cX10_unknow 11 = .ok (.iconst 1, 1) := by decide +kernel
theorem dX10_unknow_12 : decode cX10_unknow 12 = .ok (.isub, 1) := by decide +kernel
theorem dX10_unknow_13 : decode cX10_unknow 13 = .ok (.iastore, 1) := by decide +kernel
theorem dX10_unknow_14 : decode cX10_unknow 14 = .ok (.iload_n 2, 1) := by decide +kernel
theorem dX10_unknow_15 : decode cX10_unknow 15 = .ok (.istore_n 3, 1) := by decide +kernel
theorem dX10_unknow_16 : decode cX10_unknow 16 = .ok (.iload_n 3, 1) := by decide +kernel
theorem dX10_unknow_17 : decode cX10_unknow 17 = .ok (.aload_n 0, 1) := by decide +kernel
theorem dX10_unknow_18 : decode cX10_unknow 18 = .ok (.getfield 7, 3) := by decide +kernel
theorem dX10_unknow_21 : decode cX10_unknow 21 = .ok (.sipush 1020, 3) := by decide +kernel
theorem dX10_unknow_24 : decode cX10_unknow 24 = .ok (.iload_n 1, 1) := by decide +kernel
theorem dX10_unknow_25 : decode cX10_unknow 25 = .ok (.iadd, 1) := by decide +kernel
theorem dX10_unknow_26 : decode cX10_unknow 26 = .ok (.iaload, 1) := by decide +kernel
theorem dX10_unknow_27 : decode cX10_unknow 27 = .ok (.if_icmp .ge 52, 3) := by decide +kernel
theorem dX10_unknow_30 : decode cX10_unknow 30 = .ok (.iconst 0, 1) := by decide +kernel
theorem dX10_unknow_31 : decode cX10_unknow 31 = .ok (.istore 4, 2) := by decide +kernel
theorem dX10_unknow_33 : decode cX10_unknow 33 = .ok (.iload 4, 2) := by decide +kernel
theorem dX10_unknow_35 : decode cX10_unknow 35 = .ok (.iconst 3, 1) := by decide +kernel
theorem dX10_unknow_36 : decode cX10_unknow 36 = .ok (.if_icmp .ge 37, 3) := by decide +kernel
theorem dX10_unknow_39 : decode cX10_unknow 39 = .ok (.aload_n 0, 1) := by decide +kernel
theorem dX10_unknow_40 : decode cX10_unknow 40 = .ok (.getfield 7, 3) := by decide +kernel
theorem dX10_unknow_43 : decode cX10_unknow 43 = .ok (.iload_n 1, 1) := by decide +kernel
theorem dX10_unknow_44 : decode cX10_unknow 44 = .ok (.iload_n 3, 1) := by decide +kernel
theorem dX10_unknow_45 : decode cX10_unknow 45 = .ok (.invokestatic 98, 3) := by decide +kernel
theorem dX10_unknow_48 : decode cX10_unknow 48 = .ok (.iload 4, 2) := by decide +kernel
theorem dX10_unknow_50 : decode cX10_unknow 50 = .ok (.iadd, 1) := by decide +kernel
theorem dX10_unknow_51 : decode cX10_unknow 51 = .ok (.aload_n 0, 1) := by decide +kernel
theorem dX10_unknow_52 : decode cX10_unknow 52 = .ok (.getfield 7, 3) := by decide +kernel
theorem dX10_unknow_55 : decode cX10_unknow 55 = .ok (.iload_n 1, 1) := by decide +kernel
theorem dX10_unknow_56 : decode cX10_unknow 56 = .ok (.iload_n 3, 1) := by decide +kernel
theorem dX10_unknow_57 : decode cX10_unknow 57 = .ok (.iconst 1, 1) := by decide +kernel
theorem dX10_unknow_58 : decode cX10_unknow 58 = .ok (.iadd, 1) := by decide +kernel
theorem dX10_unknow_59 : decode cX10_unknow 59 = .ok (.invokestatic 98, 3) := by decide +kernel
theorem dX10_unknow_62 : decode cX10_unknow 62 = .ok (.iload 4, 2) := by decide +kernel
theorem dX10_unknow_64 : decode cX10_unknow 64 = .ok (.iadd, 1) := by decide +kernel
theorem dX10_unknow_65 : decode cX10_unknow 65 = .ok (.iaload, 1) := by decide +kernel
theorem dX10_unknow_66 : decode cX10_unknow 66 = .ok (.iastore, 1) := by decide +kernel
theorem dX10_unknow_67 : decode cX10_unknow 67 = .ok (.iinc 4 1, 3) := by decide +kernel
theorem dX10_unknow_70 : decode cX10_unknow 70 = .ok (.goto (-37), 3) := by decide +kernel
theorem dX10_unknow_73 : decode cX10_unknow 73 = .ok (.iinc 3 1, 3) := by decide +kernel
theorem dX10_unknow_76 : decode cX10_unknow 76 = .ok (.goto (-60), 3) := by decide +kernel
theorem dX10_unknow_79 : decode cX10_unknow 79 = .ok (.return_, 1) := by decide +kernel
theorem dX10_know_0 : decode cX10_know 0 = .ok (.aload_n 0, 1) := by decide +kernel
theorem dX10_know_1 : decode cX10_know 1 = .ok (.getfield 7, 3) := by decide +kernel
theorem dX10_know_4 : decode cX10_know 4 = .ok (.sipush 1020, 3) := by decide +kernel
theorem dX10_know_7 : decode cX10_know 7 = .ok (.iload_n 1, 1) := by decide +kernel
theorem dX10_know_8 : decode cX10_know 8 = .ok (.iadd, 1) := by decide +kernel
theorem dX10_know_9 : decode cX10_know 9 = .ok (.iaload, 1) := by decide +kernel
theorem dX10_know_10 : decode cX10_know 10 = .ok (.bipush 16, 2) := by decide +kernel
theorem dX10_know_12 : decode cX10_know 12 = .ok (.if_icmp .ne 9, 3) := by decide +kernel
theorem dX10_know_15 : decode cX10_know 15 = .ok (.aload_n 0, 1) := by decide +kernel
theorem dX10_know_16 : decode cX10_know 16 = .ok (.iload_n 1, 1) := by decide +kernel
theorem dX10_know_17 : decode cX10_know 17 = .ok (.iconst 0, 1) := by decide +kernel
theorem dX10_know_18 : decode cX10_know 18 = .ok (.invokevirtual 101, 3) := by decide +kernel
theorem dX10_know_21 : decode cX10_know 21 = .ok (.aload_n 0, 1) := by decide +kernel
theorem dX10_know_22 : decode cX10_know 22 = .ok (.getfield 7, 3) := by decide +kernel
theorem dX10_know_25 : decode cX10_know 25 = .ok (.sipush 1020, 3) := by decide +kernel
theorem dX10_know_28 : decode cX10_know 28 = .ok (.iload_n 1, 1) := by decide +kernel
theorem dX10_know_29 : decode cX10_know 29 = .ok (.iadd, 1) := by decide +kernel
theorem dX10_know_30 : decode cX10_know 30 = .ok (.iaload, 1) := by decide +kernel
theorem dX10_know_31 : decode cX10_know 31 = .ok (.istore 4, 2) := by decide +kernel
theorem dX10_know_33 : decode cX10_know 33 = .ok (.aload_n 0, 1) := by decide +kernel
theorem dX10_know_34 : decode cX10_know 34 = .ok (.getfield 7, 3) := by decide +kernel
theorem dX10_know_37 : decode cX10_know 37 = .ok (.iload_n 1, 1) := by decide +kernel
theorem dX10_know_38 : decode cX10_know 38 = .ok (.iload 4, 2) := by decide +kernel
theorem dX10_know_40 : decode cX10_know 40 = .ok (.invokestatic 98, 3) := by decide +kernel
theorem dX10_know_43 : decode cX10_know 43 = .ok (.iload_n 2, 1) := by decide +kernel
theorem dX10_know_44 : decode cX10_know 44 = .ok (.iastore, 1) := by decide +kernel
theorem dX10_know_45 : decode cX10_know 45 = .ok (.aload_n 0, 1) := by decide +kernel
theorem dX10_know_46 : decode cX10_know 46 = .ok (.getfield 7, 3) := by decide +kernel
theorem dX10_know_49 : decode cX10_know 49 = .ok (.iload_n 1, 1) := by decide +kernel
theorem dX10_know_50 : decode cX10_know 50 = .ok (.iload 4, 2) := by decide +kernel
theorem dX10_know_52 : decode cX10_know 52 = .ok (.invokestatic 98, 3) := by decide +kernel
theorem dX10_know_55 : decode cX10_know 55 = .ok (.iconst 1, 1) := by decide +kernel
theorem dX10_know_56 : decode cX10_know 56 = .ok (.iadd, 1) := by decide +kernel
theorem dX10_know_57 : decode cX10_know 57 = .ok (.iload_n 3, 1) := by decide +kernel
theorem dX10_know_58 : decode cX10_know 58 = .ok (.iastore, 1) := by decide +kernel
theorem dX10_know_59 : decode cX10_know 59 = .ok (.aload_n 0, 1) := by decide +kernel
theorem dX10_know_60 : decode cX10_know 60 = .ok (.getfield 7, 3) := by decide +kernel
theorem dX10_know_63 : decode cX10_know 63 = .ok (.iload_n 1, 1) := by decide +kernel
theorem dX10_know_64 : decode cX10_know 64 = .ok (.iload 4, 2) := by decide +kernel
theorem dX10_know_66 : decode cX10_know 66 = .ok (.invokestatic 98, 3) := by decide +kernel
theorem dX10_know_69 : decode cX10_know 69 = .ok (.iconst 2, 1) := by decide +kernel
theorem dX10_know_70 : decode cX10_know 70 = .ok (.iadd, 1) := by decide +kernel
theorem dX10_know_71 : decode cX10_know 71 = .ok (.aload_n 0, 1) := by decide +kernel
theorem dX10_know_72 : decode cX10_know 72 = .ok (.getfield 7, 3) := by decide +kernel
theorem dX10_know_75 : decode cX10_know 75 = .ok (.sipush 1386, 3) := by decide +kernel
theorem dX10_know_78 : decode cX10_know 78 = .ok (.iaload, 1) := by decide +kernel
theorem dX10_know_79 : decode cX10_know 79 = .ok (.iastore, 1) := by decide +kernel
theorem dX10_know_80 : decode cX10_know 80 = .ok (.aload_n 0, 1) := by decide +kernel
theorem dX10_know_81 : decode cX10_know 81 = .ok (.getfield 7, 3) := by decide +kernel
theorem dX10_know_84 : decode cX10_know 84 = .ok (.sipush 1020, 3) := by decide +kernel
theorem dX10_know_87 : decode cX10_know 87 = .ok (.iload_n 1, 1) := by decide +kernel
theorem dX10_know_88 : decode cX10_know 88 = .ok (.iadd, 1) := by decide +kernel
theorem dX10_know_89 : decode cX10_know 89 = .ok (.dup2, 1) := by decide +kernel
theorem dX10_know_90 : decode cX10_know 90 = .ok (.iaload, 1) := by decide +kernel
theorem dX10_know_91 : decode cX10_know 91 = .ok (.iconst 1, 1) := by decide +kernel
theorem dX10_know_92 : decode cX10_know 92 = .ok (.iadd, 1) := by decide +kernel
theorem dX10_know_93 : decode cX10_know 93 = .ok (.iastore, 1) := by decide +kernel
theorem dX10_know_94 : decode cX10_know 94 = .ok (.return_, 1) := by decide +kernel
theorem dX10_begin_0 : decode cX10_begin 0 = .ok (.aload_n 0, 1) := by decide +kernel
theorem dX10_begin_1 : decode cX10_begin 1 = .ok (.iload_n 1, 1) := by decide +kernel
theorem dX10_begin_2 : decode cX10_begin 2 = .ok (.aload_n 0, 1) := by decide +kernel
theorem dX10_begin_3 : decode cX10_begin 3 = .ok (.getfield 23, 3) := by decide +kernel
theorem dX10_begin_6 : decode cX10_begin 6 = .ok (.iconst 0, 1) := by decide +kernel
theorem dX10_begin_7 : decode cX10_begin 7 = .ok (.iaload, 1) := by decide +kernel
theorem dX10_begin_8 : decode cX10_begin 8 = .ok (.aload_n 0, 1) := by decide +kernel
theorem dX10_begin_9 : decode cX10_begin 9 = .ok (.getfield 23, 3) := by decide +kernel
theorem dX10_begin_12 : decode cX10_begin 12 = .ok (.iconst 1, 1) := by decide +kernel
theorem dX10_begin_13 : decode cX10_begin 13 = .ok (.iaload, 1) := by decide +kernel
theorem dX10_begin_14 : decode cX10_begin 14 = .ok (.invokevirtual 105, 3) := by decide +kernel
theorem dX10_begin_17 : decode cX10_begin 17 = .ok (.istore_n 2, 1) := by decide +kernel
theorem dX10_begin_18 : decode cX10_begin 18 = .ok (.iload_n 2, 1) := by decide +kernel
theorem dX10_begin_19 : decode cX10_begin 19 = .ok (.ifCond .lt 9, 3) := by decide +kernel
theorem dX10_begin_22 : decode cX10_begin 22 = .ok (.aload_n 0, 1) := by decide +kernel
theorem dX10_begin_23 : decode cX10_begin 23 = .ok (.iload_n 1, 1) := by decide +kernel
theorem dX10_begin_24 : decode cX10_begin 24 = .ok (.iload_n 2, 1) := by decide +kernel
theorem dX10_begin_25 : decode cX10_begin 25 = .ok (.invokevirtual 101, 3) := by decide +kernel
theorem dX10_begin_28 : decode cX10_begin 28 = .ok (.aload_n 0, 1) := by decide +kernel
theorem dX10_begin_29 : decode cX10_begin 29 = .ok (.iload_n 1, 1) := by decide +kernel
theorem dX10_begin_30 : decode cX10_begin 30 = .ok (.aload_n 0, 1) := by decide +kernel
theorem dX10_begin_31 : decode cX10_begin 31 = .ok (.getfield 23, 3) := by decide +kernel
theorem dX10_begin_34 : decode cX10_begin 34 = .ok (.iconst 0, 1) := by decide +kernel
theorem dX10_begin_35 : decode cX10_begin 35 = .ok (.iaload, 1) := by decide +kernel
theorem dX10_begin_36 : decode cX10_begin 36 = .ok (.aload_n 0, 1) := by decide +kernel
theorem dX10_begin_37 : decode cX10_begin 37 = .ok (.getfield 23, 3) := by decide +kernel
theorem dX10_begin_40 : decode cX10_begin 40 = .ok (.iconst 1, 1) := by decide +kernel
theorem dX10_begin_41 : decode cX10_begin 41 = .ok (.iaload, 1) := by decide +kernel
theorem dX10_begin_42 : decode cX10_begin 42 = .ok (.invokevirtual 109, 3) := by decide +kernel
theorem dX10_begin_45 : decode cX10_begin 45 = .ok (.return_, 1) := by decide +kernel
theorem dX10_send_0 : decode cX10_send 0 = .ok (.iload_n 1, 1) := by decide +kernel
theorem dX10_send_1 : decode cX10_send 1 = .ok (.invokestatic 78, 3) := by decide +kernel
theorem dX10_send_4 : decode cX10_send 4 = .ok (.ifCond .ne 5, 3) := by decide +kernel
theorem dX10_send_7 : decode cX10_send 7 = .ok (.iconst (-1), 1) := by decide +kernel
theorem dX10_send_8 : decode cX10_send 8 = .ok (.ireturn, 1) := by decide +kernel
theorem dX10_send_9 : decode cX10_send 9 = .ok (.aload_n 0, 1) := by decide +kernel
theorem dX10_send_10 : decode cX10_send 10 = .ok (.invokevirtual 74, 3) := by decide +kernel
theorem dX10_send_13 : decode cX10_send 13 = .ok (.ifCond .lt 6, 3) := by decide +kernel
theorem dX10_send_16 : decode cX10_send 16 = .ok (.bipush (-7), 2) := by decide +kernel
theorem dX10_send_18 : decode cX10_send 18 = .ok (.ireturn, 1) := by decide +kernel
theorem dX10_send_19 : decode cX10_send 19 = .ok (.aload_n 0, 1) := by decide +kernel
theorem dX10_send_20 : decode cX10_send 20 = .ok (.iload_n 1, 1) := by decide +kernel
theorem dX10_send_21 : decode cX10_send 21 = .ok (.aload_n 0, 1) := by decide +kernel
theorem dX10_send_22 : decode cX10_send 22 = .ok (.getfield 7, 3) := by decide +kernel
theorem dX10_send_25 : decode cX10_send 25 = .ok (.sipush 1386, 3) := by decide +kernel
theorem dX10_send_28 : decode cX10_send 28 = .ok (.iaload, 1) := by decide +kernel
theorem dX10_send_29 : decode cX10_send 29 = .ok (.invokevirtual 113, 3) := by decide +kernel
theorem dX10_send_32 : decode cX10_send 32 = .ok (.ifCond .ne 6, 3) := by decide +kernel
theorem dX10_send_35 : decode cX10_send 35 = .ok (.bipush (-4), 2) := by decide +kernel
theorem dX10_send_37 : decode cX10_send 37 = .ok (.ireturn, 1) := by decide +kernel
theorem dX10_send_38 : decode cX10_send 38 = .ok (.aload_n 0, 1) := by decide +kernel
theorem dX10_send_39 : decode cX10_send 39 = .ok (.iload_n 1, 1) := by decide +kernel
theorem dX10_send_40 : decode cX10_send 40 = .ok (.invokevirtual 116, 3) := by decide +kernel
theorem dX10_send_43 : decode cX10_send 43 = .ok (.aload_n 0, 1) := by decide +kernel
theorem dX10_send_44 : decode cX10_send 44 = .ok (.iconst 0, 1) := by decide +kernel
theorem dX10_send_45 : decode cX10_send 45 = .ok (.putfield 45, 3) := by decide +kernel
theorem dX10_send_48 : decode cX10_send 48 = .ok (.aload_n 0, 1) := by decide +kernel
theorem dX10_send_49 : decode cX10_send 49 = .ok (.getfield 7, 3) := by decide +kernel
theorem dX10_send_52 : decode cX10_send 52 = .ok (.sipush 150, 3) := by decide +kernel
theorem dX10_send_55 : decode cX10_send 55 = .ok (.iload_n 1, 1) := by decide +kernel
theorem dX10_send_56 : decode cX10_send 56 = .ok (.iadd, 1) := by decide +kernel
theorem dX10_send_57 : decode cX10_send 57 = .ok (.iaload, 1) := by decide +kernel
theorem dX10_send_58 : decode cX10_send 58 = .ok (.ireturn, 1) := by decide +kernel
theorem dX10_count_0 : decode cX10_count 0 = .ok (.aload_n 0, 1) := by decide +kernel
theorem dX10_count_1 : decode cX10_count 1 = .ok (.getfield 7, 3) := by decide +kernel
theorem dX10_count_4 : decode cX10_count 4 = .ok (.bipush 96, 2) := by decide +kernel
theorem dX10_count_6 : decode cX10_count 6 = .ok (.bipush 6, 2) := by decide +kernel
theorem dX10_count_8 : decode cX10_count 8 = .ok (.iload_n 1, 1) := by decide +kernel
theorem dX10_count_9 : decode cX10_count 9 = .ok (.imul, 1) := by decide +kernel
theorem dX10_count_10 : decode cX10_count 10 = .ok (.iadd, 1) := by decide +kernel
theorem dX10_count_11 : decode cX10_count 11 = .ok (.iload_n 2, 1) := by decide +kernel
theorem dX10_count_12 : decode cX10_count 12 = .ok (.iadd, 1) := by decide +kernel
theorem dX10_count_13 : decode cX10_count 13 = .ok (.dup2, 1) := by decide +kernel
theorem dX10_count_14 : decode cX10_count 14 = .ok (.iaload, 1) := by decide +kernel
theorem dX10_count_15 : decode cX10_count 15 = .ok (.iconst 1, 1) := by decide +kernel
theorem dX10_count_16 : decode cX10_count 16 = .ok (.iadd, 1) := by decide +kernel
theorem dX10_count_17 : decode cX10_count 17 = .ok (.iastore, 1) := by decide +kernel
theorem dX10_count_18 : decode cX10_count 18 = .ok (.return_, 1) := by decide +kernel
theorem dX10_sendOne_0 : decode cX10_sendOne 0 = .ok (.iconst 0, 1) := by decide +kernel
theorem dX10_sendOne_1 : decode cX10_sendOne 1 = .ok (.istore_n 2, 1) := by decide +kernel
theorem dX10_sendOne_2 : decode cX10_sendOne 2 = .ok (.iload_n 2, 1) := by decide +kernel
theorem dX10_sendOne_3 : decode cX10_sendOne 3 = .ok (.aload_n 0, 1) := by decide +kernel
theorem dX10_sendOne_4 : decode cX10_sendOne 4 = .ok (.getfield 7, 3) := by decide +kernel
theorem dX10_sendOne_7 : decode cX10_sendOne 7 = .ok (.sipush 150, 3) := by decide +kernel
theorem dX10_sendOne_10 : decode cX10_sendOne 10 = .ok (.iload_n 1, 1) := by decide +kernel
theorem dX10_sendOne_11 : decode cX10_sendOne 11 = .ok (.iadd, 1) := by decide +kernel
theorem dX10_sendOne_12 : decode cX10_sendOne 12 = .ok (.iaload, 1) := by decide +kernel
theorem dX10_sendOne_13 : decode cX10_sendOne 13 = .ok (.if_icmp .ge 33, 3) := by decide +kernel
theorem dX10_sendOne_16 : decode cX10_sendOne 16 = .ok (.aload_n 0, 1) := by decide +kernel
theorem dX10_sendOne_17 : decode cX10_sendOne 17 = .ok (.getfield 7, 3) := by decide +kernel
theorem dX10_sendOne_20 : decode cX10_sendOne 20 = .ok (.iload_n 1, 1) := by decide +kernel
theorem dX10_sendOne_21 : decode cX10_sendOne 21 = .ok (.iload_n 2, 1) := by decide +kernel
theorem dX10_sendOne_22 : decode cX10_sendOne 22 = .ok (.invokestatic 95, 3) := by decide +kernel
theorem dX10_sendOne_25 : decode cX10_sendOne 25 = .ok (.bipush 11, 2) := by decide +kernel
theorem dX10_sendOne_27 : decode cX10_sendOne 27 = .ok (.iadd, 1) := by decide +kernel
theorem dX10_sendOne_28 : decode cX10_sendOne 28 = .ok (.iaload, 1) := by decide +kernel
theorem dX10_sendOne_29 : decode cX10_sendOne 29 = .ok (.aload_n 0, 1) := by decide +kernel
theorem dX10_sendOne_30 : decode cX10_sendOne 30 = .ok (.getfield 7, 3) := by decide +kernel
theorem dX10_sendOne_33 : decode cX10_sendOne 33 = .ok (.sipush 1386, 3) := by decide +kernel
theorem dX10_sendOne_36 : decode cX10_sendOne 36 = .ok (.iaload, 1) := by decide +kernel
theorem dX10_sendOne_37 : decode cX10_sendOne 37 = .ok (.if_icmp .le 9, 3) := by decide +kernel
theorem dX10_sendOne_40 : decode cX10_sendOne 40 = .ok (.iinc 2 1, 3) := by decide +kernel
theorem dX10_sendOne_43 : decode cX10_sendOne 43 = .ok (.goto (-41), 3) := by decide +kernel
theorem dX10_sendOne_46 : decode cX10_sendOne 46 = .ok (.aload_n 0, 1) := by decide +kernel
theorem dX10_sendOne_47 : decode cX10_sendOne 47 = .ok (.getfield 29, 3) := by decide +kernel
theorem dX10_sendOne_50 : decode cX10_sendOne 50 = .ok (.iload_n 1, 1) := by decide +kernel
theorem dX10_sendOne_51 : decode cX10_sendOne 51 = .ok (.iload_n 2, 1) := by decide +kernel
theorem dX10_sendOne_52 : decode cX10_sendOne 52 = .ok (.aload_n 0, 1) := by decide +kernel
theorem dX10_sendOne_53 : decode cX10_sendOne 53 = .ok (.getfield 7, 3) := by decide +kernel
theorem dX10_sendOne_56 : decode cX10_sendOne 56 = .ok (.sipush 150, 3) := by decide +kernel
theorem dX10_sendOne_59 : decode cX10_sendOne 59 = .ok (.iload_n 1, 1) := by decide +kernel
theorem dX10_sendOne_60 : decode cX10_sendOne 60 = .ok (.iadd, 1) := by decide +kernel
theorem dX10_sendOne_61 : decode cX10_sendOne 61 = .ok (.iaload, 1) := by decide +kernel
theorem dX10_sendOne_62 : decode cX10_sendOne 62 = .ok (.if_icmp .ge 7, 3) := by decide +kernel
theorem dX10_sendOne_65 : decode cX10_sendOne 65 = .ok (.iconst 1, 1) := by decide +kernel
theorem dX10_sendOne_66 : decode cX10_sendOne 66 = .ok (.goto 4, 3) := by decide +kernel
theorem dX10_sendOne_69 : decode cX10_sendOne 69 = .ok (.iconst 0, 1) := by decide +kernel
theorem dX10_sendOne_70 : decode cX10_sendOne 70 = .ok (.bastore, 1) := by decide +kernel
theorem dX10_sendOne_71 : decode cX10_sendOne 71 = .ok (.aload_n 0, 1) := by decide +kernel
theorem dX10_sendOne_72 : decode cX10_sendOne 72 = .ok (.getfield 29, 3) := by decide +kernel
theorem dX10_sendOne_75 : decode cX10_sendOne 75 = .ok (.iload_n 1, 1) := by decide +kernel
theorem dX10_sendOne_76 : decode cX10_sendOne 76 = .ok (.baload, 1) := by decide +kernel
theorem dX10_sendOne_77 : decode cX10_sendOne 77 = .ok (.ifCond .eq 126, 3) := by decide +kernel
theorem dX10_sendOne_80 : decode cX10_sendOne 80 = .ok (.iconst 0, 1) := by decide +kernel
theorem dX10_sendOne_81 : decode cX10_sendOne 81 = .ok (.istore_n 3, 1) := by decide +kernel
theorem dX10_sendOne_82 : decode cX10_sendOne 82 = .ok (.iload_n 3, 1) := by decide +kernel
theorem dX10_sendOne_83 : decode cX10_sendOne 83 = .ok (.bipush 11, 2) := by decide +kernel
theorem dX10_sendOne_85 : decode cX10_sendOne 85 = .ok (.if_icmp .ge 32, 3) := by decide +kernel
theorem dX10_sendOne_88 : decode cX10_sendOne 88 = .ok (.aload_n 0, 1) := by decide +kernel
theorem dX10_sendOne_89 : decode cX10_sendOne 89 = .ok (.getfield 26, 3) := by decide +kernel
theorem dX10_sendOne_92 : decode cX10_sendOne 92 = .ok (.bipush 11, 2) := by decide +kernel
theorem dX10_sendOne_94 : decode cX10_sendOne 94 = .ok (.iload_n 1, 1) := by decide +kernel
theorem dX10_sendOne_95 : decode cX10_sendOne 95 = .ok (.imul, 1) := by decide +kernel
theorem dX10_sendOne_96 : decode cX10_sendOne 96 = .ok (.iload_n 3, 1) := by decide +kernel
theorem dX10_sendOne_97 : decode cX10_sendOne 97 = .ok (.iadd, 1) := by decide +kernel
theorem dX10_sendOne_98 : decode cX10_sendOne 98 = .ok (.aload_n 0, 1) := by decide +kernel
theorem dX10_sendOne_99 : decode cX10_sendOne 99 = .ok (.getfield 7, 3) := by decide +kernel
theorem dX10_sendOne_102 : decode cX10_sendOne 102 = .ok (.iload_n 1, 1) := by decide +kernel
theorem dX10_sendOne_103 : decode cX10_sendOne 103 = .ok (.iload_n 2, 1) := by decide +kernel
theorem dX10_sendOne_104 : decode cX10_sendOne 104 = .ok (.invokestatic 95, 3) := by decide +kernel
theorem dX10_sendOne_107 : decode cX10_sendOne 107 = .ok (.iload_n 3, 1) := by decide +kernel
theorem dX10_sendOne_108 : decode cX10_sendOne 108 = .ok (.iadd, 1) := by decide +kernel
theorem dX10_sendOne_109 : decode cX10_sendOne 109 = .ok (.iaload, 1) := by decide +kernel
theorem dX10_sendOne_110 : decode cX10_sendOne 110 = .ok (.iastore, 1) := by decide +kernel
theorem dX10_sendOne_111 : decode cX10_sendOne 111 = .ok (.iinc 3 1, 3) := by decide +kernel
theorem dX10_sendOne_114 : decode cX10_sendOne 114 = .ok (.goto (-32), 3) := by decide +kernel
theorem dX10_sendOne_117 : decode cX10_sendOne 117 = .ok (.aload_n 0, 1) := by decide +kernel
theorem dX10_sendOne_118 : decode cX10_sendOne 118 = .ok (.getfield 7, 3) := by decide +kernel
theorem dX10_sendOne_121 : decode cX10_sendOne 121 = .ok (.sipush 150, 3) := by decide +kernel
theorem dX10_sendOne_124 : decode cX10_sendOne 124 = .ok (.iload_n 1, 1) := by decide +kernel
theorem dX10_sendOne_125 : decode cX10_sendOne 125 = .ok (.iadd, 1) := by decide +kernel
theorem dX10_sendOne_126 : decode cX10_sendOne 126 = .ok (.dup2, 1) := by decide +kernel
theorem dX10_sendOne_127 : decode cX10_sendOne 127 = .ok (.iaload, 1) := by decide +kernel
theorem dX10_sendOne_128 : decode cX10_sendOne 128 = .ok (.iconst 1, 1) := by decide +kernel
theorem dX10_sendOne_129 : decode cX10_sendOne 129 = .ok (.isub, 1) := by decide +kernel
theorem dX10_sendOne_130 : decode cX10_sendOne 130 = .ok (.iastore, 1) := by decide +kernel
theorem dX10_sendOne_131 : decode cX10_sendOne 131 = .ok (.iload_n 2, 1) := by decide +kernel
theorem dX10_sendOne_132 : decode cX10_sendOne 132 = .ok (.istore_n 3, 1) := by decide +kernel
theorem dX10_sendOne_133 : decode cX10_sendOne 133 = .ok (.iload_n 3, 1) := by decide +kernel
theorem dX10_sendOne_134 : decode cX10_sendOne 134 = .ok (.aload_n 0, 1) := by decide +kernel
theorem dX10_sendOne_135 : decode cX10_sendOne 135 = .ok (.getfield 7, 3) := by decide +kernel
theorem dX10_sendOne_138 : decode cX10_sendOne 138 = .ok (.sipush 150, 3) := by decide +kernel
theorem dX10_sendOne_141 : decode cX10_sendOne 141 = .ok (.iload_n 1, 1) := by decide +kernel
theorem dX10_sendOne_142 : decode cX10_sendOne 142 = .ok (.iadd, 1) := by decide +kernel
theorem dX10_sendOne_143 : decode cX10_sendOne 143 = .ok (.iaload, 1) := by decide +kernel
theorem dX10_sendOne_144 : decode cX10_sendOne 144 = .ok (.if_icmp .ge 53, 3) := by decide +kernel
theorem dX10_sendOne_147 : decode cX10_sendOne 147 = .ok (.iconst 0, 1) := by decide +kernel
theorem dX10_sendOne_148 : decode cX10_sendOne 148 = .ok (.istore 4, 2) := by decide +kernel
theorem dX10_sendOne_150 : decode cX10_sendOne 150 = .ok (.iload 4, 2) := by decide +kernel
theorem dX10_sendOne_152 : decode cX10_sendOne 152 = .ok (.bipush 12, 2) := by decide +kernel
theorem dX10_sendOne_154 : decode cX10_sendOne 154 = .ok (.if_icmp .ge 37, 3) := by decide +kernel
theorem dX10_sendOne_157 : decode cX10_sendOne 157 = .ok (.aload_n 0, 1) := by decide +kernel
theorem dX10_sendOne_158 : decode cX10_sendOne 158 = .ok (.getfield 7, 3) := by decide +kernel
theorem dX10_sendOne_161 : decode cX10_sendOne 161 = .ok (.iload_n 1, 1) := by decide +kernel
theorem dX10_sendOne_162 : decode cX10_sendOne 162 = .ok (.iload_n 3, 1) := by decide +kernel
theorem dX10_sendOne_163 : decode cX10_sendOne 163 = .ok (.invokestatic 95, 3) := by decide +kernel
theorem dX10_sendOne_166 : decode cX10_sendOne 166 = .ok (.iload 4, 2) := by decide +kernel
theorem dX10_sendOne_168 : decode cX10_sendOne 168 = .ok (.iadd, 1) := by decide +kernel
theorem dX10_sendOne_169 : decode cX10_sendOne 169 = .ok (.aload_n 0, 1) := by decide +kernel
theorem dX10_sendOne_170 : decode cX10_sendOne 170 = .ok (.getfield 7, 3) := by decide +kernel
theorem dX10_sendOne_173 : decode cX10_sendOne 173 = .ok (.iload_n 1, 1) := by decide +kernel
theorem dX10_sendOne_174 : decode cX10_sendOne 174 = .ok (.iload_n 3, 1) := by decide +kernel
theorem dX10_sendOne_175 : decode cX10_sendOne 175 = .ok (.iconst 1, 1) := by decide +kernel
theorem dX10_sendOne_176 : decode cX10_sendOne 176 = .ok (.iadd, 1) := by decide +kernel
theorem dX10_sendOne_177 : decode cX10_sendOne 177 = .ok (.invokestatic 95, 3) := by decide +kernel
theorem dX10_sendOne_180 : decode cX10_sendOne 180 = .ok (.iload 4, 2) := by decide +kernel
theorem dX10_sendOne_182 : decode cX10_sendOne 182 = .ok (.iadd, 1) := by decide +kernel
theorem dX10_sendOne_183 : decode cX10_sendOne 183 = .ok (.iaload, 1) := by decide +kernel
theorem dX10_sendOne_184 : decode cX10_sendOne 184 = .ok (.iastore, 1) := by decide +kernel
theorem dX10_sendOne_185 : decode cX10_sendOne 185 = .ok (.iinc 4 1, 3) := by decide +kernel
theorem dX10_sendOne_188 : decode cX10_sendOne 188 = .ok (.goto (-38), 3) := by decide +kernel
theorem dX10_sendOne_191 : decode cX10_sendOne 191 = .ok (.iinc 3 1, 3) := by decide +kernel
theorem dX10_sendOne_194 : decode cX10_sendOne 194 = .ok (.goto (-61), 3) := by decide +kernel
theorem dX10_sendOne_197 : decode cX10_sendOne 197 = .ok (.aload_n 0, 1) := by decide +kernel
theorem dX10_sendOne_198 : decode cX10_sendOne 198 = .ok (.iconst 0, 1) := by decide +kernel
theorem dX10_sendOne_199 : decode cX10_sendOne 199 = .ok (.iload_n 1, 1) := by decide +kernel
theorem dX10_sendOne_200 : decode cX10_sendOne 200 = .ok (.invokevirtual 119, 3) := by decide +kernel
theorem dX10_sendOne_203 : decode cX10_sendOne 203 = .ok (.return_, 1) := by decide +kernel
theorem dX10_hearsFrom_0 : decode cX10_hearsFrom 0 = .ok (.iconst 0, 1) := by decide +kernel
theorem dX10_hearsFrom_1 : decode cX10_hearsFrom 1 = .ok (.istore_n 2, 1) := by decide +kernel
theorem dX10_hearsFrom_2 : decode cX10_hearsFrom 2 = .ok (.bipush (-6), 2) := by decide +kernel
theorem dX10_hearsFrom_4 : decode cX10_hearsFrom 4 = .ok (.istore_n 3, 1) := by decide +kernel
theorem dX10_hearsFrom_5 : decode cX10_hearsFrom 5 = .ok (.iconst 0, 1) := by decide +kernel
theorem dX10_hearsFrom_6 : decode cX10_hearsFrom 6 = .ok (.istore 4, 2) := by decide +kernel
theorem dX10_hearsFrom_8 : decode cX10_hearsFrom 8 = .ok (.iload 4, 2) := by decide +kernel
theorem dX10_hearsFrom_10 : decode cX10_hearsFrom 10 = .ok (.bipush 6, 2) := by decide +kernel
theorem dX10_hearsFrom_12 : decode cX10_hearsFrom 12 = .ok (.if_icmp .ge 35, 3) := by decide +kernel
theorem dX10_hearsFrom_15 : decode cX10_hearsFrom 15 = .ok (.aload_n 0, 1) := by decide +kernel
theorem dX10_hearsFrom_16 : decode cX10_hearsFrom 16 = .ok (.getfield 29, 3) := by decide +kernel
theorem dX10_hearsFrom_19 : decode cX10_hearsFrom 19 = .ok (.iload 4, 2) := by decide +kernel
theorem dX10_hearsFrom_21 : decode cX10_hearsFrom 21 = .ok (.baload, 1) := by decide +kernel
theorem dX10_hearsFrom_22 : decode cX10_hearsFrom 22 = .ok (.ifCond .eq 19, 3) := by decide +kernel
theorem dX10_hearsFrom_25 : decode cX10_hearsFrom 25 = .ok (.aload_n 0, 1) := by decide +kernel
theorem dX10_hearsFrom_26 : decode cX10_hearsFrom 26 = .ok (.iload_n 1, 1) := by decide +kernel
theorem dX10_hearsFrom_27 : decode cX10_hearsFrom 27 = .ok (.iload 4, 2) := by decide +kernel
theorem dX10_hearsFrom_29 : decode cX10_hearsFrom 29 = .ok (.invokevirtual 91, 3) := by decide +kernel
theorem dX10_hearsFrom_32 : decode cX10_hearsFrom 32 = .ok (.ifCond .eq 9, 3) := by decide +kernel
theorem dX10_hearsFrom_35 : decode cX10_hearsFrom 35 = .ok (.iload 4, 2) := by decide +kernel
theorem dX10_hearsFrom_37 : decode cX10_hearsFrom 37 = .ok (.istore_n 3, 1) := by decide +kernel
theorem dX10_hearsFrom_38 : decode cX10_hearsFrom 38 = .ok (.iinc 2 1, 3) := by decide +kernel
theorem dX10_hearsFrom_41 : decode cX10_hearsFrom 41 = .ok (.iinc 4 1, 3) := by decide +kernel
theorem dX10_hearsFrom_44 : decode cX10_hearsFrom 44 = .ok (.goto (-36), 3) := by decide +kernel
theorem dX10_hearsFrom_47 : decode cX10_hearsFrom 47 = .ok (.iload_n 2, 1) := by decide +kernel
theorem dX10_hearsFrom_48 : decode cX10_hearsFrom 48 = .ok (.iconst 1, 1) := by decide +kernel
theorem dX10_hearsFrom_49 : decode cX10_hearsFrom 49 = .ok (.if_icmp .le 10, 3) := by decide +kernel
theorem dX10_hearsFrom_52 : decode cX10_hearsFrom 52 = .ok (.aload_n 0, 1) := by decide +kernel
theorem dX10_hearsFrom_53 : decode cX10_hearsFrom 53 = .ok (.bipush 7, 2) := by decide +kernel
theorem dX10_hearsFrom_55 : decode cX10_hearsFrom 55 = .ok (.iload_n 1, 1) := by decide +kernel
theorem dX10_hearsFrom_56 : decode cX10_hearsFrom 56 = .ok (.invokevirtual 119, 3) := by decide +kernel
theorem dX10_hearsFrom_59 : decode cX10_hearsFrom 59 = .ok (.iload_n 2, 1) := by decide +kernel
theorem dX10_hearsFrom_60 : decode cX10_hearsFrom 60 = .ok (.iconst 1, 1) := by decide +kernel
theorem dX10_hearsFrom_61 : decode cX10_hearsFrom 61 = .ok (.if_icmp .ne 7, 3) := by decide +kernel
theorem dX10_hearsFrom_64 : decode cX10_hearsFrom 64 = .ok (.iload_n 3, 1) := by decide +kernel
theorem dX10_hearsFrom_65 : decode cX10_hearsFrom 65 = .ok (.goto 5, 3) := by decide +kernel
theorem dX10_hearsFrom_68 : decode cX10_hearsFrom 68 = .ok (.bipush (-6), 2) := by decide +kernel
theorem dX10_hearsFrom_70 : decode cX10_hearsFrom 70 = .ok (.ireturn, 1) := by decide +kernel
theorem dX10_tick_0 : decode cX10_tick 0 = .ok (.iconst 0, 1) := by decide +kernel
theorem dX10_tick_1 : decode cX10_tick 1 = .ok (.istore_n 1, 1) := by decide +kernel
theorem dX10_tick_2 : decode cX10_tick 2 = .ok (.iload_n 1, 1) := by decide +kernel
theorem dX10_tick_3 : decode cX10_tick 3 = .ok (.bipush 6, 2) := by decide +kernel
theorem dX10_tick_5 : decode cX10_tick 5 = .ok (.if_icmp .ge 14, 3) := by decide +kernel
theorem dX10_tick_8 : decode cX10_tick 8 = .ok (.aload_n 0, 1) := by decide +kernel
theorem dX10_tick_9 : decode cX10_tick 9 = .ok (.iload_n 1, 1) := by decide +kernel
theorem dX10_tick_10 : decode cX10_tick 10 = .ok (.invokevirtual 122, 3) := by decide +kernel
theorem dX10_tick_13 : decode cX10_tick 13 = .ok (.iinc 1 1, 3) := by decide +kernel
theorem dX10_tick_16 : decode cX10_tick 16 = .ok (.goto (-14), 3) := by decide +kernel
theorem dX10_tick_19 : decode cX10_tick 19 = .ok (.iconst 0, 1) := by decide +kernel
theorem dX10_tick_20 : decode cX10_tick 20 = .ok (.istore_n 1, 1) := by decide +kernel
theorem dX10_tick_21 : decode cX10_tick 21 = .ok (.iload_n 1, 1) := by decide +kernel
theorem dX10_tick_22 : decode cX10_tick 22 = .ok (.bipush 6, 2) := by decide +kernel
theorem dX10_tick_24 : decode cX10_tick 24 = .ok (.if_icmp .ge 34, 3) := by decide +kernel
theorem dX10_tick_27 : decode cX10_tick 27 = .ok (.aload_n 0, 1) := by decide +kernel
theorem dX10_tick_28 : decode cX10_tick 28 = .ok (.getfield 32, 3) := by decide +kernel
theorem dX10_tick_31 : decode cX10_tick 31 = .ok (.iload_n 1, 1) := by decide +kernel
theorem dX10_tick_32 : decode cX10_tick 32 = .ok (.aload_n 0, 1) := by decide +kernel
theorem dX10_tick_33 : decode cX10_tick 33 = .ok (.getfield 29, 3) := by decide +kernel
theorem dX10_tick_36 : decode cX10_tick 36 = .ok (.iload_n 1, 1) := by decide +kernel
theorem dX10_tick_37 : decode cX10_tick 37 = .ok (.baload, 1) := by decide +kernel
theorem dX10_tick_38 : decode cX10_tick 38 = .ok (.ifCond .eq 8, 3) := by decide +kernel
theorem dX10_tick_41 : decode cX10_tick 41 = .ok (.bipush (-6), 2) := by decide +kernel
theorem dX10_tick_43 : decode cX10_tick 43 = .ok (.goto 8, 3) := by decide +kernel
theorem dX10_tick_46 : decode cX10_tick 46 = .ok (.aload_n 0, 1) := by decide +kernel
theorem dX10_tick_47 : decode cX10_tick 47 = .ok (.iload_n 1, 1) := by decide +kernel
theorem dX10_tick_48 : decode cX10_tick 48 = .ok (.invokevirtual 125, 3) := by decide +kernel
theorem dX10_tick_51 : decode cX10_tick 51 = .ok (.iastore, 1) := by decide +kernel
theorem dX10_tick_52 : decode cX10_tick 52 = .ok (.iinc 1 1, 3) := by decide +kernel
theorem dX10_tick_55 : decode cX10_tick 55 = .ok (.goto (-34), 3) := by decide +kernel
theorem dX10_tick_58 : decode cX10_tick 58 = .ok (.iconst 0, 1) := by decide +kernel
theorem dX10_tick_59 : decode cX10_tick 59 = .ok (.istore_n 1, 1) := by decide +kernel
theorem dX10_tick_60 : decode cX10_tick 60 = .ok (.iload_n 1, 1) := by decide +kernel
theorem dX10_tick_61 : decode cX10_tick 61 = .ok (.bipush 6, 2) := by decide +kernel
theorem dX10_tick_63 : decode cX10_tick 63 = .ok (.if_icmp .ge 29, 3) := by decide +kernel
theorem dX10_tick_66 : decode cX10_tick 66 = .ok (.aload_n 0, 1) := by decide +kernel
theorem dX10_tick_67 : decode cX10_tick 67 = .ok (.getfield 32, 3) := by decide +kernel
theorem dX10_tick_70 : decode cX10_tick 70 = .ok (.iload_n 1, 1) := by decide +kernel
theorem dX10_tick_71 : decode cX10_tick 71 = .ok (.iaload, 1) := by decide +kernel
theorem dX10_tick_72 : decode cX10_tick 72 = .ok (.ifCond .lt 14, 3) := by decide +kernel
theorem dX10_tick_75 : decode cX10_tick 75 = .ok (.aload_n 0, 1) := by decide +kernel
theorem dX10_tick_76 : decode cX10_tick 76 = .ok (.iload_n 1, 1) := by decide +kernel
theorem dX10_tick_77 : decode cX10_tick 77 = .ok (.aload_n 0, 1) := by decide +kernel
theorem dX10_tick_78 : decode cX10_tick 78 = .ok (.getfield 32, 3) := by decide +kernel
theorem dX10_tick_81 : decode cX10_tick 81 = .ok (.iload_n 1, 1) := by decide +kernel
theorem dX10_tick_82 : decode cX10_tick 82 = .ok (.iaload, 1) := by decide +kernel
theorem dX10_tick_83 : decode cX10_tick 83 = .ok (.invokevirtual 129, 3) := by decide +kernel
theorem dX10_tick_86 : decode cX10_tick 86 = .ok (.iinc 1 1, 3) := by decide +kernel
theorem dX10_tick_89 : decode cX10_tick 89 = .ok (.goto (-29), 3) := by decide +kernel
theorem dX10_tick_92 : decode cX10_tick 92 = .ok (.aload_n 0, 1) := by decide +kernel
theorem dX10_tick_93 : decode cX10_tick 93 = .ok (.getfield 7, 3) := by decide +kernel
theorem dX10_tick_96 : decode cX10_tick 96 = .ok (.sipush 1386, 3) := by decide +kernel
theorem dX10_tick_99 : decode cX10_tick 99 = .ok (.dup2, 1) := by decide +kernel
theorem dX10_tick_100 : decode cX10_tick 100 = .ok (.iaload, 1) := by decide +kernel
theorem dX10_tick_101 : decode cX10_tick 101 = .ok (.iconst 1, 1) := by decide +kernel
theorem dX10_tick_102 : decode cX10_tick 102 = .ok (.iadd, 1) := by decide +kernel
theorem dX10_tick_103 : decode cX10_tick 103 = .ok (.iastore, 1) := by decide +kernel
theorem dX10_tick_104 : decode cX10_tick 104 = .ok (.return_, 1) := by decide +kernel
theorem dX10_hear_0 : decode cX10_hear 0 = .ok (.aload_n 0, 1) := by decide +kernel
theorem dX10_hear_1 : decode cX10_hear 1 = .ok (.iconst 1, 1) := by decide +kernel
theorem dX10_hear_2 : decode cX10_hear 2 = .ok (.iload_n 1, 1) := by decide +kernel
theorem dX10_hear_3 : decode cX10_hear 3 = .ok (.invokevirtual 119, 3) := by decide +kernel
theorem dX10_hear_6 : decode cX10_hear 6 = .ok (.iconst 0, 1) := by decide +kernel
theorem dX10_hear_7 : decode cX10_hear 7 = .ok (.istore_n 3, 1) := by decide +kernel
theorem dX10_hear_8 : decode cX10_hear 8 = .ok (.iload_n 3, 1) := by decide +kernel
theorem dX10_hear_9 : decode cX10_hear 9 = .ok (.bipush 11, 2) := by decide +kernel
theorem dX10_hear_11 : decode cX10_hear 11 = .ok (.if_icmp .ge 47, 3) := by decide +kernel
theorem dX10_hear_14 : decode cX10_hear 14 = .ok (.aload_n 0, 1) := by decide +kernel
theorem dX10_hear_15 : decode cX10_hear 15 = .ok (.getfield 23, 3) := by decide +kernel
theorem dX10_hear_18 : decode cX10_hear 18 = .ok (.iload_n 3, 1) := by decide +kernel
theorem dX10_hear_19 : decode cX10_hear 19 = .ok (.aload_n 0, 1) := by decide +kernel
theorem dX10_hear_20 : decode cX10_hear 20 = .ok (.getfield 26, 3) := by decide +kernel
theorem dX10_hear_23 : decode cX10_hear 23 = .ok (.bipush 11, 2) := by decide +kernel
theorem dX10_hear_25 : decode cX10_hear 25 = .ok (.iload_n 2, 1) := by decide +kernel
theorem dX10_hear_26 : decode cX10_hear 26 = .ok (.imul, 1) := by decide +kernel
theorem dX10_hear_27 : decode cX10_hear 27 = .ok (.iload_n 3, 1) := by decide +kernel
theorem dX10_hear_28 : decode cX10_hear 28 = .ok (.iadd, 1) := by decide +kernel
theorem dX10_hear_29 : decode cX10_hear 29 = .ok (.iaload, 1) := by decide +kernel
theorem dX10_hear_30 : decode cX10_hear 30 = .ok (.iastore, 1) := by decide +kernel
theorem dX10_hear_31 : decode cX10_hear 31 = .ok (.aload_n 0, 1) := by decide +kernel
theorem dX10_hear_32 : decode cX10_hear 32 = .ok (.getfield 7, 3) := by decide +kernel
theorem dX10_hear_35 : decode cX10_hear 35 = .ok (.sipush 1314, 3) := by decide +kernel
theorem dX10_hear_38 : decode cX10_hear 38 = .ok (.bipush 11, 2) := by decide +kernel
theorem dX10_hear_40 : decode cX10_hear 40 = .ok (.iload_n 1, 1) := by decide +kernel
theorem dX10_hear_41 : decode cX10_hear 41 = .ok (.imul, 1) := by decide +kernel
theorem dX10_hear_42 : decode cX10_hear 42 = .ok (.iadd, 1) := by decide +kernel
theorem dX10_hear_43 : decode cX10_hear 43 = .ok (.iload_n 3, 1) := by decide +kernel
theorem dX10_hear_44 : decode cX10_hear 44 = .ok (.iadd, 1) := by decide +kernel
theorem dX10_hear_45 : decode cX10_hear 45 = .ok (.aload_n 0, 1) := by decide +kernel
theorem dX10_hear_46 : decode cX10_hear 46 = .ok (.getfield 23, 3) := by decide +kernel
theorem dX10_hear_49 : decode cX10_hear 49 = .ok (.iload_n 3, 1) := by decide +kernel
theorem dX10_hear_50 : decode cX10_hear 50 = .ok (.iaload, 1) := by decide +kernel
theorem dX10_hear_51 : decode cX10_hear 51 = .ok (.iastore, 1) := by decide +kernel
theorem dX10_hear_52 : decode cX10_hear 52 = .ok (.iinc 3 1, 3) := by decide +kernel
theorem dX10_hear_55 : decode cX10_hear 55 = .ok (.goto (-47), 3) := by decide +kernel
theorem dX10_hear_58 : decode cX10_hear 58 = .ok (.aload_n 0, 1) := by decide +kernel
theorem dX10_hear_59 : decode cX10_hear 59 = .ok (.getfield 7, 3) := by decide +kernel
theorem dX10_hear_62 : decode cX10_hear 62 = .ok (.sipush 1380, 3) := by decide +kernel
theorem dX10_hear_65 : decode cX10_hear 65 = .ok (.iload_n 1, 1) := by decide +kernel
theorem dX10_hear_66 : decode cX10_hear 66 = .ok (.iadd, 1) := by decide +kernel
theorem dX10_hear_67 : decode cX10_hear 67 = .ok (.aload_n 0, 1) := by decide +kernel
theorem dX10_hear_68 : decode cX10_hear 68 = .ok (.getfield 7, 3) := by decide +kernel
theorem dX10_hear_71 : decode cX10_hear 71 = .ok (.sipush 1386, 3) := by decide +kernel
theorem dX10_hear_74 : decode cX10_hear 74 = .ok (.iaload, 1) := by decide +kernel
theorem dX10_hear_75 : decode cX10_hear 75 = .ok (.iastore, 1) := by decide +kernel
theorem dX10_hear_76 : decode cX10_hear 76 = .ok (.aload_n 0, 1) := by decide +kernel
theorem dX10_hear_77 : decode cX10_hear 77 = .ok (.getfield 35, 3) := by decide +kernel
theorem dX10_hear_80 : decode cX10_hear 80 = .ok (.iload_n 1, 1) := by decide +kernel
theorem dX10_hear_81 : decode cX10_hear 81 = .ok (.aload_n 0, 1) := by decide +kernel
theorem dX10_hear_82 : decode cX10_hear 82 = .ok (.getfield 35, 3) := by decide +kernel
theorem dX10_hear_85 : decode cX10_hear 85 = .ok (.iload_n 1, 1) := by decide +kernel
theorem dX10_hear_86 : decode cX10_hear 86 = .ok (.iaload, 1) := by decide +kernel
theorem dX10_hear_87 : decode cX10_hear 87 = .ok (.ifCond .ge 14, 3) := by decide +kernel
theorem dX10_hear_90 : decode cX10_hear 90 = .ok (.aload_n 0, 1) := by decide +kernel
theorem dX10_hear_91 : decode cX10_hear 91 = .ok (.getfield 7, 3) := by decide +kernel
theorem dX10_hear_94 : decode cX10_hear 94 = .ok (.sipush 1386, 3) := by decide +kernel
theorem dX10_hear_97 : decode cX10_hear 97 = .ok (.iaload, 1) := by decide +kernel
theorem dX10_hear_98 : decode cX10_hear 98 = .ok (.goto 9, 3) := by decide +kernel
theorem dX10_hear_101 : decode cX10_hear 101 = .ok (.aload_n 0, 1) := by decide +kernel
theorem dX10_hear_102 : decode cX10_hear 102 = .ok (.getfield 35, 3) := by decide +kernel
theorem dX10_hear_105 : decode cX10_hear 105 = .ok (.iload_n 1, 1) := by decide +kernel
theorem dX10_hear_106 : decode cX10_hear 106 = .ok (.iaload, 1) := by decide +kernel
theorem dX10_hear_107 : decode cX10_hear 107 = .ok (.iastore, 1) := by decide +kernel
theorem dX10_hear_108 : decode cX10_hear 108 = .ok (.aload_n 0, 1) := by decide +kernel
theorem dX10_hear_109 : decode cX10_hear 109 = .ok (.getfield 7, 3) := by decide +kernel
theorem dX10_hear_112 : decode cX10_hear 112 = .ok (.sipush 1020, 3) := by decide +kernel
theorem dX10_hear_115 : decode cX10_hear 115 = .ok (.iload_n 1, 1) := by decide +kernel
theorem dX10_hear_116 : decode cX10_hear 116 = .ok (.iadd, 1) := by decide +kernel
theorem dX10_hear_117 : decode cX10_hear 117 = .ok (.iaload, 1) := by decide +kernel
theorem dX10_hear_118 : decode cX10_hear 118 = .ok (.iconst 1, 1) := by decide +kernel
theorem dX10_hear_119 : decode cX10_hear 119 = .ok (.isub, 1) := by decide +kernel
theorem dX10_hear_120 : decode cX10_hear 120 = .ok (.istore_n 3, 1) := by decide +kernel
theorem dX10_hear_121 : decode cX10_hear 121 = .ok (.iload_n 3, 1) := by decide +kernel
theorem dX10_hear_122 : decode cX10_hear 122 = .ok (.ifCond .lt 48, 3) := by decide +kernel
theorem dX10_hear_125 : decode cX10_hear 125 = .ok (.aload_n 0, 1) := by decide +kernel
theorem dX10_hear_126 : decode cX10_hear 126 = .ok (.getfield 7, 3) := by decide +kernel
theorem dX10_hear_129 : decode cX10_hear 129 = .ok (.sipush 1386, 3) := by decide +kernel
theorem dX10_hear_132 : decode cX10_hear 132 = .ok (.iaload, 1) := by decide +kernel
theorem dX10_hear_133 : decode cX10_hear 133 = .ok (.aload_n 0, 1) := by decide +kernel
theorem dX10_hear_134 : decode cX10_hear 134 = .ok (.getfield 7, 3) := by decide +kernel
theorem dX10_hear_137 : decode cX10_hear 137 = .ok (.iload_n 1, 1) := by decide +kernel
theorem dX10_hear_138 : decode cX10_hear 138 = .ok (.iload_n 3, 1) := by decide +kernel
theorem dX10_hear_139 : decode cX10_hear 139 = .ok (.invokestatic 98, 3) := by decide +kernel
theorem dX10_hear_142 : decode cX10_hear 142 = .ok (.iconst 2, 1) := by decide +kernel
theorem dX10_hear_143 : decode cX10_hear 143 = .ok (.iadd, 1) := by decide +kernel
theorem dX10_hear_144 : decode cX10_hear 144 = .ok (.iaload, 1) := by decide +kernel
theorem dX10_hear_145 : decode cX10_hear 145 = .ok (.isub, 1) := by decide +kernel
theorem dX10_hear_146 : decode cX10_hear 146 = .ok (.aload_n 0, 1) := by decide +kernel
theorem dX10_hear_147 : decode cX10_hear 147 = .ok (.getfield 7, 3) := by decide +kernel
theorem dX10_hear_150 : decode cX10_hear 150 = .ok (.bipush 54, 2) := by decide +kernel
theorem dX10_hear_152 : decode cX10_hear 152 = .ok (.iload_n 1, 1) := by decide +kernel
theorem dX10_hear_153 : decode cX10_hear 153 = .ok (.iadd, 1) := by decide +kernel
theorem dX10_hear_154 : decode cX10_hear 154 = .ok (.iaload, 1) := by decide +kernel
theorem dX10_hear_155 : decode cX10_hear 155 = .ok (.if_icmp .le 9, 3) := by decide +kernel
theorem dX10_hear_158 : decode cX10_hear 158 = .ok (.aload_n 0, 1) := by decide +kernel
theorem dX10_hear_159 : decode cX10_hear 159 = .ok (.iload_n 1, 1) := by decide +kernel
theorem dX10_hear_160 : decode cX10_hear 160 = .ok (.iload_n 3, 1) := by decide +kernel
theorem dX10_hear_161 : decode cX10_hear 161 = .ok (.invokevirtual 101, 3) := by decide +kernel
theorem dX10_hear_164 : decode cX10_hear 164 = .ok (.iinc 3 (-1), 3) := by decide +kernel
theorem dX10_hear_167 : decode cX10_hear 167 = .ok (.goto (-46), 3) := by decide +kernel
theorem dX10_hear_170 : decode cX10_hear 170 = .ok (.aload_n 0, 1) := by decide +kernel
theorem dX10_hear_171 : decode cX10_hear 171 = .ok (.iload_n 1, 1) := by decide +kernel
theorem dX10_hear_172 : decode cX10_hear 172 = .ok (.invokevirtual 132, 3) := by decide +kernel
theorem dX10_hear_175 : decode cX10_hear 175 = .ok (.return_, 1) := by decide +kernel
theorem dX10_isSpent_0 : decode cX10_isSpent 0 = .ok (.iload_n 0, 1) := by decide +kernel
theorem dX10_isSpent_1 : decode cX10_isSpent 1 = .ok (.iconst 2, 1) := by decide +kernel
theorem dX10_isSpent_2 : decode cX10_isSpent 2 = .ok (.irem, 1) := by decide +kernel
theorem dX10_isSpent_3 : decode cX10_isSpent 3 = .ok (.iconst 1, 1) := by decide +kernel
theorem dX10_isSpent_4 : decode cX10_isSpent 4 = .ok (.if_icmp .ne 7, 3) := by decide +kernel
theorem dX10_isSpent_7 : decode cX10_isSpent 7 = .ok (.iconst 1, 1) := by decide +kernel
theorem dX10_isSpent_8 : decode cX10_isSpent 8 = .ok (.goto 4, 3) := by decide +kernel
theorem dX10_isSpent_11 : decode cX10_isSpent 11 = .ok (.iconst 0, 1) := by decide +kernel
theorem dX10_isSpent_12 : decode cX10_isSpent 12 = .ok (.ireturn, 1) := by decide +kernel
theorem dX10_hopsOf_0 : decode cX10_hopsOf 0 = .ok (.iload_n 0, 1) := by decide +kernel
theorem dX10_hopsOf_1 : decode cX10_hopsOf 1 = .ok (.iconst 2, 1) := by decide +kernel
theorem dX10_hopsOf_2 : decode cX10_hopsOf 2 = .ok (.idiv, 1) := by decide +kernel
theorem dX10_hopsOf_3 : decode cX10_hopsOf 3 = .ok (.bipush 8, 2) := by decide +kernel
theorem dX10_hopsOf_5 : decode cX10_hopsOf 5 = .ok (.irem, 1) := by decide +kernel
theorem dX10_hopsOf_6 : decode cX10_hopsOf 6 = .ok (.ireturn, 1) := by decide +kernel
theorem dX10_isOwn_0 : decode cX10_isOwn 0 = .ok (.aload_n 0, 1) := by decide +kernel
theorem dX10_isOwn_1 : decode cX10_isOwn 1 = .ok (.getfield 23, 3) := by decide +kernel
theorem dX10_isOwn_4 : decode cX10_isOwn 4 = .ok (.iconst 0, 1) := by decide +kernel
theorem dX10_isOwn_5 : decode cX10_isOwn 5 = .ok (.iaload, 1) := by decide +kernel
theorem dX10_isOwn_6 : decode cX10_isOwn 6 = .ok (.aload_n 0, 1) := by decide +kernel
theorem dX10_isOwn_7 : decode cX10_isOwn 7 = .ok (.getfield 7, 3) := by decide +kernel
theorem dX10_isOwn_10 : decode cX10_isOwn 10 = .ok (.iconst 0, 1) := by decide +kernel
theorem dX10_isOwn_11 : decode cX10_isOwn 11 = .ok (.iload_n 1, 1) := by decide +kernel
theorem dX10_isOwn_12 : decode cX10_isOwn 12 = .ok (.iadd, 1) := by decide +kernel
theorem dX10_isOwn_13 : decode cX10_isOwn 13 = .ok (.iaload, 1) := by decide +kernel
theorem dX10_isOwn_14 : decode cX10_isOwn 14 = .ok (.if_icmp .ne 7, 3) := by decide +kernel
theorem dX10_isOwn_17 : decode cX10_isOwn 17 = .ok (.iconst 1, 1) := by decide +kernel
theorem dX10_isOwn_18 : decode cX10_isOwn 18 = .ok (.goto 4, 3) := by decide +kernel
theorem dX10_isOwn_21 : decode cX10_isOwn 21 = .ok (.iconst 0, 1) := by decide +kernel
theorem dX10_isOwn_22 : decode cX10_isOwn 22 = .ok (.istore_n 2, 1) := by decide +kernel
theorem dX10_isOwn_23 : decode cX10_isOwn 23 = .ok (.iconst 0, 1) := by decide +kernel
theorem dX10_isOwn_24 : decode cX10_isOwn 24 = .ok (.istore_n 3, 1) := by decide +kernel
theorem dX10_isOwn_25 : decode cX10_isOwn 25 = .ok (.iload_n 3, 1) := by decide +kernel
theorem dX10_isOwn_26 : decode cX10_isOwn 26 = .ok (.aload_n 0, 1) := by decide +kernel
theorem dX10_isOwn_27 : decode cX10_isOwn 27 = .ok (.getfield 23, 3) := by decide +kernel
theorem dX10_isOwn_30 : decode cX10_isOwn 30 = .ok (.iconst 2, 1) := by decide +kernel
theorem dX10_isOwn_31 : decode cX10_isOwn 31 = .ok (.iaload, 1) := by decide +kernel
theorem dX10_isOwn_32 : decode cX10_isOwn 32 = .ok (.if_icmp .ge 55, 3) := by decide +kernel
theorem dX10_isOwn_35 : decode cX10_isOwn 35 = .ok (.iload_n 2, 1) := by decide +kernel
theorem dX10_isOwn_36 : decode cX10_isOwn 36 = .ok (.ifCond .ne 39, 3) := by decide +kernel
theorem dX10_isOwn_39 : decode cX10_isOwn 39 = .ok (.aload_n 0, 1) := by decide +kernel
theorem dX10_isOwn_40 : decode cX10_isOwn 40 = .ok (.getfield 23, 3) := by decide +kernel
theorem dX10_isOwn_43 : decode cX10_isOwn 43 = .ok (.iconst 3, 1) := by decide +kernel
theorem dX10_isOwn_44 : decode cX10_isOwn 44 = .ok (.iload_n 3, 1) := by decide +kernel
theorem dX10_isOwn_45 : decode cX10_isOwn 45 = .ok (.iadd, 1) := by decide +kernel
theorem dX10_isOwn_46 : decode cX10_isOwn 46 = .ok (.iaload, 1) := by decide +kernel
theorem dX10_isOwn_47 : decode cX10_isOwn 47 = .ok (.invokestatic 135, 3) := by decide +kernel
theorem dX10_isOwn_50 : decode cX10_isOwn 50 = .ok (.ifCond .eq 29, 3) := by decide +kernel
theorem dX10_isOwn_53 : decode cX10_isOwn 53 = .ok (.aload_n 0, 1) := by decide +kernel
theorem dX10_isOwn_54 : decode cX10_isOwn 54 = .ok (.getfield 23, 3) := by decide +kernel
theorem dX10_isOwn_57 : decode cX10_isOwn 57 = .ok (.iconst 3, 1) := by decide +kernel
theorem dX10_isOwn_58 : decode cX10_isOwn 58 = .ok (.iload_n 3, 1) := by decide +kernel
theorem dX10_isOwn_59 : decode cX10_isOwn 59 = .ok (.iadd, 1) := by decide +kernel
theorem dX10_isOwn_60 : decode cX10_isOwn 60 = .ok (.iaload, 1) := by decide +kernel
theorem dX10_isOwn_61 : decode cX10_isOwn 61 = .ok (.bipush 16, 2) := by decide +kernel
theorem dX10_isOwn_63 : decode cX10_isOwn 63 = .ok (.idiv, 1) := by decide +kernel
theorem dX10_isOwn_64 : decode cX10_isOwn 64 = .ok (.aload_n 0, 1) := by decide +kernel
theorem dX10_isOwn_65 : decode cX10_isOwn 65 = .ok (.getfield 7, 3) := by decide +kernel
theorem dX10_isOwn_68 : decode cX10_isOwn 68 = .ok (.iconst 0, 1) := by decide +kernel
theorem dX10_isOwn_69 : decode cX10_isOwn 69 = .ok (.iload_n 1, 1) := by decide +kernel
theorem dX10_isOwn_70 : decode cX10_isOwn 70 = .ok (.iadd, 1) := by decide +kernel
theorem dX10_isOwn_71 : decode cX10_isOwn 71 = .ok (.iaload, 1) := by decide +kernel
theorem dX10_isOwn_72 : decode cX10_isOwn 72 = .ok (.if_icmp .ne 7, 3) := by decide +kernel
theorem dX10_isOwn_75 : decode cX10_isOwn 75 = .ok (.iconst 1, 1) := by decide +kernel
theorem dX10_isOwn_76 : decode cX10_isOwn 76 = .ok (.goto 4, 3) := by decide +kernel
theorem dX10_isOwn_79 : decode cX10_isOwn 79 = .ok (.iconst 0, 1) := by decide +kernel
theorem dX10_isOwn_80 : decode cX10_isOwn 80 = .ok (.istore_n 2, 1) := by decide +kernel
theorem dX10_isOwn_81 : decode cX10_isOwn 81 = .ok (.iinc 3 1, 3) := by decide +kernel
theorem dX10_isOwn_84 : decode cX10_isOwn 84 = .ok (.goto (-59), 3) := by decide +kernel
theorem dX10_isOwn_87 : decode cX10_isOwn 87 = .ok (.iload_n 2, 1) := by decide +kernel
theorem dX10_isOwn_88 : decode cX10_isOwn 88 = .ok (.ireturn, 1) := by decide +kernel
theorem dX10_look_0 : decode cX10_look 0 = .ok (.aload_n 0, 1) := by decide +kernel
theorem dX10_look_1 : decode cX10_look 1 = .ok (.iload_n 1, 1) := by decide +kernel
theorem dX10_look_2 : decode cX10_look 2 = .ok (.invokevirtual 138, 3) := by decide +kernel
theorem dX10_look_5 : decode cX10_look 5 = .ok (.ifCond .eq 10, 3) := by decide +kernel
theorem dX10_look_8 : decode cX10_look 8 = .ok (.aload_n 0, 1) := by decide +kernel
theorem dX10_look_9 : decode cX10_look 9 = .ok (.iconst 2, 1) := by decide +kernel
theorem dX10_look_10 : decode cX10_look 10 = .ok (.iload_n 1, 1) := by decide +kernel
theorem dX10_look_11 : decode cX10_look 11 = .ok (.invokevirtual 119, 3) := by decide +kernel
theorem dX10_look_14 : decode cX10_look 14 = .ok (.return_, 1) := by decide +kernel
theorem dX10_look_15 : decode cX10_look 15 = .ok (.aload_n 0, 1) := by decide +kernel
theorem dX10_look_16 : decode cX10_look 16 = .ok (.iload_n 1, 1) := by decide +kernel
theorem dX10_look_17 : decode cX10_look 17 = .ok (.aload_n 0, 1) := by decide +kernel
theorem dX10_look_18 : decode cX10_look 18 = .ok (.getfield 23, 3) := by decide +kernel
theorem dX10_look_21 : decode cX10_look 21 = .ok (.iconst 0, 1) := by decide +kernel
theorem dX10_look_22 : decode cX10_look 22 = .ok (.iaload, 1) := by decide +kernel
theorem dX10_look_23 : decode cX10_look 23 = .ok (.aload_n 0, 1) := by decide +kernel
theorem dX10_look_24 : decode cX10_look 24 = .ok (.getfield 23, 3) := by decide +kernel
theorem dX10_look_27 : decode cX10_look 27 = .ok (.iconst 1, 1) := by decide +kernel
theorem dX10_look_28 : decode cX10_look 28 = .ok (.iaload, 1) := by decide +kernel
theorem dX10_look_29 : decode cX10_look 29 = .ok (.invokevirtual 105, 3) := by decide +kernel
theorem dX10_look_32 : decode cX10_look 32 = .ok (.ifCond .lt 10, 3) := by decide +kernel
theorem dX10_look_35 : decode cX10_look 35 = .ok (.aload_n 0, 1) := by decide +kernel
theorem dX10_look_36 : decode cX10_look 36 = .ok (.iconst 3, 1) := by decide +kernel
theorem dX10_look_37 : decode cX10_look 37 = .ok (.iload_n 1, 1) := by decide +kernel
theorem dX10_look_38 : decode cX10_look 38 = .ok (.invokevirtual 119, 3) := by decide +kernel
theorem dX10_look_41 : decode cX10_look 41 = .ok (.return_, 1) := by decide +kernel
theorem dX10_look_42 : decode cX10_look 42 = .ok (.aload_n 0, 1) := by decide +kernel
theorem dX10_look_43 : decode cX10_look 43 = .ok (.iload_n 1, 1) := by decide +kernel
theorem dX10_look_44 : decode cX10_look 44 = .ok (.aload_n 0, 1) := by decide +kernel
theorem dX10_look_45 : decode cX10_look 45 = .ok (.getfield 23, 3) := by decide +kernel
theorem dX10_look_48 : decode cX10_look 48 = .ok (.iconst 0, 1) := by decide +kernel
theorem dX10_look_49 : decode cX10_look 49 = .ok (.iaload, 1) := by decide +kernel
theorem dX10_look_50 : decode cX10_look 50 = .ok (.aload_n 0, 1) := by decide +kernel
theorem dX10_look_51 : decode cX10_look 51 = .ok (.getfield 23, 3) := by decide +kernel
theorem dX10_look_54 : decode cX10_look 54 = .ok (.iconst 1, 1) := by decide +kernel
theorem dX10_look_55 : decode cX10_look 55 = .ok (.iaload, 1) := by decide +kernel
theorem dX10_look_56 : decode cX10_look 56 = .ok (.invokevirtual 109, 3) := by decide +kernel
theorem dX10_look_59 : decode cX10_look 59 = .ok (.iconst 0, 1) := by decide +kernel
theorem dX10_look_60 : decode cX10_look 60 = .ok (.istore_n 2, 1) := by decide +kernel
theorem dX10_look_61 : decode cX10_look 61 = .ok (.iload_n 2, 1) := by decide +kernel
theorem dX10_look_62 : decode cX10_look 62 = .ok (.aload_n 0, 1) := by decide +kernel
theorem dX10_look_63 : decode cX10_look 63 = .ok (.getfield 23, 3) := by decide +kernel
theorem dX10_look_66 : decode cX10_look 66 = .ok (.iconst 2, 1) := by decide +kernel
theorem dX10_look_67 : decode cX10_look 67 = .ok (.iaload, 1) := by decide +kernel
theorem dX10_look_68 : decode cX10_look 68 = .ok (.if_icmp .ge 23, 3) := by decide +kernel
theorem dX10_look_71 : decode cX10_look 71 = .ok (.aload_n 0, 1) := by decide +kernel
theorem dX10_look_72 : decode cX10_look 72 = .ok (.getfield 23, 3) := by decide +kernel
theorem dX10_look_75 : decode cX10_look 75 = .ok (.iconst 3, 1) := by decide +kernel
theorem dX10_look_76 : decode cX10_look 76 = .ok (.iload_n 2, 1) := by decide +kernel
theorem dX10_look_77 : decode cX10_look 77 = .ok (.iadd, 1) := by decide +kernel
theorem dX10_look_78 : decode cX10_look 78 = .ok (.iaload, 1) := by decide +kernel
theorem dX10_look_79 : decode cX10_look 79 = .ok (.invokestatic 135, 3) := by decide +kernel
theorem dX10_look_82 : decode cX10_look 82 = .ok (.ifCond .eq 9, 3) := by decide +kernel
theorem dX10_look_85 : decode cX10_look 85 = .ok (.iinc 2 1, 3) := by decide +kernel
theorem dX10_look_88 : decode cX10_look 88 = .ok (.goto (-27), 3) := by decide +kernel
theorem dX10_look_91 : decode cX10_look 91 = .ok (.iload_n 2, 1) := by decide +kernel
theorem dX10_look_92 : decode cX10_look 92 = .ok (.aload_n 0, 1) := by decide +kernel
theorem dX10_look_93 : decode cX10_look 93 = .ok (.getfield 23, 3) := by decide +kernel
theorem dX10_look_96 : decode cX10_look 96 = .ok (.iconst 2, 1) := by decide +kernel
theorem dX10_look_97 : decode cX10_look 97 = .ok (.iaload, 1) := by decide +kernel
theorem dX10_look_98 : decode cX10_look 98 = .ok (.if_icmp .ne 12, 3) := by decide +kernel
theorem dX10_look_101 : decode cX10_look 101 = .ok (.aload_n 0, 1) := by decide +kernel
theorem dX10_look_102 : decode cX10_look 102 = .ok (.iconst 4, 1) := by decide +kernel
theorem dX10_look_103 : decode cX10_look 103 = .ok (.iload_n 1, 1) := by decide +kernel
theorem dX10_look_104 : decode cX10_look 104 = .ok (.invokevirtual 119, 3) := by decide +kernel
theorem dX10_look_107 : decode cX10_look 107 = .ok (.goto 61, 3) := by decide +kernel
theorem dX10_look_110 : decode cX10_look 110 = .ok (.aload_n 0, 1) := by decide +kernel
theorem dX10_look_111 : decode cX10_look 111 = .ok (.iload_n 1, 1) := by decide +kernel
theorem dX10_look_112 : decode cX10_look 112 = .ok (.iload_n 2, 1) := by decide +kernel
theorem dX10_look_113 : decode cX10_look 113 = .ok (.invokevirtual 141, 3) := by decide +kernel
theorem dX10_look_116 : decode cX10_look 116 = .ok (.ifCond .eq 45, 3) := by decide +kernel
theorem dX10_look_119 : decode cX10_look 119 = .ok (.aload_n 0, 1) := by decide +kernel
theorem dX10_look_120 : decode cX10_look 120 = .ok (.iconst 5, 1) := by decide +kernel
theorem dX10_look_121 : decode cX10_look 121 = .ok (.iload_n 1, 1) := by decide +kernel
theorem dX10_look_122 : decode cX10_look 122 = .ok (.invokevirtual 119, 3) := by decide +kernel
theorem dX10_look_125 : decode cX10_look 125 = .ok (.aload_n 0, 1) := by decide +kernel
theorem dX10_look_126 : decode cX10_look 126 = .ok (.iload_n 1, 1) := by decide +kernel
theorem dX10_look_127 : decode cX10_look 127 = .ok (.aload_n 0, 1) := by decide +kernel
theorem dX10_look_128 : decode cX10_look 128 = .ok (.getfield 7, 3) := by decide +kernel
theorem dX10_look_131 : decode cX10_look 131 = .ok (.sipush 1386, 3) := by decide +kernel
theorem dX10_look_134 : decode cX10_look 134 = .ok (.iaload, 1) := by decide +kernel
theorem dX10_look_135 : decode cX10_look 135 = .ok (.aload_n 0, 1) := by decide +kernel
theorem dX10_look_136 : decode cX10_look 136 = .ok (.getfield 7, 3) := by decide +kernel
theorem dX10_look_139 : decode cX10_look 139 = .ok (.bipush 48, 2) := by decide +kernel
theorem dX10_look_141 : decode cX10_look 141 = .ok (.iload_n 1, 1) := by decide +kernel
theorem dX10_look_142 : decode cX10_look 142 = .ok (.iadd, 1) := by decide +kernel
theorem dX10_look_143 : decode cX10_look 143 = .ok (.iaload, 1) := by decide +kernel
theorem dX10_look_144 : decode cX10_look 144 = .ok (.iadd, 1) := by decide +kernel
theorem dX10_look_145 : decode cX10_look 145 = .ok (.invokevirtual 113, 3) := by decide +kernel
theorem dX10_look_148 : decode cX10_look 148 = .ok (.ifCond .ne 20, 3) := by decide +kernel
theorem dX10_look_151 : decode cX10_look 151 = .ok (.aload_n 0, 1) := by decide +kernel
theorem dX10_look_152 : decode cX10_look 152 = .ok (.bipush 8, 2) := by decide +kernel
theorem dX10_look_154 : decode cX10_look 154 = .ok (.iload_n 1, 1) := by decide +kernel
theorem dX10_look_155 : decode cX10_look 155 = .ok (.invokevirtual 119, 3) := by decide +kernel
theorem dX10_look_158 : decode cX10_look 158 = .ok (.goto 10, 3) := by decide +kernel
theorem dX10_look_161 : decode cX10_look 161 = .ok (.aload_n 0, 1) := by decide +kernel
theorem dX10_look_162 : decode cX10_look 162 = .ok (.bipush 6, 2) := by decide +kernel
theorem dX10_look_164 : decode cX10_look 164 = .ok (.iload_n 1, 1) := by decide +kernel
theorem dX10_look_165 : decode cX10_look 165 = .ok (.invokevirtual 119, 3) := by decide +kernel
theorem dX10_look_168 : decode cX10_look 168 = .ok (.return_, 1) := by decide +kernel
theorem dX10_isOf_0 : decode cX10_isOf 0 = .ok (.iconst 0, 1) := by decide +kernel
theorem dX10_isOf_1 : decode cX10_isOf 1 = .ok (.istore 5, 2) := by decide +kernel
theorem dX10_isOf_3 : decode cX10_isOf 3 = .ok (.iconst 0, 1) := by decide +kernel
theorem dX10_isOf_4 : decode cX10_isOf 4 = .ok (.istore 6, 2) := by decide +kernel
theorem dX10_isOf_6 : decode cX10_isOf 6 = .ok (.iload 6, 2) := by decide +kernel
theorem dX10_isOf_8 : decode cX10_isOf 8 = .ok (.aload_n 0, 1) := by decide +kernel
theorem dX10_isOf_9 : decode cX10_isOf 9 = .ok (.getfield 7, 3) := by decide +kernel
theorem dX10_isOf_12 : decode cX10_isOf 12 = .ok (.iload_n 3, 1) := by decide +kernel
theorem dX10_isOf_13 : decode cX10_isOf 13 = .ok (.iload 4, 2) := by decide +kernel
theorem dX10_isOf_15 : decode cX10_isOf 15 = .ok (.iadd, 1) := by decide +kernel
theorem dX10_isOf_16 : decode cX10_isOf 16 = .ok (.iaload, 1) := by decide +kernel
theorem dX10_isOf_17 : decode cX10_isOf 17 = .ok (.if_icmp .ge 39, 3) := by decide +kernel
theorem dX10_isOf_20 : decode cX10_isOf 20 = .ok (.iload 5, 2) := by decide +kernel
theorem dX10_isOf_22 : decode cX10_isOf 22 = .ok (.ifCond .ne 21, 3) := by decide +kernel
theorem dX10_isOf_25 : decode cX10_isOf 25 = .ok (.aload_n 0, 1) := by decide +kernel
theorem dX10_isOf_26 : decode cX10_isOf 26 = .ok (.getfield 7, 3) := by decide +kernel
theorem dX10_isOf_29 : decode cX10_isOf 29 = .ok (.iload_n 2, 1) := by decide +kernel
theorem dX10_isOf_30 : decode cX10_isOf 30 = .ok (.iconst 2, 1) := by decide +kernel
theorem dX10_isOf_31 : decode cX10_isOf 31 = .ok (.iload 4, 2) := by decide +kernel
theorem dX10_isOf_33 : decode cX10_isOf 33 = .ok (.imul, 1) := by decide +kernel
theorem dX10_isOf_34 : decode cX10_isOf 34 = .ok (.iadd, 1) := by decide +kernel
theorem dX10_isOf_35 : decode cX10_isOf 35 = .ok (.iload 6, 2) := by decide +kernel
theorem dX10_isOf_37 : decode cX10_isOf 37 = .ok (.iadd, 1) := by decide +kernel
theorem dX10_isOf_38 : decode cX10_isOf 38 = .ok (.iaload, 1) := by decide +kernel
theorem dX10_isOf_39 : decode cX10_isOf 39 = .ok (.iload_n 1, 1) := by decide +kernel
theorem dX10_isOf_40 : decode cX10_isOf 40 = .ok (.if_icmp .ne 7, 3) := by decide +kernel
theorem dX10_isOf_43 : decode cX10_isOf 43 = .ok (.iconst 1, 1) := by decide +kernel
theorem dX10_isOf_44 : decode cX10_isOf 44 = .ok (.goto 4, 3) := by decide +kernel
theorem dX10_isOf_47 : decode cX10_isOf 47 = .ok (.iconst 0, 1) := by decide +kernel
theorem dX10_isOf_48 : decode cX10_isOf 48 = .ok (.istore 5, 2) := by decide +kernel
theorem dX10_isOf_50 : decode cX10_isOf 50 = .ok (.iinc 6 1, 3) := by decide +kernel
theorem dX10_isOf_53 : decode cX10_isOf 53 = .ok (.goto (-47), 3) := by decide +kernel
theorem dX10_isOf_56 : decode cX10_isOf 56 = .ok (.iload 5, 2) := by decide +kernel
theorem dX10_isOf_58 : decode cX10_isOf 58 = .ok (.ireturn, 1) := by decide +kernel
theorem dX10_isFor_0 : decode cX10_isFor 0 = .ok (.aload_n 0, 1) := by decide +kernel
theorem dX10_isFor_1 : decode cX10_isFor 1 = .ok (.getfield 23, 3) := by decide +kernel
theorem dX10_isFor_4 : decode cX10_isFor 4 = .ok (.iconst 3, 1) := by decide +kernel
theorem dX10_isFor_5 : decode cX10_isFor 5 = .ok (.iload_n 2, 1) := by decide +kernel
theorem dX10_isFor_6 : decode cX10_isFor 6 = .ok (.iadd, 1) := by decide +kernel
theorem dX10_isFor_7 : decode cX10_isFor 7 = .ok (.iaload, 1) := by decide +kernel
theorem dX10_isFor_8 : decode cX10_isFor 8 = .ok (.bipush 16, 2) := by decide +kernel
theorem dX10_isFor_10 : decode cX10_isFor 10 = .ok (.idiv, 1) := by decide +kernel
theorem dX10_isFor_11 : decode cX10_isFor 11 = .ok (.istore_n 3, 1) := by decide +kernel
theorem dX10_isFor_12 : decode cX10_isFor 12 = .ok (.aload_n 0, 1) := by decide +kernel
theorem dX10_isFor_13 : decode cX10_isFor 13 = .ok (.getfield 23, 3) := by decide +kernel
theorem dX10_isFor_16 : decode cX10_isFor 16 = .ok (.iconst 3, 1) := by decide +kernel
theorem dX10_isFor_17 : decode cX10_isFor 17 = .ok (.iload_n 2, 1) := by decide +kernel
theorem dX10_isFor_18 : decode cX10_isFor 18 = .ok (.iadd, 1) := by decide +kernel
theorem dX10_isFor_19 : decode cX10_isFor 19 = .ok (.iaload, 1) := by decide +kernel
theorem dX10_isFor_20 : decode cX10_isFor 20 = .ok (.invokestatic 144, 3) := by decide +kernel
theorem dX10_isFor_23 : decode cX10_isFor 23 = .ok (.istore 4, 2) := by decide +kernel
theorem dX10_isFor_25 : decode cX10_isFor 25 = .ok (.bipush 16, 2) := by decide +kernel
theorem dX10_isFor_27 : decode cX10_isFor 27 = .ok (.aload_n 0, 1) := by decide +kernel
theorem dX10_isFor_28 : decode cX10_isFor 28 = .ok (.getfield 7, 3) := by decide +kernel
theorem dX10_isFor_31 : decode cX10_isFor 31 = .ok (.iconst 0, 1) := by decide +kernel
theorem dX10_isFor_32 : decode cX10_isFor 32 = .ok (.iload_n 1, 1) := by decide +kernel
theorem dX10_isFor_33 : decode cX10_isFor 33 = .ok (.iadd, 1) := by decide +kernel
theorem dX10_isFor_34 : decode cX10_isFor 34 = .ok (.iaload, 1) := by decide +kernel
theorem dX10_isFor_35 : decode cX10_isFor 35 = .ok (.imul, 1) := by decide +kernel
theorem dX10_isFor_36 : decode cX10_isFor 36 = .ok (.iconst 1, 1) := by decide +kernel
theorem dX10_isFor_37 : decode cX10_isFor 37 = .ok (.iadd, 1) := by decide +kernel
theorem dX10_isFor_38 : decode cX10_isFor 38 = .ok (.istore 5, 2) := by decide +kernel
theorem dX10_isFor_40 : decode cX10_isFor 40 = .ok (.iload_n 3, 1) := by decide +kernel
theorem dX10_isFor_41 : decode cX10_isFor 41 = .ok (.aload_n 0, 1) := by decide +kernel
theorem dX10_isFor_42 : decode cX10_isFor 42 = .ok (.getfield 7, 3) := by decide +kernel
theorem dX10_isFor_45 : decode cX10_isFor 45 = .ok (.iconst 0, 1) := by decide +kernel
theorem dX10_isFor_46 : decode cX10_isFor 46 = .ok (.iload_n 1, 1) := by decide +kernel
theorem dX10_isFor_47 : decode cX10_isFor 47 = .ok (.iadd, 1) := by decide +kernel
theorem dX10_isFor_48 : decode cX10_isFor 48 = .ok (.iaload, 1) := by decide +kernel
theorem dX10_isFor_49 : decode cX10_isFor 49 = .ok (.if_icmp .eq 21, 3) := by decide +kernel
theorem dX10_isFor_52 : decode cX10_isFor 52 = .ok (.iload 4, 2) := by decide +kernel
theorem dX10_isFor_54 : decode cX10_isFor 54 = .ok (.ifCond .ne 28, 3) := by decide +kernel
theorem dX10_isFor_57 : decode cX10_isFor 57 = .ok (.aload_n 0, 1) := by decide +kernel
theorem dX10_isFor_58 : decode cX10_isFor 58 = .ok (.iload_n 3, 1) := by decide +kernel
theorem dX10_isFor_59 : decode cX10_isFor 59 = .ok (.bipush 6, 2) := by decide +kernel
theorem dX10_isFor_61 : decode cX10_isFor 61 = .ok (.bipush 18, 2) := by decide +kernel
theorem dX10_isFor_63 : decode cX10_isFor 63 = .ok (.iload_n 1, 1) := by decide +kernel
theorem dX10_isFor_64 : decode cX10_isFor 64 = .ok (.invokevirtual 147, 3) := by decide +kernel
theorem dX10_isFor_67 : decode cX10_isFor 67 = .ok (.ifCond .eq 15, 3) := by decide +kernel
theorem dX10_isFor_70 : decode cX10_isFor 70 = .ok (.aload_n 0, 1) := by decide +kernel
theorem dX10_isFor_71 : decode cX10_isFor 71 = .ok (.getfield 23, 3) := by decide +kernel
theorem dX10_isFor_74 : decode cX10_isFor 74 = .ok (.iconst 3, 1) := by decide +kernel
theorem dX10_isFor_75 : decode cX10_isFor 75 = .ok (.iload_n 2, 1) := by decide +kernel
theorem dX10_isFor_76 : decode cX10_isFor 76 = .ok (.iadd, 1) := by decide +kernel
theorem dX10_isFor_77 : decode cX10_isFor 77 = .ok (.iload 5, 2) := by decide +kernel
theorem dX10_isFor_79 : decode cX10_isFor 79 = .ok (.iastore, 1) := by decide +kernel
theorem dX10_isFor_80 : decode cX10_isFor 80 = .ok (.iconst 1, 1) := by decide +kernel
theorem dX10_isFor_81 : decode cX10_isFor 81 = .ok (.ireturn, 1) := by decide +kernel
theorem dX10_isFor_82 : decode cX10_isFor 82 = .ok (.iload 4, 2) := by decide +kernel
theorem dX10_isFor_84 : decode cX10_isFor 84 = .ok (.ifCond .eq 16, 3) := by decide +kernel
theorem dX10_isFor_87 : decode cX10_isFor 87 = .ok (.aload_n 0, 1) := by decide +kernel
theorem dX10_isFor_88 : decode cX10_isFor 88 = .ok (.iload_n 3, 1) := by decide +kernel
theorem dX10_isFor_89 : decode cX10_isFor 89 = .ok (.bipush 24, 2) := by decide +kernel
theorem dX10_isFor_91 : decode cX10_isFor 91 = .ok (.bipush 36, 2) := by decide +kernel
theorem dX10_isFor_93 : decode cX10_isFor 93 = .ok (.iload_n 1, 1) := by decide +kernel
theorem dX10_isFor_94 : decode cX10_isFor 94 = .ok (.invokevirtual 147, 3) := by decide +kernel
theorem dX10_isFor_97 : decode cX10_isFor 97 = .ok (.ifCond .ne 5, 3) := by decide +kernel
theorem dX10_isFor_100 : decode cX10_isFor 100 = .ok (.iconst 0, 1) := by decide +kernel
theorem dX10_isFor_101 : decode cX10_isFor 101 = .ok (.ireturn, 1) := by decide +kernel
theorem dX10_isFor_102 : decode cX10_isFor 102 = .ok (.iload 4, 2) := by decide +kernel
theorem dX10_isFor_104 : decode cX10_isFor 104 = .ok (.aload_n 0, 1) := by decide +kernel
theorem dX10_isFor_105 : decode cX10_isFor 105 = .ok (.getfield 7, 3) := by decide +kernel
theorem dX10_isFor_108 : decode cX10_isFor 108 = .ok (.bipush 42, 2) := by decide +kernel
theorem dX10_isFor_110 : decode cX10_isFor 110 = .ok (.iload_n 1, 1) := by decide +kernel
theorem dX10_isFor_111 : decode cX10_isFor 111 = .ok (.iadd, 1) := by decide +kernel
theorem dX10_isFor_112 : decode cX10_isFor 112 = .ok (.iaload, 1) := by decide +kernel
theorem dX10_isFor_113 : decode cX10_isFor 113 = .ok (.if_icmp .le 15, 3) := by decide +kernel
theorem dX10_isFor_116 : decode cX10_isFor 116 = .ok (.aload_n 0, 1) := by decide +kernel
theorem dX10_isFor_117 : decode cX10_isFor 117 = .ok (.getfield 7, 3) := by decide +kernel
theorem dX10_isFor_120 : decode cX10_isFor 120 = .ok (.bipush 42, 2) := by decide +kernel
theorem dX10_isFor_122 : decode cX10_isFor 122 = .ok (.iload_n 1, 1) := by decide +kernel
theorem dX10_isFor_123 : decode cX10_isFor 123 = .ok (.iadd, 1) := by decide +kernel
theorem dX10_isFor_124 : decode cX10_isFor 124 = .ok (.iaload, 1) := by decide +kernel
theorem dX10_isFor_125 : decode cX10_isFor 125 = .ok (.goto 5, 3) := by decide +kernel
theorem dX10_isFor_128 : decode cX10_isFor 128 = .ok (.iload 4, 2) := by decide +kernel
theorem dX10_isFor_130 : decode cX10_isFor 130 = .ok (.iconst 1, 1) := by decide +kernel
theorem dX10_isFor_131 : decode cX10_isFor 131 = .ok (.isub, 1) := by decide +kernel
theorem dX10_isFor_132 : decode cX10_isFor 132 = .ok (.istore 4, 2) := by decide +kernel
theorem dX10_isFor_134 : decode cX10_isFor 134 = .ok (.aload_n 0, 1) := by decide +kernel
theorem dX10_isFor_135 : decode cX10_isFor 135 = .ok (.getfield 23, 3) := by decide +kernel
theorem dX10_isFor_138 : decode cX10_isFor 138 = .ok (.iconst 3, 1) := by decide +kernel
theorem dX10_isFor_139 : decode cX10_isFor 139 = .ok (.iload_n 2, 1) := by decide +kernel
theorem dX10_isFor_140 : decode cX10_isFor 140 = .ok (.iadd, 1) := by decide +kernel
theorem dX10_isFor_141 : decode cX10_isFor 141 = .ok (.iload 4, 2) := by decide +kernel
theorem dX10_isFor_143 : decode cX10_isFor 143 = .ok (.ifCond .ne 8, 3) := by decide +kernel
theorem dX10_isFor_146 : decode cX10_isFor 146 = .ok (.iload 5, 2) := by decide +kernel
theorem dX10_isFor_148 : decode cX10_isFor 148 = .ok (.goto 12, 3) := by decide +kernel
theorem dX10_isFor_151 : decode cX10_isFor 151 = .ok (.bipush 16, 2) := by decide +kernel
theorem dX10_isFor_153 : decode cX10_isFor 153 = .ok (.iload_n 3, 1) := by decide +kernel
theorem dX10_isFor_154 : decode cX10_isFor 154 = .ok (.imul, 1) := by decide +kernel
theorem dX10_isFor_155 : decode cX10_isFor 155 = .ok (.iconst 2, 1) := by decide +kernel
theorem dX10_isFor_156 : decode cX10_isFor 156 = .ok (.iload 4, 2) := by decide +kernel
theorem dX10_isFor_158 : decode cX10_isFor 158 = .ok (.imul, 1) := by decide +kernel
theorem dX10_isFor_159 : decode cX10_isFor 159 = .ok (.iadd, 1) := by decide +kernel
theorem dX10_isFor_160 : decode cX10_isFor 160 = .ok (.iastore, 1) := by decide +kernel
theorem dX10_isFor_161 : decode cX10_isFor 161 = .ok (.iload 4, 2) := by decide +kernel
theorem dX10_isFor_163 : decode cX10_isFor 163 = .ok (.ifCond .le 72, 3) := by decide +kernel
theorem dX10_isFor_166 : decode cX10_isFor 166 = .ok (.aload_n 0, 1) := by decide +kernel
theorem dX10_isFor_167 : decode cX10_isFor 167 = .ok (.getfield 23, 3) := by decide +kernel
theorem dX10_isFor_170 : decode cX10_isFor 170 = .ok (.iconst 2, 1) := by decide +kernel
theorem dX10_isFor_171 : decode cX10_isFor 171 = .ok (.iaload, 1) := by decide +kernel
theorem dX10_isFor_172 : decode cX10_isFor 172 = .ok (.bipush 8, 2) := by decide +kernel
theorem dX10_isFor_174 : decode cX10_isFor 174 = .ok (.if_icmp .ge 61, 3) := by decide +kernel
theorem dX10_isFor_177 : decode cX10_isFor 177 = .ok (.aload_n 0, 1) := by decide +kernel
theorem dX10_isFor_178 : decode cX10_isFor 178 = .ok (.getfield 23, 3) := by decide +kernel
theorem dX10_isFor_181 : decode cX10_isFor 181 = .ok (.iconst 2, 1) := by decide +kernel
theorem dX10_isFor_182 : decode cX10_isFor 182 = .ok (.iaload, 1) := by decide +kernel
theorem dX10_isFor_183 : decode cX10_isFor 183 = .ok (.istore 6, 2) := by decide +kernel
theorem dX10_isFor_185 : decode cX10_isFor 185 = .ok (.iload 6, 2) := by decide +kernel
theorem dX10_isFor_187 : decode cX10_isFor 187 = .ok (.iload_n 2, 1) := by decide +kernel
theorem dX10_isFor_188 : decode cX10_isFor 188 = .ok (.if_icmp .le 27, 3) := by decide +kernel
theorem dX10_isFor_191 : decode cX10_isFor 191 = .ok (.aload_n 0, 1) := by decide +kernel
theorem dX10_isFor_192 : decode cX10_isFor 192 = .ok (.getfield 23, 3) := by decide +kernel
theorem dX10_isFor_195 : decode cX10_isFor 195 = .ok (.iconst 3, 1) := by decide +kernel
theorem dX10_isFor_196 : decode cX10_isFor 196 = .ok (.iload 6, 2) := by decide +kernel
theorem dX10_isFor_198 : decode cX10_isFor 198 = .ok (.iadd, 1) := by decide +kernel
theorem dX10_isFor_199 : decode cX10_isFor 199 = .ok (.aload_n 0, 1) := by decide +kernel
theorem dX10_isFor_200 : decode cX10_isFor 200 = .ok (.getfield 23, 3) := by decide +kernel
theorem dX10_isFor_203 : decode cX10_isFor 203 = .ok (.iconst 2, 1) := by decide +kernel
theorem dX10_isFor_204 : decode cX10_isFor 204 = .ok (.iload 6, 2) := by decide +kernel
theorem dX10_isFor_206 : decode cX10_isFor 206 = .ok (.iadd, 1) := by decide +kernel
theorem dX10_isFor_207 : decode cX10_isFor 207 = .ok (.iaload, 1) := by decide +kernel
theorem dX10_isFor_208 : decode cX10_isFor 208 = .ok (.iastore, 1) := by decide +kernel
theorem dX10_isFor_209 : decode cX10_isFor 209 = .ok (.iinc 6 (-1), 3) := by decide +kernel
theorem dX10_isFor_212 : decode cX10_isFor 212 = .ok (.goto (-27), 3) := by decide +kernel
theorem dX10_isFor_215 : decode cX10_isFor 215 = .ok (.aload_n 0, 1) := by decide +kernel
theorem dX10_isFor_216 : decode cX10_isFor 216 = .ok (.getfield 23, 3) := by decide +kernel
theorem dX10_isFor_219 : decode cX10_isFor 219 = .ok (.iconst 3, 1) := by decide +kernel
theorem dX10_isFor_220 : decode cX10_isFor 220 = .ok (.iload_n 2, 1) := by decide +kernel
theorem dX10_isFor_221 : decode cX10_isFor 221 = .ok (.iadd, 1) := by decide +kernel
theorem dX10_isFor_222 : decode cX10_isFor 222 = .ok (.iload 5, 2) := by decide +kernel
theorem dX10_isFor_224 : decode cX10_isFor 224 = .ok (.iastore, 1) := by decide +kernel
theorem dX10_isFor_225 : decode cX10_isFor 225 = .ok (.aload_n 0, 1) := by decide +kernel
theorem dX10_isFor_226 : decode cX10_isFor 226 = .ok (.getfield 23, 3) := by decide +kernel
theorem dX10_isFor_229 : decode cX10_isFor 229 = .ok (.iconst 2, 1) := by decide +kernel
theorem dX10_isFor_230 : decode cX10_isFor 230 = .ok (.dup2, 1) := by decide +kernel
theorem dX10_isFor_231 : decode cX10_isFor 231 = .ok (.iaload, 1) := by decide +kernel
theorem dX10_isFor_232 : decode cX10_isFor 232 = .ok (.iconst 1, 1) := by decide +kernel
theorem dX10_isFor_233 : decode cX10_isFor 233 = .ok (.iadd, 1) := by decide +kernel
theorem dX10_isFor_234 : decode cX10_isFor 234 = .ok (.iastore, 1) := by decide +kernel
theorem dX10_isFor_235 : decode cX10_isFor 235 = .ok (.iconst 1, 1) := by decide +kernel
theorem dX10_isFor_236 : decode cX10_isFor 236 = .ok (.ireturn, 1) := by decide +kernel
theorem dX10_keptByAll_0 : decode cX10_keptByAll 0 = .ok (.iconst 0, 1) := by decide +kernel
theorem dX10_keptByAll_1 : decode cX10_keptByAll 1 = .ok (.istore_n 1, 1) := by decide +kernel
theorem dX10_keptByAll_2 : decode cX10_keptByAll 2 = .ok (.iconst 0, 1) := by decide +kernel
theorem dX10_keptByAll_3 : decode cX10_keptByAll 3 = .ok (.istore_n 2, 1) := by decide +kernel
end
section
theorem dX10_keptByAll_4 : decode cX10_keptByAll 4 = .ok (.iload_n 2, 1) := by decide +kernel
theorem dX10_keptByAll_5 : decode cX10_keptByAll 5 = .ok (.bipush 6, 2) := by decide +kernel
theorem dX10_keptByAll_7 : decode cX10_keptByAll 7 = .ok (.if_icmp .ge 22, 3) := by decide +kernel
theorem dX10_keptByAll_10 : decode cX10_keptByAll 10 = .ok (.iload_n 1, 1) := by decide +kernel
theorem dX10_keptByAll_11 : decode cX10_keptByAll 11 = .ok (.aload_n 0, 1) := by decide +kernel
theorem dX10_keptByAll_12 : decode cX10_keptByAll 12 = .ok (.getfield 7, 3) := by decide +kernel
theorem dX10_keptByAll_15 : decode cX10_keptByAll 15 = .ok (.sipush 150, 3) := by decide +kernel
theorem dX10_keptByAll_18 : decode cX10_keptByAll 18 = .ok (.iload_n 2, 1) := by decide +kernel
theorem dX10_keptByAll_19 : decode cX10_keptByAll 19 = .ok (.iadd, 1) := by decide +kernel
theorem dX10_keptByAll_20 : decode cX10_keptByAll 20 = .ok (.iaload, 1) := by decide +kernel
theorem dX10_keptByAll_21 : decode cX10_keptByAll 21 = .ok (.iadd, 1) := by decide +kernel
theorem dX10_keptByAll_22 : decode cX10_keptByAll 22 = .ok (.istore_n 1, 1) := by decide +kernel
theorem dX10_keptByAll_23 : decode cX10_keptByAll 23 = .ok (.iinc 2 1, 3) := by decide +kernel
theorem dX10_keptByAll_26 : decode cX10_keptByAll 26 = .ok (.goto (-22), 3) := by decide +kernel
theorem dX10_keptByAll_29 : decode cX10_keptByAll 29 = .ok (.iload_n 1, 1) := by decide +kernel
theorem dX10_keptByAll_30 : decode cX10_keptByAll 30 = .ok (.ireturn, 1) := by decide +kernel
theorem dX10_run_0 : decode cX10_run 0 = .ok (.iload_n 1, 1) := by decide +kernel
theorem dX10_run_1 : decode cX10_run 1 = .ok (.iconst 1, 1) := by decide +kernel
theorem dX10_run_2 : decode cX10_run 2 = .ok (.bipush 50, 2) := by decide +kernel
theorem dX10_run_4 : decode cX10_run 4 = .ok (.invokestatic 41, 3) := by decide +kernel
theorem dX10_run_7 : decode cX10_run 7 = .ok (.ifCond .ne 6, 3) := by decide +kernel
theorem dX10_run_10 : decode cX10_run 10 = .ok (.bipush (-2), 2) := by decide +kernel
theorem dX10_run_12 : decode cX10_run 12 = .ok (.ireturn, 1) := by decide +kernel
theorem dX10_run_13 : decode cX10_run 13 = .ok (.iconst 0, 1) := by decide +kernel
theorem dX10_run_14 : decode cX10_run 14 = .ok (.istore_n 2, 1) := by decide +kernel
theorem dX10_run_15 : decode cX10_run 15 = .ok (.iload_n 2, 1) := by decide +kernel
theorem dX10_run_16 : decode cX10_run 16 = .ok (.iload_n 1, 1) := by decide +kernel
theorem dX10_run_17 : decode cX10_run 17 = .ok (.if_icmp .ge 13, 3) := by decide +kernel
theorem dX10_run_20 : decode cX10_run 20 = .ok (.aload_n 0, 1) := by decide +kernel
theorem dX10_run_21 : decode cX10_run 21 = .ok (.invokevirtual 151, 3) := by decide +kernel
theorem dX10_run_24 : decode cX10_run 24 = .ok (.iinc 2 1, 3) := by decide +kernel
theorem dX10_run_27 : decode cX10_run 27 = .ok (.goto (-12), 3) := by decide +kernel
theorem dX10_run_30 : decode cX10_run 30 = .ok (.aload_n 0, 1) := by decide +kernel
theorem dX10_run_31 : decode cX10_run 31 = .ok (.invokevirtual 154, 3) := by decide +kernel
theorem dX10_run_34 : decode cX10_run 34 = .ok (.ireturn, 1) := by decide +kernel
theorem dX10_heard_0 : decode cX10_heard 0 = .ok (.iload_n 1, 1) := by decide +kernel
theorem dX10_heard_1 : decode cX10_heard 1 = .ok (.invokestatic 78, 3) := by decide +kernel
theorem dX10_heard_4 : decode cX10_heard 4 = .ok (.ifCond .ne 5, 3) := by decide +kernel
theorem dX10_heard_7 : decode cX10_heard 7 = .ok (.iconst (-1), 1) := by decide +kernel
theorem dX10_heard_8 : decode cX10_heard 8 = .ok (.ireturn, 1) := by decide +kernel
theorem dX10_heard_9 : decode cX10_heard 9 = .ok (.iload_n 2, 1) := by decide +kernel
theorem dX10_heard_10 : decode cX10_heard 10 = .ok (.iconst 0, 1) := by decide +kernel
theorem dX10_heard_11 : decode cX10_heard 11 = .ok (.bipush 10, 2) := by decide +kernel
theorem dX10_heard_13 : decode cX10_heard 13 = .ok (.invokestatic 41, 3) := by decide +kernel
theorem dX10_heard_16 : decode cX10_heard 16 = .ok (.ifCond .ne 6, 3) := by decide +kernel
theorem dX10_heard_19 : decode cX10_heard 19 = .ok (.bipush (-2), 2) := by decide +kernel
theorem dX10_heard_21 : decode cX10_heard 21 = .ok (.ireturn, 1) := by decide +kernel
theorem dX10_heard_22 : decode cX10_heard 22 = .ok (.iload_n 2, 1) := by decide +kernel
theorem dX10_heard_23 : decode cX10_heard 23 = .ok (.bipush 9, 2) := by decide +kernel
theorem dX10_heard_25 : decode cX10_heard 25 = .ok (.if_icmp .ne 16, 3) := by decide +kernel
theorem dX10_heard_28 : decode cX10_heard 28 = .ok (.aload_n 0, 1) := by decide +kernel
theorem dX10_heard_29 : decode cX10_heard 29 = .ok (.getfield 7, 3) := by decide +kernel
theorem dX10_heard_32 : decode cX10_heard 32 = .ok (.sipush 150, 3) := by decide +kernel
theorem dX10_heard_35 : decode cX10_heard 35 = .ok (.iload_n 1, 1) := by decide +kernel
theorem dX10_heard_36 : decode cX10_heard 36 = .ok (.iadd, 1) := by decide +kernel
theorem dX10_heard_37 : decode cX10_heard 37 = .ok (.iaload, 1) := by decide +kernel
theorem dX10_heard_38 : decode cX10_heard 38 = .ok (.goto 36, 3) := by decide +kernel
theorem dX10_heard_41 : decode cX10_heard 41 = .ok (.iload_n 2, 1) := by decide +kernel
theorem dX10_heard_42 : decode cX10_heard 42 = .ok (.bipush 10, 2) := by decide +kernel
theorem dX10_heard_44 : decode cX10_heard 44 = .ok (.if_icmp .ne 16, 3) := by decide +kernel
theorem dX10_heard_47 : decode cX10_heard 47 = .ok (.aload_n 0, 1) := by decide +kernel
theorem dX10_heard_48 : decode cX10_heard 48 = .ok (.getfield 7, 3) := by decide +kernel
theorem dX10_heard_51 : decode cX10_heard 51 = .ok (.sipush 1020, 3) := by decide +kernel
theorem dX10_heard_54 : decode cX10_heard 54 = .ok (.iload_n 1, 1) := by decide +kernel
theorem dX10_heard_55 : decode cX10_heard 55 = .ok (.iadd, 1) := by decide +kernel
theorem dX10_heard_56 : decode cX10_heard 56 = .ok (.iaload, 1) := by decide +kernel
theorem dX10_heard_57 : decode cX10_heard 57 = .ok (.goto 17, 3) := by decide +kernel
theorem dX10_heard_60 : decode cX10_heard 60 = .ok (.aload_n 0, 1) := by decide +kernel
theorem dX10_heard_61 : decode cX10_heard 61 = .ok (.getfield 7, 3) := by decide +kernel
theorem dX10_heard_64 : decode cX10_heard 64 = .ok (.bipush 96, 2) := by decide +kernel
theorem dX10_heard_66 : decode cX10_heard 66 = .ok (.bipush 6, 2) := by decide +kernel
theorem dX10_heard_68 : decode cX10_heard 68 = .ok (.iload_n 2, 1) := by decide +kernel
theorem dX10_heard_69 : decode cX10_heard 69 = .ok (.imul, 1) := by decide +kernel
theorem dX10_heard_70 : decode cX10_heard 70 = .ok (.iadd, 1) := by decide +kernel
theorem dX10_heard_71 : decode cX10_heard 71 = .ok (.iload_n 1, 1) := by decide +kernel
theorem dX10_heard_72 : decode cX10_heard 72 = .ok (.iadd, 1) := by decide +kernel
theorem dX10_heard_73 : decode cX10_heard 73 = .ok (.iaload, 1) := by decide +kernel
theorem dX10_heard_74 : decode cX10_heard 74 = .ok (.ireturn, 1) := by decide +kernel
theorem dX10_put_0 : decode cX10_put 0 = .ok (.aload_n 0, 1) := by decide +kernel
theorem dX10_put_1 : decode cX10_put 1 = .ok (.getfield 38, 3) := by decide +kernel
theorem dX10_put_4 : decode cX10_put 4 = .ok (.aload_n 0, 1) := by decide +kernel
theorem dX10_put_5 : decode cX10_put 5 = .ok (.getfield 157, 3) := by decide +kernel
theorem dX10_put_8 : decode cX10_put 8 = .ok (.iload_n 1, 1) := by decide +kernel
theorem dX10_put_9 : decode cX10_put 9 = .ok (.iastore, 1) := by decide +kernel
theorem dX10_put_10 : decode cX10_put 10 = .ok (.aload_n 0, 1) := by decide +kernel
theorem dX10_put_11 : decode cX10_put 11 = .ok (.dup, 1) := by decide +kernel
theorem dX10_put_12 : decode cX10_put 12 = .ok (.getfield 157, 3) := by decide +kernel
theorem dX10_put_15 : decode cX10_put 15 = .ok (.iconst 1, 1) := by decide +kernel
theorem dX10_put_16 : decode cX10_put 16 = .ok (.iadd, 1) := by decide +kernel
theorem dX10_put_17 : decode cX10_put 17 = .ok (.putfield 157, 3) := by decide +kernel
theorem dX10_put_20 : decode cX10_put 20 = .ok (.return_, 1) := by decide +kernel
theorem dX10_putLetters_0 : decode cX10_putLetters 0 = .ok (.sipush 19683, 3) := by decide +kernel
theorem dX10_putLetters_3 : decode cX10_putLetters 3 = .ok (.istore_n 3, 1) := by decide +kernel
theorem dX10_putLetters_4 : decode cX10_putLetters 4 = .ok (.iload_n 3, 1) := by decide +kernel
theorem dX10_putLetters_5 : decode cX10_putLetters 5 = .ok (.ifCond .le 34, 3) := by decide +kernel
theorem dX10_putLetters_8 : decode cX10_putLetters 8 = .ok (.iload_n 1, 1) := by decide +kernel
theorem dX10_putLetters_9 : decode cX10_putLetters 9 = .ok (.iload_n 3, 1) := by decide +kernel
theorem dX10_putLetters_10 : decode cX10_putLetters 10 = .ok (.idiv, 1) := by decide +kernel
theorem dX10_putLetters_11 : decode cX10_putLetters 11 = .ok (.bipush 27, 2) := by decide +kernel
theorem dX10_putLetters_13 : decode cX10_putLetters 13 = .ok (.irem, 1) := by decide +kernel
theorem dX10_putLetters_14 : decode cX10_putLetters 14 = .ok (.ifCond .le 17, 3) := by decide +kernel
theorem dX10_putLetters_17 : decode cX10_putLetters 17 = .ok (.aload_n 0, 1) := by decide +kernel
theorem dX10_putLetters_18 : decode cX10_putLetters 18 = .ok (.iload_n 2, 1) := by decide +kernel
theorem dX10_putLetters_19 : decode cX10_putLetters 19 = .ok (.iload_n 1, 1) := by decide +kernel
theorem dX10_putLetters_20 : decode cX10_putLetters 20 = .ok (.iload_n 3, 1) := by decide +kernel
theorem dX10_putLetters_21 : decode cX10_putLetters 21 = .ok (.idiv, 1) := by decide +kernel
theorem dX10_putLetters_22 : decode cX10_putLetters 22 = .ok (.bipush 27, 2) := by decide +kernel
theorem dX10_putLetters_24 : decode cX10_putLetters 24 = .ok (.irem, 1) := by decide +kernel
theorem dX10_putLetters_25 : decode cX10_putLetters 25 = .ok (.iadd, 1) := by decide +kernel
theorem dX10_putLetters_26 : decode cX10_putLetters 26 = .ok (.iconst 1, 1) := by decide +kernel
theorem dX10_putLetters_27 : decode cX10_putLetters 27 = .ok (.isub, 1) := by decide +kernel
theorem dX10_putLetters_28 : decode cX10_putLetters 28 = .ok (.invokevirtual 160, 3) := by decide +kernel
theorem dX10_putLetters_31 : decode cX10_putLetters 31 = .ok (.iload_n 3, 1) := by decide +kernel
theorem dX10_putLetters_32 : decode cX10_putLetters 32 = .ok (.bipush 27, 2) := by decide +kernel
theorem dX10_putLetters_34 : decode cX10_putLetters 34 = .ok (.idiv, 1) := by decide +kernel
theorem dX10_putLetters_35 : decode cX10_putLetters 35 = .ok (.istore_n 3, 1) := by decide +kernel
theorem dX10_putLetters_36 : decode cX10_putLetters 36 = .ok (.goto (-32), 3) := by decide +kernel
theorem dX10_putLetters_39 : decode cX10_putLetters 39 = .ok (.return_, 1) := by decide +kernel
theorem dX10_word_0 : decode cX10_word 0 = .ok (.aload_n 0, 1) := by decide +kernel
theorem dX10_word_1 : decode cX10_word 1 = .ok (.getfield 7, 3) := by decide +kernel
theorem dX10_word_4 : decode cX10_word 4 = .ok (.sipush 1314, 3) := by decide +kernel
theorem dX10_word_7 : decode cX10_word 7 = .ok (.bipush 11, 2) := by decide +kernel
theorem dX10_word_9 : decode cX10_word 9 = .ok (.iload_n 1, 1) := by decide +kernel
theorem dX10_word_10 : decode cX10_word 10 = .ok (.imul, 1) := by decide +kernel
theorem dX10_word_11 : decode cX10_word 11 = .ok (.iadd, 1) := by decide +kernel
theorem dX10_word_12 : decode cX10_word 12 = .ok (.iconst 3, 1) := by decide +kernel
theorem dX10_word_13 : decode cX10_word 13 = .ok (.iadd, 1) := by decide +kernel
theorem dX10_word_14 : decode cX10_word 14 = .ok (.iload_n 2, 1) := by decide +kernel
theorem dX10_word_15 : decode cX10_word 15 = .ok (.iadd, 1) := by decide +kernel
theorem dX10_word_16 : decode cX10_word 16 = .ok (.iaload, 1) := by decide +kernel
theorem dX10_word_17 : decode cX10_word 17 = .ok (.ireturn, 1) := by decide +kernel
theorem dX10_words_0 : decode cX10_words 0 = .ok (.aload_n 0, 1) := by decide +kernel
theorem dX10_words_1 : decode cX10_words 1 = .ok (.getfield 7, 3) := by decide +kernel
theorem dX10_words_4 : decode cX10_words 4 = .ok (.sipush 1314, 3) := by decide +kernel
theorem dX10_words_7 : decode cX10_words 7 = .ok (.bipush 11, 2) := by decide +kernel
theorem dX10_words_9 : decode cX10_words 9 = .ok (.iload_n 1, 1) := by decide +kernel
theorem dX10_words_10 : decode cX10_words 10 = .ok (.imul, 1) := by decide +kernel
theorem dX10_words_11 : decode cX10_words 11 = .ok (.iadd, 1) := by decide +kernel
theorem dX10_words_12 : decode cX10_words 12 = .ok (.iconst 2, 1) := by decide +kernel
theorem dX10_words_13 : decode cX10_words 13 = .ok (.iadd, 1) := by decide +kernel
theorem dX10_words_14 : decode cX10_words 14 = .ok (.iaload, 1) := by decide +kernel
theorem dX10_words_15 : decode cX10_words 15 = .ok (.ireturn, 1) := by decide +kernel
theorem dX10_layLine_0 : decode cX10_layLine 0 = .ok (.aload_n 0, 1) := by decide +kernel
theorem dX10_layLine_1 : decode cX10_layLine 1 = .ok (.iconst 0, 1) := by decide +kernel
theorem dX10_layLine_2 : decode cX10_layLine 2 = .ok (.putfield 157, 3) := by decide +kernel
theorem dX10_layLine_5 : decode cX10_layLine 5 = .ok (.aload_n 0, 1) := by decide +kernel
theorem dX10_layLine_6 : decode cX10_layLine 6 = .ok (.aload_n 0, 1) := by decide +kernel
theorem dX10_layLine_7 : decode cX10_layLine 7 = .ok (.getfield 7, 3) := by decide +kernel
theorem dX10_layLine_10 : decode cX10_layLine 10 = .ok (.sipush 1314, 3) := by decide +kernel
theorem dX10_layLine_13 : decode cX10_layLine 13 = .ok (.bipush 11, 2) := by decide +kernel
theorem dX10_layLine_15 : decode cX10_layLine 15 = .ok (.iload_n 1, 1) := by decide +kernel
theorem dX10_layLine_16 : decode cX10_layLine 16 = .ok (.imul, 1) := by decide +kernel
theorem dX10_layLine_17 : decode cX10_layLine 17 = .ok (.iadd, 1) := by decide +kernel
theorem dX10_layLine_18 : decode cX10_layLine 18 = .ok (.iaload, 1) := by decide +kernel
theorem dX10_layLine_19 : decode cX10_layLine 19 = .ok (.bipush 65, 2) := by decide +kernel
theorem dX10_layLine_21 : decode cX10_layLine 21 = .ok (.invokevirtual 163, 3) := by decide +kernel
theorem dX10_layLine_24 : decode cX10_layLine 24 = .ok (.aload_n 0, 1) := by decide +kernel
theorem dX10_layLine_25 : decode cX10_layLine 25 = .ok (.bipush 62, 2) := by decide +kernel
theorem dX10_layLine_27 : decode cX10_layLine 27 = .ok (.invokevirtual 160, 3) := by decide +kernel
theorem dX10_layLine_30 : decode cX10_layLine 30 = .ok (.iconst 0, 1) := by decide +kernel
theorem dX10_layLine_31 : decode cX10_layLine 31 = .ok (.istore_n 2, 1) := by decide +kernel
theorem dX10_layLine_32 : decode cX10_layLine 32 = .ok (.iload_n 2, 1) := by decide +kernel
theorem dX10_layLine_33 : decode cX10_layLine 33 = .ok (.aload_n 0, 1) := by decide +kernel
theorem dX10_layLine_34 : decode cX10_layLine 34 = .ok (.iload_n 1, 1) := by decide +kernel
theorem dX10_layLine_35 : decode cX10_layLine 35 = .ok (.invokevirtual 166, 3) := by decide +kernel
theorem dX10_layLine_38 : decode cX10_layLine 38 = .ok (.if_icmp .ge 86, 3) := by decide +kernel
theorem dX10_layLine_41 : decode cX10_layLine 41 = .ok (.iload_n 2, 1) := by decide +kernel
theorem dX10_layLine_42 : decode cX10_layLine 42 = .ok (.ifCond .le 9, 3) := by decide +kernel
theorem dX10_layLine_45 : decode cX10_layLine 45 = .ok (.aload_n 0, 1) := by decide +kernel
theorem dX10_layLine_46 : decode cX10_layLine 46 = .ok (.bipush 44, 2) := by decide +kernel
theorem dX10_layLine_48 : decode cX10_layLine 48 = .ok (.invokevirtual 160, 3) := by decide +kernel
theorem dX10_layLine_51 : decode cX10_layLine 51 = .ok (.aload_n 0, 1) := by decide +kernel
theorem dX10_layLine_52 : decode cX10_layLine 52 = .ok (.aload_n 0, 1) := by decide +kernel
theorem dX10_layLine_53 : decode cX10_layLine 53 = .ok (.iload_n 1, 1) := by decide +kernel
theorem dX10_layLine_54 : decode cX10_layLine 54 = .ok (.iload_n 2, 1) := by decide +kernel
theorem dX10_layLine_55 : decode cX10_layLine 55 = .ok (.invokevirtual 169, 3) := by decide +kernel
theorem dX10_layLine_58 : decode cX10_layLine 58 = .ok (.bipush 16, 2) := by decide +kernel
theorem dX10_layLine_60 : decode cX10_layLine 60 = .ok (.idiv, 1) := by decide +kernel
theorem dX10_layLine_61 : decode cX10_layLine 61 = .ok (.bipush 65, 2) := by decide +kernel
theorem dX10_layLine_63 : decode cX10_layLine 63 = .ok (.invokevirtual 163, 3) := by decide +kernel
theorem dX10_layLine_66 : decode cX10_layLine 66 = .ok (.aload_n 0, 1) := by decide +kernel
theorem dX10_layLine_67 : decode cX10_layLine 67 = .ok (.iload_n 1, 1) := by decide +kernel
theorem dX10_layLine_68 : decode cX10_layLine 68 = .ok (.iload_n 2, 1) := by decide +kernel
theorem dX10_layLine_69 : decode cX10_layLine 69 = .ok (.invokevirtual 169, 3) := by decide +kernel
theorem dX10_layLine_72 : decode cX10_layLine 72 = .ok (.invokestatic 144, 3) := by decide +kernel
theorem dX10_layLine_75 : decode cX10_layLine 75 = .ok (.ifCond .le 25, 3) := by decide +kernel
theorem dX10_layLine_78 : decode cX10_layLine 78 = .ok (.aload_n 0, 1) := by decide +kernel
theorem dX10_layLine_79 : decode cX10_layLine 79 = .ok (.bipush 45, 2) := by decide +kernel
theorem dX10_layLine_81 : decode cX10_layLine 81 = .ok (.invokevirtual 160, 3) := by decide +kernel
theorem dX10_layLine_84 : decode cX10_layLine 84 = .ok (.aload_n 0, 1) := by decide +kernel
theorem dX10_layLine_85 : decode cX10_layLine 85 = .ok (.bipush 48, 2) := by decide +kernel
theorem dX10_layLine_87 : decode cX10_layLine 87 = .ok (.aload_n 0, 1) := by decide +kernel
theorem dX10_layLine_88 : decode cX10_layLine 88 = .ok (.iload_n 1, 1) := by decide +kernel
theorem dX10_layLine_89 : decode cX10_layLine 89 = .ok (.iload_n 2, 1) := by decide +kernel
theorem dX10_layLine_90 : decode cX10_layLine 90 = .ok (.invokevirtual 169, 3) := by decide +kernel
theorem dX10_layLine_93 : decode cX10_layLine 93 = .ok (.invokestatic 144, 3) := by decide +kernel
theorem dX10_layLine_96 : decode cX10_layLine 96 = .ok (.iadd, 1) := by decide +kernel
theorem dX10_layLine_97 : decode cX10_layLine 97 = .ok (.invokevirtual 160, 3) := by decide +kernel
theorem dX10_layLine_100 : decode cX10_layLine 100 = .ok (.aload_n 0, 1) := by decide +kernel
theorem dX10_layLine_101 : decode cX10_layLine 101 = .ok (.iload_n 1, 1) := by decide +kernel
theorem dX10_layLine_102 : decode cX10_layLine 102 = .ok (.iload_n 2, 1) := by decide +kernel
theorem dX10_layLine_103 : decode cX10_layLine 103 = .ok (.invokevirtual 169, 3) := by decide +kernel
theorem dX10_layLine_106 : decode cX10_layLine 106 = .ok (.invokestatic 135, 3) := by decide +kernel
theorem dX10_layLine_109 : decode cX10_layLine 109 = .ok (.ifCond .eq 9, 3) := by decide +kernel
theorem dX10_layLine_112 : decode cX10_layLine 112 = .ok (.aload_n 0, 1) := by decide +kernel
theorem dX10_layLine_113 : decode cX10_layLine 113 = .ok (.bipush 42, 2) := by decide +kernel
theorem dX10_layLine_115 : decode cX10_layLine 115 = .ok (.invokevirtual 160, 3) := by decide +kernel
theorem dX10_layLine_118 : decode cX10_layLine 118 = .ok (.iinc 2 1, 3) := by decide +kernel
theorem dX10_layLine_121 : decode cX10_layLine 121 = .ok (.goto (-89), 3) := by decide +kernel
theorem dX10_layLine_124 : decode cX10_layLine 124 = .ok (.aload_n 0, 1) := by decide +kernel
theorem dX10_layLine_125 : decode cX10_layLine 125 = .ok (.bipush 58, 2) := by decide +kernel
theorem dX10_layLine_127 : decode cX10_layLine 127 = .ok (.invokevirtual 160, 3) := by decide +kernel
theorem dX10_layLine_130 : decode cX10_layLine 130 = .ok (.aload_n 0, 1) := by decide +kernel
theorem dX10_layLine_131 : decode cX10_layLine 131 = .ok (.aload_n 0, 1) := by decide +kernel
theorem dX10_layLine_132 : decode cX10_layLine 132 = .ok (.getfield 7, 3) := by decide +kernel
theorem dX10_layLine_135 : decode cX10_layLine 135 = .ok (.sipush 1314, 3) := by decide +kernel
theorem dX10_layLine_138 : decode cX10_layLine 138 = .ok (.bipush 11, 2) := by decide +kernel
theorem dX10_layLine_140 : decode cX10_layLine 140 = .ok (.iload_n 1, 1) := by decide +kernel
theorem dX10_layLine_141 : decode cX10_layLine 141 = .ok (.imul, 1) := by decide +kernel
theorem dX10_layLine_142 : decode cX10_layLine 142 = .ok (.iadd, 1) := by decide +kernel
theorem dX10_layLine_143 : decode cX10_layLine 143 = .ok (.iconst 1, 1) := by decide +kernel
theorem dX10_layLine_144 : decode cX10_layLine 144 = .ok (.iadd, 1) := by decide +kernel
theorem dX10_layLine_145 : decode cX10_layLine 145 = .ok (.iaload, 1) := by decide +kernel
theorem dX10_layLine_146 : decode cX10_layLine 146 = .ok (.bipush 97, 2) := by decide +kernel
theorem dX10_layLine_148 : decode cX10_layLine 148 = .ok (.invokevirtual 163, 3) := by decide +kernel
theorem dX10_layLine_151 : decode cX10_layLine 151 = .ok (.return_, 1) := by decide +kernel
theorem dX10_written_0 : decode cX10_written 0 = .ok (.iload_n 1, 1) := by decide +kernel
theorem dX10_written_1 : decode cX10_written 1 = .ok (.invokestatic 78, 3) := by decide +kernel
theorem dX10_written_4 : decode cX10_written 4 = .ok (.ifCond .ne 5, 3) := by decide +kernel
theorem dX10_written_7 : decode cX10_written 7 = .ok (.iconst (-1), 1) := by decide +kernel
theorem dX10_written_8 : decode cX10_written 8 = .ok (.ireturn, 1) := by decide +kernel
theorem dX10_written_9 : decode cX10_written 9 = .ok (.iload_n 2, 1) := by decide +kernel
theorem dX10_written_10 : decode cX10_written 10 = .ok (.iconst (-1), 1) := by decide +kernel
theorem dX10_written_11 : decode cX10_written 11 = .ok (.if_icmp .ge 6, 3) := by decide +kernel
theorem dX10_written_14 : decode cX10_written 14 = .ok (.bipush (-2), 2) := by decide +kernel
theorem dX10_written_16 : decode cX10_written 16 = .ok (.ireturn, 1) := by decide +kernel
theorem dX10_written_17 : decode cX10_written 17 = .ok (.aload_n 0, 1) := by decide +kernel
theorem dX10_written_18 : decode cX10_written 18 = .ok (.getfield 7, 3) := by decide +kernel
theorem dX10_written_21 : decode cX10_written 21 = .ok (.sipush 1380, 3) := by decide +kernel
theorem dX10_written_24 : decode cX10_written 24 = .ok (.iload_n 1, 1) := by decide +kernel
theorem dX10_written_25 : decode cX10_written 25 = .ok (.iadd, 1) := by decide +kernel
theorem dX10_written_26 : decode cX10_written 26 = .ok (.iaload, 1) := by decide +kernel
theorem dX10_written_27 : decode cX10_written 27 = .ok (.ifCond .ge 6, 3) := by decide +kernel
theorem dX10_written_30 : decode cX10_written 30 = .ok (.bipush (-3), 2) := by decide +kernel
theorem dX10_written_32 : decode cX10_written 32 = .ok (.ireturn, 1) := by decide +kernel
theorem dX10_written_33 : decode cX10_written 33 = .ok (.aload_n 0, 1) := by decide +kernel
theorem dX10_written_34 : decode cX10_written 34 = .ok (.iload_n 1, 1) := by decide +kernel
theorem dX10_written_35 : decode cX10_written 35 = .ok (.invokevirtual 172, 3) := by decide +kernel
theorem dX10_written_38 : decode cX10_written 38 = .ok (.iload_n 2, 1) := by decide +kernel
theorem dX10_written_39 : decode cX10_written 39 = .ok (.iconst (-1), 1) := by decide +kernel
theorem dX10_written_40 : decode cX10_written 40 = .ok (.if_icmp .ne 10, 3) := by decide +kernel
theorem dX10_written_43 : decode cX10_written 43 = .ok (.aload_n 0, 1) := by decide +kernel
theorem dX10_written_44 : decode cX10_written 44 = .ok (.getfield 157, 3) := by decide +kernel
theorem dX10_written_47 : decode cX10_written 47 = .ok (.goto 22, 3) := by decide +kernel
theorem dX10_written_50 : decode cX10_written 50 = .ok (.iload_n 2, 1) := by decide +kernel
theorem dX10_written_51 : decode cX10_written 51 = .ok (.aload_n 0, 1) := by decide +kernel
theorem dX10_written_52 : decode cX10_written 52 = .ok (.getfield 157, 3) := by decide +kernel
theorem dX10_written_55 : decode cX10_written 55 = .ok (.if_icmp .ge 12, 3) := by decide +kernel
theorem dX10_written_58 : decode cX10_written 58 = .ok (.aload_n 0, 1) := by decide +kernel
theorem dX10_written_59 : decode cX10_written 59 = .ok (.getfield 38, 3) := by decide +kernel
theorem dX10_written_62 : decode cX10_written 62 = .ok (.iload_n 2, 1) := by decide +kernel
theorem dX10_written_63 : decode cX10_written 63 = .ok (.iaload, 1) := by decide +kernel
theorem dX10_written_64 : decode cX10_written 64 = .ok (.goto 5, 3) := by decide +kernel
theorem dX10_written_67 : decode cX10_written 67 = .ok (.bipush (-6), 2) := by decide +kernel
theorem dX10_written_69 : decode cX10_written 69 = .ok (.ireturn, 1) := by decide +kernel
theorem dX10_spentWords_0 : decode cX10_spentWords 0 = .ok (.iconst 0, 1) := by decide +kernel
theorem dX10_spentWords_1 : decode cX10_spentWords 1 = .ok (.istore_n 2, 1) := by decide +kernel
theorem dX10_spentWords_2 : decode cX10_spentWords 2 = .ok (.iconst 0, 1) := by decide +kernel
theorem dX10_spentWords_3 : decode cX10_spentWords 3 = .ok (.istore_n 3, 1) := by decide +kernel
theorem dX10_spentWords_4 : decode cX10_spentWords 4 = .ok (.iload_n 3, 1) := by decide +kernel
theorem dX10_spentWords_5 : decode cX10_spentWords 5 = .ok (.aload_n 0, 1) := by decide +kernel
theorem dX10_spentWords_6 : decode cX10_spentWords 6 = .ok (.iload_n 1, 1) := by decide +kernel
theorem dX10_spentWords_7 : decode cX10_spentWords 7 = .ok (.invokevirtual 166, 3) := by decide +kernel
theorem dX10_spentWords_10 : decode cX10_spentWords 10 = .ok (.if_icmp .ge 29, 3) := by decide +kernel
theorem dX10_spentWords_13 : decode cX10_spentWords 13 = .ok (.iload_n 2, 1) := by decide +kernel
theorem dX10_spentWords_14 : decode cX10_spentWords 14 = .ok (.aload_n 0, 1) := by decide +kernel
theorem dX10_spentWords_15 : decode cX10_spentWords 15 = .ok (.iload_n 1, 1) := by decide +kernel
theorem dX10_spentWords_16 : decode cX10_spentWords 16 = .ok (.iload_n 3, 1) := by decide +kernel
theorem dX10_spentWords_17 : decode cX10_spentWords 17 = .ok (.invokevirtual 169, 3) := by decide +kernel
theorem dX10_spentWords_20 : decode cX10_spentWords 20 = .ok (.invokestatic 135, 3) := by decide +kernel
theorem dX10_spentWords_23 : decode cX10_spentWords 23 = .ok (.ifCond .eq 7, 3) := by decide +kernel
theorem dX10_spentWords_26 : decode cX10_spentWords 26 = .ok (.iconst 1, 1) := by decide +kernel
theorem dX10_spentWords_27 : decode cX10_spentWords 27 = .ok (.goto 4, 3) := by decide +kernel
theorem dX10_spentWords_30 : decode cX10_spentWords 30 = .ok (.iconst 0, 1) := by decide +kernel
theorem dX10_spentWords_31 : decode cX10_spentWords 31 = .ok (.iadd, 1) := by decide +kernel
theorem dX10_spentWords_32 : decode cX10_spentWords 32 = .ok (.istore_n 2, 1) := by decide +kernel
theorem dX10_spentWords_33 : decode cX10_spentWords 33 = .ok (.iinc 3 1, 3) := by decide +kernel
theorem dX10_spentWords_36 : decode cX10_spentWords 36 = .ok (.goto (-32), 3) := by decide +kernel
theorem dX10_spentWords_39 : decode cX10_spentWords 39 = .ok (.iload_n 2, 1) := by decide +kernel
theorem dX10_spentWords_40 : decode cX10_spentWords 40 = .ok (.ireturn, 1) := by decide +kernel
theorem dX10_firstHops_0 : decode cX10_firstHops 0 = .ok (.iconst 0, 1) := by decide +kernel
theorem dX10_firstHops_1 : decode cX10_firstHops 1 = .ok (.istore_n 2, 1) := by decide +kernel
theorem dX10_firstHops_2 : decode cX10_firstHops 2 = .ok (.iload_n 2, 1) := by decide +kernel
theorem dX10_firstHops_3 : decode cX10_firstHops 3 = .ok (.aload_n 0, 1) := by decide +kernel
theorem dX10_firstHops_4 : decode cX10_firstHops 4 = .ok (.iload_n 1, 1) := by decide +kernel
theorem dX10_firstHops_5 : decode cX10_firstHops 5 = .ok (.invokevirtual 166, 3) := by decide +kernel
theorem dX10_firstHops_8 : decode cX10_firstHops 8 = .ok (.if_icmp .ge 31, 3) := by decide +kernel
theorem dX10_firstHops_11 : decode cX10_firstHops 11 = .ok (.aload_n 0, 1) := by decide +kernel
theorem dX10_firstHops_12 : decode cX10_firstHops 12 = .ok (.iload_n 1, 1) := by decide +kernel
theorem dX10_firstHops_13 : decode cX10_firstHops 13 = .ok (.iload_n 2, 1) := by decide +kernel
theorem dX10_firstHops_14 : decode cX10_firstHops 14 = .ok (.invokevirtual 169, 3) := by decide +kernel
theorem dX10_firstHops_17 : decode cX10_firstHops 17 = .ok (.invokestatic 135, 3) := by decide +kernel
theorem dX10_firstHops_20 : decode cX10_firstHops 20 = .ok (.ifCond .ne 13, 3) := by decide +kernel
theorem dX10_firstHops_23 : decode cX10_firstHops 23 = .ok (.aload_n 0, 1) := by decide +kernel
theorem dX10_firstHops_24 : decode cX10_firstHops 24 = .ok (.iload_n 1, 1) := by decide +kernel
theorem dX10_firstHops_25 : decode cX10_firstHops 25 = .ok (.iload_n 2, 1) := by decide +kernel
theorem dX10_firstHops_26 : decode cX10_firstHops 26 = .ok (.invokevirtual 169, 3) := by decide +kernel
theorem dX10_firstHops_29 : decode cX10_firstHops 29 = .ok (.invokestatic 144, 3) := by decide +kernel
theorem dX10_firstHops_32 : decode cX10_firstHops 32 = .ok (.ireturn, 1) := by decide +kernel
theorem dX10_firstHops_33 : decode cX10_firstHops 33 = .ok (.iinc 2 1, 3) := by decide +kernel
theorem dX10_firstHops_36 : decode cX10_firstHops 36 = .ok (.goto (-34), 3) := by decide +kernel
theorem dX10_firstHops_39 : decode cX10_firstHops 39 = .ok (.bipush (-6), 2) := by decide +kernel
theorem dX10_firstHops_41 : decode cX10_firstHops 41 = .ok (.ireturn, 1) := by decide +kernel
theorem dX10_last_0 : decode cX10_last 0 = .ok (.iload_n 1, 1) := by decide +kernel
theorem dX10_last_1 : decode cX10_last 1 = .ok (.invokestatic 78, 3) := by decide +kernel
theorem dX10_last_4 : decode cX10_last 4 = .ok (.ifCond .ne 5, 3) := by decide +kernel
theorem dX10_last_7 : decode cX10_last 7 = .ok (.iconst (-1), 1) := by decide +kernel
theorem dX10_last_8 : decode cX10_last 8 = .ok (.ireturn, 1) := by decide +kernel
theorem dX10_last_9 : decode cX10_last 9 = .ok (.iload_n 2, 1) := by decide +kernel
theorem dX10_last_10 : decode cX10_last 10 = .ok (.iconst 0, 1) := by decide +kernel
theorem dX10_last_11 : decode cX10_last 11 = .ok (.iconst 3, 1) := by decide +kernel
theorem dX10_last_12 : decode cX10_last 12 = .ok (.invokestatic 41, 3) := by decide +kernel
theorem dX10_last_15 : decode cX10_last 15 = .ok (.ifCond .ne 6, 3) := by decide +kernel
theorem dX10_last_18 : decode cX10_last 18 = .ok (.bipush (-2), 2) := by decide +kernel
theorem dX10_last_20 : decode cX10_last 20 = .ok (.ireturn, 1) := by decide +kernel
theorem dX10_last_21 : decode cX10_last 21 = .ok (.aload_n 0, 1) := by decide +kernel
theorem dX10_last_22 : decode cX10_last 22 = .ok (.getfield 7, 3) := by decide +kernel
theorem dX10_last_25 : decode cX10_last 25 = .ok (.sipush 1380, 3) := by decide +kernel
theorem dX10_last_28 : decode cX10_last 28 = .ok (.iload_n 1, 1) := by decide +kernel
theorem dX10_last_29 : decode cX10_last 29 = .ok (.iadd, 1) := by decide +kernel
theorem dX10_last_30 : decode cX10_last 30 = .ok (.iaload, 1) := by decide +kernel
theorem dX10_last_31 : decode cX10_last 31 = .ok (.ifCond .ge 6, 3) := by decide +kernel
theorem dX10_last_34 : decode cX10_last 34 = .ok (.bipush (-3), 2) := by decide +kernel
theorem dX10_last_36 : decode cX10_last 36 = .ok (.ireturn, 1) := by decide +kernel
theorem dX10_last_37 : decode cX10_last 37 = .ok (.iload_n 2, 1) := by decide +kernel
theorem dX10_last_38 : decode cX10_last 38 = .ok (.ifCond .ne 11, 3) := by decide +kernel
theorem dX10_last_41 : decode cX10_last 41 = .ok (.aload_n 0, 1) := by decide +kernel
theorem dX10_last_42 : decode cX10_last 42 = .ok (.iload_n 1, 1) := by decide +kernel
theorem dX10_last_43 : decode cX10_last 43 = .ok (.invokevirtual 166, 3) := by decide +kernel
theorem dX10_last_46 : decode cX10_last 46 = .ok (.goto 39, 3) := by decide +kernel
theorem dX10_last_49 : decode cX10_last 49 = .ok (.iload_n 2, 1) := by decide +kernel
theorem dX10_last_50 : decode cX10_last 50 = .ok (.iconst 1, 1) := by decide +kernel
theorem dX10_last_51 : decode cX10_last 51 = .ok (.if_icmp .ne 11, 3) := by decide +kernel
theorem dX10_last_54 : decode cX10_last 54 = .ok (.aload_n 0, 1) := by decide +kernel
theorem dX10_last_55 : decode cX10_last 55 = .ok (.iload_n 1, 1) := by decide +kernel
theorem dX10_last_56 : decode cX10_last 56 = .ok (.invokevirtual 175, 3) := by decide +kernel
theorem dX10_last_59 : decode cX10_last 59 = .ok (.goto 26, 3) := by decide +kernel
theorem dX10_last_62 : decode cX10_last 62 = .ok (.iload_n 2, 1) := by decide +kernel
theorem dX10_last_63 : decode cX10_last 63 = .ok (.iconst 2, 1) := by decide +kernel
theorem dX10_last_64 : decode cX10_last 64 = .ok (.if_icmp .ne 16, 3) := by decide +kernel
theorem dX10_last_67 : decode cX10_last 67 = .ok (.aload_n 0, 1) := by decide +kernel
theorem dX10_last_68 : decode cX10_last 68 = .ok (.getfield 7, 3) := by decide +kernel
theorem dX10_last_71 : decode cX10_last 71 = .ok (.sipush 1380, 3) := by decide +kernel
theorem dX10_last_74 : decode cX10_last 74 = .ok (.iload_n 1, 1) := by decide +kernel
theorem dX10_last_75 : decode cX10_last 75 = .ok (.iadd, 1) := by decide +kernel
theorem dX10_last_76 : decode cX10_last 76 = .ok (.iaload, 1) := by decide +kernel
theorem dX10_last_77 : decode cX10_last 77 = .ok (.goto 8, 3) := by decide +kernel
theorem dX10_last_80 : decode cX10_last 80 = .ok (.aload_n 0, 1) := by decide +kernel
theorem dX10_last_81 : decode cX10_last 81 = .ok (.iload_n 1, 1) := by decide +kernel
theorem dX10_last_82 : decode cX10_last 82 = .ok (.invokevirtual 178, 3) := by decide +kernel
theorem dX10_last_85 : decode cX10_last 85 = .ok (.ireturn, 1) := by decide +kernel
theorem dX10_stationOf_0 : decode cX10_stationOf 0 = .ok (.bipush (-6), 2) := by decide +kernel
theorem dX10_stationOf_2 : decode cX10_stationOf 2 = .ok (.istore_n 2, 1) := by decide +kernel
theorem dX10_stationOf_3 : decode cX10_stationOf 3 = .ok (.iconst 0, 1) := by decide +kernel
theorem dX10_stationOf_4 : decode cX10_stationOf 4 = .ok (.istore_n 3, 1) := by decide +kernel
theorem dX10_stationOf_5 : decode cX10_stationOf 5 = .ok (.iload_n 3, 1) := by decide +kernel
theorem dX10_stationOf_6 : decode cX10_stationOf 6 = .ok (.bipush 6, 2) := by decide +kernel
theorem dX10_stationOf_8 : decode cX10_stationOf 8 = .ok (.if_icmp .ge 27, 3) := by decide +kernel
theorem dX10_stationOf_11 : decode cX10_stationOf 11 = .ok (.aload_n 0, 1) := by decide +kernel
theorem dX10_stationOf_12 : decode cX10_stationOf 12 = .ok (.getfield 7, 3) := by decide +kernel
theorem dX10_stationOf_15 : decode cX10_stationOf 15 = .ok (.iconst 0, 1) := by decide +kernel
theorem dX10_stationOf_16 : decode cX10_stationOf 16 = .ok (.iload_n 3, 1) := by decide +kernel
theorem dX10_stationOf_17 : decode cX10_stationOf 17 = .ok (.iadd, 1) := by decide +kernel
theorem dX10_stationOf_18 : decode cX10_stationOf 18 = .ok (.iaload, 1) := by decide +kernel
theorem dX10_stationOf_19 : decode cX10_stationOf 19 = .ok (.iload_n 1, 1) := by decide +kernel
theorem dX10_stationOf_20 : decode cX10_stationOf 20 = .ok (.if_icmp .ne 7, 3) := by decide +kernel
theorem dX10_stationOf_23 : decode cX10_stationOf 23 = .ok (.iload_n 3, 1) := by decide +kernel
theorem dX10_stationOf_24 : decode cX10_stationOf 24 = .ok (.goto 4, 3) := by decide +kernel
theorem dX10_stationOf_27 : decode cX10_stationOf 27 = .ok (.iload_n 2, 1) := by decide +kernel
theorem dX10_stationOf_28 : decode cX10_stationOf 28 = .ok (.istore_n 2, 1) := by decide +kernel
theorem dX10_stationOf_29 : decode cX10_stationOf 29 = .ok (.iinc 3 1, 3) := by decide +kernel
theorem dX10_stationOf_32 : decode cX10_stationOf 32 = .ok (.goto (-27), 3) := by decide +kernel
theorem dX10_stationOf_35 : decode cX10_stationOf 35 = .ok (.iload_n 2, 1) := by decide +kernel
theorem dX10_stationOf_36 : decode cX10_stationOf 36 = .ok (.ireturn, 1) := by decide +kernel
theorem dX10_trail_0 : decode cX10_trail 0 = .ok (.iload_n 1, 1) := by decide +kernel
theorem dX10_trail_1 : decode cX10_trail 1 = .ok (.invokestatic 78, 3) := by decide +kernel
theorem dX10_trail_4 : decode cX10_trail 4 = .ok (.ifCond .ne 5, 3) := by decide +kernel
theorem dX10_trail_7 : decode cX10_trail 7 = .ok (.iconst (-1), 1) := by decide +kernel
theorem dX10_trail_8 : decode cX10_trail 8 = .ok (.ireturn, 1) := by decide +kernel
theorem dX10_trail_9 : decode cX10_trail 9 = .ok (.aload_n 0, 1) := by decide +kernel
theorem dX10_trail_10 : decode cX10_trail 10 = .ok (.getfield 7, 3) := by decide +kernel
theorem dX10_trail_13 : decode cX10_trail 13 = .ok (.sipush 1380, 3) := by decide +kernel
theorem dX10_trail_16 : decode cX10_trail 16 = .ok (.iload_n 1, 1) := by decide +kernel
theorem dX10_trail_17 : decode cX10_trail 17 = .ok (.iadd, 1) := by decide +kernel
theorem dX10_trail_18 : decode cX10_trail 18 = .ok (.iaload, 1) := by decide +kernel
theorem dX10_trail_19 : decode cX10_trail 19 = .ok (.ifCond .ge 6, 3) := by decide +kernel
theorem dX10_trail_22 : decode cX10_trail 22 = .ok (.bipush (-3), 2) := by decide +kernel
theorem dX10_trail_24 : decode cX10_trail 24 = .ok (.ireturn, 1) := by decide +kernel
theorem dX10_trail_25 : decode cX10_trail 25 = .ok (.iconst 0, 1) := by decide +kernel
theorem dX10_trail_26 : decode cX10_trail 26 = .ok (.istore_n 3, 1) := by decide +kernel
theorem dX10_trail_27 : decode cX10_trail 27 = .ok (.iconst 0, 1) := by decide +kernel
theorem dX10_trail_28 : decode cX10_trail 28 = .ok (.istore 4, 2) := by decide +kernel
theorem dX10_trail_30 : decode cX10_trail 30 = .ok (.iload 4, 2) := by decide +kernel
theorem dX10_trail_32 : decode cX10_trail 32 = .ok (.aload_n 0, 1) := by decide +kernel
theorem dX10_trail_33 : decode cX10_trail 33 = .ok (.iload_n 1, 1) := by decide +kernel
theorem dX10_trail_34 : decode cX10_trail 34 = .ok (.invokevirtual 166, 3) := by decide +kernel
theorem dX10_trail_37 : decode cX10_trail 37 = .ok (.if_icmp .ge 45, 3) := by decide +kernel
theorem dX10_trail_40 : decode cX10_trail 40 = .ok (.aload_n 0, 1) := by decide +kernel
theorem dX10_trail_41 : decode cX10_trail 41 = .ok (.iload_n 1, 1) := by decide +kernel
theorem dX10_trail_42 : decode cX10_trail 42 = .ok (.iload 4, 2) := by decide +kernel
theorem dX10_trail_44 : decode cX10_trail 44 = .ok (.invokevirtual 169, 3) := by decide +kernel
theorem dX10_trail_47 : decode cX10_trail 47 = .ok (.invokestatic 135, 3) := by decide +kernel
theorem dX10_trail_50 : decode cX10_trail 50 = .ok (.ifCond .eq 26, 3) := by decide +kernel
theorem dX10_trail_53 : decode cX10_trail 53 = .ok (.iload_n 3, 1) := by decide +kernel
theorem dX10_trail_54 : decode cX10_trail 54 = .ok (.iload_n 2, 1) := by decide +kernel
theorem dX10_trail_55 : decode cX10_trail 55 = .ok (.if_icmp .ne 18, 3) := by decide +kernel
theorem dX10_trail_58 : decode cX10_trail 58 = .ok (.aload_n 0, 1) := by decide +kernel
theorem dX10_trail_59 : decode cX10_trail 59 = .ok (.aload_n 0, 1) := by decide +kernel
theorem dX10_trail_60 : decode cX10_trail 60 = .ok (.iload_n 1, 1) := by decide +kernel
theorem dX10_trail_61 : decode cX10_trail 61 = .ok (.iload 4, 2) := by decide +kernel
theorem dX10_trail_63 : decode cX10_trail 63 = .ok (.invokevirtual 169, 3) := by decide +kernel
theorem dX10_trail_66 : decode cX10_trail 66 = .ok (.bipush 16, 2) := by decide +kernel
theorem dX10_trail_68 : decode cX10_trail 68 = .ok (.idiv, 1) := by decide +kernel
theorem dX10_trail_69 : decode cX10_trail 69 = .ok (.invokevirtual 181, 3) := by decide +kernel
theorem dX10_trail_72 : decode cX10_trail 72 = .ok (.ireturn, 1) := by decide +kernel
theorem dX10_trail_73 : decode cX10_trail 73 = .ok (.iinc 3 1, 3) := by decide +kernel
theorem dX10_trail_76 : decode cX10_trail 76 = .ok (.iinc 4 1, 3) := by decide +kernel
theorem dX10_trail_79 : decode cX10_trail 79 = .ok (.goto (-49), 3) := by decide +kernel
theorem dX10_trail_82 : decode cX10_trail 82 = .ok (.iload_n 2, 1) := by decide +kernel
theorem dX10_trail_83 : decode cX10_trail 83 = .ok (.iconst (-1), 1) := by decide +kernel
theorem dX10_trail_84 : decode cX10_trail 84 = .ok (.if_icmp .ne 7, 3) := by decide +kernel
theorem dX10_trail_87 : decode cX10_trail 87 = .ok (.iload_n 3, 1) := by decide +kernel
theorem dX10_trail_88 : decode cX10_trail 88 = .ok (.goto 5, 3) := by decide +kernel
theorem dX10_trail_91 : decode cX10_trail 91 = .ok (.bipush (-6), 2) := by decide +kernel
theorem dX10_trail_93 : decode cX10_trail 93 = .ok (.ireturn, 1) := by decide +kernel
theorem dX10_save_0 : decode cX10_save 0 = .ok (.iconst 0, 1) := by decide +kernel
theorem dX10_save_1 : decode cX10_save 1 = .ok (.istore_n 2, 1) := by decide +kernel
theorem dX10_save_2 : decode cX10_save 2 = .ok (.iload_n 2, 1) := by decide +kernel
theorem dX10_save_3 : decode cX10_save 3 = .ok (.sipush 1387, 3) := by decide +kernel
theorem dX10_save_6 : decode cX10_save 6 = .ok (.if_icmp .ge 27, 3) := by decide +kernel
theorem dX10_save_9 : decode cX10_save 9 = .ok (.aload_n 0, 1) := by decide +kernel
theorem dX10_save_10 : decode cX10_save 10 = .ok (.getfield 13, 3) := by decide +kernel
theorem dX10_save_13 : decode cX10_save 13 = .ok (.sipush 1387, 3) := by decide +kernel
theorem dX10_save_16 : decode cX10_save 16 = .ok (.iload_n 1, 1) := by decide +kernel
theorem dX10_save_17 : decode cX10_save 17 = .ok (.imul, 1) := by decide +kernel
theorem dX10_save_18 : decode cX10_save 18 = .ok (.iload_n 2, 1) := by decide +kernel
theorem dX10_save_19 : decode cX10_save 19 = .ok (.iadd, 1) := by decide +kernel
theorem dX10_save_20 : decode cX10_save 20 = .ok (.aload_n 0, 1) := by decide +kernel
theorem dX10_save_21 : decode cX10_save 21 = .ok (.getfield 7, 3) := by decide +kernel
theorem dX10_save_24 : decode cX10_save 24 = .ok (.iload_n 2, 1) := by decide +kernel
theorem dX10_save_25 : decode cX10_save 25 = .ok (.iaload, 1) := by decide +kernel
theorem dX10_save_26 : decode cX10_save 26 = .ok (.iastore, 1) := by decide +kernel
theorem dX10_save_27 : decode cX10_save 27 = .ok (.iinc 2 1, 3) := by decide +kernel
theorem dX10_save_30 : decode cX10_save 30 = .ok (.goto (-28), 3) := by decide +kernel
theorem dX10_save_33 : decode cX10_save 33 = .ok (.return_, 1) := by decide +kernel
theorem dX10_load_0 : decode cX10_load 0 = .ok (.iconst 0, 1) := by decide +kernel
theorem dX10_load_1 : decode cX10_load 1 = .ok (.istore_n 2, 1) := by decide +kernel
theorem dX10_load_2 : decode cX10_load 2 = .ok (.iload_n 2, 1) := by decide +kernel
theorem dX10_load_3 : decode cX10_load 3 = .ok (.sipush 1387, 3) := by decide +kernel
theorem dX10_load_6 : decode cX10_load 6 = .ok (.if_icmp .ge 27, 3) := by decide +kernel
theorem dX10_load_9 : decode cX10_load 9 = .ok (.aload_n 0, 1) := by decide +kernel
theorem dX10_load_10 : decode cX10_load 10 = .ok (.getfield 7, 3) := by decide +kernel
theorem dX10_load_13 : decode cX10_load 13 = .ok (.iload_n 2, 1) := by decide +kernel
theorem dX10_load_14 : decode cX10_load 14 = .ok (.aload_n 0, 1) := by decide +kernel
theorem dX10_load_15 : decode cX10_load 15 = .ok (.getfield 13, 3) := by decide +kernel
theorem dX10_load_18 : decode cX10_load 18 = .ok (.sipush 1387, 3) := by decide +kernel
theorem dX10_load_21 : decode cX10_load 21 = .ok (.iload_n 1, 1) := by decide +kernel
theorem dX10_load_22 : decode cX10_load 22 = .ok (.imul, 1) := by decide +kernel
theorem dX10_load_23 : decode cX10_load 23 = .ok (.iload_n 2, 1) := by decide +kernel
theorem dX10_load_24 : decode cX10_load 24 = .ok (.iadd, 1) := by decide +kernel
theorem dX10_load_25 : decode cX10_load 25 = .ok (.iaload, 1) := by decide +kernel
theorem dX10_load_26 : decode cX10_load 26 = .ok (.iastore, 1) := by decide +kernel
theorem dX10_load_27 : decode cX10_load 27 = .ok (.iinc 2 1, 3) := by decide +kernel
theorem dX10_load_30 : decode cX10_load 30 = .ok (.goto (-28), 3) := by decide +kernel
theorem dX10_load_33 : decode cX10_load 33 = .ok (.return_, 1) := by decide +kernel
theorem dX10_reachFrom_0 : decode cX10_reachFrom 0 = .ok (.aload_n 0, 1) := by decide +kernel
theorem dX10_reachFrom_1 : decode cX10_reachFrom 1 = .ok (.iconst 2, 1) := by decide +kernel
theorem dX10_reachFrom_2 : decode cX10_reachFrom 2 = .ok (.invokevirtual 184, 3) := by decide +kernel
theorem dX10_reachFrom_5 : decode cX10_reachFrom 5 = .ok (.iconst 0, 1) := by decide +kernel
theorem dX10_reachFrom_6 : decode cX10_reachFrom 6 = .ok (.istore 5, 2) := by decide +kernel
theorem dX10_reachFrom_8 : decode cX10_reachFrom 8 = .ok (.iload 5, 2) := by decide +kernel
theorem dX10_reachFrom_10 : decode cX10_reachFrom 10 = .ok (.bipush 54, 2) := by decide +kernel
theorem dX10_reachFrom_12 : decode cX10_reachFrom 12 = .ok (.if_icmp .ge 20, 3) := by decide +kernel
theorem dX10_reachFrom_15 : decode cX10_reachFrom 15 = .ok (.aload_n 0, 1) := by decide +kernel
theorem dX10_reachFrom_16 : decode cX10_reachFrom 16 = .ok (.getfield 7, 3) := by decide +kernel
theorem dX10_reachFrom_19 : decode cX10_reachFrom 19 = .ok (.bipush 96, 2) := by decide +kernel
theorem dX10_reachFrom_21 : decode cX10_reachFrom 21 = .ok (.iload 5, 2) := by decide +kernel
theorem dX10_reachFrom_23 : decode cX10_reachFrom 23 = .ok (.iadd, 1) := by decide +kernel
theorem dX10_reachFrom_24 : decode cX10_reachFrom 24 = .ok (.iconst 0, 1) := by decide +kernel
theorem dX10_reachFrom_25 : decode cX10_reachFrom 25 = .ok (.iastore, 1) := by decide +kernel
theorem dX10_reachFrom_26 : decode cX10_reachFrom 26 = .ok (.iinc 5 1, 3) := by decide +kernel
theorem dX10_reachFrom_29 : decode cX10_reachFrom 29 = .ok (.goto (-21), 3) := by decide +kernel
theorem dX10_reachFrom_32 : decode cX10_reachFrom 32 = .ok (.iconst 0, 1) := by decide +kernel
theorem dX10_reachFrom_33 : decode cX10_reachFrom 33 = .ok (.istore 5, 2) := by decide +kernel
theorem dX10_reachFrom_35 : decode cX10_reachFrom 35 = .ok (.iload 5, 2) := by decide +kernel
theorem dX10_reachFrom_37 : decode cX10_reachFrom 37 = .ok (.bipush 6, 2) := by decide +kernel
theorem dX10_reachFrom_39 : decode cX10_reachFrom 39 = .ok (.if_icmp .ge 81, 3) := by decide +kernel
theorem dX10_reachFrom_42 : decode cX10_reachFrom 42 = .ok (.aload_n 0, 1) := by decide +kernel
theorem dX10_reachFrom_43 : decode cX10_reachFrom 43 = .ok (.getfield 7, 3) := by decide +kernel
theorem dX10_reachFrom_46 : decode cX10_reachFrom 46 = .ok (.sipush 150, 3) := by decide +kernel
theorem dX10_reachFrom_49 : decode cX10_reachFrom 49 = .ok (.iload 5, 2) := by decide +kernel
theorem dX10_reachFrom_51 : decode cX10_reachFrom 51 = .ok (.iadd, 1) := by decide +kernel
theorem dX10_reachFrom_52 : decode cX10_reachFrom 52 = .ok (.iconst 0, 1) := by decide +kernel
theorem dX10_reachFrom_53 : decode cX10_reachFrom 53 = .ok (.iastore, 1) := by decide +kernel
theorem dX10_reachFrom_54 : decode cX10_reachFrom 54 = .ok (.aload_n 0, 1) := by decide +kernel
theorem dX10_reachFrom_55 : decode cX10_reachFrom 55 = .ok (.getfield 7, 3) := by decide +kernel
theorem dX10_reachFrom_58 : decode cX10_reachFrom 58 = .ok (.sipush 1020, 3) := by decide +kernel
theorem dX10_reachFrom_61 : decode cX10_reachFrom 61 = .ok (.iload 5, 2) := by decide +kernel
theorem dX10_reachFrom_63 : decode cX10_reachFrom 63 = .ok (.iadd, 1) := by decide +kernel
theorem dX10_reachFrom_64 : decode cX10_reachFrom 64 = .ok (.iconst 0, 1) := by decide +kernel
theorem dX10_reachFrom_65 : decode cX10_reachFrom 65 = .ok (.iastore, 1) := by decide +kernel
theorem dX10_reachFrom_66 : decode cX10_reachFrom 66 = .ok (.aload_n 0, 1) := by decide +kernel
theorem dX10_reachFrom_67 : decode cX10_reachFrom 67 = .ok (.getfield 35, 3) := by decide +kernel
theorem dX10_reachFrom_70 : decode cX10_reachFrom 70 = .ok (.iload 5, 2) := by decide +kernel
theorem dX10_reachFrom_72 : decode cX10_reachFrom 72 = .ok (.bipush (-6), 2) := by decide +kernel
theorem dX10_reachFrom_74 : decode cX10_reachFrom 74 = .ok (.iastore, 1) := by decide +kernel
theorem dX10_reachFrom_75 : decode cX10_reachFrom 75 = .ok (.iload 4, 2) := by decide +kernel
theorem dX10_reachFrom_77 : decode cX10_reachFrom 77 = .ok (.ifCond .lt 37, 3) := by decide +kernel
theorem dX10_reachFrom_80 : decode cX10_reachFrom 80 = .ok (.aload_n 0, 1) := by decide +kernel
theorem dX10_reachFrom_81 : decode cX10_reachFrom 81 = .ok (.getfield 7, 3) := by decide +kernel
theorem dX10_reachFrom_84 : decode cX10_reachFrom 84 = .ok (.bipush 60, 2) := by decide +kernel
theorem dX10_reachFrom_86 : decode cX10_reachFrom 86 = .ok (.bipush 6, 2) := by decide +kernel
theorem dX10_reachFrom_88 : decode cX10_reachFrom 88 = .ok (.iload 5, 2) := by decide +kernel
theorem dX10_reachFrom_90 : decode cX10_reachFrom 90 = .ok (.imul, 1) := by decide +kernel
theorem dX10_reachFrom_91 : decode cX10_reachFrom 91 = .ok (.iadd, 1) := by decide +kernel
theorem dX10_reachFrom_92 : decode cX10_reachFrom 92 = .ok (.iload 4, 2) := by decide +kernel
theorem dX10_reachFrom_94 : decode cX10_reachFrom 94 = .ok (.iadd, 1) := by decide +kernel
theorem dX10_reachFrom_95 : decode cX10_reachFrom 95 = .ok (.iconst 0, 1) := by decide +kernel
theorem dX10_reachFrom_96 : decode cX10_reachFrom 96 = .ok (.iastore, 1) := by decide +kernel
theorem dX10_reachFrom_97 : decode cX10_reachFrom 97 = .ok (.aload_n 0, 1) := by decide +kernel
theorem dX10_reachFrom_98 : decode cX10_reachFrom 98 = .ok (.getfield 7, 3) := by decide +kernel
theorem dX10_reachFrom_101 : decode cX10_reachFrom 101 = .ok (.bipush 60, 2) := by decide +kernel
theorem dX10_reachFrom_103 : decode cX10_reachFrom 103 = .ok (.bipush 6, 2) := by decide +kernel
theorem dX10_reachFrom_105 : decode cX10_reachFrom 105 = .ok (.iload 4, 2) := by decide +kernel
theorem dX10_reachFrom_107 : decode cX10_reachFrom 107 = .ok (.imul, 1) := by decide +kernel
theorem dX10_reachFrom_108 : decode cX10_reachFrom 108 = .ok (.iadd, 1) := by decide +kernel
theorem dX10_reachFrom_109 : decode cX10_reachFrom 109 = .ok (.iload 5, 2) := by decide +kernel
theorem dX10_reachFrom_111 : decode cX10_reachFrom 111 = .ok (.iadd, 1) := by decide +kernel
theorem dX10_reachFrom_112 : decode cX10_reachFrom 112 = .ok (.iconst 0, 1) := by decide +kernel
theorem dX10_reachFrom_113 : decode cX10_reachFrom 113 = .ok (.iastore, 1) := by decide +kernel
theorem dX10_reachFrom_114 : decode cX10_reachFrom 114 = .ok (.iinc 5 1, 3) := by decide +kernel
theorem dX10_reachFrom_117 : decode cX10_reachFrom 117 = .ok (.goto (-82), 3) := by decide +kernel
theorem dX10_reachFrom_120 : decode cX10_reachFrom 120 = .ok (.aload_n 0, 1) := by decide +kernel
theorem dX10_reachFrom_121 : decode cX10_reachFrom 121 = .ok (.getfield 7, 3) := by decide +kernel
theorem dX10_reachFrom_124 : decode cX10_reachFrom 124 = .ok (.sipush 1386, 3) := by decide +kernel
theorem dX10_reachFrom_127 : decode cX10_reachFrom 127 = .ok (.iconst 0, 1) := by decide +kernel
theorem dX10_reachFrom_128 : decode cX10_reachFrom 128 = .ok (.iastore, 1) := by decide +kernel
theorem dX10_reachFrom_129 : decode cX10_reachFrom 129 = .ok (.aload_n 0, 1) := by decide +kernel
theorem dX10_reachFrom_130 : decode cX10_reachFrom 130 = .ok (.getfield 23, 3) := by decide +kernel
theorem dX10_reachFrom_133 : decode cX10_reachFrom 133 = .ok (.iconst 0, 1) := by decide +kernel
theorem dX10_reachFrom_134 : decode cX10_reachFrom 134 = .ok (.aload_n 0, 1) := by decide +kernel
theorem dX10_reachFrom_135 : decode cX10_reachFrom 135 = .ok (.getfield 7, 3) := by decide +kernel
theorem dX10_reachFrom_138 : decode cX10_reachFrom 138 = .ok (.iconst 0, 1) := by decide +kernel
theorem dX10_reachFrom_139 : decode cX10_reachFrom 139 = .ok (.iload_n 1, 1) := by decide +kernel
theorem dX10_reachFrom_140 : decode cX10_reachFrom 140 = .ok (.iadd, 1) := by decide +kernel
theorem dX10_reachFrom_141 : decode cX10_reachFrom 141 = .ok (.iaload, 1) := by decide +kernel
theorem dX10_reachFrom_142 : decode cX10_reachFrom 142 = .ok (.iastore, 1) := by decide +kernel
theorem dX10_reachFrom_143 : decode cX10_reachFrom 143 = .ok (.aload_n 0, 1) := by decide +kernel
theorem dX10_reachFrom_144 : decode cX10_reachFrom 144 = .ok (.getfield 23, 3) := by decide +kernel
theorem dX10_reachFrom_147 : decode cX10_reachFrom 147 = .ok (.iconst 1, 1) := by decide +kernel
theorem dX10_reachFrom_148 : decode cX10_reachFrom 148 = .ok (.iconst 1, 1) := by decide +kernel
theorem dX10_reachFrom_149 : decode cX10_reachFrom 149 = .ok (.iastore, 1) := by decide +kernel
theorem dX10_reachFrom_150 : decode cX10_reachFrom 150 = .ok (.aload_n 0, 1) := by decide +kernel
theorem dX10_reachFrom_151 : decode cX10_reachFrom 151 = .ok (.getfield 23, 3) := by decide +kernel
theorem dX10_reachFrom_154 : decode cX10_reachFrom 154 = .ok (.iconst 2, 1) := by decide +kernel
theorem dX10_reachFrom_155 : decode cX10_reachFrom 155 = .ok (.iconst 1, 1) := by decide +kernel
theorem dX10_reachFrom_156 : decode cX10_reachFrom 156 = .ok (.iastore, 1) := by decide +kernel
theorem dX10_reachFrom_157 : decode cX10_reachFrom 157 = .ok (.aload_n 0, 1) := by decide +kernel
theorem dX10_reachFrom_158 : decode cX10_reachFrom 158 = .ok (.getfield 23, 3) := by decide +kernel
theorem dX10_reachFrom_161 : decode cX10_reachFrom 161 = .ok (.iconst 3, 1) := by decide +kernel
theorem dX10_reachFrom_162 : decode cX10_reachFrom 162 = .ok (.bipush 16, 2) := by decide +kernel
theorem dX10_reachFrom_164 : decode cX10_reachFrom 164 = .ok (.iload_n 2, 1) := by decide +kernel
theorem dX10_reachFrom_165 : decode cX10_reachFrom 165 = .ok (.imul, 1) := by decide +kernel
theorem dX10_reachFrom_166 : decode cX10_reachFrom 166 = .ok (.iconst 2, 1) := by decide +kernel
theorem dX10_reachFrom_167 : decode cX10_reachFrom 167 = .ok (.iload_n 3, 1) := by decide +kernel
theorem dX10_reachFrom_168 : decode cX10_reachFrom 168 = .ok (.imul, 1) := by decide +kernel
theorem dX10_reachFrom_169 : decode cX10_reachFrom 169 = .ok (.iadd, 1) := by decide +kernel
theorem dX10_reachFrom_170 : decode cX10_reachFrom 170 = .ok (.iastore, 1) := by decide +kernel
theorem dX10_reachFrom_171 : decode cX10_reachFrom 171 = .ok (.aload_n 0, 1) := by decide +kernel
theorem dX10_reachFrom_172 : decode cX10_reachFrom 172 = .ok (.iload_n 1, 1) := by decide +kernel
theorem dX10_reachFrom_173 : decode cX10_reachFrom 173 = .ok (.iconst 0, 1) := by decide +kernel
theorem dX10_reachFrom_174 : decode cX10_reachFrom 174 = .ok (.invokevirtual 113, 3) := by decide +kernel
theorem dX10_reachFrom_177 : decode cX10_reachFrom 177 = .ok (.pop, 1) := by decide +kernel
theorem dX10_reachFrom_178 : decode cX10_reachFrom 178 = .ok (.aload_n 0, 1) := by decide +kernel
theorem dX10_reachFrom_179 : decode cX10_reachFrom 179 = .ok (.iload_n 1, 1) := by decide +kernel
theorem dX10_reachFrom_180 : decode cX10_reachFrom 180 = .ok (.invokevirtual 116, 3) := by decide +kernel
theorem dX10_reachFrom_183 : decode cX10_reachFrom 183 = .ok (.aload_n 0, 1) := by decide +kernel
theorem dX10_reachFrom_184 : decode cX10_reachFrom 184 = .ok (.invokevirtual 154, 3) := by decide +kernel
theorem dX10_reachFrom_187 : decode cX10_reachFrom 187 = .ok (.ifCond .le 10, 3) := by decide +kernel
theorem dX10_reachFrom_190 : decode cX10_reachFrom 190 = .ok (.aload_n 0, 1) := by decide +kernel
theorem dX10_reachFrom_191 : decode cX10_reachFrom 191 = .ok (.invokevirtual 151, 3) := by decide +kernel
theorem dX10_reachFrom_194 : decode cX10_reachFrom 194 = .ok (.goto (-11), 3) := by decide +kernel
theorem dX10_reachFrom_197 : decode cX10_reachFrom 197 = .ok (.iconst 0, 1) := by decide +kernel
theorem dX10_reachFrom_198 : decode cX10_reachFrom 198 = .ok (.istore 5, 2) := by decide +kernel
theorem dX10_reachFrom_200 : decode cX10_reachFrom 200 = .ok (.iconst 0, 1) := by decide +kernel
theorem dX10_reachFrom_201 : decode cX10_reachFrom 201 = .ok (.istore 6, 2) := by decide +kernel
theorem dX10_reachFrom_203 : decode cX10_reachFrom 203 = .ok (.iload 6, 2) := by decide +kernel
theorem dX10_reachFrom_205 : decode cX10_reachFrom 205 = .ok (.bipush 6, 2) := by decide +kernel
theorem dX10_reachFrom_207 : decode cX10_reachFrom 207 = .ok (.if_icmp .ge 32, 3) := by decide +kernel
theorem dX10_reachFrom_210 : decode cX10_reachFrom 210 = .ok (.iload 5, 2) := by decide +kernel
theorem dX10_reachFrom_212 : decode cX10_reachFrom 212 = .ok (.aload_n 0, 1) := by decide +kernel
theorem dX10_reachFrom_213 : decode cX10_reachFrom 213 = .ok (.getfield 35, 3) := by decide +kernel
theorem dX10_reachFrom_216 : decode cX10_reachFrom 216 = .ok (.iload 6, 2) := by decide +kernel
theorem dX10_reachFrom_218 : decode cX10_reachFrom 218 = .ok (.iaload, 1) := by decide +kernel
theorem dX10_reachFrom_219 : decode cX10_reachFrom 219 = .ok (.ifCond .lt 10, 3) := by decide +kernel
theorem dX10_reachFrom_222 : decode cX10_reachFrom 222 = .ok (.iconst 1, 1) := by decide +kernel
theorem dX10_reachFrom_223 : decode cX10_reachFrom 223 = .ok (.iload 6, 2) := by decide +kernel
theorem dX10_reachFrom_225 : decode cX10_reachFrom 225 = .ok (.ishl, 1) := by decide +kernel
theorem dX10_reachFrom_226 : decode cX10_reachFrom 226 = .ok (.goto 4, 3) := by decide +kernel
theorem dX10_reachFrom_229 : decode cX10_reachFrom 229 = .ok (.iconst 0, 1) := by decide +kernel
theorem dX10_reachFrom_230 : decode cX10_reachFrom 230 = .ok (.ior, 1) := by decide +kernel
theorem dX10_reachFrom_231 : decode cX10_reachFrom 231 = .ok (.istore 5, 2) := by decide +kernel
theorem dX10_reachFrom_233 : decode cX10_reachFrom 233 = .ok (.iinc 6 1, 3) := by decide +kernel
theorem dX10_reachFrom_236 : decode cX10_reachFrom 236 = .ok (.goto (-33), 3) := by decide +kernel
theorem dX10_reachFrom_239 : decode cX10_reachFrom 239 = .ok (.aload_n 0, 1) := by decide +kernel
theorem dX10_reachFrom_240 : decode cX10_reachFrom 240 = .ok (.aload_n 0, 1) := by decide +kernel
theorem dX10_reachFrom_241 : decode cX10_reachFrom 241 = .ok (.iconst 0, 1) := by decide +kernel
theorem dX10_reachFrom_242 : decode cX10_reachFrom 242 = .ok (.invokevirtual 187, 3) := by decide +kernel
theorem dX10_reachFrom_245 : decode cX10_reachFrom 245 = .ok (.putfield 190, 3) := by decide +kernel
theorem dX10_reachFrom_248 : decode cX10_reachFrom 248 = .ok (.aload_n 0, 1) := by decide +kernel
theorem dX10_reachFrom_249 : decode cX10_reachFrom 249 = .ok (.aload_n 0, 1) := by decide +kernel
theorem dX10_reachFrom_250 : decode cX10_reachFrom 250 = .ok (.bipush 7, 2) := by decide +kernel
theorem dX10_reachFrom_252 : decode cX10_reachFrom 252 = .ok (.invokevirtual 187, 3) := by decide +kernel
theorem dX10_reachFrom_255 : decode cX10_reachFrom 255 = .ok (.putfield 193, 3) := by decide +kernel
theorem dX10_reachFrom_258 : decode cX10_reachFrom 258 = .ok (.aload_n 0, 1) := by decide +kernel
theorem dX10_reachFrom_259 : decode cX10_reachFrom 259 = .ok (.iconst 2, 1) := by decide +kernel
theorem dX10_reachFrom_260 : decode cX10_reachFrom 260 = .ok (.invokevirtual 196, 3) := by decide +kernel
theorem dX10_reachFrom_263 : decode cX10_reachFrom 263 = .ok (.iload 5, 2) := by decide +kernel
theorem dX10_reachFrom_265 : decode cX10_reachFrom 265 = .ok (.ireturn, 1) := by decide +kernel
theorem dX10_sumOf_0 : decode cX10_sumOf 0 = .ok (.iconst 0, 1) := by decide +kernel
theorem dX10_sumOf_1 : decode cX10_sumOf 1 = .ok (.istore_n 2, 1) := by decide +kernel
theorem dX10_sumOf_2 : decode cX10_sumOf 2 = .ok (.iconst 0, 1) := by decide +kernel
theorem dX10_sumOf_3 : decode cX10_sumOf 3 = .ok (.istore_n 3, 1) := by decide +kernel
theorem dX10_sumOf_4 : decode cX10_sumOf 4 = .ok (.iload_n 3, 1) := by decide +kernel
theorem dX10_sumOf_5 : decode cX10_sumOf 5 = .ok (.bipush 6, 2) := by decide +kernel
theorem dX10_sumOf_7 : decode cX10_sumOf 7 = .ok (.if_icmp .ge 26, 3) := by decide +kernel
theorem dX10_sumOf_10 : decode cX10_sumOf 10 = .ok (.iload_n 2, 1) := by decide +kernel
theorem dX10_sumOf_11 : decode cX10_sumOf 11 = .ok (.aload_n 0, 1) := by decide +kernel
theorem dX10_sumOf_12 : decode cX10_sumOf 12 = .ok (.getfield 7, 3) := by decide +kernel
theorem dX10_sumOf_15 : decode cX10_sumOf 15 = .ok (.bipush 96, 2) := by decide +kernel
theorem dX10_sumOf_17 : decode cX10_sumOf 17 = .ok (.bipush 6, 2) := by decide +kernel
theorem dX10_sumOf_19 : decode cX10_sumOf 19 = .ok (.iload_n 1, 1) := by decide +kernel
theorem dX10_sumOf_20 : decode cX10_sumOf 20 = .ok (.imul, 1) := by decide +kernel
theorem dX10_sumOf_21 : decode cX10_sumOf 21 = .ok (.iadd, 1) := by decide +kernel
theorem dX10_sumOf_22 : decode cX10_sumOf 22 = .ok (.iload_n 3, 1) := by decide +kernel
theorem dX10_sumOf_23 : decode cX10_sumOf 23 = .ok (.iadd, 1) := by decide +kernel
theorem dX10_sumOf_24 : decode cX10_sumOf 24 = .ok (.iaload, 1) := by decide +kernel
theorem dX10_sumOf_25 : decode cX10_sumOf 25 = .ok (.iadd, 1) := by decide +kernel
theorem dX10_sumOf_26 : decode cX10_sumOf 26 = .ok (.istore_n 2, 1) := by decide +kernel
theorem dX10_sumOf_27 : decode cX10_sumOf 27 = .ok (.iinc 3 1, 3) := by decide +kernel
theorem dX10_sumOf_30 : decode cX10_sumOf 30 = .ok (.goto (-26), 3) := by decide +kernel
theorem dX10_sumOf_33 : decode cX10_sumOf 33 = .ok (.iload_n 2, 1) := by decide +kernel
theorem dX10_sumOf_34 : decode cX10_sumOf 34 = .ok (.ireturn, 1) := by decide +kernel
theorem dX10_latest_0 : decode cX10_latest 0 = .ok (.bipush (-6), 2) := by decide +kernel
theorem dX10_latest_2 : decode cX10_latest 2 = .ok (.istore_n 1, 1) := by decide +kernel
theorem dX10_latest_3 : decode cX10_latest 3 = .ok (.iconst 0, 1) := by decide +kernel
theorem dX10_latest_4 : decode cX10_latest 4 = .ok (.istore_n 2, 1) := by decide +kernel
theorem dX10_latest_5 : decode cX10_latest 5 = .ok (.iload_n 2, 1) := by decide +kernel
theorem dX10_latest_6 : decode cX10_latest 6 = .ok (.bipush 6, 2) := by decide +kernel
theorem dX10_latest_8 : decode cX10_latest 8 = .ok (.if_icmp .ge 30, 3) := by decide +kernel
theorem dX10_latest_11 : decode cX10_latest 11 = .ok (.aload_n 0, 1) := by decide +kernel
theorem dX10_latest_12 : decode cX10_latest 12 = .ok (.getfield 35, 3) := by decide +kernel
theorem dX10_latest_15 : decode cX10_latest 15 = .ok (.iload_n 2, 1) := by decide +kernel
theorem dX10_latest_16 : decode cX10_latest 16 = .ok (.iaload, 1) := by decide +kernel
theorem dX10_latest_17 : decode cX10_latest 17 = .ok (.iload_n 1, 1) := by decide +kernel
theorem dX10_latest_18 : decode cX10_latest 18 = .ok (.if_icmp .le 12, 3) := by decide +kernel
theorem dX10_latest_21 : decode cX10_latest 21 = .ok (.aload_n 0, 1) := by decide +kernel
theorem dX10_latest_22 : decode cX10_latest 22 = .ok (.getfield 35, 3) := by decide +kernel
theorem dX10_latest_25 : decode cX10_latest 25 = .ok (.iload_n 2, 1) := by decide +kernel
theorem dX10_latest_26 : decode cX10_latest 26 = .ok (.iaload, 1) := by decide +kernel
theorem dX10_latest_27 : decode cX10_latest 27 = .ok (.goto 4, 3) := by decide +kernel
theorem dX10_latest_30 : decode cX10_latest 30 = .ok (.iload_n 1, 1) := by decide +kernel
theorem dX10_latest_31 : decode cX10_latest 31 = .ok (.istore_n 1, 1) := by decide +kernel
theorem dX10_latest_32 : decode cX10_latest 32 = .ok (.iinc 2 1, 3) := by decide +kernel
theorem dX10_latest_35 : decode cX10_latest 35 = .ok (.goto (-30), 3) := by decide +kernel
theorem dX10_latest_38 : decode cX10_latest 38 = .ok (.iload_n 1, 1) := by decide +kernel
theorem dX10_latest_39 : decode cX10_latest 39 = .ok (.ireturn, 1) := by decide +kernel
theorem dX10_reach_0 : decode cX10_reach 0 = .ok (.iload_n 1, 1) := by decide +kernel
theorem dX10_reach_1 : decode cX10_reach 1 = .ok (.invokestatic 78, 3) := by decide +kernel
theorem dX10_reach_4 : decode cX10_reach 4 = .ok (.ifCond .ne 5, 3) := by decide +kernel
theorem dX10_reach_7 : decode cX10_reach 7 = .ok (.iconst (-1), 1) := by decide +kernel
theorem dX10_reach_8 : decode cX10_reach 8 = .ok (.ireturn, 1) := by decide +kernel
theorem dX10_reach_9 : decode cX10_reach 9 = .ok (.iload_n 2, 1) := by decide +kernel
theorem dX10_reach_10 : decode cX10_reach 10 = .ok (.iconst 1, 1) := by decide +kernel
theorem dX10_reach_11 : decode cX10_reach 11 = .ok (.bipush 7, 2) := by decide +kernel
theorem dX10_reach_13 : decode cX10_reach 13 = .ok (.invokestatic 41, 3) := by decide +kernel
theorem dX10_reach_16 : decode cX10_reach 16 = .ok (.ifCond .eq 12, 3) := by decide +kernel
theorem dX10_reach_19 : decode cX10_reach 19 = .ok (.iload_n 3, 1) := by decide +kernel
theorem dX10_reach_20 : decode cX10_reach 20 = .ok (.iconst 0, 1) := by decide +kernel
theorem dX10_reach_21 : decode cX10_reach 21 = .ok (.iconst 3, 1) := by decide +kernel
theorem dX10_reach_22 : decode cX10_reach 22 = .ok (.invokestatic 41, 3) := by decide +kernel
theorem dX10_reach_25 : decode cX10_reach 25 = .ok (.ifCond .ne 6, 3) := by decide +kernel
theorem dX10_reach_28 : decode cX10_reach 28 = .ok (.bipush (-2), 2) := by decide +kernel
theorem dX10_reach_30 : decode cX10_reach 30 = .ok (.ireturn, 1) := by decide +kernel
theorem dX10_reach_31 : decode cX10_reach 31 = .ok (.aload_n 0, 1) := by decide +kernel
theorem dX10_reach_32 : decode cX10_reach 32 = .ok (.invokevirtual 81, 3) := by decide +kernel
theorem dX10_reach_35 : decode cX10_reach 35 = .ok (.istore 4, 2) := by decide +kernel
theorem dX10_reach_37 : decode cX10_reach 37 = .ok (.iload 4, 2) := by decide +kernel
theorem dX10_reach_39 : decode cX10_reach 39 = .ok (.ifCond .ge 6, 3) := by decide +kernel
theorem dX10_reach_42 : decode cX10_reach 42 = .ok (.bipush (-7), 2) := by decide +kernel
theorem dX10_reach_44 : decode cX10_reach 44 = .ok (.ireturn, 1) := by decide +kernel
theorem dX10_reach_45 : decode cX10_reach 45 = .ok (.aload_n 0, 1) := by decide +kernel
theorem dX10_reach_46 : decode cX10_reach 46 = .ok (.iload_n 1, 1) := by decide +kernel
theorem dX10_reach_47 : decode cX10_reach 47 = .ok (.iload 4, 2) := by decide +kernel
theorem dX10_reach_49 : decode cX10_reach 49 = .ok (.iload_n 2, 1) := by decide +kernel
theorem dX10_reach_50 : decode cX10_reach 50 = .ok (.bipush (-6), 2) := by decide +kernel
theorem dX10_reach_52 : decode cX10_reach 52 = .ok (.invokevirtual 199, 3) := by decide +kernel
theorem dX10_reach_55 : decode cX10_reach 55 = .ok (.istore 5, 2) := by decide +kernel
theorem dX10_reach_57 : decode cX10_reach 57 = .ok (.iload_n 3, 1) := by decide +kernel
theorem dX10_reach_58 : decode cX10_reach 58 = .ok (.ifCond .ne 8, 3) := by decide +kernel
theorem dX10_reach_61 : decode cX10_reach 61 = .ok (.iload 5, 2) := by decide +kernel
theorem dX10_reach_63 : decode cX10_reach 63 = .ok (.goto 31, 3) := by decide +kernel
theorem dX10_reach_66 : decode cX10_reach 66 = .ok (.iload_n 3, 1) := by decide +kernel
theorem dX10_reach_67 : decode cX10_reach 67 = .ok (.iconst 1, 1) := by decide +kernel
theorem dX10_reach_68 : decode cX10_reach 68 = .ok (.if_icmp .ne 10, 3) := by decide +kernel
theorem dX10_reach_71 : decode cX10_reach 71 = .ok (.aload_n 0, 1) := by decide +kernel
theorem dX10_reach_72 : decode cX10_reach 72 = .ok (.invokevirtual 202, 3) := by decide +kernel
theorem dX10_reach_75 : decode cX10_reach 75 = .ok (.goto 19, 3) := by decide +kernel
theorem dX10_reach_78 : decode cX10_reach 78 = .ok (.iload_n 3, 1) := by decide +kernel
theorem dX10_reach_79 : decode cX10_reach 79 = .ok (.iconst 2, 1) := by decide +kernel
theorem dX10_reach_80 : decode cX10_reach 80 = .ok (.if_icmp .ne 10, 3) := by decide +kernel
theorem dX10_reach_83 : decode cX10_reach 83 = .ok (.aload_n 0, 1) := by decide +kernel
theorem dX10_reach_84 : decode cX10_reach 84 = .ok (.getfield 190, 3) := by decide +kernel
theorem dX10_reach_87 : decode cX10_reach 87 = .ok (.goto 7, 3) := by decide +kernel
theorem dX10_reach_90 : decode cX10_reach 90 = .ok (.aload_n 0, 1) := by decide +kernel
theorem dX10_reach_91 : decode cX10_reach 91 = .ok (.getfield 193, 3) := by decide +kernel
theorem dX10_reach_94 : decode cX10_reach 94 = .ok (.ireturn, 1) := by decide +kernel
theorem dX10_fewest_0 : decode cX10_fewest 0 = .ok (.iload_n 1, 1) := by decide +kernel
theorem dX10_fewest_1 : decode cX10_fewest 1 = .ok (.invokestatic 78, 3) := by decide +kernel
theorem dX10_fewest_4 : decode cX10_fewest 4 = .ok (.ifCond .eq 10, 3) := by decide +kernel
theorem dX10_fewest_7 : decode cX10_fewest 7 = .ok (.iload_n 2, 1) := by decide +kernel
theorem dX10_fewest_8 : decode cX10_fewest 8 = .ok (.invokestatic 78, 3) := by decide +kernel
theorem dX10_fewest_11 : decode cX10_fewest 11 = .ok (.ifCond .ne 5, 3) := by decide +kernel
theorem dX10_fewest_14 : decode cX10_fewest 14 = .ok (.iconst (-1), 1) := by decide +kernel
theorem dX10_fewest_15 : decode cX10_fewest 15 = .ok (.ireturn, 1) := by decide +kernel
theorem dX10_fewest_16 : decode cX10_fewest 16 = .ok (.iload_n 1, 1) := by decide +kernel
theorem dX10_fewest_17 : decode cX10_fewest 17 = .ok (.iload_n 2, 1) := by decide +kernel
theorem dX10_fewest_18 : decode cX10_fewest 18 = .ok (.if_icmp .ne 6, 3) := by decide +kernel
theorem dX10_fewest_21 : decode cX10_fewest 21 = .ok (.bipush (-2), 2) := by decide +kernel
theorem dX10_fewest_23 : decode cX10_fewest 23 = .ok (.ireturn, 1) := by decide +kernel
theorem dX10_fewest_24 : decode cX10_fewest 24 = .ok (.aload_n 0, 1) := by decide +kernel
theorem dX10_fewest_25 : decode cX10_fewest 25 = .ok (.invokevirtual 81, 3) := by decide +kernel
theorem dX10_fewest_28 : decode cX10_fewest 28 = .ok (.istore_n 3, 1) := by decide +kernel
theorem dX10_fewest_29 : decode cX10_fewest 29 = .ok (.iload_n 3, 1) := by decide +kernel
theorem dX10_fewest_30 : decode cX10_fewest 30 = .ok (.ifCond .ge 6, 3) := by decide +kernel
theorem dX10_fewest_33 : decode cX10_fewest 33 = .ok (.bipush (-7), 2) := by decide +kernel
theorem dX10_fewest_35 : decode cX10_fewest 35 = .ok (.ireturn, 1) := by decide +kernel
theorem dX10_fewest_36 : decode cX10_fewest 36 = .ok (.iconst 1, 1) := by decide +kernel
theorem dX10_fewest_37 : decode cX10_fewest 37 = .ok (.istore 4, 2) := by decide +kernel
theorem dX10_fewest_39 : decode cX10_fewest 39 = .ok (.iload 4, 2) := by decide +kernel
theorem dX10_fewest_41 : decode cX10_fewest 41 = .ok (.bipush 7, 2) := by decide +kernel
theorem dX10_fewest_43 : decode cX10_fewest 43 = .ok (.if_icmp .gt 30, 3) := by decide +kernel
theorem dX10_fewest_46 : decode cX10_fewest 46 = .ok (.aload_n 0, 1) := by decide +kernel
theorem dX10_fewest_47 : decode cX10_fewest 47 = .ok (.iload_n 1, 1) := by decide +kernel
theorem dX10_fewest_48 : decode cX10_fewest 48 = .ok (.iload_n 3, 1) := by decide +kernel
theorem dX10_fewest_49 : decode cX10_fewest 49 = .ok (.iload 4, 2) := by decide +kernel
theorem dX10_fewest_51 : decode cX10_fewest 51 = .ok (.bipush (-6), 2) := by decide +kernel
theorem dX10_fewest_53 : decode cX10_fewest 53 = .ok (.invokevirtual 199, 3) := by decide +kernel
theorem dX10_fewest_56 : decode cX10_fewest 56 = .ok (.iload_n 2, 1) := by decide +kernel
theorem dX10_fewest_57 : decode cX10_fewest 57 = .ok (.ishr, 1) := by decide +kernel
theorem dX10_fewest_58 : decode cX10_fewest 58 = .ok (.iconst 1, 1) := by decide +kernel
theorem dX10_fewest_59 : decode cX10_fewest 59 = .ok (.iand, 1) := by decide +kernel
theorem dX10_fewest_60 : decode cX10_fewest 60 = .ok (.iconst 1, 1) := by decide +kernel
theorem dX10_fewest_61 : decode cX10_fewest 61 = .ok (.if_icmp .ne 6, 3) := by decide +kernel
theorem dX10_fewest_64 : decode cX10_fewest 64 = .ok (.iload 4, 2) := by decide +kernel
theorem dX10_fewest_66 : decode cX10_fewest 66 = .ok (.ireturn, 1) := by decide +kernel
theorem dX10_fewest_67 : decode cX10_fewest 67 = .ok (.iinc 4 1, 3) := by decide +kernel
theorem dX10_fewest_70 : decode cX10_fewest 70 = .ok (.goto (-31), 3) := by decide +kernel
theorem dX10_fewest_73 : decode cX10_fewest 73 = .ok (.bipush (-6), 2) := by decide +kernel
theorem dX10_fewest_75 : decode cX10_fewest 75 = .ok (.ireturn, 1) := by decide +kernel
theorem dX10_bridges_0 : decode cX10_bridges 0 = .ok (.iload_n 1, 1) := by decide +kernel
theorem dX10_bridges_1 : decode cX10_bridges 1 = .ok (.invokestatic 78, 3) := by decide +kernel
theorem dX10_bridges_4 : decode cX10_bridges 4 = .ok (.ifCond .eq 10, 3) := by decide +kernel
theorem dX10_bridges_7 : decode cX10_bridges 7 = .ok (.iload_n 2, 1) := by decide +kernel
theorem dX10_bridges_8 : decode cX10_bridges 8 = .ok (.invokestatic 78, 3) := by decide +kernel
theorem dX10_bridges_11 : decode cX10_bridges 11 = .ok (.ifCond .ne 5, 3) := by decide +kernel
theorem dX10_bridges_14 : decode cX10_bridges 14 = .ok (.iconst (-1), 1) := by decide +kernel
theorem dX10_bridges_15 : decode cX10_bridges 15 = .ok (.ireturn, 1) := by decide +kernel
theorem dX10_bridges_16 : decode cX10_bridges 16 = .ok (.iload_n 1, 1) := by decide +kernel
theorem dX10_bridges_17 : decode cX10_bridges 17 = .ok (.iload_n 2, 1) := by decide +kernel
theorem dX10_bridges_18 : decode cX10_bridges 18 = .ok (.if_icmp .eq 13, 3) := by decide +kernel
theorem dX10_bridges_21 : decode cX10_bridges 21 = .ok (.iload_n 3, 1) := by decide +kernel
theorem dX10_bridges_22 : decode cX10_bridges 22 = .ok (.iconst 1, 1) := by decide +kernel
theorem dX10_bridges_23 : decode cX10_bridges 23 = .ok (.bipush 7, 2) := by decide +kernel
theorem dX10_bridges_25 : decode cX10_bridges 25 = .ok (.invokestatic 41, 3) := by decide +kernel
theorem dX10_bridges_28 : decode cX10_bridges 28 = .ok (.ifCond .ne 6, 3) := by decide +kernel
theorem dX10_bridges_31 : decode cX10_bridges 31 = .ok (.bipush (-2), 2) := by decide +kernel
theorem dX10_bridges_33 : decode cX10_bridges 33 = .ok (.ireturn, 1) := by decide +kernel
theorem dX10_bridges_34 : decode cX10_bridges 34 = .ok (.aload_n 0, 1) := by decide +kernel
theorem dX10_bridges_35 : decode cX10_bridges 35 = .ok (.invokevirtual 81, 3) := by decide +kernel
theorem dX10_bridges_38 : decode cX10_bridges 38 = .ok (.istore 4, 2) := by decide +kernel
theorem dX10_bridges_40 : decode cX10_bridges 40 = .ok (.iload 4, 2) := by decide +kernel
theorem dX10_bridges_42 : decode cX10_bridges 42 = .ok (.ifCond .ge 6, 3) := by decide +kernel
theorem dX10_bridges_45 : decode cX10_bridges 45 = .ok (.bipush (-7), 2) := by decide +kernel
theorem dX10_bridges_47 : decode cX10_bridges 47 = .ok (.ireturn, 1) := by decide +kernel
theorem dX10_bridges_48 : decode cX10_bridges 48 = .ok (.aload_n 0, 1) := by decide +kernel
theorem dX10_bridges_49 : decode cX10_bridges 49 = .ok (.iload_n 1, 1) := by decide +kernel
theorem dX10_bridges_50 : decode cX10_bridges 50 = .ok (.iload 4, 2) := by decide +kernel
theorem dX10_bridges_52 : decode cX10_bridges 52 = .ok (.iload_n 3, 1) := by decide +kernel
theorem dX10_bridges_53 : decode cX10_bridges 53 = .ok (.bipush (-6), 2) := by decide +kernel
theorem dX10_bridges_55 : decode cX10_bridges 55 = .ok (.invokevirtual 199, 3) := by decide +kernel
theorem dX10_bridges_58 : decode cX10_bridges 58 = .ok (.iload_n 2, 1) := by decide +kernel
theorem dX10_bridges_59 : decode cX10_bridges 59 = .ok (.ishr, 1) := by decide +kernel
theorem dX10_bridges_60 : decode cX10_bridges 60 = .ok (.iconst 1, 1) := by decide +kernel
theorem dX10_bridges_61 : decode cX10_bridges 61 = .ok (.iand, 1) := by decide +kernel
theorem dX10_bridges_62 : decode cX10_bridges 62 = .ok (.ifCond .ne 6, 3) := by decide +kernel
theorem dX10_bridges_65 : decode cX10_bridges 65 = .ok (.bipush (-6), 2) := by decide +kernel
theorem dX10_bridges_67 : decode cX10_bridges 67 = .ok (.ireturn, 1) := by decide +kernel
theorem dX10_bridges_68 : decode cX10_bridges 68 = .ok (.iconst 0, 1) := by decide +kernel
theorem dX10_bridges_69 : decode cX10_bridges 69 = .ok (.istore 5, 2) := by decide +kernel
theorem dX10_bridges_71 : decode cX10_bridges 71 = .ok (.iconst 0, 1) := by decide +kernel
theorem dX10_bridges_72 : decode cX10_bridges 72 = .ok (.istore 6, 2) := by decide +kernel
theorem dX10_bridges_74 : decode cX10_bridges 74 = .ok (.iload 6, 2) := by decide +kernel
theorem dX10_bridges_76 : decode cX10_bridges 76 = .ok (.bipush 6, 2) := by decide +kernel
theorem dX10_bridges_78 : decode cX10_bridges 78 = .ok (.if_icmp .ge 51, 3) := by decide +kernel
theorem dX10_bridges_81 : decode cX10_bridges 81 = .ok (.iload 6, 2) := by decide +kernel
theorem dX10_bridges_83 : decode cX10_bridges 83 = .ok (.iload_n 1, 1) := by decide +kernel
theorem dX10_bridges_84 : decode cX10_bridges 84 = .ok (.if_icmp .eq 39, 3) := by decide +kernel
theorem dX10_bridges_87 : decode cX10_bridges 87 = .ok (.iload 6, 2) := by decide +kernel
theorem dX10_bridges_89 : decode cX10_bridges 89 = .ok (.iload_n 2, 1) := by decide +kernel
theorem dX10_bridges_90 : decode cX10_bridges 90 = .ok (.if_icmp .eq 33, 3) := by decide +kernel
theorem dX10_bridges_93 : decode cX10_bridges 93 = .ok (.iload 5, 2) := by decide +kernel
theorem dX10_bridges_95 : decode cX10_bridges 95 = .ok (.aload_n 0, 1) := by decide +kernel
theorem dX10_bridges_96 : decode cX10_bridges 96 = .ok (.iload_n 1, 1) := by decide +kernel
theorem dX10_bridges_97 : decode cX10_bridges 97 = .ok (.iload 4, 2) := by decide +kernel
theorem dX10_bridges_99 : decode cX10_bridges 99 = .ok (.iload_n 3, 1) := by decide +kernel
theorem dX10_bridges_100 : decode cX10_bridges 100 = .ok (.iload 6, 2) := by decide +kernel
theorem dX10_bridges_102 : decode cX10_bridges 102 = .ok (.invokevirtual 199, 3) := by decide +kernel
theorem dX10_bridges_105 : decode cX10_bridges 105 = .ok (.iload_n 2, 1) := by decide +kernel
theorem dX10_bridges_106 : decode cX10_bridges 106 = .ok (.ishr, 1) := by decide +kernel
theorem dX10_bridges_107 : decode cX10_bridges 107 = .ok (.iconst 1, 1) := by decide +kernel
theorem dX10_bridges_108 : decode cX10_bridges 108 = .ok (.iand, 1) := by decide +kernel
theorem dX10_bridges_109 : decode cX10_bridges 109 = .ok (.ifCond .ne 10, 3) := by decide +kernel
theorem dX10_bridges_112 : decode cX10_bridges 112 = .ok (.iconst 1, 1) := by decide +kernel
theorem dX10_bridges_113 : decode cX10_bridges 113 = .ok (.iload 6, 2) := by decide +kernel
theorem dX10_bridges_115 : decode cX10_bridges 115 = .ok (.ishl, 1) := by decide +kernel
theorem dX10_bridges_116 : decode cX10_bridges 116 = .ok (.goto 4, 3) := by decide +kernel
theorem dX10_bridges_119 : decode cX10_bridges 119 = .ok (.iconst 0, 1) := by decide +kernel
theorem dX10_bridges_120 : decode cX10_bridges 120 = .ok (.ior, 1) := by decide +kernel
theorem dX10_bridges_121 : decode cX10_bridges 121 = .ok (.istore 5, 2) := by decide +kernel
theorem dX10_bridges_123 : decode cX10_bridges 123 = .ok (.iinc 6 1, 3) := by decide +kernel
theorem dX10_bridges_126 : decode cX10_bridges 126 = .ok (.goto (-52), 3) := by decide +kernel
theorem dX10_bridges_129 : decode cX10_bridges 129 = .ok (.iload 5, 2) := by decide +kernel
theorem dX10_bridges_131 : decode cX10_bridges 131 = .ok (.ireturn, 1) := by decide +kernel
theorem dX10_image_0 : decode cX10_image 0 = .ok (.iload_n 1, 1) := by decide +kernel
theorem dX10_image_1 : decode cX10_image 1 = .ok (.iconst 0, 1) := by decide +kernel
theorem dX10_image_2 : decode cX10_image 2 = .ok (.iconst 1, 1) := by decide +kernel
theorem dX10_image_3 : decode cX10_image 3 = .ok (.invokestatic 41, 3) := by decide +kernel
theorem dX10_image_6 : decode cX10_image 6 = .ok (.ifCond .ne 6, 3) := by decide +kernel
theorem dX10_image_9 : decode cX10_image 9 = .ok (.bipush (-2), 2) := by decide +kernel
theorem dX10_image_11 : decode cX10_image 11 = .ok (.ireturn, 1) := by decide +kernel
theorem dX10_image_12 : decode cX10_image 12 = .ok (.aload_n 0, 1) := by decide +kernel
theorem dX10_image_13 : decode cX10_image 13 = .ok (.iload_n 1, 1) := by decide +kernel
theorem dX10_image_14 : decode cX10_image 14 = .ok (.invokevirtual 184, 3) := by decide +kernel
theorem dX10_image_17 : decode cX10_image 17 = .ok (.aload_n 0, 1) := by decide +kernel
theorem dX10_image_18 : decode cX10_image 18 = .ok (.getfield 16, 3) := by decide +kernel
theorem dX10_image_21 : decode cX10_image 21 = .ok (.iload_n 1, 1) := by decide +kernel
theorem dX10_image_22 : decode cX10_image 22 = .ok (.iconst 1, 1) := by decide +kernel
theorem dX10_image_23 : decode cX10_image 23 = .ok (.bastore, 1) := by decide +kernel
theorem dX10_image_24 : decode cX10_image 24 = .ok (.iconst 1, 1) := by decide +kernel
theorem dX10_image_25 : decode cX10_image 25 = .ok (.ireturn, 1) := by decide +kernel
theorem dX10_restore_0 : decode cX10_restore 0 = .ok (.iload_n 1, 1) := by decide +kernel
theorem dX10_restore_1 : decode cX10_restore 1 = .ok (.iconst 0, 1) := by decide +kernel
theorem dX10_restore_2 : decode cX10_restore 2 = .ok (.iconst 1, 1) := by decide +kernel
theorem dX10_restore_3 : decode cX10_restore 3 = .ok (.invokestatic 41, 3) := by decide +kernel
theorem dX10_restore_6 : decode cX10_restore 6 = .ok (.ifCond .ne 6, 3) := by decide +kernel
theorem dX10_restore_9 : decode cX10_restore 9 = .ok (.bipush (-2), 2) := by decide +kernel
theorem dX10_restore_11 : decode cX10_restore 11 = .ok (.ireturn, 1) := by decide +kernel
theorem dX10_restore_12 : decode cX10_restore 12 = .ok (.aload_n 0, 1) := by decide +kernel
theorem dX10_restore_13 : decode cX10_restore 13 = .ok (.getfield 16, 3) := by decide +kernel
theorem dX10_restore_16 : decode cX10_restore 16 = .ok (.iload_n 1, 1) := by decide +kernel
theorem dX10_restore_17 : decode cX10_restore 17 = .ok (.baload, 1) := by decide +kernel
theorem dX10_restore_18 : decode cX10_restore 18 = .ok (.ifCond .ne 6, 3) := by decide +kernel
theorem dX10_restore_21 : decode cX10_restore 21 = .ok (.bipush (-3), 2) := by decide +kernel
theorem dX10_restore_23 : decode cX10_restore 23 = .ok (.ireturn, 1) := by decide +kernel
theorem dX10_restore_24 : decode cX10_restore 24 = .ok (.aload_n 0, 1) := by decide +kernel
theorem dX10_restore_25 : decode cX10_restore 25 = .ok (.iload_n 1, 1) := by decide +kernel
theorem dX10_restore_26 : decode cX10_restore 26 = .ok (.invokevirtual 196, 3) := by decide +kernel
theorem dX10_restore_29 : decode cX10_restore 29 = .ok (.iconst 1, 1) := by decide +kernel
theorem dX10_restore_30 : decode cX10_restore 30 = .ok (.ireturn, 1) := by decide +kernel
theorem dX10_pairs_0 : decode cX10_pairs 0 = .ok (.iconst 0, 1) := by decide +kernel
theorem dX10_pairs_1 : decode cX10_pairs 1 = .ok (.istore_n 1, 1) := by decide +kernel
theorem dX10_pairs_2 : decode cX10_pairs 2 = .ok (.iconst 0, 1) := by decide +kernel
theorem dX10_pairs_3 : decode cX10_pairs 3 = .ok (.istore_n 2, 1) := by decide +kernel
theorem dX10_pairs_4 : decode cX10_pairs 4 = .ok (.iload_n 2, 1) := by decide +kernel
theorem dX10_pairs_5 : decode cX10_pairs 5 = .ok (.bipush 36, 2) := by decide +kernel
theorem dX10_pairs_7 : decode cX10_pairs 7 = .ok (.if_icmp .ge 21, 3) := by decide +kernel
theorem dX10_pairs_10 : decode cX10_pairs 10 = .ok (.iload_n 1, 1) := by decide +kernel
theorem dX10_pairs_11 : decode cX10_pairs 11 = .ok (.aload_n 0, 1) := by decide +kernel
theorem dX10_pairs_12 : decode cX10_pairs 12 = .ok (.getfield 7, 3) := by decide +kernel
theorem dX10_pairs_15 : decode cX10_pairs 15 = .ok (.bipush 60, 2) := by decide +kernel
theorem dX10_pairs_17 : decode cX10_pairs 17 = .ok (.iload_n 2, 1) := by decide +kernel
theorem dX10_pairs_18 : decode cX10_pairs 18 = .ok (.iadd, 1) := by decide +kernel
theorem dX10_pairs_19 : decode cX10_pairs 19 = .ok (.iaload, 1) := by decide +kernel
theorem dX10_pairs_20 : decode cX10_pairs 20 = .ok (.iadd, 1) := by decide +kernel
theorem dX10_pairs_21 : decode cX10_pairs 21 = .ok (.istore_n 1, 1) := by decide +kernel
theorem dX10_pairs_22 : decode cX10_pairs 22 = .ok (.iinc 2 1, 3) := by decide +kernel
theorem dX10_pairs_25 : decode cX10_pairs 25 = .ok (.goto (-21), 3) := by decide +kernel
theorem dX10_pairs_28 : decode cX10_pairs 28 = .ok (.iload_n 1, 1) := by decide +kernel
theorem dX10_pairs_29 : decode cX10_pairs 29 = .ok (.iconst 2, 1) := by decide +kernel
theorem dX10_pairs_30 : decode cX10_pairs 30 = .ok (.idiv, 1) := by decide +kernel
theorem dX10_pairs_31 : decode cX10_pairs 31 = .ok (.ireturn, 1) := by decide +kernel
theorem dX10_count__0 : decode cX10_count_ 0 = .ok (.iload_n 1, 1) := by decide +kernel
theorem dX10_count__1 : decode cX10_count_ 1 = .ok (.tableswitch 110 0 6 #[43, 52, 57, 62, 68, 75, 80], 43) := by decide +kernel
theorem dX10_count__44 : decode cX10_count_ 44 = .ok (.aload_n 0, 1) := by decide +kernel
theorem dX10_count__45 : decode cX10_count_ 45 = .ok (.getfield 7, 3) := by decide +kernel
theorem dX10_count__48 : decode cX10_count_ 48 = .ok (.sipush 1386, 3) := by decide +kernel
theorem dX10_count__51 : decode cX10_count_ 51 = .ok (.iaload, 1) := by decide +kernel
theorem dX10_count__52 : decode cX10_count_ 52 = .ok (.ireturn, 1) := by decide +kernel
theorem dX10_count__53 : decode cX10_count_ 53 = .ok (.aload_n 0, 1) := by decide +kernel
theorem dX10_count__54 : decode cX10_count_ 54 = .ok (.getfield 45, 3) := by decide +kernel
theorem dX10_count__57 : decode cX10_count_ 57 = .ok (.ireturn, 1) := by decide +kernel
theorem dX10_count__58 : decode cX10_count_ 58 = .ok (.aload_n 0, 1) := by decide +kernel
theorem dX10_count__59 : decode cX10_count_ 59 = .ok (.invokevirtual 154, 3) := by decide +kernel
theorem dX10_count__62 : decode cX10_count_ 62 = .ok (.ireturn, 1) := by decide +kernel
theorem dX10_count__63 : decode cX10_count_ 63 = .ok (.aload_n 0, 1) := by decide +kernel
theorem dX10_count__64 : decode cX10_count_ 64 = .ok (.iconst 0, 1) := by decide +kernel
theorem dX10_count__65 : decode cX10_count_ 65 = .ok (.invokevirtual 187, 3) := by decide +kernel
theorem dX10_count__68 : decode cX10_count_ 68 = .ok (.ireturn, 1) := by decide +kernel
theorem dX10_count__69 : decode cX10_count_ 69 = .ok (.aload_n 0, 1) := by decide +kernel
theorem dX10_count__70 : decode cX10_count_ 70 = .ok (.bipush 7, 2) := by decide +kernel
theorem dX10_count__72 : decode cX10_count_ 72 = .ok (.invokevirtual 187, 3) := by decide +kernel
theorem dX10_count__75 : decode cX10_count_ 75 = .ok (.ireturn, 1) := by decide +kernel
theorem dX10_count__76 : decode cX10_count_ 76 = .ok (.aload_n 0, 1) := by decide +kernel
theorem dX10_count__77 : decode cX10_count_ 77 = .ok (.invokevirtual 205, 3) := by decide +kernel
theorem dX10_count__80 : decode cX10_count_ 80 = .ok (.ireturn, 1) := by decide +kernel
theorem dX10_count__81 : decode cX10_count_ 81 = .ok (.aload_n 0, 1) := by decide +kernel
theorem dX10_count__82 : decode cX10_count_ 82 = .ok (.getfield 16, 3) := by decide +kernel
theorem dX10_count__85 : decode cX10_count_ 85 = .ok (.iconst 0, 1) := by decide +kernel
theorem dX10_count__86 : decode cX10_count_ 86 = .ok (.baload, 1) := by decide +kernel
theorem dX10_count__87 : decode cX10_count_ 87 = .ok (.ifCond .eq 7, 3) := by decide +kernel
theorem dX10_count__90 : decode cX10_count_ 90 = .ok (.iconst 1, 1) := by decide +kernel
theorem dX10_count__91 : decode cX10_count_ 91 = .ok (.goto 4, 3) := by decide +kernel
theorem dX10_count__94 : decode cX10_count_ 94 = .ok (.iconst 0, 1) := by decide +kernel
theorem dX10_count__95 : decode cX10_count_ 95 = .ok (.aload_n 0, 1) := by decide +kernel
theorem dX10_count__96 : decode cX10_count_ 96 = .ok (.getfield 16, 3) := by decide +kernel
theorem dX10_count__99 : decode cX10_count_ 99 = .ok (.iconst 1, 1) := by decide +kernel
theorem dX10_count__100 : decode cX10_count_ 100 = .ok (.baload, 1) := by decide +kernel
theorem dX10_count__101 : decode cX10_count_ 101 = .ok (.ifCond .eq 7, 3) := by decide +kernel
theorem dX10_count__104 : decode cX10_count_ 104 = .ok (.iconst 2, 1) := by decide +kernel
theorem dX10_count__105 : decode cX10_count_ 105 = .ok (.goto 4, 3) := by decide +kernel
theorem dX10_count__108 : decode cX10_count_ 108 = .ok (.iconst 0, 1) := by decide +kernel
theorem dX10_count__109 : decode cX10_count_ 109 = .ok (.iadd, 1) := by decide +kernel
theorem dX10_count__110 : decode cX10_count_ 110 = .ok (.ireturn, 1) := by decide +kernel
theorem dX10_count__111 : decode cX10_count_ 111 = .ok (.bipush (-2), 2) := by decide +kernel
theorem dX10_count__113 : decode cX10_count_ 113 = .ok (.ireturn, 1) := by decide +kernel
theorem dJ6_bitCount_0f7a4_0 : decode cJ6_bitCount_0f7a4 0 = .ok (.iload_n 0, 1) := by decide +kernel
theorem dJ6_bitCount_0f7a4_1 : decode cJ6_bitCount_0f7a4 1 = .ok (.iload_n 0, 1) := by decide +kernel
theorem dJ6_bitCount_0f7a4_2 : decode cJ6_bitCount_0f7a4 2 = .ok (.iconst 1, 1) := by decide +kernel
theorem dJ6_bitCount_0f7a4_3 : decode cJ6_bitCount_0f7a4 3 = .ok (.iushr, 1) := by decide +kernel
theorem dJ6_bitCount_0f7a4_4 : decode cJ6_bitCount_0f7a4 4 = .ok (.ldc_w 265, 3) := by decide +kernel
theorem dJ6_bitCount_0f7a4_7 : decode cJ6_bitCount_0f7a4 7 = .ok (.iand, 1) := by decide +kernel
theorem dJ6_bitCount_0f7a4_8 : decode cJ6_bitCount_0f7a4 8 = .ok (.isub, 1) := by decide +kernel
theorem dJ6_bitCount_0f7a4_9 : decode cJ6_bitCount_0f7a4 9 = .ok (.istore_n 0, 1) := by decide +kernel
theorem dJ6_bitCount_0f7a4_10 : decode cJ6_bitCount_0f7a4 10 = .ok (.iload_n 0, 1) := by decide +kernel
theorem dJ6_bitCount_0f7a4_11 : decode cJ6_bitCount_0f7a4 11 = .ok (.ldc_w 266, 3) := by decide +kernel
theorem dJ6_bitCount_0f7a4_14 : decode cJ6_bitCount_0f7a4 14 = .ok (.iand, 1) := by decide +kernel
theorem dJ6_bitCount_0f7a4_15 : decode cJ6_bitCount_0f7a4 15 = .ok (.iload_n 0, 1) := by decide +kernel
theorem dJ6_bitCount_0f7a4_16 : decode cJ6_bitCount_0f7a4 16 = .ok (.iconst 2, 1) := by decide +kernel
theorem dJ6_bitCount_0f7a4_17 : decode cJ6_bitCount_0f7a4 17 = .ok (.iushr, 1) := by decide +kernel
theorem dJ6_bitCount_0f7a4_18 : decode cJ6_bitCount_0f7a4 18 = .ok (.ldc_w 266, 3) := by decide +kernel
theorem dJ6_bitCount_0f7a4_21 : decode cJ6_bitCount_0f7a4 21 = .ok (.iand, 1) := by decide +kernel
theorem dJ6_bitCount_0f7a4_22 : decode cJ6_bitCount_0f7a4 22 = .ok (.iadd, 1) := by decide +kernel
theorem dJ6_bitCount_0f7a4_23 : decode cJ6_bitCount_0f7a4 23 = .ok (.istore_n 0, 1) := by decide +kernel
theorem dJ6_bitCount_0f7a4_24 : decode cJ6_bitCount_0f7a4 24 = .ok (.iload_n 0, 1) := by decide +kernel
theorem dJ6_bitCount_0f7a4_25 : decode cJ6_bitCount_0f7a4 25 = .ok (.iload_n 0, 1) := by decide +kernel
theorem dJ6_bitCount_0f7a4_26 : decode cJ6_bitCount_0f7a4 26 = .ok (.iconst 4, 1) := by decide +kernel
theorem dJ6_bitCount_0f7a4_27 : decode cJ6_bitCount_0f7a4 27 = .ok (.iushr, 1) := by decide +kernel
theorem dJ6_bitCount_0f7a4_28 : decode cJ6_bitCount_0f7a4 28 = .ok (.iadd, 1) := by decide +kernel
theorem dJ6_bitCount_0f7a4_29 : decode cJ6_bitCount_0f7a4 29 = .ok (.ldc_w 267, 3) := by decide +kernel
theorem dJ6_bitCount_0f7a4_32 : decode cJ6_bitCount_0f7a4 32 = .ok (.iand, 1) := by decide +kernel
theorem dJ6_bitCount_0f7a4_33 : decode cJ6_bitCount_0f7a4 33 = .ok (.istore_n 0, 1) := by decide +kernel
theorem dJ6_bitCount_0f7a4_34 : decode cJ6_bitCount_0f7a4 34 = .ok (.iload_n 0, 1) := by decide +kernel
theorem dJ6_bitCount_0f7a4_35 : decode cJ6_bitCount_0f7a4 35 = .ok (.iload_n 0, 1) := by decide +kernel
theorem dJ6_bitCount_0f7a4_36 : decode cJ6_bitCount_0f7a4 36 = .ok (.bipush 8, 2) := by decide +kernel
theorem dJ6_bitCount_0f7a4_38 : decode cJ6_bitCount_0f7a4 38 = .ok (.iushr, 1) := by decide +kernel
theorem dJ6_bitCount_0f7a4_39 : decode cJ6_bitCount_0f7a4 39 = .ok (.iadd, 1) := by decide +kernel
theorem dJ6_bitCount_0f7a4_40 : decode cJ6_bitCount_0f7a4 40 = .ok (.istore_n 0, 1) := by decide +kernel
theorem dJ6_bitCount_0f7a4_41 : decode cJ6_bitCount_0f7a4 41 = .ok (.iload_n 0, 1) := by decide +kernel
theorem dJ6_bitCount_0f7a4_42 : decode cJ6_bitCount_0f7a4 42 = .ok (.iload_n 0, 1) := by decide +kernel
theorem dJ6_bitCount_0f7a4_43 : decode cJ6_bitCount_0f7a4 43 = .ok (.bipush 16, 2) := by decide +kernel
theorem dJ6_bitCount_0f7a4_45 : decode cJ6_bitCount_0f7a4 45 = .ok (.iushr, 1) := by decide +kernel
theorem dJ6_bitCount_0f7a4_46 : decode cJ6_bitCount_0f7a4 46 = .ok (.iadd, 1) := by decide +kernel
theorem dJ6_bitCount_0f7a4_47 : decode cJ6_bitCount_0f7a4 47 = .ok (.istore_n 0, 1) := by decide +kernel
theorem dJ6_bitCount_0f7a4_48 : decode cJ6_bitCount_0f7a4 48 = .ok (.iload_n 0, 1) := by decide +kernel
theorem dJ6_bitCount_0f7a4_49 : decode cJ6_bitCount_0f7a4 49 = .ok (.bipush 63, 2) := by decide +kernel
theorem dJ6_bitCount_0f7a4_51 : decode cJ6_bitCount_0f7a4 51 = .ok (.iand, 1) := by decide +kernel
theorem dJ6_bitCount_0f7a4_52 : decode cJ6_bitCount_0f7a4 52 = .ok (.ireturn, 1) := by decide +kernel
theorem dJ9_min_7cf53_0 : decode cJ9_min_7cf53 0 = .ok (.iload_n 0, 1) := by decide +kernel
theorem dJ9_min_7cf53_1 : decode cJ9_min_7cf53 1 = .ok (.iload_n 1, 1) := by decide +kernel
theorem dJ9_min_7cf53_2 : decode cJ9_min_7cf53 2 = .ok (.if_icmp .gt 7, 3) := by decide +kernel
theorem dJ9_min_7cf53_5 : decode cJ9_min_7cf53 5 = .ok (.iload_n 0, 1) := by decide +kernel
theorem dJ9_min_7cf53_6 : decode cJ9_min_7cf53 6 = .ok (.goto 4, 3) := by decide +kernel
theorem dJ9_min_7cf53_9 : decode cJ9_min_7cf53 9 = .ok (.iload_n 1, 1) := by decide +kernel
theorem dJ9_min_7cf53_10 : decode cJ9_min_7cf53 10 = .ok (.ireturn, 1) := by decide +kernel
theorem dL_law_0 : decode cL_law 0 = .ok (.new 7, 3) := by decide +kernel
theorem dL_law_3 : decode cL_law 3 = .ok (.dup, 1) := by decide +kernel
theorem dL_law_4 : decode cL_law 4 = .ok (.invokespecial 9, 3) := by decide +kernel
theorem dL_law_7 : decode cL_law 7 = .ok (.astore_n 1, 1) := by decide +kernel
theorem dL_law_8 : decode cL_law 8 = .ok (.new 10, 3) := by decide +kernel
theorem dL_law_11 : decode cL_law 11 = .ok (.dup, 1) := by decide +kernel
theorem dL_law_12 : decode cL_law 12 = .ok (.invokespecial 12, 3) := by decide +kernel
theorem dL_law_15 : decode cL_law 15 = .ok (.astore_n 2, 1) := by decide +kernel
theorem dL_law_16 : decode cL_law 16 = .ok (.iconst 0, 1) := by decide +kernel
theorem dL_law_17 : decode cL_law 17 = .ok (.istore_n 3, 1) := by decide +kernel
theorem dL_law_18 : decode cL_law 18 = .ok (.iload_n 3, 1) := by decide +kernel
theorem dL_law_19 : decode cL_law 19 = .ok (.aload_n 0, 1) := by decide +kernel
theorem dL_law_20 : decode cL_law 20 = .ok (.arraylength, 1) := by decide +kernel
theorem dL_law_21 : decode cL_law 21 = .ok (.iconst 4, 1) := by decide +kernel
theorem dL_law_22 : decode cL_law 22 = .ok (.isub, 1) := by decide +kernel
theorem dL_law_23 : decode cL_law 23 = .ok (.if_icmp .gt 674, 3) := by decide +kernel
theorem dL_law_26 : decode cL_law 26 = .ok (.aload_n 0, 1) := by decide +kernel
theorem dL_law_27 : decode cL_law 27 = .ok (.iload_n 3, 1) := by decide +kernel
theorem dL_law_28 : decode cL_law 28 = .ok (.iaload, 1) := by decide +kernel
theorem dL_law_29 : decode cL_law 29 = .ok (.bipush 31, 2) := by decide +kernel
theorem dL_law_31 : decode cL_law 31 = .ok (.iand, 1) := by decide +kernel
theorem dL_law_32 : decode cL_law 32 = .ok (.tableswitch 659 0 18 #[92, 115, 128, 141, 174, 207, 250, 293, 316, 339, 372, 405, 438, 471, 514, 547, 590, 613, 636], 92) := by decide +kernel
theorem dL_law_124 : decode cL_law 124 = .ok (.aload_n 1, 1) := by decide +kernel
theorem dL_law_125 : decode cL_law 125 = .ok (.aload_n 0, 1) := by decide +kernel
theorem dL_law_126 : decode cL_law 126 = .ok (.iload_n 3, 1) := by decide +kernel
theorem dL_law_127 : decode cL_law 127 = .ok (.iconst 1, 1) := by decide +kernel
theorem dL_law_128 : decode cL_law 128 = .ok (.iadd, 1) := by decide +kernel
theorem dL_law_129 : decode cL_law 129 = .ok (.iaload, 1) := by decide +kernel
theorem dL_law_130 : decode cL_law 130 = .ok (.invokevirtual 13, 3) := by decide +kernel
theorem dL_law_133 : decode cL_law 133 = .ok (.aload_n 2, 1) := by decide +kernel
theorem dL_law_134 : decode cL_law 134 = .ok (.aload_n 0, 1) := by decide +kernel
theorem dL_law_135 : decode cL_law 135 = .ok (.iload_n 3, 1) := by decide +kernel
theorem dL_law_136 : decode cL_law 136 = .ok (.iconst 1, 1) := by decide +kernel
theorem dL_law_137 : decode cL_law 137 = .ok (.iadd, 1) := by decide +kernel
theorem dL_law_138 : decode cL_law 138 = .ok (.iaload, 1) := by decide +kernel
theorem dL_law_139 : decode cL_law 139 = .ok (.invokevirtual 17, 3) := by decide +kernel
theorem dL_law_142 : decode cL_law 142 = .ok (.if_icmp .eq 549, 3) := by decide +kernel
theorem dL_law_145 : decode cL_law 145 = .ok (.iconst 0, 1) := by decide +kernel
theorem dL_law_146 : decode cL_law 146 = .ok (.ireturn, 1) := by decide +kernel
theorem dL_law_147 : decode cL_law 147 = .ok (.aload_n 1, 1) := by decide +kernel
theorem dL_law_148 : decode cL_law 148 = .ok (.invokevirtual 18, 3) := by decide +kernel
theorem dL_law_151 : decode cL_law 151 = .ok (.aload_n 2, 1) := by decide +kernel
theorem dL_law_152 : decode cL_law 152 = .ok (.invokevirtual 22, 3) := by decide +kernel
theorem dL_law_155 : decode cL_law 155 = .ok (.if_icmp .eq 536, 3) := by decide +kernel
theorem dL_law_158 : decode cL_law 158 = .ok (.iconst 0, 1) := by decide +kernel
theorem dL_law_159 : decode cL_law 159 = .ok (.ireturn, 1) := by decide +kernel
theorem dL_law_160 : decode cL_law 160 = .ok (.aload_n 1, 1) := by decide +kernel
theorem dL_law_161 : decode cL_law 161 = .ok (.invokevirtual 23, 3) := by decide +kernel
theorem dL_law_164 : decode cL_law 164 = .ok (.aload_n 2, 1) := by decide +kernel
theorem dL_law_165 : decode cL_law 165 = .ok (.invokevirtual 26, 3) := by decide +kernel
theorem dL_law_168 : decode cL_law 168 = .ok (.if_icmp .eq 523, 3) := by decide +kernel
theorem dL_law_171 : decode cL_law 171 = .ok (.iconst 0, 1) := by decide +kernel
theorem dL_law_172 : decode cL_law 172 = .ok (.ireturn, 1) := by decide +kernel
theorem dL_law_173 : decode cL_law 173 = .ok (.aload_n 1, 1) := by decide +kernel
theorem dL_law_174 : decode cL_law 174 = .ok (.aload_n 0, 1) := by decide +kernel
theorem dL_law_175 : decode cL_law 175 = .ok (.iload_n 3, 1) := by decide +kernel
theorem dL_law_176 : decode cL_law 176 = .ok (.iconst 1, 1) := by decide +kernel
theorem dL_law_177 : decode cL_law 177 = .ok (.iadd, 1) := by decide +kernel
theorem dL_law_178 : decode cL_law 178 = .ok (.iaload, 1) := by decide +kernel
theorem dL_law_179 : decode cL_law 179 = .ok (.aload_n 0, 1) := by decide +kernel
theorem dL_law_180 : decode cL_law 180 = .ok (.iload_n 3, 1) := by decide +kernel
theorem dL_law_181 : decode cL_law 181 = .ok (.iconst 2, 1) := by decide +kernel
theorem dL_law_182 : decode cL_law 182 = .ok (.iadd, 1) := by decide +kernel
theorem dL_law_183 : decode cL_law 183 = .ok (.iaload, 1) := by decide +kernel
theorem dL_law_184 : decode cL_law 184 = .ok (.invokevirtual 27, 3) := by decide +kernel
theorem dL_law_187 : decode cL_law 187 = .ok (.aload_n 2, 1) := by decide +kernel
theorem dL_law_188 : decode cL_law 188 = .ok (.aload_n 0, 1) := by decide +kernel
theorem dL_law_189 : decode cL_law 189 = .ok (.iload_n 3, 1) := by decide +kernel
theorem dL_law_190 : decode cL_law 190 = .ok (.iconst 1, 1) := by decide +kernel
theorem dL_law_191 : decode cL_law 191 = .ok (.iadd, 1) := by decide +kernel
theorem dL_law_192 : decode cL_law 192 = .ok (.iaload, 1) := by decide +kernel
theorem dL_law_193 : decode cL_law 193 = .ok (.aload_n 0, 1) := by decide +kernel
theorem dL_law_194 : decode cL_law 194 = .ok (.iload_n 3, 1) := by decide +kernel
theorem dL_law_195 : decode cL_law 195 = .ok (.iconst 2, 1) := by decide +kernel
theorem dL_law_196 : decode cL_law 196 = .ok (.iadd, 1) := by decide +kernel
theorem dL_law_197 : decode cL_law 197 = .ok (.iaload, 1) := by decide +kernel
theorem dL_law_198 : decode cL_law 198 = .ok (.invokevirtual 31, 3) := by decide +kernel
theorem dL_law_201 : decode cL_law 201 = .ok (.if_icmp .eq 490, 3) := by decide +kernel
theorem dL_law_204 : decode cL_law 204 = .ok (.iconst 0, 1) := by decide +kernel
theorem dL_law_205 : decode cL_law 205 = .ok (.ireturn, 1) := by decide +kernel
theorem dL_law_206 : decode cL_law 206 = .ok (.aload_n 1, 1) := by decide +kernel
theorem dL_law_207 : decode cL_law 207 = .ok (.aload_n 0, 1) := by decide +kernel
theorem dL_law_208 : decode cL_law 208 = .ok (.iload_n 3, 1) := by decide +kernel
theorem dL_law_209 : decode cL_law 209 = .ok (.iconst 1, 1) := by decide +kernel
theorem dL_law_210 : decode cL_law 210 = .ok (.iadd, 1) := by decide +kernel
theorem dL_law_211 : decode cL_law 211 = .ok (.iaload, 1) := by decide +kernel
theorem dL_law_212 : decode cL_law 212 = .ok (.aload_n 0, 1) := by decide +kernel
theorem dL_law_213 : decode cL_law 213 = .ok (.iload_n 3, 1) := by decide +kernel
theorem dL_law_214 : decode cL_law 214 = .ok (.iconst 2, 1) := by decide +kernel
theorem dL_law_215 : decode cL_law 215 = .ok (.iadd, 1) := by decide +kernel
theorem dL_law_216 : decode cL_law 216 = .ok (.iaload, 1) := by decide +kernel
theorem dL_law_217 : decode cL_law 217 = .ok (.invokevirtual 32, 3) := by decide +kernel
theorem dL_law_220 : decode cL_law 220 = .ok (.aload_n 2, 1) := by decide +kernel
theorem dL_law_221 : decode cL_law 221 = .ok (.aload_n 0, 1) := by decide +kernel
theorem dL_law_222 : decode cL_law 222 = .ok (.iload_n 3, 1) := by decide +kernel
theorem dL_law_223 : decode cL_law 223 = .ok (.iconst 1, 1) := by decide +kernel
theorem dL_law_224 : decode cL_law 224 = .ok (.iadd, 1) := by decide +kernel
theorem dL_law_225 : decode cL_law 225 = .ok (.iaload, 1) := by decide +kernel
theorem dL_law_226 : decode cL_law 226 = .ok (.aload_n 0, 1) := by decide +kernel
theorem dL_law_227 : decode cL_law 227 = .ok (.iload_n 3, 1) := by decide +kernel
theorem dL_law_228 : decode cL_law 228 = .ok (.iconst 2, 1) := by decide +kernel
theorem dL_law_229 : decode cL_law 229 = .ok (.iadd, 1) := by decide +kernel
theorem dL_law_230 : decode cL_law 230 = .ok (.iaload, 1) := by decide +kernel
theorem dL_law_231 : decode cL_law 231 = .ok (.invokevirtual 35, 3) := by decide +kernel
theorem dL_law_234 : decode cL_law 234 = .ok (.if_icmp .eq 457, 3) := by decide +kernel
theorem dL_law_237 : decode cL_law 237 = .ok (.iconst 0, 1) := by decide +kernel
theorem dL_law_238 : decode cL_law 238 = .ok (.ireturn, 1) := by decide +kernel
theorem dL_law_239 : decode cL_law 239 = .ok (.aload_n 1, 1) := by decide +kernel
theorem dL_law_240 : decode cL_law 240 = .ok (.aload_n 0, 1) := by decide +kernel
theorem dL_law_241 : decode cL_law 241 = .ok (.iload_n 3, 1) := by decide +kernel
theorem dL_law_242 : decode cL_law 242 = .ok (.iconst 1, 1) := by decide +kernel
theorem dL_law_243 : decode cL_law 243 = .ok (.iadd, 1) := by decide +kernel
theorem dL_law_244 : decode cL_law 244 = .ok (.iaload, 1) := by decide +kernel
theorem dL_law_245 : decode cL_law 245 = .ok (.aload_n 0, 1) := by decide +kernel
theorem dL_law_246 : decode cL_law 246 = .ok (.iload_n 3, 1) := by decide +kernel
theorem dL_law_247 : decode cL_law 247 = .ok (.iconst 2, 1) := by decide +kernel
theorem dL_law_248 : decode cL_law 248 = .ok (.iadd, 1) := by decide +kernel
theorem dL_law_249 : decode cL_law 249 = .ok (.iaload, 1) := by decide +kernel
theorem dL_law_250 : decode cL_law 250 = .ok (.aload_n 0, 1) := by decide +kernel
theorem dL_law_251 : decode cL_law 251 = .ok (.iload_n 3, 1) := by decide +kernel
theorem dL_law_252 : decode cL_law 252 = .ok (.iconst 3, 1) := by decide +kernel
theorem dL_law_253 : decode cL_law 253 = .ok (.iadd, 1) := by decide +kernel
theorem dL_law_254 : decode cL_law 254 = .ok (.iaload, 1) := by decide +kernel
theorem dL_law_255 : decode cL_law 255 = .ok (.invokevirtual 36, 3) := by decide +kernel
theorem dL_law_258 : decode cL_law 258 = .ok (.aload_n 2, 1) := by decide +kernel
theorem dL_law_259 : decode cL_law 259 = .ok (.aload_n 0, 1) := by decide +kernel
theorem dL_law_260 : decode cL_law 260 = .ok (.iload_n 3, 1) := by decide +kernel
theorem dL_law_261 : decode cL_law 261 = .ok (.iconst 1, 1) := by decide +kernel
theorem dL_law_262 : decode cL_law 262 = .ok (.iadd, 1) := by decide +kernel
theorem dL_law_263 : decode cL_law 263 = .ok (.iaload, 1) := by decide +kernel
theorem dL_law_264 : decode cL_law 264 = .ok (.aload_n 0, 1) := by decide +kernel
theorem dL_law_265 : decode cL_law 265 = .ok (.iload_n 3, 1) := by decide +kernel
theorem dL_law_266 : decode cL_law 266 = .ok (.iconst 2, 1) := by decide +kernel
theorem dL_law_267 : decode cL_law 267 = .ok (.iadd, 1) := by decide +kernel
theorem dL_law_268 : decode cL_law 268 = .ok (.iaload, 1) := by decide +kernel
theorem dL_law_269 : decode cL_law 269 = .ok (.aload_n 0, 1) := by decide +kernel
theorem dL_law_270 : decode cL_law 270 = .ok (.iload_n 3, 1) := by decide +kernel
theorem dL_law_271 : decode cL_law 271 = .ok (.iconst 3, 1) := by decide +kernel
theorem dL_law_272 : decode cL_law 272 = .ok (.iadd, 1) := by decide +kernel
theorem dL_law_273 : decode cL_law 273 = .ok (.iaload, 1) := by decide +kernel
theorem dL_law_274 : decode cL_law 274 = .ok (.invokevirtual 40, 3) := by decide +kernel
theorem dL_law_277 : decode cL_law 277 = .ok (.if_icmp .eq 414, 3) := by decide +kernel
theorem dL_law_280 : decode cL_law 280 = .ok (.iconst 0, 1) := by decide +kernel
theorem dL_law_281 : decode cL_law 281 = .ok (.ireturn, 1) := by decide +kernel
theorem dL_law_282 : decode cL_law 282 = .ok (.aload_n 1, 1) := by decide +kernel
theorem dL_law_283 : decode cL_law 283 = .ok (.aload_n 0, 1) := by decide +kernel
theorem dL_law_284 : decode cL_law 284 = .ok (.iload_n 3, 1) := by decide +kernel
theorem dL_law_285 : decode cL_law 285 = .ok (.iconst 1, 1) := by decide +kernel
theorem dL_law_286 : decode cL_law 286 = .ok (.iadd, 1) := by decide +kernel
theorem dL_law_287 : decode cL_law 287 = .ok (.iaload, 1) := by decide +kernel
theorem dL_law_288 : decode cL_law 288 = .ok (.aload_n 0, 1) := by decide +kernel
theorem dL_law_289 : decode cL_law 289 = .ok (.iload_n 3, 1) := by decide +kernel
theorem dL_law_290 : decode cL_law 290 = .ok (.iconst 2, 1) := by decide +kernel
theorem dL_law_291 : decode cL_law 291 = .ok (.iadd, 1) := by decide +kernel
theorem dL_law_292 : decode cL_law 292 = .ok (.iaload, 1) := by decide +kernel
theorem dL_law_293 : decode cL_law 293 = .ok (.aload_n 0, 1) := by decide +kernel
theorem dL_law_294 : decode cL_law 294 = .ok (.iload_n 3, 1) := by decide +kernel
theorem dL_law_295 : decode cL_law 295 = .ok (.iconst 3, 1) := by decide +kernel
theorem dL_law_296 : decode cL_law 296 = .ok (.iadd, 1) := by decide +kernel
theorem dL_law_297 : decode cL_law 297 = .ok (.iaload, 1) := by decide +kernel
theorem dL_law_298 : decode cL_law 298 = .ok (.invokevirtual 41, 3) := by decide +kernel
theorem dL_law_301 : decode cL_law 301 = .ok (.aload_n 2, 1) := by decide +kernel
theorem dL_law_302 : decode cL_law 302 = .ok (.aload_n 0, 1) := by decide +kernel
theorem dL_law_303 : decode cL_law 303 = .ok (.iload_n 3, 1) := by decide +kernel
theorem dL_law_304 : decode cL_law 304 = .ok (.iconst 1, 1) := by decide +kernel
theorem dL_law_305 : decode cL_law 305 = .ok (.iadd, 1) := by decide +kernel
theorem dL_law_306 : decode cL_law 306 = .ok (.iaload, 1) := by decide +kernel
theorem dL_law_307 : decode cL_law 307 = .ok (.aload_n 0, 1) := by decide +kernel
theorem dL_law_308 : decode cL_law 308 = .ok (.iload_n 3, 1) := by decide +kernel
theorem dL_law_309 : decode cL_law 309 = .ok (.iconst 2, 1) := by decide +kernel
theorem dL_law_310 : decode cL_law 310 = .ok (.iadd, 1) := by decide +kernel
theorem dL_law_311 : decode cL_law 311 = .ok (.iaload, 1) := by decide +kernel
theorem dL_law_312 : decode cL_law 312 = .ok (.aload_n 0, 1) := by decide +kernel
theorem dL_law_313 : decode cL_law 313 = .ok (.iload_n 3, 1) := by decide +kernel
theorem dL_law_314 : decode cL_law 314 = .ok (.iconst 3, 1) := by decide +kernel
theorem dL_law_315 : decode cL_law 315 = .ok (.iadd, 1) := by decide +kernel
theorem dL_law_316 : decode cL_law 316 = .ok (.iaload, 1) := by decide +kernel
theorem dL_law_317 : decode cL_law 317 = .ok (.invokevirtual 44, 3) := by decide +kernel
theorem dL_law_320 : decode cL_law 320 = .ok (.if_icmp .eq 371, 3) := by decide +kernel
theorem dL_law_323 : decode cL_law 323 = .ok (.iconst 0, 1) := by decide +kernel
theorem dL_law_324 : decode cL_law 324 = .ok (.ireturn, 1) := by decide +kernel
theorem dL_law_325 : decode cL_law 325 = .ok (.aload_n 1, 1) := by decide +kernel
theorem dL_law_326 : decode cL_law 326 = .ok (.aload_n 0, 1) := by decide +kernel
theorem dL_law_327 : decode cL_law 327 = .ok (.iload_n 3, 1) := by decide +kernel
theorem dL_law_328 : decode cL_law 328 = .ok (.iconst 1, 1) := by decide +kernel
theorem dL_law_329 : decode cL_law 329 = .ok (.iadd, 1) := by decide +kernel
theorem dL_law_330 : decode cL_law 330 = .ok (.iaload, 1) := by decide +kernel
theorem dL_law_331 : decode cL_law 331 = .ok (.invokevirtual 45, 3) := by decide +kernel
theorem dL_law_334 : decode cL_law 334 = .ok (.aload_n 2, 1) := by decide +kernel
theorem dL_law_335 : decode cL_law 335 = .ok (.aload_n 0, 1) := by decide +kernel
theorem dL_law_336 : decode cL_law 336 = .ok (.iload_n 3, 1) := by decide +kernel
theorem dL_law_337 : decode cL_law 337 = .ok (.iconst 1, 1) := by decide +kernel
theorem dL_law_338 : decode cL_law 338 = .ok (.iadd, 1) := by decide +kernel
theorem dL_law_339 : decode cL_law 339 = .ok (.iaload, 1) := by decide +kernel
theorem dL_law_340 : decode cL_law 340 = .ok (.invokevirtual 48, 3) := by decide +kernel
theorem dL_law_343 : decode cL_law 343 = .ok (.if_icmp .eq 348, 3) := by decide +kernel
theorem dL_law_346 : decode cL_law 346 = .ok (.iconst 0, 1) := by decide +kernel
theorem dL_law_347 : decode cL_law 347 = .ok (.ireturn, 1) := by decide +kernel
theorem dL_law_348 : decode cL_law 348 = .ok (.aload_n 1, 1) := by decide +kernel
theorem dL_law_349 : decode cL_law 349 = .ok (.aload_n 0, 1) := by decide +kernel
theorem dL_law_350 : decode cL_law 350 = .ok (.iload_n 3, 1) := by decide +kernel
theorem dL_law_351 : decode cL_law 351 = .ok (.iconst 1, 1) := by decide +kernel
theorem dL_law_352 : decode cL_law 352 = .ok (.iadd, 1) := by decide +kernel
theorem dL_law_353 : decode cL_law 353 = .ok (.iaload, 1) := by decide +kernel
theorem dL_law_354 : decode cL_law 354 = .ok (.invokevirtual 49, 3) := by decide +kernel
theorem dL_law_357 : decode cL_law 357 = .ok (.aload_n 2, 1) := by decide +kernel
theorem dL_law_358 : decode cL_law 358 = .ok (.aload_n 0, 1) := by decide +kernel
theorem dL_law_359 : decode cL_law 359 = .ok (.iload_n 3, 1) := by decide +kernel
theorem dL_law_360 : decode cL_law 360 = .ok (.iconst 1, 1) := by decide +kernel
theorem dL_law_361 : decode cL_law 361 = .ok (.iadd, 1) := by decide +kernel
theorem dL_law_362 : decode cL_law 362 = .ok (.iaload, 1) := by decide +kernel
theorem dL_law_363 : decode cL_law 363 = .ok (.invokevirtual 52, 3) := by decide +kernel
theorem dL_law_366 : decode cL_law 366 = .ok (.if_icmp .eq 325, 3) := by decide +kernel
theorem dL_law_369 : decode cL_law 369 = .ok (.iconst 0, 1) := by decide +kernel
theorem dL_law_370 : decode cL_law 370 = .ok (.ireturn, 1) := by decide +kernel
theorem dL_law_371 : decode cL_law 371 = .ok (.aload_n 1, 1) := by decide +kernel
theorem dL_law_372 : decode cL_law 372 = .ok (.aload_n 0, 1) := by decide +kernel
theorem dL_law_373 : decode cL_law 373 = .ok (.iload_n 3, 1) := by decide +kernel
theorem dL_law_374 : decode cL_law 374 = .ok (.iconst 1, 1) := by decide +kernel
theorem dL_law_375 : decode cL_law 375 = .ok (.iadd, 1) := by decide +kernel
theorem dL_law_376 : decode cL_law 376 = .ok (.iaload, 1) := by decide +kernel
theorem dL_law_377 : decode cL_law 377 = .ok (.aload_n 0, 1) := by decide +kernel
theorem dL_law_378 : decode cL_law 378 = .ok (.iload_n 3, 1) := by decide +kernel
theorem dL_law_379 : decode cL_law 379 = .ok (.iconst 2, 1) := by decide +kernel
theorem dL_law_380 : decode cL_law 380 = .ok (.iadd, 1) := by decide +kernel
theorem dL_law_381 : decode cL_law 381 = .ok (.iaload, 1) := by decide +kernel
theorem dL_law_382 : decode cL_law 382 = .ok (.invokevirtual 53, 3) := by decide +kernel
theorem dL_law_385 : decode cL_law 385 = .ok (.aload_n 2, 1) := by decide +kernel
theorem dL_law_386 : decode cL_law 386 = .ok (.aload_n 0, 1) := by decide +kernel
theorem dL_law_387 : decode cL_law 387 = .ok (.iload_n 3, 1) := by decide +kernel
theorem dL_law_388 : decode cL_law 388 = .ok (.iconst 1, 1) := by decide +kernel
theorem dL_law_389 : decode cL_law 389 = .ok (.iadd, 1) := by decide +kernel
theorem dL_law_390 : decode cL_law 390 = .ok (.iaload, 1) := by decide +kernel
theorem dL_law_391 : decode cL_law 391 = .ok (.aload_n 0, 1) := by decide +kernel
theorem dL_law_392 : decode cL_law 392 = .ok (.iload_n 3, 1) := by decide +kernel
theorem dL_law_393 : decode cL_law 393 = .ok (.iconst 2, 1) := by decide +kernel
theorem dL_law_394 : decode cL_law 394 = .ok (.iadd, 1) := by decide +kernel
theorem dL_law_395 : decode cL_law 395 = .ok (.iaload, 1) := by decide +kernel
theorem dL_law_396 : decode cL_law 396 = .ok (.invokevirtual 56, 3) := by decide +kernel
theorem dL_law_399 : decode cL_law 399 = .ok (.if_icmp .eq 292, 3) := by decide +kernel
theorem dL_law_402 : decode cL_law 402 = .ok (.iconst 0, 1) := by decide +kernel
theorem dL_law_403 : decode cL_law 403 = .ok (.ireturn, 1) := by decide +kernel
theorem dL_law_404 : decode cL_law 404 = .ok (.aload_n 1, 1) := by decide +kernel
theorem dL_law_405 : decode cL_law 405 = .ok (.aload_n 0, 1) := by decide +kernel
theorem dL_law_406 : decode cL_law 406 = .ok (.iload_n 3, 1) := by decide +kernel
theorem dL_law_407 : decode cL_law 407 = .ok (.iconst 1, 1) := by decide +kernel
theorem dL_law_408 : decode cL_law 408 = .ok (.iadd, 1) := by decide +kernel
theorem dL_law_409 : decode cL_law 409 = .ok (.iaload, 1) := by decide +kernel
theorem dL_law_410 : decode cL_law 410 = .ok (.aload_n 0, 1) := by decide +kernel
theorem dL_law_411 : decode cL_law 411 = .ok (.iload_n 3, 1) := by decide +kernel
theorem dL_law_412 : decode cL_law 412 = .ok (.iconst 2, 1) := by decide +kernel
theorem dL_law_413 : decode cL_law 413 = .ok (.iadd, 1) := by decide +kernel
theorem dL_law_414 : decode cL_law 414 = .ok (.iaload, 1) := by decide +kernel
theorem dL_law_415 : decode cL_law 415 = .ok (.invokevirtual 57, 3) := by decide +kernel
theorem dL_law_418 : decode cL_law 418 = .ok (.aload_n 2, 1) := by decide +kernel
theorem dL_law_419 : decode cL_law 419 = .ok (.aload_n 0, 1) := by decide +kernel
theorem dL_law_420 : decode cL_law 420 = .ok (.iload_n 3, 1) := by decide +kernel
theorem dL_law_421 : decode cL_law 421 = .ok (.iconst 1, 1) := by decide +kernel
theorem dL_law_422 : decode cL_law 422 = .ok (.iadd, 1) := by decide +kernel
theorem dL_law_423 : decode cL_law 423 = .ok (.iaload, 1) := by decide +kernel
theorem dL_law_424 : decode cL_law 424 = .ok (.aload_n 0, 1) := by decide +kernel
theorem dL_law_425 : decode cL_law 425 = .ok (.iload_n 3, 1) := by decide +kernel
theorem dL_law_426 : decode cL_law 426 = .ok (.iconst 2, 1) := by decide +kernel
theorem dL_law_427 : decode cL_law 427 = .ok (.iadd, 1) := by decide +kernel
theorem dL_law_428 : decode cL_law 428 = .ok (.iaload, 1) := by decide +kernel
theorem dL_law_429 : decode cL_law 429 = .ok (.invokevirtual 60, 3) := by decide +kernel
theorem dL_law_432 : decode cL_law 432 = .ok (.if_icmp .eq 259, 3) := by decide +kernel
theorem dL_law_435 : decode cL_law 435 = .ok (.iconst 0, 1) := by decide +kernel
theorem dL_law_436 : decode cL_law 436 = .ok (.ireturn, 1) := by decide +kernel
theorem dL_law_437 : decode cL_law 437 = .ok (.aload_n 1, 1) := by decide +kernel
theorem dL_law_438 : decode cL_law 438 = .ok (.aload_n 0, 1) := by decide +kernel
theorem dL_law_439 : decode cL_law 439 = .ok (.iload_n 3, 1) := by decide +kernel
theorem dL_law_440 : decode cL_law 440 = .ok (.iconst 1, 1) := by decide +kernel
theorem dL_law_441 : decode cL_law 441 = .ok (.iadd, 1) := by decide +kernel
theorem dL_law_442 : decode cL_law 442 = .ok (.iaload, 1) := by decide +kernel
theorem dL_law_443 : decode cL_law 443 = .ok (.aload_n 0, 1) := by decide +kernel
theorem dL_law_444 : decode cL_law 444 = .ok (.iload_n 3, 1) := by decide +kernel
theorem dL_law_445 : decode cL_law 445 = .ok (.iconst 2, 1) := by decide +kernel
theorem dL_law_446 : decode cL_law 446 = .ok (.iadd, 1) := by decide +kernel
theorem dL_law_447 : decode cL_law 447 = .ok (.iaload, 1) := by decide +kernel
theorem dL_law_448 : decode cL_law 448 = .ok (.invokevirtual 61, 3) := by decide +kernel
theorem dL_law_451 : decode cL_law 451 = .ok (.aload_n 2, 1) := by decide +kernel
theorem dL_law_452 : decode cL_law 452 = .ok (.aload_n 0, 1) := by decide +kernel
theorem dL_law_453 : decode cL_law 453 = .ok (.iload_n 3, 1) := by decide +kernel
theorem dL_law_454 : decode cL_law 454 = .ok (.iconst 1, 1) := by decide +kernel
theorem dL_law_455 : decode cL_law 455 = .ok (.iadd, 1) := by decide +kernel
theorem dL_law_456 : decode cL_law 456 = .ok (.iaload, 1) := by decide +kernel
theorem dL_law_457 : decode cL_law 457 = .ok (.aload_n 0, 1) := by decide +kernel
theorem dL_law_458 : decode cL_law 458 = .ok (.iload_n 3, 1) := by decide +kernel
theorem dL_law_459 : decode cL_law 459 = .ok (.iconst 2, 1) := by decide +kernel
theorem dL_law_460 : decode cL_law 460 = .ok (.iadd, 1) := by decide +kernel
theorem dL_law_461 : decode cL_law 461 = .ok (.iaload, 1) := by decide +kernel
theorem dL_law_462 : decode cL_law 462 = .ok (.invokevirtual 64, 3) := by decide +kernel
theorem dL_law_465 : decode cL_law 465 = .ok (.if_icmp .eq 226, 3) := by decide +kernel
theorem dL_law_468 : decode cL_law 468 = .ok (.iconst 0, 1) := by decide +kernel
theorem dL_law_469 : decode cL_law 469 = .ok (.ireturn, 1) := by decide +kernel
theorem dL_law_470 : decode cL_law 470 = .ok (.aload_n 1, 1) := by decide +kernel
theorem dL_law_471 : decode cL_law 471 = .ok (.aload_n 0, 1) := by decide +kernel
theorem dL_law_472 : decode cL_law 472 = .ok (.iload_n 3, 1) := by decide +kernel
theorem dL_law_473 : decode cL_law 473 = .ok (.iconst 1, 1) := by decide +kernel
theorem dL_law_474 : decode cL_law 474 = .ok (.iadd, 1) := by decide +kernel
theorem dL_law_475 : decode cL_law 475 = .ok (.iaload, 1) := by decide +kernel
theorem dL_law_476 : decode cL_law 476 = .ok (.aload_n 0, 1) := by decide +kernel
theorem dL_law_477 : decode cL_law 477 = .ok (.iload_n 3, 1) := by decide +kernel
theorem dL_law_478 : decode cL_law 478 = .ok (.iconst 2, 1) := by decide +kernel
theorem dL_law_479 : decode cL_law 479 = .ok (.iadd, 1) := by decide +kernel
theorem dL_law_480 : decode cL_law 480 = .ok (.iaload, 1) := by decide +kernel
theorem dL_law_481 : decode cL_law 481 = .ok (.invokevirtual 65, 3) := by decide +kernel
theorem dL_law_484 : decode cL_law 484 = .ok (.aload_n 2, 1) := by decide +kernel
theorem dL_law_485 : decode cL_law 485 = .ok (.aload_n 0, 1) := by decide +kernel
theorem dL_law_486 : decode cL_law 486 = .ok (.iload_n 3, 1) := by decide +kernel
theorem dL_law_487 : decode cL_law 487 = .ok (.iconst 1, 1) := by decide +kernel
theorem dL_law_488 : decode cL_law 488 = .ok (.iadd, 1) := by decide +kernel
theorem dL_law_489 : decode cL_law 489 = .ok (.iaload, 1) := by decide +kernel
theorem dL_law_490 : decode cL_law 490 = .ok (.aload_n 0, 1) := by decide +kernel
theorem dL_law_491 : decode cL_law 491 = .ok (.iload_n 3, 1) := by decide +kernel
theorem dL_law_492 : decode cL_law 492 = .ok (.iconst 2, 1) := by decide +kernel
theorem dL_law_493 : decode cL_law 493 = .ok (.iadd, 1) := by decide +kernel
theorem dL_law_494 : decode cL_law 494 = .ok (.iaload, 1) := by decide +kernel
theorem dL_law_495 : decode cL_law 495 = .ok (.invokevirtual 68, 3) := by decide +kernel
theorem dL_law_498 : decode cL_law 498 = .ok (.if_icmp .eq 193, 3) := by decide +kernel
theorem dL_law_501 : decode cL_law 501 = .ok (.iconst 0, 1) := by decide +kernel
theorem dL_law_502 : decode cL_law 502 = .ok (.ireturn, 1) := by decide +kernel
theorem dL_law_503 : decode cL_law 503 = .ok (.aload_n 1, 1) := by decide +kernel
theorem dL_law_504 : decode cL_law 504 = .ok (.aload_n 0, 1) := by decide +kernel
theorem dL_law_505 : decode cL_law 505 = .ok (.iload_n 3, 1) := by decide +kernel
theorem dL_law_506 : decode cL_law 506 = .ok (.iconst 1, 1) := by decide +kernel
theorem dL_law_507 : decode cL_law 507 = .ok (.iadd, 1) := by decide +kernel
theorem dL_law_508 : decode cL_law 508 = .ok (.iaload, 1) := by decide +kernel
theorem dL_law_509 : decode cL_law 509 = .ok (.aload_n 0, 1) := by decide +kernel
theorem dL_law_510 : decode cL_law 510 = .ok (.iload_n 3, 1) := by decide +kernel
theorem dL_law_511 : decode cL_law 511 = .ok (.iconst 2, 1) := by decide +kernel
theorem dL_law_512 : decode cL_law 512 = .ok (.iadd, 1) := by decide +kernel
theorem dL_law_513 : decode cL_law 513 = .ok (.iaload, 1) := by decide +kernel
theorem dL_law_514 : decode cL_law 514 = .ok (.aload_n 0, 1) := by decide +kernel
theorem dL_law_515 : decode cL_law 515 = .ok (.iload_n 3, 1) := by decide +kernel
theorem dL_law_516 : decode cL_law 516 = .ok (.iconst 3, 1) := by decide +kernel
theorem dL_law_517 : decode cL_law 517 = .ok (.iadd, 1) := by decide +kernel
theorem dL_law_518 : decode cL_law 518 = .ok (.iaload, 1) := by decide +kernel
theorem dL_law_519 : decode cL_law 519 = .ok (.invokevirtual 69, 3) := by decide +kernel
theorem dL_law_522 : decode cL_law 522 = .ok (.aload_n 2, 1) := by decide +kernel
theorem dL_law_523 : decode cL_law 523 = .ok (.aload_n 0, 1) := by decide +kernel
theorem dL_law_524 : decode cL_law 524 = .ok (.iload_n 3, 1) := by decide +kernel
theorem dL_law_525 : decode cL_law 525 = .ok (.iconst 1, 1) := by decide +kernel
theorem dL_law_526 : decode cL_law 526 = .ok (.iadd, 1) := by decide +kernel
theorem dL_law_527 : decode cL_law 527 = .ok (.iaload, 1) := by decide +kernel
theorem dL_law_528 : decode cL_law 528 = .ok (.aload_n 0, 1) := by decide +kernel
theorem dL_law_529 : decode cL_law 529 = .ok (.iload_n 3, 1) := by decide +kernel
theorem dL_law_530 : decode cL_law 530 = .ok (.iconst 2, 1) := by decide +kernel
theorem dL_law_531 : decode cL_law 531 = .ok (.iadd, 1) := by decide +kernel
theorem dL_law_532 : decode cL_law 532 = .ok (.iaload, 1) := by decide +kernel
theorem dL_law_533 : decode cL_law 533 = .ok (.aload_n 0, 1) := by decide +kernel
theorem dL_law_534 : decode cL_law 534 = .ok (.iload_n 3, 1) := by decide +kernel
theorem dL_law_535 : decode cL_law 535 = .ok (.iconst 3, 1) := by decide +kernel
theorem dL_law_536 : decode cL_law 536 = .ok (.iadd, 1) := by decide +kernel
theorem dL_law_537 : decode cL_law 537 = .ok (.iaload, 1) := by decide +kernel
theorem dL_law_538 : decode cL_law 538 = .ok (.invokevirtual 72, 3) := by decide +kernel
theorem dL_law_541 : decode cL_law 541 = .ok (.if_icmp .eq 150, 3) := by decide +kernel
theorem dL_law_544 : decode cL_law 544 = .ok (.iconst 0, 1) := by decide +kernel
theorem dL_law_545 : decode cL_law 545 = .ok (.ireturn, 1) := by decide +kernel
theorem dL_law_546 : decode cL_law 546 = .ok (.aload_n 1, 1) := by decide +kernel
theorem dL_law_547 : decode cL_law 547 = .ok (.aload_n 0, 1) := by decide +kernel
theorem dL_law_548 : decode cL_law 548 = .ok (.iload_n 3, 1) := by decide +kernel
theorem dL_law_549 : decode cL_law 549 = .ok (.iconst 1, 1) := by decide +kernel
theorem dL_law_550 : decode cL_law 550 = .ok (.iadd, 1) := by decide +kernel
theorem dL_law_551 : decode cL_law 551 = .ok (.iaload, 1) := by decide +kernel
theorem dL_law_552 : decode cL_law 552 = .ok (.aload_n 0, 1) := by decide +kernel
theorem dL_law_553 : decode cL_law 553 = .ok (.iload_n 3, 1) := by decide +kernel
theorem dL_law_554 : decode cL_law 554 = .ok (.iconst 2, 1) := by decide +kernel
theorem dL_law_555 : decode cL_law 555 = .ok (.iadd, 1) := by decide +kernel
theorem dL_law_556 : decode cL_law 556 = .ok (.iaload, 1) := by decide +kernel
theorem dL_law_557 : decode cL_law 557 = .ok (.invokevirtual 73, 3) := by decide +kernel
theorem dL_law_560 : decode cL_law 560 = .ok (.aload_n 2, 1) := by decide +kernel
theorem dL_law_561 : decode cL_law 561 = .ok (.aload_n 0, 1) := by decide +kernel
theorem dL_law_562 : decode cL_law 562 = .ok (.iload_n 3, 1) := by decide +kernel
theorem dL_law_563 : decode cL_law 563 = .ok (.iconst 1, 1) := by decide +kernel
theorem dL_law_564 : decode cL_law 564 = .ok (.iadd, 1) := by decide +kernel
theorem dL_law_565 : decode cL_law 565 = .ok (.iaload, 1) := by decide +kernel
theorem dL_law_566 : decode cL_law 566 = .ok (.aload_n 0, 1) := by decide +kernel
theorem dL_law_567 : decode cL_law 567 = .ok (.iload_n 3, 1) := by decide +kernel
theorem dL_law_568 : decode cL_law 568 = .ok (.iconst 2, 1) := by decide +kernel
theorem dL_law_569 : decode cL_law 569 = .ok (.iadd, 1) := by decide +kernel
theorem dL_law_570 : decode cL_law 570 = .ok (.iaload, 1) := by decide +kernel
theorem dL_law_571 : decode cL_law 571 = .ok (.invokevirtual 76, 3) := by decide +kernel
theorem dL_law_574 : decode cL_law 574 = .ok (.if_icmp .eq 117, 3) := by decide +kernel
theorem dL_law_577 : decode cL_law 577 = .ok (.iconst 0, 1) := by decide +kernel
theorem dL_law_578 : decode cL_law 578 = .ok (.ireturn, 1) := by decide +kernel
theorem dL_law_579 : decode cL_law 579 = .ok (.aload_n 1, 1) := by decide +kernel
theorem dL_law_580 : decode cL_law 580 = .ok (.aload_n 0, 1) := by decide +kernel
theorem dL_law_581 : decode cL_law 581 = .ok (.iload_n 3, 1) := by decide +kernel
theorem dL_law_582 : decode cL_law 582 = .ok (.iconst 1, 1) := by decide +kernel
theorem dL_law_583 : decode cL_law 583 = .ok (.iadd, 1) := by decide +kernel
theorem dL_law_584 : decode cL_law 584 = .ok (.iaload, 1) := by decide +kernel
theorem dL_law_585 : decode cL_law 585 = .ok (.aload_n 0, 1) := by decide +kernel
theorem dL_law_586 : decode cL_law 586 = .ok (.iload_n 3, 1) := by decide +kernel
theorem dL_law_587 : decode cL_law 587 = .ok (.iconst 2, 1) := by decide +kernel
theorem dL_law_588 : decode cL_law 588 = .ok (.iadd, 1) := by decide +kernel
theorem dL_law_589 : decode cL_law 589 = .ok (.iaload, 1) := by decide +kernel
theorem dL_law_590 : decode cL_law 590 = .ok (.aload_n 0, 1) := by decide +kernel
theorem dL_law_591 : decode cL_law 591 = .ok (.iload_n 3, 1) := by decide +kernel
theorem dL_law_592 : decode cL_law 592 = .ok (.iconst 3, 1) := by decide +kernel
theorem dL_law_593 : decode cL_law 593 = .ok (.iadd, 1) := by decide +kernel
theorem dL_law_594 : decode cL_law 594 = .ok (.iaload, 1) := by decide +kernel
theorem dL_law_595 : decode cL_law 595 = .ok (.invokevirtual 77, 3) := by decide +kernel
theorem dL_law_598 : decode cL_law 598 = .ok (.aload_n 2, 1) := by decide +kernel
theorem dL_law_599 : decode cL_law 599 = .ok (.aload_n 0, 1) := by decide +kernel
theorem dL_law_600 : decode cL_law 600 = .ok (.iload_n 3, 1) := by decide +kernel
theorem dL_law_601 : decode cL_law 601 = .ok (.iconst 1, 1) := by decide +kernel
theorem dL_law_602 : decode cL_law 602 = .ok (.iadd, 1) := by decide +kernel
theorem dL_law_603 : decode cL_law 603 = .ok (.iaload, 1) := by decide +kernel
theorem dL_law_604 : decode cL_law 604 = .ok (.aload_n 0, 1) := by decide +kernel
theorem dL_law_605 : decode cL_law 605 = .ok (.iload_n 3, 1) := by decide +kernel
theorem dL_law_606 : decode cL_law 606 = .ok (.iconst 2, 1) := by decide +kernel
theorem dL_law_607 : decode cL_law 607 = .ok (.iadd, 1) := by decide +kernel
theorem dL_law_608 : decode cL_law 608 = .ok (.iaload, 1) := by decide +kernel
theorem dL_law_609 : decode cL_law 609 = .ok (.aload_n 0, 1) := by decide +kernel
theorem dL_law_610 : decode cL_law 610 = .ok (.iload_n 3, 1) := by decide +kernel
theorem dL_law_611 : decode cL_law 611 = .ok (.iconst 3, 1) := by decide +kernel
theorem dL_law_612 : decode cL_law 612 = .ok (.iadd, 1) := by decide +kernel
theorem dL_law_613 : decode cL_law 613 = .ok (.iaload, 1) := by decide +kernel
theorem dL_law_614 : decode cL_law 614 = .ok (.invokevirtual 80, 3) := by decide +kernel
theorem dL_law_617 : decode cL_law 617 = .ok (.if_icmp .eq 74, 3) := by decide +kernel
theorem dL_law_620 : decode cL_law 620 = .ok (.iconst 0, 1) := by decide +kernel
theorem dL_law_621 : decode cL_law 621 = .ok (.ireturn, 1) := by decide +kernel
theorem dL_law_622 : decode cL_law 622 = .ok (.aload_n 1, 1) := by decide +kernel
theorem dL_law_623 : decode cL_law 623 = .ok (.aload_n 0, 1) := by decide +kernel
theorem dL_law_624 : decode cL_law 624 = .ok (.iload_n 3, 1) := by decide +kernel
theorem dL_law_625 : decode cL_law 625 = .ok (.iconst 1, 1) := by decide +kernel
theorem dL_law_626 : decode cL_law 626 = .ok (.iadd, 1) := by decide +kernel
theorem dL_law_627 : decode cL_law 627 = .ok (.iaload, 1) := by decide +kernel
theorem dL_law_628 : decode cL_law 628 = .ok (.invokevirtual 81, 3) := by decide +kernel
theorem dL_law_631 : decode cL_law 631 = .ok (.aload_n 2, 1) := by decide +kernel
theorem dL_law_632 : decode cL_law 632 = .ok (.aload_n 0, 1) := by decide +kernel
theorem dL_law_633 : decode cL_law 633 = .ok (.iload_n 3, 1) := by decide +kernel
theorem dL_law_634 : decode cL_law 634 = .ok (.iconst 1, 1) := by decide +kernel
theorem dL_law_635 : decode cL_law 635 = .ok (.iadd, 1) := by decide +kernel
theorem dL_law_636 : decode cL_law 636 = .ok (.iaload, 1) := by decide +kernel
theorem dL_law_637 : decode cL_law 637 = .ok (.invokevirtual 84, 3) := by decide +kernel
theorem dL_law_640 : decode cL_law 640 = .ok (.if_icmp .eq 51, 3) := by decide +kernel
theorem dL_law_643 : decode cL_law 643 = .ok (.iconst 0, 1) := by decide +kernel
theorem dL_law_644 : decode cL_law 644 = .ok (.ireturn, 1) := by decide +kernel
theorem dL_law_645 : decode cL_law 645 = .ok (.aload_n 1, 1) := by decide +kernel
theorem dL_law_646 : decode cL_law 646 = .ok (.aload_n 0, 1) := by decide +kernel
theorem dL_law_647 : decode cL_law 647 = .ok (.iload_n 3, 1) := by decide +kernel
theorem dL_law_648 : decode cL_law 648 = .ok (.iconst 1, 1) := by decide +kernel
theorem dL_law_649 : decode cL_law 649 = .ok (.iadd, 1) := by decide +kernel
theorem dL_law_650 : decode cL_law 650 = .ok (.iaload, 1) := by decide +kernel
theorem dL_law_651 : decode cL_law 651 = .ok (.invokevirtual 85, 3) := by decide +kernel
theorem dL_law_654 : decode cL_law 654 = .ok (.aload_n 2, 1) := by decide +kernel
theorem dL_law_655 : decode cL_law 655 = .ok (.aload_n 0, 1) := by decide +kernel
theorem dL_law_656 : decode cL_law 656 = .ok (.iload_n 3, 1) := by decide +kernel
theorem dL_law_657 : decode cL_law 657 = .ok (.iconst 1, 1) := by decide +kernel
theorem dL_law_658 : decode cL_law 658 = .ok (.iadd, 1) := by decide +kernel
theorem dL_law_659 : decode cL_law 659 = .ok (.iaload, 1) := by decide +kernel
theorem dL_law_660 : decode cL_law 660 = .ok (.invokevirtual 88, 3) := by decide +kernel
theorem dL_law_663 : decode cL_law 663 = .ok (.if_icmp .eq 28, 3) := by decide +kernel
theorem dL_law_666 : decode cL_law 666 = .ok (.iconst 0, 1) := by decide +kernel
theorem dL_law_667 : decode cL_law 667 = .ok (.ireturn, 1) := by decide +kernel
theorem dL_law_668 : decode cL_law 668 = .ok (.aload_n 1, 1) := by decide +kernel
theorem dL_law_669 : decode cL_law 669 = .ok (.aload_n 0, 1) := by decide +kernel
theorem dL_law_670 : decode cL_law 670 = .ok (.iload_n 3, 1) := by decide +kernel
theorem dL_law_671 : decode cL_law 671 = .ok (.iconst 1, 1) := by decide +kernel
theorem dL_law_672 : decode cL_law 672 = .ok (.iadd, 1) := by decide +kernel
theorem dL_law_673 : decode cL_law 673 = .ok (.iaload, 1) := by decide +kernel
theorem dL_law_674 : decode cL_law 674 = .ok (.invokevirtual 89, 3) := by decide +kernel
theorem dL_law_677 : decode cL_law 677 = .ok (.aload_n 2, 1) := by decide +kernel
theorem dL_law_678 : decode cL_law 678 = .ok (.aload_n 0, 1) := by decide +kernel
theorem dL_law_679 : decode cL_law 679 = .ok (.iload_n 3, 1) := by decide +kernel
theorem dL_law_680 : decode cL_law 680 = .ok (.iconst 1, 1) := by decide +kernel
theorem dL_law_681 : decode cL_law 681 = .ok (.iadd, 1) := by decide +kernel
theorem dL_law_682 : decode cL_law 682 = .ok (.iaload, 1) := by decide +kernel
theorem dL_law_683 : decode cL_law 683 = .ok (.invokevirtual 92, 3) := by decide +kernel
theorem dL_law_686 : decode cL_law 686 = .ok (.if_icmp .eq 5, 3) := by decide +kernel
theorem dL_law_689 : decode cL_law 689 = .ok (.iconst 0, 1) := by decide +kernel
theorem dL_law_690 : decode cL_law 690 = .ok (.ireturn, 1) := by decide +kernel
theorem dL_law_691 : decode cL_law 691 = .ok (.iinc 3 4, 3) := by decide +kernel
theorem dL_law_694 : decode cL_law 694 = .ok (.goto (-676), 3) := by decide +kernel
theorem dL_law_697 : decode cL_law 697 = .ok (.iconst 1, 1) := by decide +kernel
theorem dL_law_698 : decode cL_law 698 = .ok (.ireturn, 1) := by decide +kernel
end
section
/-! THE PURE MEMORY: sh: the kind and length of each cell (0..10 an object of class k, 11 int[], 12 boolean[], 13 Net[], 14 Packet[], 15 Station[], 16 nothing), mi: its ints, mr: its references -/
abbrev SH : Type := Nat → Nat × Nat
abbrev MI : Type := Nat → Nat → Int32
abbrev MR : Type := Nat → Nat → Option Nat
abbrev MD : Type := MethodName × ByteArray × Nat × Option FieldType
def nfl (k : Nat) : Nat := match k with
  | 0 => 3
  | 1 => 4
  | 2 => 2
  | 3 => 3
  | 4 => 4
  | 5 => 3
  | 6 => 13
  | 7 => 4
  | 8 => 2
  | 9 => 6
  | 10 => 16
  | _ => 0
def tyf (k : Nat) : Nat → FieldType := match k with
  | 0 => tyX0
  | 1 => tyX1
  | 2 => tyX2
  | 3 => tyX3
  | 4 => tyX4
  | 5 => tyX5
  | 6 => tyX6
  | 7 => tyX7
  | 8 => tyX8
  | 9 => tyX9
  | _ => tyX10
def isRt (t : FieldType) : Bool := match t with
  | .object _ => true
  | .array _ => true
  | _ => false
def fvl (mi : MI) (mr : MR) (a κ k : Nat) : Value := if isRt (tyf κ k) = true then va_rf (mr a k) else .int (mi a k)
def fsl (mi : MI) (mr : MR) (a κ : Nat) : List Value := (List.range (nfl κ)).map (fvl mi mr a κ)
def ce (AC : Nat → ClassId) (sh : SH) (mi : MI) (mr : MR) (a : Nat) : va_E :=
  if (sh a).1 < 11 then .inr ((sh a).1, fsl mi mr a (sh a).1)
  else if (sh a).1 < 13 then .inl (AC ((sh a).1 - 11), (sh a).2, .inl (mi a))
  else .inl (AC ((sh a).1 - 11), (sh a).2, .inr (.inr (.inr (.inr (mr a)))))
abbrev tyL (AC : Nat → ClassId) : List (ClassId × FieldType) := [(AC 0, .int), (AC 1, .boolean), (AC 2, .object RX3), (AC 3, .object RX4), (AC 4, .object RX6)]
def wl (AC : Nat → ClassId) (base z : Nat) (sh : SH) (mi : MI) (mr : MR) : va_W := (List.range (z - base)).map (fun j => (base + j, ce AC sh mi mr (base + j)))
def Rel (D : va_G) (AC : Nat → ClassId) (base z : Nat) (sh : SH) (mi : MI) (mr : MR) (H : Heap) : Prop := base ≤ z ∧ H.size = z ∧ (∀ a, (sh a).1 < 16 → base ≤ a ∧ a < z) ∧ va_P D vwCl (wl AC base z sh mi mr) H
def up2 {α : Type} (f : Nat → Nat → α) (a k : Nat) (v : α) : Nat → Nat → α := fun x j => if x = a ∧ j = k then v else f x j
theorem up2_same {α : Type} (f : Nat → Nat → α) (a k : Nat) (v : α) : up2 f a k v a k = v := by simp [up2]
theorem up2_row {α : Type} (f : Nat → Nat → α) {a k : Nat} (v : α) {x : Nat} (h : x ≠ a) : up2 f a k v x = f x := by funext j; simp [up2, h]
theorem up2_ne {α : Type} (f : Nat → Nat → α) {a k : Nat} (v : α) {x j : Nat} (h : x ≠ a ∨ j ≠ k) : up2 f a k v x j = f x j := by
  unfold up2
  rw [if_neg]
  rintro ⟨h1, h2⟩
  rcases h with h | h
  · exact h h1
  · exact h h2
theorem wl_get {AC : Nat → ClassId} {base z : Nat} {sh : SH} {mi : MI} {mr : MR} {a : Nat} (h : base ≤ a ∧ a < z) : (wl AC base z sh mi mr)[a - base]? = some (a, ce AC sh mi mr a) := by
  unfold wl
  rw [List.getElem?_map, List.getElem?_range (by omega)]
  have e : base + (a - base) = a := by omega
  simp [e]
theorem wl_set {AC : Nat → ClassId} {base z : Nat} {sh : SH} {mi mi' : MI} {mr mr' : MR} {a : Nat} (h : base ≤ a ∧ a < z) (hx : ∀ x, x ≠ a → ce AC sh mi' mr' x = ce AC sh mi mr x) : (wl AC base z sh mi mr).set (a - base) (a, ce AC sh mi' mr' a) = wl AC base z sh mi' mr' := by
  apply List.ext_getElem?
  intro j
  rw [List.getElem?_set]
  by_cases hj : a - base = j
  · subst hj
    rw [if_pos rfl, wl_get h]
    rw [if_pos (by simp [wl]; omega)]
  · rw [if_neg hj]
    unfold wl
    rw [List.getElem?_map, List.getElem?_map]
    by_cases hl : j < z - base
    · rw [List.getElem?_range hl]
      simp only [Option.map_some]
      rw [hx (base + j) (by omega)]
    · rw [List.getElem?_eq_none (by simp; omega)]
      rfl
theorem ce_obj {AC : Nat → ClassId} {sh : SH} {mi : MI} {mr : MR} {a κ : Nat} (h : (sh a).1 = κ) (hκ : κ < 11) : ce AC sh mi mr a = .inr (κ, fsl mi mr a κ) := by
  unfold ce; rw [h, if_pos hκ]
theorem ce_int {AC : Nat → ClassId} {sh : SH} {mi : MI} {mr : MR} {a n : Nat} (h : sh a = (11, n)) : ce AC sh mi mr a = .inl (AC 0, n, .inl (mi a)) := by
  unfold ce; rw [h]; rfl
theorem ce_bool {AC : Nat → ClassId} {sh : SH} {mi : MI} {mr : MR} {a n : Nat} (h : sh a = (12, n)) : ce AC sh mi mr a = .inl (AC 1, n, .inl (mi a)) := by
  unfold ce; rw [h]; rfl
theorem ce_ref {AC : Nat → ClassId} {sh : SH} {mi : MI} {mr : MR} {a κ n : Nat} (h : sh a = (κ, n)) (hκ : 13 ≤ κ) : ce AC sh mi mr a = .inl (AC (κ - 11), n, .inr (.inr (.inr (.inr (mr a))))) := by
  unfold ce; rw [h, if_neg (by simp; omega), if_neg (by simp; omega)]
theorem ce_kept {AC : Nat → ClassId} {sh : SH} {mi mi' : MI} {mr mr' : MR} {x : Nat} (h1 : mi' x = mi x) (h2 : mr' x = mr x) : ce AC sh mi' mr' x = ce AC sh mi mr x := by
  unfold ce fsl fvl; rw [h1, h2]
theorem fsl_get {mi : MI} {mr : MR} {a κ k : Nat} (h : k < nfl κ) : (fsl mi mr a κ)[k]? = some (fvl mi mr a κ k) := by
  unfold fsl
  rw [List.getElem?_map, List.getElem?_range h]; rfl
theorem fsl_set {mi mi' : MI} {mr mr' : MR} {a κ k : Nat} (hx : ∀ j, j ≠ k → mi' a j = mi a j ∧ mr' a j = mr a j) : (fsl mi mr a κ).set k (fvl mi' mr' a κ k) = fsl mi' mr' a κ := by
  apply List.ext_getElem?
  intro j
  rw [List.getElem?_set]
  by_cases hj : k = j
  · subst hj
    rw [if_pos rfl]
    by_cases hl : k < nfl κ
    · rw [if_pos (by simp [fsl]; omega), fsl_get hl]
    · rw [if_neg (by simp [fsl]; omega), List.getElem?_eq_none (by simp [fsl]; omega)]
  · rw [if_neg hj]
    by_cases hl : j < nfl κ
    · rw [fsl_get hl, fsl_get hl]
      unfold fvl
      rw [(hx j (fun e => hj e.symm)).1, (hx j (fun e => hj e.symm)).2]
    · rw [List.getElem?_eq_none (by simp [fsl]; omega), List.getElem?_eq_none (by simp [fsl]; omega)]

/-- the words of the tables that a call keeps -/
def tb : List Cond := lw_tbl.filter goodWord
theorem tb_in {ws : List Cond} (h : ∀ w ∈ ws, w ∈ tb) : GoodIn tb ws := fun w hw => ⟨h w hw, good_of_word (List.mem_filter.mp (h w hw)).2⟩
def nst : List (String × Nat × MethodName) := [(RX9, 9, yX5_init), (RX6, 11, yX2_init), (RX0, 21, yX4_init), (RX6, 44, yX1_init), (RX6, 51, yX4_init), (RX9, 25, yX7_init), (RX7, 20, yX4_init), (RX9, 36, yX4_init), (RX9, 43, yX8_init), (RX5, 52, yX9_isHops), (RX3, 35, yX9_isStation), (RX3, 42, yX9_isIn), (RX7, 36, yX9_isStation)]
def NW (U : State) : Prop := (∀ q ∈ nst, va_Nw (.methodLinkNest q.1 q.2.1 q.2.2 RX9) U) ∧ va_AO RX3 U ∧ va_AO RX4 U ∧ va_AO RX6 U
def KK (D : va_G) (AC : Nat → ClassId) (U : State) : Prop := va_K D vwCl (tyL AC) U ∧ NW U
theorem KK.warm {D : va_G} {AC : Nat → ClassId} {s U : State} (hW : s.WarmedH U.vm) (h : KK D AC s) : KK D AC U := ⟨va_K.moved hW.alike h.1, fun q hq => va_Nw.warmM hW (h.2.1 q hq), h.2.2.1.moved hW.alike, h.2.2.2.1.moved hW.alike, h.2.2.2.2.moved hW.alike⟩
theorem KK.same {D : va_G} {AC : Nat → ClassId} {s U : State} (hW : s.vm = U.vm) (h : KK D AC s) : KK D AC U := ⟨va_K.moved (hW ▸ Vm.Alike.refl s.vm) h.1, fun q hq => va_Nw.same rfl hW (h.2.1 q hq), h.2.2.1.moved (hW ▸ Vm.Alike.refl s.vm), h.2.2.2.1.moved (hW ▸ Vm.Alike.refl s.vm), h.2.2.2.2.moved (hW ▸ Vm.Alike.refl s.vm)⟩
/-- the context of a walk: the machine, the code, the tables' words, the classes -/
def Cx (y : MethodName) (cc : ByteArray) (nL : Nat) (ret : Option FieldType) (p : Program) (s : State) (m : MethodId) (args : Array Value) (meth : Method) (c : Code) (D : va_G) (AC : Nat → ClassId) (base : Nat) : Prop :=
  p.tables.exec = Jvm.exec ∧ c.code = cc ∧ c.maxLocals = nL ∧ meth.sig.returnType = ret ∧ meth.locks = false ∧ s.vm.findClass y.cls = some m.cls ∧ (∀ w ∈ tb, w.before args s = true) ∧ KK D AC s ∧ base ≤ s.heap.size ∧ (y.name = "<init>" → meth.name = "<init>")
def LV (la : Array Slot) (nL : Nat) (ls : List Value) : Prop := la.size = nL ∧ lv_wf la ∧ ∀ (k : Nat) (v : Value), ls[k]? = some v → la[k]? = some (.val v) ∧ v.category = 1
abbrev ET : Type := Room × (Array Value → State → Nat → Prop) × (List Frame → Array Value → State → va_G → (Nat → ClassId) → Nat → State → Prop)
def Wp (y : MethodName) (cc : ByteArray) (nL : Nat) (ret : Option FieldType) (E : ET) (kc ks pc : Nat) (ls st : List Value) (z : Nat) (sh : SH) (mi : MI) (mr : MR) : Prop :=
  ∀ (p : Program) (l : Launch) (e : Env) (s : State) (m : MethodId) (args : Array Value) (below : List Frame) (meth : Method) (c : Code) (D : va_G) (AC : Nat → ClassId) (base : Nat), Cx y cc nL ret p s m args meth c D AC base → E.2.1 args s base →
    ∀ (H : Heap) (locs : List Loc) (la : Array Slot), Rel D AC base z sh mi mr H → va_S (fun q => base ≤ q) s.heap H locs → LV la nL ls → W p l e E.1 s m args below meth c H locs kc ks (E.2.2 below args s D AC base) (F0 m pc la st)
def setL : List Value → Nat → Value → List Value
  | [], _, v => [v]
  | _ :: t, 0, v => v :: t
  | x :: t, n + 1, v => x :: setL t n v
theorem setL_get : ∀ (ls : List Value) (i : Nat) (v : Value), i ≤ ls.length → ∀ (k : Nat) (u : Value), (setL ls i v)[k]? = some u → (k = i ∧ u = v) ∨ (k ≠ i ∧ ls[k]? = some u)
  | [], i, v, hi, k, u, h => by
    have hi0 : i = 0 := by simpa using hi
    subst hi0
    cases k with
    | zero => simp [setL] at h; exact Or.inl ⟨rfl, h.symm⟩
    | succ k => simp [setL] at h
  | x :: t, 0, v, hi, k, u, h => by
    cases k with
    | zero => simp [setL] at h; exact Or.inl ⟨rfl, h.symm⟩
    | succ k => simp [setL] at h; exact Or.inr ⟨by omega, by simpa using h⟩
  | x :: t, n + 1, v, hi, k, u, h => by
    cases k with
    | zero => simp [setL] at h; exact Or.inr ⟨by omega, by simpa using h⟩
    | succ k =>
      simp only [setL, List.getElem?_cons_succ] at h
      rcases setL_get t n v (by simpa using hi) k u h with ⟨h1, h2⟩ | ⟨h1, h2⟩
      · exact Or.inl ⟨by omega, h2⟩
      · exact Or.inr ⟨by omega, by simpa using h2⟩
def lvE (ls : List Value) : List (Nat × Value) := (List.range ls.length).filterMap (fun k => (ls[k]?).map (fun v => (k, v)))
theorem LV.has {la : Array Slot} {nL : Nat} {ls : List Value} (h : LV la nL ls) : lv_has la nL (lvE ls) := by
  refine ⟨h.1, h.2.1, fun q hq => ?_⟩
  obtain ⟨k, -, hk⟩ := List.mem_filterMap.mp hq
  cases hv : ls[k]? with
  | none => rw [hv] at hk; cases hk
  | some v => rw [hv] at hk; cases hk; exact (h.2.2 k v hv).1
theorem LV.store {la la' : Array Slot} {nL : Nat} {ls : List Value} {i : Nat} {v : Value} (h : LV la nL ls) (hi : i ≤ ls.length) (hc : v.category = 1) (h' : lv_has la' nL ((i, v) :: (lvE ls).filter (fun q => !(q.1 == i) && !(q.1 + 1 == i && q.2.category == 2)))) : LV la' nL (setL ls i v) := by
  refine ⟨h'.1, h'.2.1, fun k u hk => ?_⟩
  rcases setL_get ls i v hi k u hk with ⟨rfl, rfl⟩ | ⟨h1, h2⟩
  · exact ⟨h'.2.2 (k, u) List.mem_cons_self, hc⟩
  · have hcu := (h.2.2 k u h2).2
    refine ⟨h'.2.2 (k, u) (List.mem_cons_of_mem _ (List.mem_filter.mpr ⟨List.mem_filterMap.mpr ⟨k, List.mem_range.mpr (List.getElem?_eq_some_iff.mp h2).1, by rw [h2]; rfl⟩, ?_⟩)), hcu⟩
    simp [h1, hcu]
theorem LV.sub {la : Array Slot} {nL : Nat} {ls ls' : List Value} (h : LV la nL (ls ++ ls')) : LV la nL ls :=
  ⟨h.1, h.2.1, fun k v hk => h.2.2 k v (by rw [List.getElem?_append_left (List.getElem?_eq_some_iff.mp hk).1]; exact hk)⟩
section RULES
variable {y : MethodName} {cc : ByteArray} {nL : Nat} {ret : Option FieldType} {E : ET} {kc ks pc : Nat} {ls st : List Value} {z : Nat} {sh : SH} {mi : MI} {mr : MR}
theorem r_drop {ls' : List Value} (k : Wp y cc nL ret E kc ks pc ls st z sh mi mr) : Wp y cc nL ret E kc ks pc (ls ++ ls') st z sh mi mr := by
  intro p l e s m args below meth c D AC base C X H locs la hR hS hL
  exact k _ _ _ _ _ _ _ _ _ _ _ _ C X _ _ _ hR hS hL.sub
theorem r_top {x x' : Int32} (h : x = x') (k : Wp y cc nL ret E kc ks pc ls (.int x' :: st) z sh mi mr) : Wp y cc nL ret E kc ks pc ls (.int x :: st) z sh mi mr := by rw [h]; exact k
theorem r_mem {mi' : MI} (h : mi = mi') (k : Wp y cc nL ret E kc ks pc ls st z sh mi' mr) : Wp y cc nL ret E kc ks pc ls st z sh mi mr := by rw [h]; exact k
def CK (κ : Nat) (C : String) (T : u_T) (N : Nat) : Prop := vwCl[κ]? = some (C, T, N) ∧ (∀ w ∈ u_ws C T N, w ∈ tb) ∧ (∀ k, k < N → parseFieldDescriptor (T k).2.2.1 = some (tyf κ k)) ∧ (∀ a, a < N → ∀ b, b < N → a ≠ b → (T a).2.1 ≠ (T b).2.1) ∧ N = nfl κ ∧ κ < 11
theorem r_iconst {n : Int} {v : Int32} (d : decode cc pc = .ok (.iconst n, 1)) (hv : Int32.ofInt n = v) (k : Wp y cc nL ret E kc ks (pc + 1) ls (.int v :: st) z sh mi mr) : Wp y cc nL ret E kc ks pc ls st z sh mi mr := by
  intro p l e s m args below meth c D AC base C X H locs la hR hS hL
  exact lv_iconst C.1 C.2.1 d hv (k _ _ _ _ _ _ _ _ _ _ _ _ C X _ _ _ hR hS hL)
theorem r_bipush {n : Int} {v : Int32} (d : decode cc pc = .ok (.bipush n, 2)) (hv : (Int8.ofInt n).toInt32 = v) (k : Wp y cc nL ret E kc ks (pc + 2) ls (.int v :: st) z sh mi mr) : Wp y cc nL ret E kc ks pc ls st z sh mi mr := by
  intro p l e s m args below meth c D AC base C X H locs la hR hS hL
  exact lv_bipush C.1 C.2.1 d hv (k _ _ _ _ _ _ _ _ _ _ _ _ C X _ _ _ hR hS hL)
theorem r_sipush {n : Int} {v : Int32} (d : decode cc pc = .ok (.sipush n, 3)) (hv : (Int16.ofInt n).toInt32 = v) (k : Wp y cc nL ret E kc ks (pc + 3) ls (.int v :: st) z sh mi mr) : Wp y cc nL ret E kc ks pc ls st z sh mi mr := by
  intro p l e s m args below meth c D AC base C X H locs la hR hS hL
  exact lv_sipush C.1 C.2.1 d hv (k _ _ _ _ _ _ _ _ _ _ _ _ C X _ _ _ hR hS hL)
theorem r_ldc {n : Nat} {v : Int32} (d : decode cc pc = .ok (.ldc n, 2)) (hv : Cond.constant y.cls n v ∈ tb) (k : Wp y cc nL ret E kc ks (pc + 2) ls (.int v :: st) z sh mi mr) : Wp y cc nL ret E kc ks pc ls st z sh mi mr := by
  intro p l e s m args below meth c D AC base C X H locs la hR hS hL
  exact lv_ldc C.1 C.2.1 C.2.2.2.2.2.1 (C.2.2.2.2.2.2.1 _ hv) d (k _ _ _ _ _ _ _ _ _ _ _ _ C X _ _ _ hR hS hL)
theorem r_ldcw {n : Nat} {v : Int32} (d : decode cc pc = .ok (.ldc_w n, 3)) (hv : Cond.constant y.cls n v ∈ tb) (k : Wp y cc nL ret E kc ks (pc + 3) ls (.int v :: st) z sh mi mr) : Wp y cc nL ret E kc ks pc ls st z sh mi mr := by
  intro p l e s m args below meth c D AC base C X H locs la hR hS hL
  exact lv_ldcw C.1 C.2.1 C.2.2.2.2.2.1 (C.2.2.2.2.2.2.1 _ hv) d (k _ _ _ _ _ _ _ _ _ _ _ _ C X _ _ _ hR hS hL)
theorem r_iload_n {q : Fin 4} (i : Nat) {x : Int32} (d : decode cc pc = .ok (.iload_n q, 1)) (hi : (q : Nat) = i) (hl : ls[i]? = some (.int x)) (k : Wp y cc nL ret E kc ks (pc + 1) ls (.int x :: st) z sh mi mr) : Wp y cc nL ret E kc ks pc ls st z sh mi mr := by
  intro p l e s m args below meth c D AC base C X H locs la hR hS hL
  exact lv_iload_n C.1 C.2.1 d hi (hL.2.2 i _ hl).1 (k _ _ _ _ _ _ _ _ _ _ _ _ C X _ _ _ hR hS hL)
theorem r_iload (i : Nat) {x : Int32} (d : decode cc pc = .ok (.iload i, 2)) (hl : ls[i]? = some (.int x)) (k : Wp y cc nL ret E kc ks (pc + 2) ls (.int x :: st) z sh mi mr) : Wp y cc nL ret E kc ks pc ls st z sh mi mr := by
  intro p l e s m args below meth c D AC base C X H locs la hR hS hL
  exact lv_iload C.1 C.2.1 d (hL.2.2 i _ hl).1 (k _ _ _ _ _ _ _ _ _ _ _ _ C X _ _ _ hR hS hL)
theorem r_istore_n {q : Fin 4} (i : Nat) {x : Int32} {ls2 : List Value} (d : decode cc pc = .ok (.istore_n q, 1)) (hi : (q : Nat) = i) (hn : i < nL) (hi2 : i ≤ ls.length) (he : setL ls i (.int x) = ls2) (k : Wp y cc nL ret E kc ks (pc + 1) ls2 st z sh mi mr) : Wp y cc nL ret E kc ks pc ls (.int x :: st) z sh mi mr := by
  intro p l e s m args below meth c D AC base C X H locs la hR hS hL
  exact lv_istore_n C.1 C.2.1 d hi hL.has hn rfl (fun la2 h2 => k _ _ _ _ _ _ _ _ _ _ _ _ C X _ _ _ hR hS (he ▸ hL.store hi2 rfl h2))
theorem r_istore (i : Nat) {x : Int32} {ls2 : List Value} (d : decode cc pc = .ok (.istore i, 2)) (hn : i < nL) (hi2 : i ≤ ls.length) (he : setL ls i (.int x) = ls2) (k : Wp y cc nL ret E kc ks (pc + 2) ls2 st z sh mi mr) : Wp y cc nL ret E kc ks pc ls (.int x :: st) z sh mi mr := by
  intro p l e s m args below meth c D AC base C X H locs la hR hS hL
  exact lv_istore C.1 C.2.1 d hL.has hn rfl (fun la2 h2 => k _ _ _ _ _ _ _ _ _ _ _ _ C X _ _ _ hR hS (he ▸ hL.store hi2 rfl h2))
theorem r_aload_n {q : Fin 4} (i : Nat) {x : Nat} (d : decode cc pc = .ok (.aload_n q, 1)) (hi : (q : Nat) = i) (hl : ls[i]? = some (.ref x)) (k : Wp y cc nL ret E kc ks (pc + 1) ls (.ref x :: st) z sh mi mr) : Wp y cc nL ret E kc ks pc ls st z sh mi mr := by
  intro p l e s m args below meth c D AC base C X H locs la hR hS hL
  exact lv_aload_n C.1 C.2.1 d hi (hL.2.2 i _ hl).1 (k _ _ _ _ _ _ _ _ _ _ _ _ C X _ _ _ hR hS hL)
theorem r_aload (i : Nat) {x : Nat} (d : decode cc pc = .ok (.aload i, 2)) (hl : ls[i]? = some (.ref x)) (k : Wp y cc nL ret E kc ks (pc + 2) ls (.ref x :: st) z sh mi mr) : Wp y cc nL ret E kc ks pc ls st z sh mi mr := by
  intro p l e s m args below meth c D AC base C X H locs la hR hS hL
  exact lv_aload C.1 C.2.1 d (hL.2.2 i _ hl).1 (k _ _ _ _ _ _ _ _ _ _ _ _ C X _ _ _ hR hS hL)
theorem r_astore_n {q : Fin 4} (i : Nat) {x : Nat} {ls2 : List Value} (d : decode cc pc = .ok (.astore_n q, 1)) (hi : (q : Nat) = i) (hn : i < nL) (hi2 : i ≤ ls.length) (he : setL ls i (.ref x) = ls2) (k : Wp y cc nL ret E kc ks (pc + 1) ls2 st z sh mi mr) : Wp y cc nL ret E kc ks pc ls (.ref x :: st) z sh mi mr := by
  intro p l e s m args below meth c D AC base C X H locs la hR hS hL
  exact lv_astore_n C.1 C.2.1 d hi hL.has hn rfl (fun la2 h2 => k _ _ _ _ _ _ _ _ _ _ _ _ C X _ _ _ hR hS (he ▸ hL.store hi2 rfl h2))
theorem r_astore (i : Nat) {x : Nat} {ls2 : List Value} (d : decode cc pc = .ok (.astore i, 2)) (hn : i < nL) (hi2 : i ≤ ls.length) (he : setL ls i (.ref x) = ls2) (k : Wp y cc nL ret E kc ks (pc + 2) ls2 st z sh mi mr) : Wp y cc nL ret E kc ks pc ls (.ref x :: st) z sh mi mr := by
  intro p l e s m args below meth c D AC base C X H locs la hR hS hL
  exact lv_astore C.1 C.2.1 d hL.has hn rfl (fun la2 h2 => k _ _ _ _ _ _ _ _ _ _ _ _ C X _ _ _ hR hS (he ▸ hL.store hi2 rfl h2))
theorem lvE_get {ls : List Value} {i : Nat} {v : Value} (h : ls[i]? = some v) : ∃ k : Nat, (lvE ls)[k]? = some (i, v) := by
  have hm : (i, v) ∈ lvE ls := List.mem_filterMap.mpr ⟨i, List.mem_range.mpr (List.getElem?_eq_some_iff.mp h).1, by rw [h]; rfl⟩
  exact List.getElem?_of_mem hm
theorem r_iinc (i : Nat) {n : Int} {x v : Int32} {ls2 : List Value} (d : decode cc pc = .ok (.iinc i n, 3)) (hl : ls[i]? = some (.int x)) (hv : x + Int32.ofInt n = v) (hn : i < nL) (he : setL ls i (.int v) = ls2) (k : Wp y cc nL ret E kc ks (pc + 3) ls2 st z sh mi mr) : Wp y cc nL ret E kc ks pc ls st z sh mi mr := by
  intro p l e s m args below meth c D AC base C X H locs la hR hS hL
  obtain ⟨k0, hk0⟩ := lvE_get hl
  exact lv_iinc C.1 C.2.1 d hL.has hk0 hv hn rfl (fun la2 h2 => k _ _ _ _ _ _ _ _ _ _ _ _ C X _ _ _ hR hS (he ▸ hL.store (Nat.le_of_lt (List.getElem?_eq_some_iff.mp hl).1) rfl h2))
theorem r_iadd {x y0 : Int32} (d : decode cc pc = .ok (.iadd, 1)) (k : Wp y cc nL ret E kc ks (pc + 1) ls (.int (x + y0) :: st) z sh mi mr) : Wp y cc nL ret E kc ks pc ls (.int y0 :: .int x :: st) z sh mi mr := by
  intro p l e s m args below meth c D AC base C X H locs la hR hS hL
  exact lv_iadd C.1 C.2.1 d (k _ _ _ _ _ _ _ _ _ _ _ _ C X _ _ _ hR hS hL)
theorem r_isub {x y0 : Int32} (d : decode cc pc = .ok (.isub, 1)) (k : Wp y cc nL ret E kc ks (pc + 1) ls (.int (x - y0) :: st) z sh mi mr) : Wp y cc nL ret E kc ks pc ls (.int y0 :: .int x :: st) z sh mi mr := by
  intro p l e s m args below meth c D AC base C X H locs la hR hS hL
  exact lv_isub C.1 C.2.1 d (k _ _ _ _ _ _ _ _ _ _ _ _ C X _ _ _ hR hS hL)
theorem r_imul {x y0 : Int32} (d : decode cc pc = .ok (.imul, 1)) (k : Wp y cc nL ret E kc ks (pc + 1) ls (.int (x * y0) :: st) z sh mi mr) : Wp y cc nL ret E kc ks pc ls (.int y0 :: .int x :: st) z sh mi mr := by
  intro p l e s m args below meth c D AC base C X H locs la hR hS hL
  exact lv_imul C.1 C.2.1 d (k _ _ _ _ _ _ _ _ _ _ _ _ C X _ _ _ hR hS hL)
theorem r_iand {x y0 : Int32} (d : decode cc pc = .ok (.iand, 1)) (k : Wp y cc nL ret E kc ks (pc + 1) ls (.int (x &&& y0) :: st) z sh mi mr) : Wp y cc nL ret E kc ks pc ls (.int y0 :: .int x :: st) z sh mi mr := by
  intro p l e s m args below meth c D AC base C X H locs la hR hS hL
  exact lv_iand C.1 C.2.1 d (k _ _ _ _ _ _ _ _ _ _ _ _ C X _ _ _ hR hS hL)
theorem r_ior {x y0 : Int32} (d : decode cc pc = .ok (.ior, 1)) (k : Wp y cc nL ret E kc ks (pc + 1) ls (.int (x ||| y0) :: st) z sh mi mr) : Wp y cc nL ret E kc ks pc ls (.int y0 :: .int x :: st) z sh mi mr := by
  intro p l e s m args below meth c D AC base C X H locs la hR hS hL
  exact lv_ior C.1 C.2.1 d (k _ _ _ _ _ _ _ _ _ _ _ _ C X _ _ _ hR hS hL)
theorem r_ixor {x y0 : Int32} (d : decode cc pc = .ok (.ixor, 1)) (k : Wp y cc nL ret E kc ks (pc + 1) ls (.int (x ^^^ y0) :: st) z sh mi mr) : Wp y cc nL ret E kc ks pc ls (.int y0 :: .int x :: st) z sh mi mr := by
  intro p l e s m args below meth c D AC base C X H locs la hR hS hL
  exact lv_ixor C.1 C.2.1 d (k _ _ _ _ _ _ _ _ _ _ _ _ C X _ _ _ hR hS hL)
theorem r_ishl {x y0 : Int32} (d : decode cc pc = .ok (.ishl, 1)) (k : Wp y cc nL ret E kc ks (pc + 1) ls (.int (x <<< (y0 &&& 31)) :: st) z sh mi mr) : Wp y cc nL ret E kc ks pc ls (.int y0 :: .int x :: st) z sh mi mr := by
  intro p l e s m args below meth c D AC base C X H locs la hR hS hL
  exact lv_ishl C.1 C.2.1 d (k _ _ _ _ _ _ _ _ _ _ _ _ C X _ _ _ hR hS hL)
theorem r_ishr {x y0 : Int32} (d : decode cc pc = .ok (.ishr, 1)) (k : Wp y cc nL ret E kc ks (pc + 1) ls (.int (x >>> (y0 &&& 31)) :: st) z sh mi mr) : Wp y cc nL ret E kc ks pc ls (.int y0 :: .int x :: st) z sh mi mr := by
  intro p l e s m args below meth c D AC base C X H locs la hR hS hL
  exact lv_ishr C.1 C.2.1 d (k _ _ _ _ _ _ _ _ _ _ _ _ C X _ _ _ hR hS hL)
theorem r_iushr {x y0 v : Int32} (d : decode cc pc = .ok (.iushr, 1)) (hv : (x.toUInt32 >>> (y0.toUInt32 &&& Int32.toUInt32 31)).toInt32 = v) (k : Wp y cc nL ret E kc ks (pc + 1) ls (.int v :: st) z sh mi mr) : Wp y cc nL ret E kc ks pc ls (.int y0 :: .int x :: st) z sh mi mr := by
  intro p l e s m args below meth c D AC base C X H locs la hR hS hL
  exact lv_iushr C.1 C.2.1 d hv (k _ _ _ _ _ _ _ _ _ _ _ _ C X _ _ _ hR hS hL)
theorem r_idiv {x y0 : Int32} (d : decode cc pc = .ok (.idiv, 1)) (hne : ¬ y0 = 0) (k : Wp y cc nL ret E kc ks (pc + 1) ls (.int (x / y0) :: st) z sh mi mr) : Wp y cc nL ret E kc ks pc ls (.int y0 :: .int x :: st) z sh mi mr := by
  intro p l e s m args below meth c D AC base C X H locs la hR hS hL
  exact lv_idiv C.1 C.2.1 d hne (k _ _ _ _ _ _ _ _ _ _ _ _ C X _ _ _ hR hS hL)
theorem r_irem {x y0 : Int32} (d : decode cc pc = .ok (.irem, 1)) (hne : ¬ y0 = 0) (k : Wp y cc nL ret E kc ks (pc + 1) ls (.int (x - x / y0 * y0) :: st) z sh mi mr) : Wp y cc nL ret E kc ks pc ls (.int y0 :: .int x :: st) z sh mi mr := by
  intro p l e s m args below meth c D AC base C X H locs la hR hS hL
  exact lv_irem C.1 C.2.1 d hne (k _ _ _ _ _ _ _ _ _ _ _ _ C X _ _ _ hR hS hL)
theorem r_iaddN {a b : Nat} (d : decode cc pc = .ok (.iadd, 1)) (k : Wp y cc nL ret E kc ks (pc + 1) ls (.int (nI (a + b)) :: st) z sh mi mr) : Wp y cc nL ret E kc ks pc ls (.int (nI b) :: .int (nI a) :: st) z sh mi mr := r_iadd d (r_top (nI_add a b) k)
theorem r_imulN {a b : Nat} (d : decode cc pc = .ok (.imul, 1)) (k : Wp y cc nL ret E kc ks (pc + 1) ls (.int (nI (a * b)) :: st) z sh mi mr) : Wp y cc nL ret E kc ks pc ls (.int (nI b) :: .int (nI a) :: st) z sh mi mr := r_imul d (r_top (pk_mul a b) k)
theorem r_isubN {a b : Nat} (d : decode cc pc = .ok (.isub, 1)) (h : b ≤ a) (k : Wp y cc nL ret E kc ks (pc + 1) ls (.int (nI (a - b)) :: st) z sh mi mr) : Wp y cc nL ret E kc ks pc ls (.int (nI b) :: .int (nI a) :: st) z sh mi mr := r_isub d (r_top (pk_sub h) k)
theorem r_idivN {a b : Nat} (d : decode cc pc = .ok (.idiv, 1)) (ha : a < 2 ^ 31) (h0 : 0 < b) (hb : b < 2 ^ 31) (k : Wp y cc nL ret E kc ks (pc + 1) ls (.int (nI (a / b)) :: st) z sh mi mr) : Wp y cc nL ret E kc ks pc ls (.int (nI b) :: .int (nI a) :: st) z sh mi mr := r_idiv d (nI_ne0 h0 hb) (r_top (pk_div ha h0 hb) k)
theorem r_iremN {a b : Nat} (d : decode cc pc = .ok (.irem, 1)) (ha : a < 2 ^ 31) (h0 : 0 < b) (hb : b < 2 ^ 31) (k : Wp y cc nL ret E kc ks (pc + 1) ls (.int (nI (a % b)) :: st) z sh mi mr) : Wp y cc nL ret E kc ks pc ls (.int (nI b) :: .int (nI a) :: st) z sh mi mr := r_irem d (nI_ne0 h0 hb) (r_top (pk_rem ha h0 hb) k)
theorem r_iincN (i : Nat) {n : Int} {a b : Nat} {ls2 : List Value} (d : decode cc pc = .ok (.iinc i n, 3)) (hl : ls[i]? = some (.int (nI a))) (hv : Int32.ofInt n = nI b) (hn : i < nL) (he : setL ls i (.int (nI (a + b))) = ls2) (k : Wp y cc nL ret E kc ks (pc + 3) ls2 st z sh mi mr) : Wp y cc nL ret E kc ks pc ls st z sh mi mr := r_iinc i d hl (by rw [hv]; exact nI_add a b) hn he k
theorem r_dup {v : Value} (d : decode cc pc = .ok (.dup, 1)) (hc : v.category = 1) (k : Wp y cc nL ret E kc ks (pc + 1) ls (v :: v :: st) z sh mi mr) : Wp y cc nL ret E kc ks pc ls (v :: st) z sh mi mr := by
  intro p l e s m args below meth c D AC base C X H locs la hR hS hL
  exact lv_dup C.1 C.2.1 d hc (k _ _ _ _ _ _ _ _ _ _ _ _ C X _ _ _ hR hS hL)
theorem r_pop {v : Value} (d : decode cc pc = .ok (.pop, 1)) (hc : v.category = 1) (k : Wp y cc nL ret E kc ks (pc + 1) ls st z sh mi mr) : Wp y cc nL ret E kc ks pc ls (v :: st) z sh mi mr := by
  intro p l e s m args below meth c D AC base C X H locs la hR hS hL
  exact lv_pop C.1 C.2.1 d hc (k _ _ _ _ _ _ _ _ _ _ _ _ C X _ _ _ hR hS hL)
theorem r_dup2 {v u : Value} (d : decode cc pc = .ok (.dup2, 1)) (hc : v.category = 1) (hc2 : u.category = 1) (k : Wp y cc nL ret E kc ks (pc + 1) ls (v :: u :: v :: u :: st) z sh mi mr) : Wp y cc nL ret E kc ks pc ls (v :: u :: st) z sh mi mr := by
  intro p l e s m args below meth c D AC base C X H locs la hR hS hL
  exact lv_dup2_11 C.1 C.2.1 d hc hc2 (k _ _ _ _ _ _ _ _ _ _ _ _ C X _ _ _ hR hS hL)
theorem r_goto {off : Int} (tgt : Nat) (d : decode cc pc = .ok (.goto off, 3)) (ht : (pc : Int) + off = (tgt : Int)) (k : Wp y cc nL ret E kc ks tgt ls st z sh mi mr) : Wp y cc nL ret E kc ks pc ls st z sh mi mr := by
  intro p l e s m args below meth c D AC base C X H locs la hR hS hL
  exact lv_goto C.1 C.2.1 d ht (k _ _ _ _ _ _ _ _ _ _ _ _ C X _ _ _ hR hS hL)
theorem r_if_eq {x : Int32} {off : Int} (tgt : Nat) (d : decode cc pc = .ok (.ifCond .eq off, 3)) (ht : (pc : Int) + off = (tgt : Int)) (kt : x = 0 → Wp y cc nL ret E kc ks tgt ls st z sh mi mr) (kf : ¬ x = 0 → Wp y cc nL ret E kc ks (pc + 3) ls st z sh mi mr) : Wp y cc nL ret E kc ks pc ls (.int x :: st) z sh mi mr := by
  intro p l e s m args below meth c D AC base C X H locs la hR hS hL
  exact lv_if_eq C.1 C.2.1 d ht (fun h => kt h _ _ _ _ _ _ _ _ _ _ _ _ C X _ _ _ hR hS hL) (fun h => kf h _ _ _ _ _ _ _ _ _ _ _ _ C X _ _ _ hR hS hL)
theorem r_icmp_eq {x y0 : Int32} {off : Int} (tgt : Nat) (d : decode cc pc = .ok (.if_icmp .eq off, 3)) (ht : (pc : Int) + off = (tgt : Int)) (kt : x = y0 → Wp y cc nL ret E kc ks tgt ls st z sh mi mr) (kf : ¬ x = y0 → Wp y cc nL ret E kc ks (pc + 3) ls st z sh mi mr) : Wp y cc nL ret E kc ks pc ls (.int y0 :: .int x :: st) z sh mi mr := by
  intro p l e s m args below meth c D AC base C X H locs la hR hS hL
  exact lv_icmp_eq C.1 C.2.1 d ht (fun h => kt h _ _ _ _ _ _ _ _ _ _ _ _ C X _ _ _ hR hS hL) (fun h => kf h _ _ _ _ _ _ _ _ _ _ _ _ C X _ _ _ hR hS hL)
theorem r_if_ne {x : Int32} {off : Int} (tgt : Nat) (d : decode cc pc = .ok (.ifCond .ne off, 3)) (ht : (pc : Int) + off = (tgt : Int)) (kt : ¬ x = 0 → Wp y cc nL ret E kc ks tgt ls st z sh mi mr) (kf : x = 0 → Wp y cc nL ret E kc ks (pc + 3) ls st z sh mi mr) : Wp y cc nL ret E kc ks pc ls (.int x :: st) z sh mi mr := by
  intro p l e s m args below meth c D AC base C X H locs la hR hS hL
  exact lv_if_ne C.1 C.2.1 d ht (fun h => kt h _ _ _ _ _ _ _ _ _ _ _ _ C X _ _ _ hR hS hL) (fun h => kf h _ _ _ _ _ _ _ _ _ _ _ _ C X _ _ _ hR hS hL)
theorem r_icmp_ne {x y0 : Int32} {off : Int} (tgt : Nat) (d : decode cc pc = .ok (.if_icmp .ne off, 3)) (ht : (pc : Int) + off = (tgt : Int)) (kt : ¬ x = y0 → Wp y cc nL ret E kc ks tgt ls st z sh mi mr) (kf : x = y0 → Wp y cc nL ret E kc ks (pc + 3) ls st z sh mi mr) : Wp y cc nL ret E kc ks pc ls (.int y0 :: .int x :: st) z sh mi mr := by
  intro p l e s m args below meth c D AC base C X H locs la hR hS hL
  exact lv_icmp_ne C.1 C.2.1 d ht (fun h => kt h _ _ _ _ _ _ _ _ _ _ _ _ C X _ _ _ hR hS hL) (fun h => kf h _ _ _ _ _ _ _ _ _ _ _ _ C X _ _ _ hR hS hL)
theorem r_if_lt {x : Int32} {off : Int} (tgt : Nat) (d : decode cc pc = .ok (.ifCond .lt off, 3)) (ht : (pc : Int) + off = (tgt : Int)) (kt : x < 0 → Wp y cc nL ret E kc ks tgt ls st z sh mi mr) (kf : ¬ x < 0 → Wp y cc nL ret E kc ks (pc + 3) ls st z sh mi mr) : Wp y cc nL ret E kc ks pc ls (.int x :: st) z sh mi mr := by
  intro p l e s m args below meth c D AC base C X H locs la hR hS hL
  exact lv_if_lt C.1 C.2.1 d ht (fun h => kt h _ _ _ _ _ _ _ _ _ _ _ _ C X _ _ _ hR hS hL) (fun h => kf h _ _ _ _ _ _ _ _ _ _ _ _ C X _ _ _ hR hS hL)
theorem r_icmp_lt {x y0 : Int32} {off : Int} (tgt : Nat) (d : decode cc pc = .ok (.if_icmp .lt off, 3)) (ht : (pc : Int) + off = (tgt : Int)) (kt : x < y0 → Wp y cc nL ret E kc ks tgt ls st z sh mi mr) (kf : ¬ x < y0 → Wp y cc nL ret E kc ks (pc + 3) ls st z sh mi mr) : Wp y cc nL ret E kc ks pc ls (.int y0 :: .int x :: st) z sh mi mr := by
  intro p l e s m args below meth c D AC base C X H locs la hR hS hL
  exact lv_icmp_lt C.1 C.2.1 d ht (fun h => kt h _ _ _ _ _ _ _ _ _ _ _ _ C X _ _ _ hR hS hL) (fun h => kf h _ _ _ _ _ _ _ _ _ _ _ _ C X _ _ _ hR hS hL)
theorem r_if_ge {x : Int32} {off : Int} (tgt : Nat) (d : decode cc pc = .ok (.ifCond .ge off, 3)) (ht : (pc : Int) + off = (tgt : Int)) (kt : 0 ≤ x → Wp y cc nL ret E kc ks tgt ls st z sh mi mr) (kf : ¬ 0 ≤ x → Wp y cc nL ret E kc ks (pc + 3) ls st z sh mi mr) : Wp y cc nL ret E kc ks pc ls (.int x :: st) z sh mi mr := by
  intro p l e s m args below meth c D AC base C X H locs la hR hS hL
  exact lv_if_ge C.1 C.2.1 d ht (fun h => kt h _ _ _ _ _ _ _ _ _ _ _ _ C X _ _ _ hR hS hL) (fun h => kf h _ _ _ _ _ _ _ _ _ _ _ _ C X _ _ _ hR hS hL)
theorem r_icmp_ge {x y0 : Int32} {off : Int} (tgt : Nat) (d : decode cc pc = .ok (.if_icmp .ge off, 3)) (ht : (pc : Int) + off = (tgt : Int)) (kt : y0 ≤ x → Wp y cc nL ret E kc ks tgt ls st z sh mi mr) (kf : ¬ y0 ≤ x → Wp y cc nL ret E kc ks (pc + 3) ls st z sh mi mr) : Wp y cc nL ret E kc ks pc ls (.int y0 :: .int x :: st) z sh mi mr := by
  intro p l e s m args below meth c D AC base C X H locs la hR hS hL
  exact lv_icmp_ge C.1 C.2.1 d ht (fun h => kt h _ _ _ _ _ _ _ _ _ _ _ _ C X _ _ _ hR hS hL) (fun h => kf h _ _ _ _ _ _ _ _ _ _ _ _ C X _ _ _ hR hS hL)
theorem r_if_gt {x : Int32} {off : Int} (tgt : Nat) (d : decode cc pc = .ok (.ifCond .gt off, 3)) (ht : (pc : Int) + off = (tgt : Int)) (kt : 0 < x → Wp y cc nL ret E kc ks tgt ls st z sh mi mr) (kf : ¬ 0 < x → Wp y cc nL ret E kc ks (pc + 3) ls st z sh mi mr) : Wp y cc nL ret E kc ks pc ls (.int x :: st) z sh mi mr := by
  intro p l e s m args below meth c D AC base C X H locs la hR hS hL
  exact lv_if_gt C.1 C.2.1 d ht (fun h => kt h _ _ _ _ _ _ _ _ _ _ _ _ C X _ _ _ hR hS hL) (fun h => kf h _ _ _ _ _ _ _ _ _ _ _ _ C X _ _ _ hR hS hL)
theorem r_icmp_gt {x y0 : Int32} {off : Int} (tgt : Nat) (d : decode cc pc = .ok (.if_icmp .gt off, 3)) (ht : (pc : Int) + off = (tgt : Int)) (kt : y0 < x → Wp y cc nL ret E kc ks tgt ls st z sh mi mr) (kf : ¬ y0 < x → Wp y cc nL ret E kc ks (pc + 3) ls st z sh mi mr) : Wp y cc nL ret E kc ks pc ls (.int y0 :: .int x :: st) z sh mi mr := by
  intro p l e s m args below meth c D AC base C X H locs la hR hS hL
  exact lv_icmp_gt C.1 C.2.1 d ht (fun h => kt h _ _ _ _ _ _ _ _ _ _ _ _ C X _ _ _ hR hS hL) (fun h => kf h _ _ _ _ _ _ _ _ _ _ _ _ C X _ _ _ hR hS hL)
theorem r_if_le {x : Int32} {off : Int} (tgt : Nat) (d : decode cc pc = .ok (.ifCond .le off, 3)) (ht : (pc : Int) + off = (tgt : Int)) (kt : x ≤ 0 → Wp y cc nL ret E kc ks tgt ls st z sh mi mr) (kf : ¬ x ≤ 0 → Wp y cc nL ret E kc ks (pc + 3) ls st z sh mi mr) : Wp y cc nL ret E kc ks pc ls (.int x :: st) z sh mi mr := by
  intro p l e s m args below meth c D AC base C X H locs la hR hS hL
  exact lv_if_le C.1 C.2.1 d ht (fun h => kt h _ _ _ _ _ _ _ _ _ _ _ _ C X _ _ _ hR hS hL) (fun h => kf h _ _ _ _ _ _ _ _ _ _ _ _ C X _ _ _ hR hS hL)
theorem r_icmp_le {x y0 : Int32} {off : Int} (tgt : Nat) (d : decode cc pc = .ok (.if_icmp .le off, 3)) (ht : (pc : Int) + off = (tgt : Int)) (kt : x ≤ y0 → Wp y cc nL ret E kc ks tgt ls st z sh mi mr) (kf : ¬ x ≤ y0 → Wp y cc nL ret E kc ks (pc + 3) ls st z sh mi mr) : Wp y cc nL ret E kc ks pc ls (.int y0 :: .int x :: st) z sh mi mr := by
  intro p l e s m args below meth c D AC base C X H locs la hR hS hL
  exact lv_icmp_le C.1 C.2.1 d ht (fun h => kt h _ _ _ _ _ _ _ _ _ _ _ _ C X _ _ _ hR hS hL) (fun h => kf h _ _ _ _ _ _ _ _ _ _ _ _ C X _ _ _ hR hS hL)
theorem r_icmpN_eq {a b : Nat} {off : Int} (tgt : Nat) (d : decode cc pc = .ok (.if_icmp .eq off, 3)) (ht : (pc : Int) + off = (tgt : Int)) (ha : a < 2 ^ 31) (hb : b < 2 ^ 31) (kt : a = b → Wp y cc nL ret E kc ks tgt ls st z sh mi mr) (kf : a ≠ b → Wp y cc nL ret E kc ks (pc + 3) ls st z sh mi mr) : Wp y cc nL ret E kc ks pc ls (.int (nI b) :: .int (nI a) :: st) z sh mi mr := by
  refine r_icmp_eq tgt d ht (fun h => kt ((nI_eq ha hb).mp h)) (fun h => kf ?_)
  have h2 : ¬ (a = b) := fun e => h ((nI_eq ha hb).mpr e)
  exact h2
theorem r_icmpN_ne {a b : Nat} {off : Int} (tgt : Nat) (d : decode cc pc = .ok (.if_icmp .ne off, 3)) (ht : (pc : Int) + off = (tgt : Int)) (ha : a < 2 ^ 31) (hb : b < 2 ^ 31) (kt : a ≠ b → Wp y cc nL ret E kc ks tgt ls st z sh mi mr) (kf : a = b → Wp y cc nL ret E kc ks (pc + 3) ls st z sh mi mr) : Wp y cc nL ret E kc ks pc ls (.int (nI b) :: .int (nI a) :: st) z sh mi mr := by
  refine r_icmp_ne tgt d ht (fun h => kt (fun e => h ((nI_eq ha hb).mpr e))) (fun h => kf ((nI_eq ha hb).mp h))
theorem r_icmpN_lt {a b : Nat} {off : Int} (tgt : Nat) (d : decode cc pc = .ok (.if_icmp .lt off, 3)) (ht : (pc : Int) + off = (tgt : Int)) (ha : a < 2 ^ 31) (hb : b < 2 ^ 31) (kt : a < b → Wp y cc nL ret E kc ks tgt ls st z sh mi mr) (kf : b ≤ a → Wp y cc nL ret E kc ks (pc + 3) ls st z sh mi mr) : Wp y cc nL ret E kc ks pc ls (.int (nI b) :: .int (nI a) :: st) z sh mi mr := by
  refine r_icmp_lt tgt d ht (fun h => kt ((nI_ltI ha hb).mp h)) (fun h => kf ?_)
  have h2 : ¬ (a < b) := fun e => h ((nI_ltI ha hb).mpr e)
  omega
theorem r_icmpN_ge {a b : Nat} {off : Int} (tgt : Nat) (d : decode cc pc = .ok (.if_icmp .ge off, 3)) (ht : (pc : Int) + off = (tgt : Int)) (ha : a < 2 ^ 31) (hb : b < 2 ^ 31) (kt : b ≤ a → Wp y cc nL ret E kc ks tgt ls st z sh mi mr) (kf : a < b → Wp y cc nL ret E kc ks (pc + 3) ls st z sh mi mr) : Wp y cc nL ret E kc ks pc ls (.int (nI b) :: .int (nI a) :: st) z sh mi mr := by
  refine r_icmp_ge tgt d ht (fun h => kt ((nI_leI hb ha).mp h)) (fun h => kf ?_)
  have h2 : ¬ (b ≤ a) := fun e => h ((nI_leI hb ha).mpr e)
  omega
theorem r_icmpN_gt {a b : Nat} {off : Int} (tgt : Nat) (d : decode cc pc = .ok (.if_icmp .gt off, 3)) (ht : (pc : Int) + off = (tgt : Int)) (ha : a < 2 ^ 31) (hb : b < 2 ^ 31) (kt : b < a → Wp y cc nL ret E kc ks tgt ls st z sh mi mr) (kf : a ≤ b → Wp y cc nL ret E kc ks (pc + 3) ls st z sh mi mr) : Wp y cc nL ret E kc ks pc ls (.int (nI b) :: .int (nI a) :: st) z sh mi mr := by
  refine r_icmp_gt tgt d ht (fun h => kt ((nI_ltI hb ha).mp h)) (fun h => kf ?_)
  have h2 : ¬ (b < a) := fun e => h ((nI_ltI hb ha).mpr e)
  omega
theorem r_icmpN_le {a b : Nat} {off : Int} (tgt : Nat) (d : decode cc pc = .ok (.if_icmp .le off, 3)) (ht : (pc : Int) + off = (tgt : Int)) (ha : a < 2 ^ 31) (hb : b < 2 ^ 31) (kt : a ≤ b → Wp y cc nL ret E kc ks tgt ls st z sh mi mr) (kf : b < a → Wp y cc nL ret E kc ks (pc + 3) ls st z sh mi mr) : Wp y cc nL ret E kc ks pc ls (.int (nI b) :: .int (nI a) :: st) z sh mi mr := by
  refine r_icmp_le tgt d ht (fun h => kt ((nI_leI ha hb).mp h)) (fun h => kf ?_)
  have h2 : ¬ (a ≤ b) := fun e => h ((nI_leI ha hb).mpr e)
  omega
end RULES
end
section
def FL (own : String) (idx κ k : Nat) (fin : Bool) : Prop := ∃ (C : String) (T : u_T) (N : Nat), CK κ C T N ∧ k < N ∧ Cond.fieldLink own idx C (T k).2.1 (T k).2.2.1 ∈ tb ∧ (T k).2.2.2 = fin ∧ (T k).1 = C
theorem wl_D {AC : Nat → ClassId} {base z : Nat} {sh : SH} {mi : MI} {mr : MR} : va_D (fun q => base ≤ q) (wl AC base z sh mi mr) := by
  have key : ∀ (i : Nat) (q : Nat × va_E), (wl AC base z sh mi mr)[i]? = some q → q.1 = base + i := by
    intro i q h
    unfold wl at h
    rw [List.getElem?_map] at h
    by_cases hl : i < z - base
    · rw [List.getElem?_range hl] at h
      simp only [Option.map_some, Option.some.injEq] at h
      rw [← h]
    · rw [List.getElem?_eq_none (by simp; omega)] at h
      cases h
  refine ⟨fun i j p q hp hq h => ?_, fun k q hk => ?_⟩
  · have h1 := key i p hp
    have h2 := key j q hq
    omega
  · have h1 := key k q hk
    show base ≤ q.1
    omega
theorem wl_putI {AC : Nat → ClassId} {base z : Nat} {sh : SH} {mi : MI} {mr : MR} {a κ n k : Nat} {x : Int32} (hs : sh a = (κ, n)) (hκ : κ < 11) (h : base ≤ a ∧ a < z) (ht : isRt (tyf κ k) = false) : (wl AC base z sh mi mr).set (a - base) (a, .inr (κ, (fsl mi mr a κ).set k (.int x))) = wl AC base z sh (up2 mi a k x) mr := by
  rw [← wl_set (mi := mi) (mr := mr) h (fun x hx => ce_kept (up2_row _ _ hx) rfl), ce_obj (by rw [hs]) hκ, ← fsl_set (mi := mi) (mr := mr) (k := k) (fun j hj => ⟨up2_ne _ _ (Or.inr hj), rfl⟩)]
  simp [fvl, ht, up2_same]
theorem wl_putR {AC : Nat → ClassId} {base z : Nat} {sh : SH} {mi : MI} {mr : MR} {a κ n k b : Nat} (hs : sh a = (κ, n)) (hκ : κ < 11) (h : base ≤ a ∧ a < z) (ht : isRt (tyf κ k) = true) : (wl AC base z sh mi mr).set (a - base) (a, .inr (κ, (fsl mi mr a κ).set k (.ref b))) = wl AC base z sh mi (up2 mr a k (some b)) := by
  rw [← wl_set (mi := mi) (mr := mr) h (fun x hx => ce_kept rfl (up2_row _ _ hx)), ce_obj (by rw [hs]) hκ, ← fsl_set (mi := mi) (mr := mr) (k := k) (fun j hj => ⟨rfl, up2_ne _ _ (Or.inr hj)⟩)]
  simp [fvl, ht, up2_same, va_rf]
theorem up2_upd (mi : MI) (a j : Nat) (x : Int32) : up2 mi a j x a = upd (mi a) j x := by
  funext q; simp [up2, upd]
theorem wl_arrI {AC : Nat → ClassId} {base z : Nat} {sh : SH} {mi : MI} {mr : MR} {a κ n : Nat} {f : Nat → Int32} (hs : sh a = (κ, n)) (hκ : 11 ≤ κ ∧ κ < 13) (h : base ≤ a ∧ a < z) : (wl AC base z sh mi mr).set (a - base) (a, .inl (AC (κ - 11), n, .inl f)) = wl AC base z sh (fun x => if x = a then f else mi x) mr := by
  rw [← wl_set (mi := mi) (mr := mr) (mi' := fun x => if x = a then f else mi x) (mr' := mr) h (fun x hx => ce_kept (by simp [hx]) rfl)]
  simp [ce, hs, show ¬ κ < 11 by omega, hκ.2]
theorem wl_arrR {AC : Nat → ClassId} {base z : Nat} {sh : SH} {mi : MI} {mr : MR} {a κ n : Nat} {f : Nat → Option Nat} (hs : sh a = (κ, n)) (hκ : 13 ≤ κ) (h : base ≤ a ∧ a < z) : (wl AC base z sh mi mr).set (a - base) (a, .inl (AC (κ - 11), n, .inr (.inr (.inr (.inr f))))) = wl AC base z sh mi (fun x => if x = a then f else mr x) := by
  rw [← wl_set (mi := mi) (mr := mr) (mi' := mi) (mr' := fun x => if x = a then f else mr x) h (fun x hx => ce_kept rfl (by simp [hx]))]
  simp [ce, hs, show ¬ κ < 11 by omega, show ¬ κ < 13 by omega]
theorem up2_if {α : Type} (f : Nat → Nat → α) (a j : Nat) (v : α) : (fun x => if x = a then (fun q => if q = j then v else f a q) else f x) = up2 f a j v := by
  funext x q
  by_cases hx : x = a
  · subst hx
    by_cases hq : q = j <;> simp [up2, hq]
  · simp [up2, hx]
section RULES2
variable {y : MethodName} {cc : ByteArray} {nL : Nat} {ret : Option FieldType} {E : ET} {kc ks pc : Nat} {ls st : List Value} {z : Nat} {sh : SH} {mi : MI} {mr : MR}
theorem r_getQ {a idx κ k n : Nat} {fin : Bool} (d : decode cc pc = .ok (.getfield idx, 3)) (f : FL y.cls idx κ k fin) (hs : sh a = (κ, n)) (kk : Wp y cc nL ret E kc ks (pc + 3) ls (fvl mi mr a κ k :: st) z sh mi mr) : Wp y cc nL ret E kc ks pc ls (.ref a :: st) z sh mi mr := by
  intro p l e s m args below meth c D AC base C X H locs la hR hS hL
  obtain ⟨C0, T, N, ⟨c1, c2, c3, c4, c5, c6⟩, f1, f2, f3, f4⟩ := f
  have hb := hR.2.2.1 a (by rw [hs]; show κ < 16; omega)
  have he := wl_get (AC := AC) (sh := sh) (mi := mi) (mr := mr) hb
  rw [ce_obj (by rw [hs]) c6] at he
  exact va_get C.1 C.2.1 C.2.2.2.2.2.2.1 c2 C.2.2.2.2.2.1 C.2.2.2.2.2.2.2.1.1 hR.2.2.2 (a - base) he c1 k f1 (C.2.2.2.2.2.2.1 _ f2) (by rw [f4]; exact fun _ h => h) (fsl_get (c5 ▸ f1)) d (kk _ _ _ _ _ _ _ _ _ _ _ _ C X _ _ _ hR hS hL)
theorem r_getV {a idx κ k n : Nat} {fin : Bool} {v : Int32} (d : decode cc pc = .ok (.getfield idx, 3)) (f : FL y.cls idx κ k fin) (ht : isRt (tyf κ k) = false) (hs : sh a = (κ, n)) (hv : mi a k = v) (kk : Wp y cc nL ret E kc ks (pc + 3) ls (.int v :: st) z sh mi mr) : Wp y cc nL ret E kc ks pc ls (.ref a :: st) z sh mi mr := by
  refine r_getQ d f hs ?_
  have e : fvl mi mr a κ k = .int v := by unfold fvl; rw [ht, hv]; rfl
  rw [e]; exact kk
theorem r_getR {a idx κ k n b : Nat} {fin : Bool} (d : decode cc pc = .ok (.getfield idx, 3)) (f : FL y.cls idx κ k fin) (ht : isRt (tyf κ k) = true) (hs : sh a = (κ, n)) (hv : mr a k = some b) (kk : Wp y cc nL ret E kc ks (pc + 3) ls (.ref b :: st) z sh mi mr) : Wp y cc nL ret E kc ks pc ls (.ref a :: st) z sh mi mr := by
  refine r_getQ d f hs ?_
  have e : fvl mi mr a κ k = .ref b := by unfold fvl; rw [ht, hv]; rfl
  rw [e]; exact kk
theorem Rel.put {D : va_G} {AC : Nat → ClassId} {base z : Nat} {sh : SH} {mi mi' : MI} {mr mr' : MR} {H H1 : Heap} (hR : Rel D AC base z sh mi mr H) (hz : H1.size = H.size) (hP : va_P D vwCl (wl AC base z sh mi' mr') H1) : Rel D AC base z sh mi' mr' H1 := ⟨hR.1, hz.trans hR.2.1, hR.2.2.1, hP⟩
theorem va_S_size {A : Nat → Prop} {H0 H : Heap} {locs : List Loc} (h : va_S A H0 H locs) : H0.size ≤ H.size := h.1
theorem wl_len {AC : Nat → ClassId} {base z : Nat} {sh : SH} {mi : MI} {mr : MR} : (wl AC base z sh mi mr).length = z - base := by simp [wl]
theorem Rel.lt {D : va_G} {AC : Nat → ClassId} {base z : Nat} {sh : SH} {mi : MI} {mr : MR} {H : Heap} (hR : Rel D AC base z sh mi mr H) {a κ n : Nat} (hs : sh a = (κ, n)) (hκ : κ < 16) : base ≤ a ∧ a < z := hR.2.2.1 a (by rw [hs]; exact hκ)
theorem r_putI {a idx κ k n : Nat} {x : Int32} (d : decode cc pc = .ok (.putfield idx, 3)) (f : FL y.cls idx κ k false) (ht : isRt (tyf κ k) = false) (hn : narrow (tyf κ k) (.int x) = .int x) (hfit : fits (tyf κ k) (.int x) = true) (hs : sh a = (κ, n)) (kk : Wp y cc nL ret E kc ks (pc + 3) ls st z sh (up2 mi a k x) mr) : Wp y cc nL ret E kc ks pc ls (.int x :: .ref a :: st) z sh mi mr := by
  intro p l e s m args below meth c D AC base C X H locs la hR hS hL
  obtain ⟨C0, T, N, ⟨c1, c2, c3, c4, c5, c6⟩, f1, f2, f3, f4⟩ := f
  have hb := hR.lt hs (by omega)
  have he := wl_get (AC := AC) (sh := sh) (mi := mi) (mr := mr) hb
  rw [ce_obj (by rw [hs]) c6] at he
  have hts := C.2.2.2.2.2.2.1
  have hK := C.2.2.2.2.2.2.2.1.1
  have hap := va_apart (own := y.cls) hts c2 (tyf κ) c3 c4 hK c1
  obtain ⟨r, h1, cell, q1, q2, q3, q4⟩ := hR.2.2.2 (a - base) _ he
  have hr : r = (C0, T, N) := Option.some.inj (h1.symm.trans c1)
  subst hr
  obtain ⟨hS1, hfc, kC, hkC, hkind⟩ := hK.1 κ _ c1
  obtain ⟨cf, kf, fi, fd, hi, hsl⟩ := hS1 k f1
  have hlay := hts _ (c2 _ (u_in_lay f1))
  unfold u_lay at hlay
  rw [if_neg (by rw [f3]; decide)] at hlay
  have hst := (u_facts hfc hkC (u_lays hts c2 f1) hi).1
  have h6 := u_store hfc hkC hkind hlay hi (c3 k f1) hn hfit
  refine W.putK C.1 C.2.1 (f := fd) ⟨C.2.2.2.2.2.1, hts _ f2, ⟨_, _, _, by rw [f4] at hi; exact hi⟩, hst⟩ (by rw [q2]; exact h6) q1 q3 (by rw [hsl]; exact k2_hasslot (q4 k f1)) rfl rfl d fun H' e1 e2 e3 => ?_
  rw [hsl] at e1 ⊢
  have hl : k < (fsl mi mr a κ).length := by simp [fsl]; omega
  have hP' := hR.2.2.2.set (H1 := H') (e := .inr (κ, (fsl mi mr a κ).set k (.int x))) wl_D he ⟨_, c1, t_OB.to (V := updV (vp_V (fsl mi mr a κ)) k (.int x)) ⟨_, e1, q2, q3, t_set q4 hap f1 (.int x)⟩ (fun j _ => vp_updV_set hl (.int x) j)⟩ e3
  rw [wl_putI hs c6 hb ht] at hP'
  exact kk _ _ _ _ _ _ _ _ _ _ _ _ C X _ _ _ (hR.put e2 hP') (hS.put e2 e3 hb.1) hL
theorem r_putRF {a idx κ k n b : Nat} (hy : y.name = "<init>") (d : decode cc pc = .ok (.putfield idx, 3)) (f : FL y.cls idx κ k true) (hd : ∃ T N, vwCl[κ]? = some (y.cls, T, N)) (ht : isRt (tyf κ k) = true) (hn : narrow (tyf κ k) (.ref b) = .ref b) (hfit : fits (tyf κ k) (.ref b) = true) (hs : sh a = (κ, n)) (kk : Wp y cc nL ret E kc ks (pc + 3) ls st z sh mi (up2 mr a k (some b))) : Wp y cc nL ret E kc ks pc ls (.ref b :: .ref a :: st) z sh mi mr := by
  intro p l e s m args below meth c D AC base C X H locs la hR hS hL
  obtain ⟨C0, T, N, ⟨c1, c2, c3, c4, c5, c6⟩, f1, f2, f3, f4⟩ := f
  obtain ⟨T', N', hd⟩ := hd
  have hdecl : C0 = y.cls := by have := c1.symm.trans hd; simp at this; exact this.1
  have hb := hR.lt hs (by omega)
  have he := wl_get (AC := AC) (sh := sh) (mi := mi) (mr := mr) hb
  rw [ce_obj (by rw [hs]) c6] at he
  have hts := C.2.2.2.2.2.2.1
  have hK := C.2.2.2.2.2.2.2.1.1
  have hap := va_apart (own := y.cls) hts c2 (tyf κ) c3 c4 hK c1
  obtain ⟨r, h1, cell, q1, q2, q3, q4⟩ := hR.2.2.2 (a - base) _ he
  have hr : r = (C0, T, N) := Option.some.inj (h1.symm.trans c1)
  subst hr
  obtain ⟨hS1, hfc, kC, hkC, hkind⟩ := hK.1 κ _ c1
  obtain ⟨cf, kf, fi, fd, hi, hsl⟩ := hS1 k f1
  have hlay := hts _ (c2 _ (u_in_lay f1))
  unfold u_lay at hlay
  rw [if_pos f3] at hlay
  have hst := (u_facts hfc hkC (u_lays hts c2 f1) hi).1
  have hcf : m.cls = cf := by
    obtain ⟨_, _, c', _, _, _, -, -, hf', -, -, -, hown2, -⟩ := Cond.laysFinal_spec hlay
    have e1 : c' = cf := by have := hi.symm.trans hf'; simp at this; exact this.1.symm
    rw [f4, hdecl] at hown2
    rw [← e1]; exact Option.some.inj (C.2.2.2.2.2.1.symm.trans hown2)
  have h6 := u_fits hfc hkC hkind (Or.inr hlay) hi (c3 k f1) hn hfit
  refine W.putFinK C.1 C.2.1 C.2.2.2.2.2.1 (hts _ f2) (by rw [f4] at hi; exact hi) hst hcf (C.2.2.2.2.2.2.2.2.2 hy) (by rw [q2]; exact h6) q1 q3 (by rw [hsl]; exact k2_hasslot (q4 k f1)) rfl rfl d fun H' e1 e2 e3 => ?_
  rw [hsl] at e1 ⊢
  have hl : k < (fsl mi mr a κ).length := by simp [fsl]; omega
  have hP' := hR.2.2.2.set (H1 := H') (e := .inr (κ, (fsl mi mr a κ).set k (.ref b))) wl_D he ⟨_, c1, t_OB.to (V := updV (vp_V (fsl mi mr a κ)) k (.ref b)) ⟨_, e1, q2, q3, t_set q4 hap f1 (.ref b)⟩ (fun j _ => vp_updV_set hl (.ref b) j)⟩ e3
  rw [wl_putR hs c6 hb ht] at hP'
  exact kk _ _ _ _ _ _ _ _ _ _ _ _ C X _ _ _ (hR.put e2 hP') (hS.put e2 e3 hb.1) hL
theorem va_K_at {D : va_G} {AC : Nat → ClassId} {s : State} (h : va_K D vwCl (tyL AC) s) {k : Nat} {q : ClassId × FieldType} (hq : (tyL AC)[k]? = some q) : ArrOfT s q.1 q.2 ∧ va_RA s q.1 q.2 := h.2 k q hq
theorem r_ialdV {a n j : Nat} {v : Int32} (d : decode cc pc = .ok (.iaload, 1)) (hs : sh a = (11, n)) (hj : j < n) (hn : n < 2 ^ 31) (hv : mi a j = v) (kk : Wp y cc nL ret E kc ks (pc + 1) ls (.int v :: st) z sh mi mr) : Wp y cc nL ret E kc ks pc ls (.int (nI j) :: .ref a :: st) z sh mi mr := by
  intro p l e s m args below meth c D AC base C X H locs la hR hS hL
  have he := wl_get (AC := AC) (sh := sh) (mi := mi) (mr := mr) (hR.lt hs (by omega))
  rw [ce_int hs] at he
  refine va_iald C.1 C.2.1 C.2.2.2.2.2.2.2.1.1 hR.2.2.2 (a - base) 0 he rfl (vp_in_nI hj hn) d ?_
  rw [nI_clamp (by omega), hv]
  exact kk _ _ _ _ _ _ _ _ _ _ _ _ C X _ _ _ hR hS hL
theorem r_baldV {a n j : Nat} {v : Int32} (d : decode cc pc = .ok (.baload, 1)) (hs : sh a = (12, n)) (hj : j < n) (hn : n < 2 ^ 31) (hv : mi a j = v) (kk : Wp y cc nL ret E kc ks (pc + 1) ls (.int v :: st) z sh mi mr) : Wp y cc nL ret E kc ks pc ls (.int (nI j) :: .ref a :: st) z sh mi mr := by
  intro p l e s m args below meth c D AC base C X H locs la hR hS hL
  have he := wl_get (AC := AC) (sh := sh) (mi := mi) (mr := mr) (hR.lt hs (by omega))
  rw [ce_bool hs] at he
  refine va_zald C.1 C.2.1 C.2.2.2.2.2.2.2.1.1 hR.2.2.2 (a - base) 1 he rfl (vp_in_nI hj hn) d ?_
  rw [nI_clamp (by omega), hv]
  exact kk _ _ _ _ _ _ _ _ _ _ _ _ C X _ _ _ hR hS hL
theorem r_aaldQ {a κ n j : Nat} {Cn : String} (d : decode cc pc = .ok (.aaload, 1)) (hs : sh a = (κ, n)) (hκ : 13 ≤ κ) (ht : ∀ AC : Nat → ClassId, (tyL AC)[κ - 11]? = some (AC (κ - 11), .object Cn)) (hj : j < n) (hn : n < 2 ^ 31) (kk : Wp y cc nL ret E kc ks (pc + 1) ls (va_rf (mr a j) :: st) z sh mi mr) : Wp y cc nL ret E kc ks pc ls (.int (nI j) :: .ref a :: st) z sh mi mr := by
  intro p l e s m args below meth c D AC base C X H locs la hR hS hL
  have h16 : κ < 16 := by
    have h1 := ht AC
    have h2 := (List.getElem?_eq_some_iff.mp h1).1
    simp at h2
    omega
  have he := wl_get (AC := AC) (sh := sh) (mi := mi) (mr := mr) (hR.lt hs h16)
  rw [ce_ref hs hκ] at he
  refine va_aldq C.1 C.2.1 C.2.2.2.2.2.2.2.1.1 hR.2.2.2 (a - base) (κ - 11) he (ht AC) (vp_in_nI hj hn) d ?_
  rw [nI_clamp (by omega)]
  exact kk _ _ _ _ _ _ _ _ _ _ _ _ C X _ _ _ hR hS hL
theorem r_aald {a κ n j b : Nat} {Cn : String} (d : decode cc pc = .ok (.aaload, 1)) (hs : sh a = (κ, n)) (hκ : 13 ≤ κ) (ht : ∀ AC : Nat → ClassId, (tyL AC)[κ - 11]? = some (AC (κ - 11), .object Cn)) (hj : j < n) (hn : n < 2 ^ 31) (hv : mr a j = some b) (kk : Wp y cc nL ret E kc ks (pc + 1) ls (.ref b :: st) z sh mi mr) : Wp y cc nL ret E kc ks pc ls (.int (nI j) :: .ref a :: st) z sh mi mr := by
  refine r_aaldQ d hs hκ ht hj hn ?_
  rw [hv]; exact kk
theorem r_iast {a n j : Nat} {x : Int32} (d : decode cc pc = .ok (.iastore, 1)) (hs : sh a = (11, n)) (hj : j < n) (hn : n < 2 ^ 31) (kk : Wp y cc nL ret E kc ks (pc + 1) ls st z sh (up2 mi a j x) mr) : Wp y cc nL ret E kc ks pc ls (.int x :: .int (nI j) :: .ref a :: st) z sh mi mr := by
  intro p l e s m args below meth c D AC base C X H locs la hR hS hL
  have hb := hR.lt hs (by omega)
  have he := wl_get (AC := AC) (sh := sh) (mi := mi) (mr := mr) hb
  rw [ce_int hs] at he
  have hc : H[a]? = some (arrV (AC 0) n (fun j => .int (mi a j))) := hR.2.2.2 (a - base) _ he
  refine W.iast C.1 C.2.1 hc ((va_K_at C.2.2.2.2.2.2.2.1.1 (k := 0) rfl).1 n (fun j => .int (mi a j))) (fun q => by cases q) (by rw [arrV_size]; exact vp_in_nI hj hn) rfl rfl d fun H1 e1 e2 e3 => ?_
  have hP' := hR.2.2.2.set (e := .inl (AC 0, n, .inl (upd (mi a) j x))) wl_D he (by
    show H1[a]? = some (vp_cell _ _)
    rw [e1, vp_cell_i, arrV_store, nI_clamp (by omega)]
    congr 2
    funext q
    by_cases hq : q = j
    · subst hq; simp [updV, upd]
    · simp [updV, upd, hq]) e3
  have e4 := wl_arrI (AC := AC) (mi := mi) (mr := mr) (f := upd (mi a) j x) hs (by omega) hb
  simp only [Nat.sub_self] at e4
  rw [e4] at hP'
  rw [show (fun x_1 => if x_1 = a then upd (mi a) j x else mi x_1) = up2 mi a j x from up2_if mi a j x] at hP'
  rw [nI_clamp (by omega)]
  exact kk _ _ _ _ _ _ _ _ _ _ _ _ C X _ _ _ (hR.put e2 hP') (hS.put e2 e3 hb.1) hL
theorem r_bast {a n j : Nat} {x : Int32} (d : decode cc pc = .ok (.bastore, 1)) (hx : narrow .boolean (.int x) = .int x) (hs : sh a = (12, n)) (hj : j < n) (hn : n < 2 ^ 31) (kk : Wp y cc nL ret E kc ks (pc + 1) ls st z sh (up2 mi a j x) mr) : Wp y cc nL ret E kc ks pc ls (.int x :: .int (nI j) :: .ref a :: st) z sh mi mr := by
  intro p l e s m args below meth c D AC base C X H locs la hR hS hL
  have hb := hR.lt hs (by omega)
  have he := wl_get (AC := AC) (sh := sh) (mi := mi) (mr := mr) hb
  rw [ce_bool hs] at he
  have hc : H[a]? = some (arrV (AC 1) n (fun j => .int (mi a j))) := hR.2.2.2 (a - base) _ he
  refine W.zast C.1 C.2.1 hc ((va_K_at C.2.2.2.2.2.2.2.1.1 (k := 1) rfl).1 n (fun j => .int (mi a j))) (fun q => by cases q) (by rw [arrV_size]; exact vp_in_nI hj hn) rfl rfl d fun H1 e1 e2 e3 => ?_
  have hP' := hR.2.2.2.set (e := .inl (AC 1, n, .inl (upd (mi a) j x))) wl_D he (by
    show H1[a]? = some (vp_cell _ _)
    rw [e1, vp_cell_i, arrV_store, nI_clamp (by omega), hx]
    congr 2
    funext q
    by_cases hq : q = j
    · subst hq; simp [updV, upd]
    · simp [updV, upd, hq]) e3
  have e4 := wl_arrI (AC := AC) (mi := mi) (mr := mr) (f := upd (mi a) j x) hs (by omega) hb
  rw [show (12 : Nat) - 11 = 1 from rfl] at e4
  rw [e4] at hP'
  rw [show (fun x_1 => if x_1 = a then upd (mi a) j x else mi x_1) = up2 mi a j x from up2_if mi a j x] at hP'
  rw [nI_clamp (by omega)]
  exact kk _ _ _ _ _ _ _ _ _ _ _ _ C X _ _ _ (hR.put e2 hP') (hS.put e2 e3 hb.1) hL
theorem r_aast {a κ n j b ci n2 : Nat} {r : vw_C} (d : decode cc pc = .ok (.aastore, 1)) (hs : sh a = (κ, n)) (hκ : 13 ≤ κ) (ht : ∀ AC : Nat → ClassId, (tyL AC)[κ - 11]? = some (AC (κ - 11), .object r.1)) (hv : sh b = (ci, n2)) (hc : vwCl[ci]? = some r) (hci : ci < 11) (hj : j < n) (hn : n < 2 ^ 31) (kk : Wp y cc nL ret E kc ks (pc + 1) ls st z sh mi (up2 mr a j (some b))) : Wp y cc nL ret E kc ks pc ls (.ref b :: .int (nI j) :: .ref a :: st) z sh mi mr := by
  intro p l e s m args below meth c D AC base C X H locs la hR hS hL
  have h16 : κ < 16 := by
    have h1 := ht AC
    have h2 := (List.getElem?_eq_some_iff.mp h1).1
    simp at h2
    omega
  have hb := hR.lt hs h16
  have hbv := hR.lt hv (by omega)
  have he := wl_get (AC := AC) (sh := sh) (mi := mi) (mr := mr) hb
  rw [ce_ref hs hκ] at he
  have hev := wl_get (AC := AC) (sh := sh) (mi := mi) (mr := mr) hbv
  rw [ce_obj (by rw [hv]) hci] at hev
  have hcl : H[a]? = some (arrV (AC (κ - 11)) n (fun j => va_rf (mr a j))) := hR.2.2.2 (a - base) _ he
  have hK := C.2.2.2.2.2.2.2.1.1
  obtain ⟨r', hr', cellV, g1, g2, g3, -⟩ := hR.2.2.2 (b - base) _ hev
  have hcls := (hK.1 ci r hc).2
  obtain ⟨kA, comp, k1, k2, k3, -⟩ := (va_K_at hK (ht AC)).2
  have hcomp : comp = D.1 ci := Option.some.inj (k3.symm.trans hcls.1)
  subst hcomp
  obtain ⟨kC, hkC, -⟩ := hcls.2
  have hin := vp_in_nI hj hn
  refine W.aast C.1 C.2.1 hcl (fun q h => by cases h) (fun h => by cases h) k1 k2 rfl hkC ⟨fun q => hin (Or.inl q), by rw [arrV_size, nI_clamp (by omega)]; exact hj⟩ g1 (fun q h => by rw [g3] at h; cases h) (by rw [g2]; exact hkC) (by rw [g2]; exact va_assign hcls) rfl rfl d fun H1 e1 e2 e3 => ?_
  have hP' := hR.2.2.2.set (e := .inl (AC (κ - 11), n, .inr (.inr (.inr (.inr (fun q => if q = j then some b else mr a q)))))) wl_D he (by
    show H1[a]? = some (vp_cell _ _)
    rw [e1, vp_cell_q, arrV_store, nI_clamp (by omega)]
    congr 2
    funext q
    by_cases hq : q = j
    · subst hq; simp [updV, va_rf]
    · simp [updV, hq]) e3
  rw [wl_arrR hs hκ hb, up2_if mr a j (some b)] at hP'
  rw [nI_clamp (by omega)]
  exact kk _ _ _ _ _ _ _ _ _ _ _ _ C X _ _ _ (hR.put e2 hP') (hS.put e2 e3 hb.1) hL
end RULES2
end
section
abbrev PT : Type := Option Value → Nat → SH → MI → MR → Prop
def Qp (D : va_G) (AC : Nat → ClassId) (base : Nat) (Post : PT) : Array Value → State → Outcome → State → Prop := fun _ st oc t => ∃ (v : Option Value) (z' : Nat) (sh' : SH) (mi' : MI) (mr' : MR), oc = .returned v ∧ Post v z' sh' mi' mr' ∧ Rel D AC base z' sh' mi' mr' t.heap ∧ va_F (fun q => base ≤ q) st t
def rmD (d mc ms : Nat) : Room := { frames := d, cells := mc, slots := ms, locals := 37 * d }
def mE (d mc ms : Nat) (Post : PT) : ET := (rmD d mc ms, fun _ _ _ => True, fun below args s D AC base => MQ below (Qp D AC base Post) args s mc ms (fun q => base ≤ q))
/-- THE CONTRACT of a method, over the pure memory: with these arguments and this memory it returns, and Post holds of the answer and the new memory -/
def Mv (M : MD) (d mc ms : Nat) (avs : List Value) (z : Nat) (sh : SH) (mi : MI) (mr : MR) (Post : PT) : Prop :=
  ∀ (l : Launch) (D : va_G) (AC : Nat → ClassId) (base : Nat), Met l M.1 (.code M.1 M.2.1 M.2.2.1 M.2.2.2 :: tb) (rmD d mc ms) (va_Pc avs (fun U => Rel D AC base z sh mi mr U.heap ∧ KK D AC U)) (Qp D AC base Post) mc ms (fun q => base ≤ q)
def catOk (avs : List Value) : Bool := avs.all (fun v => v.category == 1)
theorem lg_sl_1 : ∀ (avs : List Value), catOk avs = true → lg_sl avs = avs.map Slot.val
  | [], _ => rfl
  | v :: t, h => by
    simp only [catOk, List.all_cons, Bool.and_eq_true, beq_iff_eq] at h
    have ih := lg_sl_1 t (by simpa [catOk] using h.2)
    unfold lg_sl at ih ⊢
    rw [List.flatMap_cons, ih, if_neg (by rw [h.1]; decide)]
    rfl
theorem LV.entry {avs : List Value} {nL : Nat} (hlen : avs.length ≤ nL) (hcat : catOk avs = true) : LV ((lg_sl avs ++ List.replicate (nL - (lg_sl avs).length) Slot.unset).toArray) nL avs := by
  have e := lg_sl_1 avs hcat
  have h := lv_entry avs (n := nL) (by rw [e]; simpa using hlen)
  refine ⟨h.1, h.2.1, fun k v hk => ⟨?_, ?_⟩⟩
  · have hl := (List.getElem?_eq_some_iff.mp hk).1
    rw [e, List.getElem?_toArray, List.getElem?_append_left (by simpa using hl), List.getElem?_map, hk]
    rfl
  · have := List.all_eq_true.mp hcat v (List.mem_of_getElem? hk)
    simpa using this
theorem Mv.of {y : MethodName} {cc : ByteArray} {nL : Nat} {ret : Option FieldType} {d mc ms : Nat} {avs : List Value} {z : Nat} {sh : SH} {mi : MI} {mr : MR} {Post : PT} (hy : plainName y.cls = true) (hlen : avs.length ≤ nL) (hcat : catOk avs = true) (k : Wp y cc nL ret (mE d mc ms Post) 0 0 0 avs [] z sh mi mr) : Mv (y, cc, nL, ret) d mc ms avs z sh mi mr Post := by
  intro l D AC base
  refine Met.ofW (cc := cc) (maxL := nL) (ret := ret) hy rfl ?_
  intro p e s m args below meth c s₁ B hml hv
  obtain ⟨rfl, hRel, hK⟩ := hv
  have hts := atoms_spec (ws := .code y cc nL ret :: tb) B.pre
  rw [lg_entry_eq]
  exact k p l e s m _ below meth c D AC base ⟨B.exec, B.bytes, hml, B.returns, B.notSynchronized, findClass_of_methodNamed B.named, fun w h => hts w (List.mem_cons_of_mem _ h), hK, by rw [hRel.2.1]; exact hRel.1, fun h => (name_of_methodNamed B.named B.method).1.trans h⟩ trivial s.heap [] _ hRel va_S.rf (LV.entry hlen hcat)
section RULES3
variable {y : MethodName} {cc : ByteArray} {nL : Nat} {ret : Option FieldType} {E : ET} {kc ks pc : Nat} {ls st : List Value} {z : Nat} {sh : SH} {mi : MI} {mr : MR}
theorem r_iret {d0 mc ms : Nat} {Post : PT} {v : Int32} (d : decode cc pc = .ok (.ireturn, 1)) (hr : ret = some .int) (h1 : kc ≤ mc) (h2 : ks ≤ ms) (hp : Post (some (.int v)) z sh mi mr) : Wp y cc nL ret (mE d0 mc ms Post) kc ks pc ls [.int v] z sh mi mr := by
  intro p l e s m args below meth c D AC base C X H locs la hR hS hL
  refine W.widen h1 h2 ?_
  exact W.iret C.1 C.2.1 (by rw [C.2.2.2.1, hr]) (fun t ht _ => ⟨_, z, sh, mi, mr, rfl, hp, by rw [ht]; exact hR, hS.F ht⟩) hS.2.2 d C.2.2.2.2.1
theorem r_zret {d0 mc ms : Nat} {Post : PT} {v : Int32} (d : decode cc pc = .ok (.ireturn, 1)) (hr : ret = some .boolean) (hn : narrow .boolean (.int v) = .int v) (h1 : kc ≤ mc) (h2 : ks ≤ ms) (hp : Post (some (.int v)) z sh mi mr) : Wp y cc nL ret (mE d0 mc ms Post) kc ks pc ls [.int v] z sh mi mr := by
  intro p l e s m args below meth c D AC base C X H locs la hR hS hL
  refine W.widen h1 h2 ?_
  exact W.zret C.1 C.2.1 (by rw [C.2.2.2.1, hr]) hn (fun t ht _ => ⟨_, z, sh, mi, mr, rfl, hp, by rw [ht]; exact hR, hS.F ht⟩) hS.2.2 d C.2.2.2.2.1
theorem r_vret {d0 mc ms : Nat} {Post : PT} (d : decode cc pc = .ok (.return_, 1)) (hr : ret = none) (h1 : kc ≤ mc) (h2 : ks ≤ ms) (hp : Post none z sh mi mr) : Wp y cc nL ret (mE d0 mc ms Post) kc ks pc ls [] z sh mi mr := by
  intro p l e s m args below meth c D AC base C X H locs la hR hS hL
  refine W.widen h1 h2 ?_
  exact W.vret C.1 C.2.1 (by rw [C.2.2.2.1, hr]) (fun t ht _ => ⟨_, z, sh, mi, mr, rfl, hp, by rw [ht]; exact hR, hS.F ht⟩) hS.2.2 d C.2.2.2.2.1
/-- behind a call -/
theorem run_on {p : Program} {l : Launch} {e : Env} {s : State} {m : MethodId} {args : Array Value} {below : List Frame} {meth : Method} {c : Code} {D : va_G} {AC : Nat → ClassId} {base : Nat} {H : Heap} {locs : List Loc} {la : Array Slot} {mc' ms' : Nat} {st0 : List Value} {Post' : PT} {a : Array Value} (C : Cx y cc nL ret p s m args meth c D AC base) (X : E.2.1 args s base) (hS : va_S (fun q => base ≤ q) s.heap H locs) (hL : LV la nL ls)
    (run : va_Run p l e E.1 s m args below meth c H locs kc ks mc' ms' (F0 m pc la st0) st (Qp D AC base Post' a) (fun q => base ≤ q))
    (k : ∀ v z' sh' mi' mr', Post' v z' sh' mi' mr' → Wp y cc nL ret E (kc + mc') (ks + ms') (pc + 3) ls (v.toList ++ st) z' sh' mi' mr') : W p l e E.1 s m args below meth c H locs kc ks (E.2.2 below args s D AC base) (F0 m pc la st0) := by
  intro T hT X0
  obtain ⟨v, st1, t, T', L, h0, X', hL', e1, e2, ⟨v2, z', sh', mi', mr', hv, hpost, hRel, hF⟩, go⟩ := run T hT X0
  cases hv
  obtain ⟨hz, hk⟩ := hF
  rw [h0] at hz hk
  obtain ⟨t2, a1, b1⟩ := k v z' sh' mi' mr' hpost p l e s m args below meth c D AC base C X T'.heap (locs ++ L) la (by rw [e1]; exact hRel) ⟨Nat.le_trans hS.1 (by rw [e1]; exact hz), fun q h1 h2 => by rw [e1, hk q (Nat.lt_of_lt_of_le h1 hS.1) h2]; exact hS.2.1 q h1 h2, fun q hq => by
    rcases List.mem_append.mp hq with h | h
    · exact hS.2.2 q h
    · exact hL' q h⟩ hL T' rfl X'
  exact ⟨t2, go t2 a1, b1⟩
/-- what a call needs of the tables: the link, the kind, the class, the code -/
def okC (own : String) (idx : Nat) (M : MD) (n : Nat) : Prop := Cond.methodLink own idx M.1 ∈ tb ∧ Cond.initialized M.1.cls ∈ tb ∧ Cond.code M.1 M.2.1 M.2.2.1 M.2.2.2 ∈ tb ∧ (M.1.cls ≠ "java/lang/invoke/MethodHandle" ∧ M.1.cls ≠ "java/lang/invoke/VarHandle" ∧ (parseMethodDescriptor M.1.desc).map (fun d => d.parameters.length) = some n)
def okN (own : String) (idx : Nat) (M : MD) (n : Nat) : Prop := (own, idx, M.1) ∈ nst ∧ Cond.initialized M.1.cls ∈ tb ∧ Cond.code M.1 M.2.1 M.2.2.1 M.2.2.2 ∈ tb ∧ (M.1.cls ≠ "java/lang/invoke/MethodHandle" ∧ M.1.cls ≠ "java/lang/invoke/VarHandle" ∧ (parseMethodDescriptor M.1.desc).map (fun d => d.parameters.length) = some n)
theorem code_in {M : MD} (h : Cond.code M.1 M.2.1 M.2.2.1 M.2.2.2 ∈ tb) : GoodIn tb (.code M.1 M.2.1 M.2.2.1 M.2.2.2 :: tb) := tb_in (fun w hw => (List.mem_cons.mp hw).elim (fun e => e ▸ h) id)
def roomOk (R : Room) (kc ks d' mc' ms' maxL : Nat) : Prop := d' + 1 ≤ R.frames ∧ 8 + (maxL + 11) + 37 * d' ≤ R.locals ∧ kc + mc' ≤ R.cells ∧ ks + ms' ≤ R.slots
theorem pc_blind {D : va_G} {AC : Nat → ClassId} {base : Nat} {avs : List Value} : FrameBlind (va_Pc avs (fun U => Rel D AC base z sh mi mr U.heap ∧ KK D AC U)) := fun a U g mk q => by
  obtain ⟨q0, q1, q2⟩ := q
  exact ⟨q0, q1, KK.same (s := U) (U := U.calling g mk a) rfl q2⟩
theorem r_callV {M : MD} {idx b κ n nA d' mc' ms' : Nat} (As : List Value) {Post' : PT} {st0 : List Value} (d : decode cc pc = .ok (.invokevirtual idx, 3)) (ok : okC y.cls idx M nA) (hi : Cond.instanceMethod M.1 ∈ tb ∧ Cond.selects M.1.cls M.1 M.1 ∈ tb) (hs : sh b = (κ, n)) (hκ : ∃ T N, vwCl[κ]? = some (M.1.cls, T, N)) (hst : st0 = As.reverse ++ .ref b :: st) (hn : As.length = nA) (hcat : (st.map fun v => v.category).sum ≤ 8) (hroom : roomOk E.1 kc ks d' mc' ms' M.2.2.1)
    (hM : Mv M d' mc' ms' (.ref b :: As) z sh mi mr Post') (k : ∀ v z' sh' mi' mr', Post' v z' sh' mi' mr' → Wp y cc nL ret E (kc + mc') (ks + ms') (pc + 3) ls (v.toList ++ st) z' sh' mi' mr') : Wp y cc nL ret E kc ks pc ls st0 z sh mi mr := by
  intro p l e s m args below meth c D AC base C X H locs la hR hS hL
  obtain ⟨o1, o2, o3, o4⟩ := ok
  obtain ⟨T, N, hκ⟩ := hκ
  have hts := C.2.2.2.2.2.2.1
  have hκ11 : κ < 11 := by have := (List.getElem?_eq_some_iff.mp hκ).1; simpa using this
  have he := wl_get (AC := AC) (sh := sh) (mi := mi) (mr := mr) (hR.lt hs (by omega))
  rw [ce_obj (by rw [hs]) hκ11] at he
  refine run_on C X hS hL (va_runV (As := As) (rest := st) ⟨C.1, C.2.1, C.2.2.1, C.2.2.2.2.2.1, hts⟩ (hM l D AC base) ⟨callB_of nA hts (code_in o3) rfl rfl rfl (hts _ o2) (hts _ o1) o4 ⟨hroom.1, hroom.2.1⟩, hts _ hi.1, hts _ hi.2⟩ ⟨pc_blind, va_recv C.2.2.2.2.2.2.2.1.1 hR.2.2.2 hκ he, fun U hU hW => ⟨rfl, by rw [hU]; exact hR, C.2.2.2.2.2.2.2.1.warm hW⟩⟩ rfl hn hL.1 hst (lv_room hcat) d hroom.2.2) k
theorem r_callS {M : MD} {idx nA d' mc' ms' : Nat} (As : List Value) {Post' : PT} {st0 : List Value} (d : decode cc pc = .ok (.invokestatic idx, 3)) (ok : okC y.cls idx M nA) (hi : Cond.static M.1 ∈ tb) (hst : st0 = As.reverse ++ st) (hn : As.length = nA) (hcat : (st.map fun v => v.category).sum ≤ 8) (hroom : roomOk E.1 kc ks d' mc' ms' M.2.2.1)
    (hM : Mv M d' mc' ms' As z sh mi mr Post') (k : ∀ v z' sh' mi' mr', Post' v z' sh' mi' mr' → Wp y cc nL ret E (kc + mc') (ks + ms') (pc + 3) ls (v.toList ++ st) z' sh' mi' mr') : Wp y cc nL ret E kc ks pc ls st0 z sh mi mr := by
  intro p l e s m args below meth c D AC base C X H locs la hR hS hL
  obtain ⟨o1, o2, o3, o4⟩ := ok
  have hts := C.2.2.2.2.2.2.1
  refine run_on C X hS hL (va_runS (As := As) (rest := st) ⟨C.1, C.2.1, C.2.2.1, C.2.2.2.2.2.1, hts⟩ (hM l D AC base) ⟨callB_of nA hts (code_in o3) rfl rfl rfl (hts _ o2) (hts _ o1) o4 ⟨hroom.1, hroom.2.1⟩, hts _ hi⟩ ⟨pc_blind, fun U hU hW => ⟨rfl, by rw [hU]; exact hR, C.2.2.2.2.2.2.2.1.warm hW⟩⟩ rfl hn hL.1 hst (lv_room hcat) d hroom.2.2) k
theorem r_callI {M : MD} {idx b nA d' mc' ms' : Nat} (As : List Value) {Post' : PT} {st0 : List Value} (d : decode cc pc = .ok (.invokespecial idx, 3)) (ok : okC y.cls idx M nA) (hi : Cond.instanceMethod M.1 ∈ tb ∧ M.1.name = "<init>" ∧ M.2.2.2 = none) (hst : st0 = As.reverse ++ .ref b :: st) (hn : As.length = nA) (hcat : (st.map fun v => v.category).sum ≤ 8) (hroom : roomOk E.1 kc ks d' mc' ms' M.2.2.1)
    (hM : Mv M d' mc' ms' (.ref b :: As) z sh mi mr Post') (k : ∀ v z' sh' mi' mr', Post' v z' sh' mi' mr' → Wp y cc nL ret E (kc + mc') (ks + ms') (pc + 3) ls (v.toList ++ st) z' sh' mi' mr') : Wp y cc nL ret E kc ks pc ls st0 z sh mi mr := by
  intro p l e s m args below meth c D AC base C X H locs la hR hS hL
  obtain ⟨o1, o2, o3, o4⟩ := ok
  have hts := C.2.2.2.2.2.2.1
  have hM' := hM l D AC base
  have hcode := code_in o3
  rw [hi.2.2] at hM' hcode
  refine run_on C X hS hL (va_runI (As := As) (rest := st) ⟨C.1, C.2.1, C.2.2.1, C.2.2.2.2.2.1, hts⟩ hM' ⟨callB_of nA hts hcode rfl rfl rfl (hts _ o2) (hts _ o1) o4 ⟨hroom.1, hroom.2.1⟩, hi.2.1, hts _ hi.1⟩ ⟨pc_blind, fun U hU hW => ⟨rfl, by rw [hU]; exact hR, C.2.2.2.2.2.2.2.1.warm hW⟩⟩ rfl hn hL.1 hst (lv_room hcat) d hroom.2.2) k
theorem r_callIN {M : MD} {idx b nA d' mc' ms' : Nat} (As : List Value) {Post' : PT} {st0 : List Value} (d : decode cc pc = .ok (.invokespecial idx, 3)) (ok : okN y.cls idx M nA) (hi : Cond.instanceMethod M.1 ∈ tb ∧ M.1.name = "<init>" ∧ M.2.2.2 = none) (hst : st0 = As.reverse ++ .ref b :: st) (hn : As.length = nA) (hcat : (st.map fun v => v.category).sum ≤ 8) (hroom : roomOk E.1 kc ks d' mc' ms' M.2.2.1)
    (hM : Mv M d' mc' ms' (.ref b :: As) z sh mi mr Post') (k : ∀ v z' sh' mi' mr', Post' v z' sh' mi' mr' → Wp y cc nL ret E (kc + mc') (ks + ms') (pc + 3) ls (v.toList ++ st) z' sh' mi' mr') : Wp y cc nL ret E kc ks pc ls st0 z sh mi mr := by
  intro p l e s m args below meth c D AC base C X H locs la hR hS hL
  obtain ⟨o1, o2, o3, o4⟩ := ok
  have hts := C.2.2.2.2.2.2.1
  have hM' := hM l D AC base
  have hcode := code_in o3
  rw [hi.2.2] at hM' hcode
  refine run_on C X hS hL (va_runIN (As := As) (rest := st) ⟨C.1, C.2.1, C.2.2.1, C.2.2.2.2.2.1, hts⟩ hM' ⟨va_cnB nA hts hcode rfl rfl rfl (C.2.2.2.2.2.2.2.1.2.1 _ o1) (hts _ o2) o4 ⟨hroom.1, hroom.2.1⟩, hi.2.1, hts _ hi.1⟩ ⟨pc_blind, fun U hU hW => ⟨rfl, by rw [hU]; exact hR, C.2.2.2.2.2.2.2.1.warm hW⟩⟩ rfl hn hL.1 hst (lv_room hcat) d hroom.2.2) k
theorem r_callSN {M : MD} {idx nA d' mc' ms' : Nat} (As : List Value) {Post' : PT} {st0 : List Value} (d : decode cc pc = .ok (.invokestatic idx, 3)) (ok : okN y.cls idx M nA) (hi : Cond.static M.1 ∈ tb) (hst : st0 = As.reverse ++ st) (hn : As.length = nA) (hcat : (st.map fun v => v.category).sum ≤ 8) (hroom : roomOk E.1 kc ks d' mc' ms' M.2.2.1)
    (hM : Mv M d' mc' ms' As z sh mi mr Post') (k : ∀ v z' sh' mi' mr', Post' v z' sh' mi' mr' → Wp y cc nL ret E (kc + mc') (ks + ms') (pc + 3) ls (v.toList ++ st) z' sh' mi' mr') : Wp y cc nL ret E kc ks pc ls st0 z sh mi mr := by
  intro p l e s m args below meth c D AC base C X H locs la hR hS hL
  obtain ⟨o1, o2, o3, o4⟩ := ok
  have hts := C.2.2.2.2.2.2.1
  refine run_on C X hS hL (va_runSN (As := As) (rest := st) ⟨C.1, C.2.1, C.2.2.1, C.2.2.2.2.2.1, hts⟩ (hM l D AC base) ⟨va_cnB nA hts (code_in o3) rfl rfl rfl (C.2.2.2.2.2.2.2.1.2.1 _ o1) (hts _ o2) o4 ⟨hroom.1, hroom.2.1⟩, hts _ hi, trivial⟩ ⟨pc_blind, fun U hU hW => ⟨rfl, by rw [hU]; exact hR, C.2.2.2.2.2.2.2.1.warm hW⟩⟩ rfl hn hL.1 hst (lv_room hcat) d hroom.2.2) k
theorem r_objInit {idx a : Nat} (d : decode cc pc = .ok (.invokespecial idx, 3)) (h1 : Cond.methodLink y.cls idx Lib.objectInit ∈ tb) (hr : 1 ≤ E.1.frames ∧ (st.map fun v => v.category).sum + 12 ≤ E.1.locals) (h2 : Cond.instanceMethod Lib.objectInit ∈ tb) (h3 : Cond.code Lib.objectInit ⟨#[0xb1]⟩ 1 none ∈ tb) (k : Wp y cc nL ret E kc ks (pc + 3) ls st z sh mi mr) : Wp y cc nL ret E kc ks pc ls (.ref a :: st) z sh mi mr := by
  intro p l e s m args below meth c D AC base C X H locs la hR hS hL
  have hts := C.2.2.2.2.2.2.1
  exact W.objInit C.1 C.2.1 C.2.2.2.2.2.1 (hts _ h1) (hts _ h2) (hts _ h3) rfl (hL.1.trans C.2.2.1.symm) rfl d hr.1 (by show 2 * 0 + _ + 12 ≤ _; omega) (k _ _ _ _ _ _ _ _ _ _ _ _ C X _ _ _ hR hS hL)
theorem r_min {idx : Nat} {x y0 : Int32} (d : decode cc pc = .ok (.invokestatic idx, 3)) (h1 : Cond.methodLink y.cls idx Lib.Math.min.name ∈ tb) (h2 : Cond.static Lib.Math.min.name ∈ tb) (h3 : Cond.initialized "java/lang/Math" ∈ tb) (h4 : Cond.code Lib.Math.min.name Lib.Math.min.code 2 (some .int) ∈ tb) (hr : 1 ≤ E.1.frames ∧ (st.map fun v => v.category).sum + 13 ≤ E.1.locals ∧ kc ≤ E.1.cells ∧ ks ≤ E.1.slots) (k : Wp y cc nL ret E kc ks (pc + 3) ls (.int (if y0 < x then y0 else x) :: st) z sh mi mr) : Wp y cc nL ret E kc ks pc ls (.int y0 :: .int x :: st) z sh mi mr := by
  intro p l e s m args below meth c D AC base C X H locs la hR hS hL
  have hts := C.2.2.2.2.2.2.1
  exact va_mmin C.1 C.2.1 (C.2.2.1.trans hL.1.symm) C.2.2.2.2.2.1 (hts _ h1) (hts _ h2) (hts _ h3) (hts _ h4) hr.1 hr.2.1 hr.2.2.1 hr.2.2.2 d (k _ _ _ _ _ _ _ _ _ _ _ _ C X _ _ _ hR hS hL)
end RULES3
end
section
def up1 {α : Type} (f : Nat → α) (a : Nat) (v : α) : Nat → α := fun x => if x = a then v else f x
theorem up1_same {α : Type} (f : Nat → α) (a : Nat) (v : α) : up1 f a v a = v := by simp [up1]
theorem up1_ne {α : Type} (f : Nat → α) {a x : Nat} (v : α) (h : x ≠ a) : up1 f a v x = f x := by simp [up1, h]
theorem ce_same {AC : Nat → ClassId} {sh sh' : SH} {mi mi' : MI} {mr mr' : MR} {x : Nat} (h0 : sh' x = sh x) (h1 : mi' x = mi x) (h2 : mr' x = mr x) : ce AC sh' mi' mr' x = ce AC sh mi mr x := by
  unfold ce fsl fvl; rw [h0, h1, h2]
theorem Rel.push {D : va_G} {AC : Nat → ClassId} {base z : Nat} {sh : SH} {mi : MI} {mr : MR} {H H1 : Heap} {q : Nat × Nat} {fi : Nat → Int32} {fr : Nat → Option Nat} (hR : Rel D AC base z sh mi mr H) (hz : H1.size = z + 1) (ho : ∀ x, x < z → H1[x]? = H[x]?) (hn : va_at D vwCl (z, ce AC (up1 sh z q) (up1 mi z fi) (up1 mr z fr) z) H1) : Rel D AC base (z + 1) (up1 sh z q) (up1 mi z fi) (up1 mr z fr) H1 := by
  refine ⟨Nat.le_succ_of_le hR.1, hz, fun a ha => ?_, fun k x hk => ?_⟩
  · by_cases h : a = z
    · subst h; exact ⟨hR.1, by omega⟩
    · rw [up1_ne _ _ h] at ha
      have := hR.2.2.1 a ha
      exact ⟨this.1, by omega⟩
  · unfold wl at hk
    rw [List.getElem?_map] at hk
    by_cases hl : k < z + 1 - base
    · rw [List.getElem?_range hl] at hk
      simp only [Option.map_some, Option.some.injEq] at hk
      subst hk
      by_cases h : base + k = z
      · show va_at D vwCl (base + k, ce AC _ _ _ (base + k)) H1
        rw [h]; exact hn
      · have hlt : base + k < z := by have := hR.1; omega
        have hold := hR.2.2.2 k (base + k, ce AC sh mi mr (base + k)) (by
          have := wl_get (AC := AC) (sh := sh) (mi := mi) (mr := mr) (base := base) (z := z) (a := base + k) ⟨by omega, hlt⟩
          rw [show base + k - base = k by omega] at this
          exact this)
        show va_at D vwCl (base + k, ce AC _ _ _ (base + k)) H1
        rw [ce_same (up1_ne _ _ h) (up1_ne _ _ h) (up1_ne _ _ h)]
        exact hold.kept (ho _ hlt)
    · rw [List.getElem?_eq_none (by simp; omega)] at hk
      cases hk
theorem va_S.grow {A : Nat → Prop} {H0 H H1 : Heap} {locs : List Loc} {z : Nat} (hS : va_S A H0 H locs) (h0 : H.size = z) (hz : H1.size = z + 1) (ho : ∀ x, x < z → H1[x]? = H[x]?) : va_S A H0 H1 locs := ⟨by have := hS.1; omega, fun q h1 h2 => by rw [ho q (by have := hS.1; omega)]; exact hS.2.1 q h1 h2, hS.2.2⟩
section RULES4
variable {y : MethodName} {cc : ByteArray} {nL : Nat} {ret : Option FieldType} {E : ET} {kc ks pc : Nat} {ls st : List Value} {z : Nat} {sh : SH} {mi : MI} {mr : MR}
theorem r_new {idx κ : Nat} {Cn : String} {T : u_T} {N : Nat} (d : decode cc pc = .ok (.new idx, 3)) (hc : CK κ Cn T N) (h1 : Cond.classLink y.cls idx Cn ∈ tb) (h2 : Cond.instantiable Cn N ∈ tb) (h3 : Cond.initialized Cn ∈ tb) (hdv : ∀ j, j < N → defaultValue (tyf κ j) = if isRt (tyf κ j) = true then .null else .int 0) (hr : kc + 1 ≤ E.1.cells ∧ ks + N ≤ E.1.slots) (k : Wp y cc nL ret E (kc + 1) (ks + N) (pc + 3) ls (.ref z :: st) (z + 1) (up1 sh z (κ, 0)) (up1 mi z (fun _ => 0)) (up1 mr z (fun _ => none))) : Wp y cc nL ret E kc ks pc ls st z sh mi mr := by
  intro p l e s m args below meth c D AC base C X H locs la hR hS hL
  have hts := C.2.2.2.2.2.2.1
  obtain ⟨c1, c2, c3, c4, c5, c6⟩ := hc
  have hKn := C.2.2.2.2.2.2.2.1.1.1 κ _ c1
  refine W.newcK C.1 C.2.1 C.2.2.2.2.2.1 (hts _ h1) (hts _ h2) (hts _ h3) rfl d hr.1 hr.2 hKn.2.1 hR.2.1 fun H1 kC hkC e1 z1 o1 => ?_
  refine k _ _ _ _ _ _ _ _ _ _ _ _ C X _ _ _ (hR.push z1 o1 ?_) (hS.grow hR.2.1 z1 o1) hL
  rw [ce_obj (κ := κ) (by rw [up1_same]) c6]
  refine ⟨_, c1, (u_born (tyf κ) hts c2 hKn hkC e1 c3).to fun j hj => ?_⟩
  show defaultValue (tyf κ j) = vp_V (fsl _ _ _ _) j
  unfold vp_V
  rw [List.getD_eq_getElem?_getD, fsl_get (c5 ▸ hj)]
  show defaultValue (tyf κ j) = fvl _ _ _ _ _
  unfold fvl
  rw [up1_same, up1_same]
  exact hdv j hj
theorem r_newarr {atype : ArrayType} {κ n : Nat} {ty : FieldType} (d : decode cc pc = .ok (.newarray atype, 2)) (hty : newarray.typeOf atype = ty) (hκ : (κ = 11 ∧ ty = .int) ∨ (κ = 12 ∧ ty = .boolean)) (h1 : Cond.arrayClass ty ∈ tb) (hn : n < 2 ^ 20) (hr : kc + 1 ≤ E.1.cells ∧ ks + n ≤ E.1.slots) (k : Wp y cc nL ret E (kc + 1) (ks + n) (pc + 2) ls (.ref z :: st) (z + 1) (up1 sh z (κ, n)) (up1 mi z (fun _ => 0)) (up1 mr z (fun _ => none))) : Wp y cc nL ret E kc ks pc ls (.int (nI n) :: st) z sh mi mr := by
  intro p l e s m args below meth c D AC base C X H locs la hR hS hL
  have hts := C.2.2.2.2.2.2.1
  subst hty
  have hcl : (nI n).toNatClampNeg = n := nI_clamp (by omega)
  refine va_newaK C.1 C.2.1 (hts _ h1) rfl d rfl (nI_pos (by omega)) hcl ?_ hr.1 hr.2 hR.2.1 fun H1 cA e1 z1 o1 hAr hNm => ?_
  · rcases hκ with ⟨-, h⟩ | ⟨-, h⟩ <;> rw [h] <;> simp [componentBytes] <;> omega
  refine k _ _ _ _ _ _ _ _ _ _ _ _ C X _ _ _ (hR.push z1 o1 ?_) (hS.grow hR.2.1 z1 o1) hL
  rcases hκ with ⟨hκ, h⟩ | ⟨hκ, h⟩
  · subst hκ
    rw [h] at e1 hNm
    have hA : cA = AC 0 := by
      have h2 : s.vm.findClass ("[" ++ FieldType.int.toString) = some (AC 0) := (va_K_at C.2.2.2.2.2.2.2.1.1 (k := 0) rfl).2
      exact Option.some.inj (hNm.symm.trans h2)
    rw [ce_int (n := n) (by rw [up1_same]), up1_same]
    show H1[z]? = some (vp_cell _ _)
    rw [e1, hA, vp_cell_i]; rfl
  · subst hκ
    rw [h] at e1 hNm
    have hA : cA = AC 1 := by
      have h2 : s.vm.findClass ("[" ++ FieldType.boolean.toString) = some (AC 1) := (va_K_at C.2.2.2.2.2.2.2.1.1 (k := 1) rfl).2
      exact Option.some.inj (hNm.symm.trans h2)
    rw [ce_bool (n := n) (by rw [up1_same]), up1_same]
    show H1[z]? = some (vp_cell _ _)
    rw [e1, hA, vp_cell_i]; rfl
theorem r_anew {idx κ n : Nat} {Cn : String} (d : decode cc pc = .ok (.anewarray idx, 3)) (hκ : 13 ≤ κ) (ht : ∀ AC : Nat → ClassId, (tyL AC)[κ - 11]? = some (AC (κ - 11), .object Cn)) (h1 : Cond.classLink y.cls idx Cn ∈ tb) (h2 : ∀ U, NW U → va_AO Cn U) (hn : n < 2 ^ 20) (hr : kc + 1 ≤ E.1.cells ∧ ks + n ≤ E.1.slots) (k : Wp y cc nL ret E (kc + 1) (ks + n) (pc + 3) ls (.ref z :: st) (z + 1) (up1 sh z (κ, n)) (up1 mi z (fun _ => 0)) (up1 mr z (fun _ => none))) : Wp y cc nL ret E kc ks pc ls (.int (nI n) :: st) z sh mi mr := by
  intro p l e s m args below meth c D AC base C X H locs la hR hS hL
  have hts := C.2.2.2.2.2.2.1
  have hcl : (nI n).toNatClampNeg = n := nI_clamp (by omega)
  refine W.anew C.1 C.2.1 C.2.2.2.2.2.1 (hts _ h1) (va_AO.use (h2 s C.2.2.2.2.2.2.2.1.2)) rfl d rfl (nI_pos (by omega)) (by rw [hcl]; omega) hr.1 (by rw [hcl]; exact hr.2) fun cA kA comp g1 g2 g3 g4 => ?_
  obtain ⟨kB, comp2, k1, k2, k3, k4⟩ := (va_K_at C.2.2.2.2.2.2.2.1.1 (ht AC)).2
  have hA : cA = AC (κ - 11) := Option.some.inj (g1.symm.trans k4)
  have hsz := hR.2.1
  rw [hcl]
  have z1 : (H.push { cls := cA, slots := Array.replicate n Value.null, vm := .none }).size = z + 1 := by simp [hsz]
  have o1 : ∀ x, x < z → (H.push { cls := cA, slots := Array.replicate n Value.null, vm := .none })[x]? = H[x]? := fun x hx => by rw [Array.getElem?_push, if_neg (by omega)]
  rw [hsz]
  refine k _ _ _ _ _ _ _ _ _ _ _ _ C X _ _ _ (hR.push z1 o1 ?_) (hS.grow hsz z1 o1) hL
  rw [ce_ref (κ := κ) (n := n) (by rw [up1_same]) hκ, up1_same]
  show (H.push _)[z]? = some (vp_cell _ _)
  rw [arrV_new, vp_cell_q, ← hA, ← hsz]
  simp [va_rf]
theorem r_ifnonnullR {x : Nat} {off : Int} (tgt : Nat) (d : decode cc pc = .ok (.ifnonnull off, 3)) (ht : (pc : Int) + off = (tgt : Int)) (k : Wp y cc nL ret E kc ks tgt ls st z sh mi mr) : Wp y cc nL ret E kc ks pc ls (.ref x :: st) z sh mi mr := by
  intro p l e s m args below meth c D AC base C X H locs la hR hS hL
  exact lv_ifnonnull C.1 C.2.1 d ht (k _ _ _ _ _ _ _ _ _ _ _ _ C X _ _ _ hR hS hL)
theorem r_ifnonnullN {off : Int} (d : decode cc pc = .ok (.ifnonnull off, 3)) (k : Wp y cc nL ret E kc ks (pc + 3) ls st z sh mi mr) : Wp y cc nL ret E kc ks pc ls (.null :: st) z sh mi mr := by
  intro p l e s m args below meth c D AC base C X H locs la hR hS hL
  exact lv_ifnonnullN C.1 C.2.1 d (k _ _ _ _ _ _ _ _ _ _ _ _ C X _ _ _ hR hS hL)
theorem r_ifnullR {x : Nat} {off : Int} (d : decode cc pc = .ok (.ifnull off, 3)) (k : Wp y cc nL ret E kc ks (pc + 3) ls st z sh mi mr) : Wp y cc nL ret E kc ks pc ls (.ref x :: st) z sh mi mr := by
  intro p l e s m args below meth c D AC base C X H locs la hR hS hL
  exact lv_ifnull C.1 C.2.1 d (k _ _ _ _ _ _ _ _ _ _ _ _ C X _ _ _ hR hS hL)
theorem r_ifnullN {off : Int} (tgt : Nat) (d : decode cc pc = .ok (.ifnull off, 3)) (ht : (pc : Int) + off = (tgt : Int)) (k : Wp y cc nL ret E kc ks tgt ls st z sh mi mr) : Wp y cc nL ret E kc ks pc ls (.null :: st) z sh mi mr := by
  intro p l e s m args below meth c D AC base C X H locs la hR hS hL
  exact lv_ifnullN C.1 C.2.1 d ht (k _ _ _ _ _ _ _ _ _ _ _ _ C X _ _ _ hR hS hL)
theorem r_tableIn {dflt lo hi : Int} {offs : Array Int} {len : Nat} {x : Int32} {off : Int} (tgt : Nat) (d : decode cc pc = .ok (.tableswitch dflt lo hi offs, len)) (h1 : ¬ x.toInt < lo) (h2 : ¬ hi < x.toInt) (ho : offs[(x.toInt - lo).toNat]? = some off) (ht : (pc : Int) + off = (tgt : Int)) (k : Wp y cc nL ret E kc ks tgt ls st z sh mi mr) : Wp y cc nL ret E kc ks pc ls (.int x :: st) z sh mi mr := by
  intro p l e s m args below meth c D AC base C X H locs la hR hS hL
  exact lv_tableIn C.1 C.2.1 d h1 h2 ho ht (k _ _ _ _ _ _ _ _ _ _ _ _ C X _ _ _ hR hS hL)
theorem r_tableOut {dflt lo hi : Int} {offs : Array Int} {len : Nat} {x : Int32} (tgt : Nat) (d : decode cc pc = .ok (.tableswitch dflt lo hi offs, len)) (h : x.toInt < lo ∨ hi < x.toInt) (ht : (pc : Int) + dflt = (tgt : Int)) (k : Wp y cc nL ret E kc ks tgt ls st z sh mi mr) : Wp y cc nL ret E kc ks pc ls (.int x :: st) z sh mi mr := by
  intro p l e s m args below meth c D AC base C X H locs la hR hS hL
  exact lv_tableOut C.1 C.2.1 d h ht (k _ _ _ _ _ _ _ _ _ _ _ _ C X _ _ _ hR hS hL)
end RULES4
end
section
def cpRow (mi : MI) (a0 a n : Nat) : MI := fun x => if x = a then (fun j => if j < n then mi a0 j else mi a j) else mi x
theorem r_acopy {y : MethodName} {cc : ByteArray} {nL : Nat} {ret : Option FieldType} {E : ET} {kc ks pc : Nat} {ls st : List Value} {z : Nat} {sh : SH} {mi : MI} {mr : MR} {idx a0 a n : Nat} (d : decode cc pc = .ok (.invokestatic idx, 3)) (g1 : Cond.methodLink y.cls idx arraycopyName ∈ tb) (g2 : Cond.native arraycopyName ∈ tb) (g3 : Cond.static arraycopyName ∈ tb) (g4 : Cond.initialized "java/lang/System" ∈ tb) (hs0 : sh a0 = (11, n)) (hs : sh a = (11, n)) (hn : n < 2 ^ 31) (hr : 1 ≤ E.1.frames ∧ (st.map fun v => v.category).sum + 18 ≤ E.1.locals) (kk : Wp y cc nL ret E kc ks (pc + 3) ls st z sh (cpRow mi a0 a n) mr) : Wp y cc nL ret E kc ks pc ls (.int (nI n) :: .int 0 :: .ref a :: .int 0 :: .ref a0 :: st) z sh mi mr := by
  intro p l e s m args below meth c D AC base C X0 H locs la hR hS hL
  have hts := C.2.2.2.2.2.2.1
  have hb := hR.lt hs (by omega)
  have hb0 := hR.lt hs0 (by omega)
  have he := wl_get (AC := AC) (sh := sh) (mi := mi) (mr := mr) hb
  rw [ce_int hs] at he
  have he0 := wl_get (AC := AC) (sh := sh) (mi := mi) (mr := mr) hb0
  rw [ce_int hs0] at he0
  intro T hT X
  have hc0 : H[a0]? = some (vp_cell (AC 0) (n, .inl (mi a0))) := hR.2.2.2 (a0 - base) _ he0
  have hc1 : H[a]? = some (vp_cell (AC 0) (n, .inl (mi a))) := hR.2.2.2 (a - base) _ he
  have hKA := va_K_at C.2.2.2.2.2.2.2.1.1 (k := 0) rfl
  obtain ⟨-, k0, hk0, cm0, hkk0⟩ := hKA.1 n (fun j => .int (mi a0 j))
  obtain ⟨-, k1, hk1, cm1, hkk1⟩ := hKA.1 n (fun j => .int (mi a j))
  have hcl : (nI n).toNatClampNeg = n := nI_clamp hn
  have hti : (nI n).toInt = (n : Int) := nI_toInt hn
  have hnf : nativeFrameWords "java/lang/System" "arraycopy" 5 = 7 := by decide
  have h0c : (0 : Int32).toNatClampNeg = 0 := rfl
  obtain ⟨vm', X', step⟩ := X.arraycopy C.1 C.2.2.2.2.2.1 (hts _ g1) (hts _ g2) (hts _ g3) (hts _ g4) (src := a0) (dst := a) (cs := vp_cell (AC 0) (n, .inl (mi a0))) (cd := vp_cell (AC 0) (n, .inl (mi a))) (srcPos := 0) (destPos := 0) (n := nI n) (by rw [hT]; exact hc0) (by rw [hT]; exact hc1)
    (fun _ h => by cases h) (fun _ h => by cases h) (fun h => by cases h) (fun h => by cases h) hk0 hk1 hkk0 hkk1 (by simp [refKind]) (by decide) (by decide) (nI_pos hn)
    (by rw [hti]; show ¬ (0 : Int) + _ > ((arrV (AC 0) n (fun j => .int (mi a0 j))).slots.size : Int); rw [arrV_size]; omega)
    (by rw [hti]; show ¬ (0 : Int) + _ > ((arrV (AC 0) n (fun j => .int (mi a j))).slots.size : Int); rw [arrV_size]; omega)
    (fun vm₁ _ i hi => by
      rw [hcl] at hi
      have e : (vp_cell (AC 0) (n, .inl (mi a0))).slots.getD ((0 : Int32).toNatClampNeg + i) .null = .int (mi a0 i) := by
        show (arrV (AC 0) n (fun j => .int (mi a0 j))).slots.getD _ _ = _
        rw [Array.getD_eq_getD_getElem?, h0c, Nat.zero_add, arrV_read _ _ hi]
        rfl
      refine ⟨?_, ?_⟩
      · rw [e]; rfl
      · rw [e]; exact trivial)
    (g := F0 m pc la (.int (nI n) :: .int 0 :: .ref a :: .int 0 :: .ref a0 :: st)) rfl (by rw [C.2.2.1]; exact hL.1) (rest := st) rfl (by rw [C.2.1]; exact d) hr.1 (by rw [hnf]; show 2 * 0 + _ + (7 + 11) ≤ _; omega)
  have e1 : copied (vp_cell (AC 0) (n, .inl (mi a0))) (vp_cell (AC 0) (n, .inl (mi a))) 0 0 (nI n) = vp_cell (AC 0) (n, .inl (va_cpy (mi a0) (mi a) 0 0 n)) := by
    have := va_copied (fun z => .int z) (AC 0) (AC 0) (n1 := n) (sp := 0) (dp := 0) (n := n) (n0 := n) (mi a0) (mi a) (by omega)
    unfold copied
    rw [hcl]
    exact this
  rw [e1] at X' step
  have hl : a < H.size := (Array.getElem?_eq_some_iff.mp hc1).1
  have hheap : ((T.setVm vm').setCell a (vp_cell (AC 0) (n, .inl (va_cpy (mi a0) (mi a) 0 0 n)))).heap = H.setIfInBounds a (vp_cell (AC 0) (n, .inl (va_cpy (mi a0) (mi a) 0 0 n))) := by rw [← hT]; rfl
  have oq : ∀ q : Nat, q ≠ a → (H.setIfInBounds a (vp_cell (AC 0) (n, .inl (va_cpy (mi a0) (mi a) 0 0 n))))[q]? = H[q]? := fun q hq => by simp [Array.getElem?_setIfInBounds, Ne.symm hq]
  have hP' := hR.2.2.2.set (e := .inl (AC 0, n, .inl (va_cpy (mi a0) (mi a) 0 0 n))) wl_D he (show (H.setIfInBounds a _)[a]? = some _ by simp [Array.getElem?_setIfInBounds, hl]) oq
  have e4 := wl_arrI (AC := AC) (mi := mi) (mr := mr) (f := va_cpy (mi a0) (mi a) 0 0 n) hs (by omega) hb
  simp only [Nat.sub_self] at e4
  rw [e4] at hP'
  have e5 : (fun x => if x = a then va_cpy (mi a0) (mi a) 0 0 n else mi x) = cpRow mi a0 a n := by
    funext x
    unfold cpRow
    by_cases hx : x = a
    · rw [if_pos hx, if_pos hx]
      funext j
      simp [va_cpy]
    · rw [if_neg hx, if_neg hx]
  rw [e5] at hP'
  obtain ⟨t, a1, b1⟩ := kk p l e s m args below meth c D AC base C X0 _ _ la (hR.put (by simp) hP') ⟨by simp; exact hS.1, fun q g1 g2 => by
      rw [oq q (fun e => g2 (by rw [e]; exact hb.1))]
      exact hS.2.1 q g1 g2, fun q hq => by
      rcases List.mem_append.mp hq with h | h
      · exact hS.2.2 q h
      · obtain ⟨z, -, hz⟩ := List.mem_map.mp h
        rw [← hz]
        exact hb.1⟩ hL _ hheap X'
  exact ⟨t, step t a1, b1⟩
end
section
theorem tbm {w : Cond} (i : Nat) (h : lw_tbl[i]? = some w) (hg : goodWord w = true) : w ∈ tb := List.mem_filter.mpr ⟨List.mem_of_getElem? h, hg⟩
theorem tb_sub {ws : List Cond} (ps : List Nat) (hp : ws = ps.filterMap (fun i => lw_tbl[i]?)) (hg : ws.all goodWord = true) : ∀ w ∈ ws, w ∈ tb := by
  intro w hw
  refine List.mem_filter.mpr ⟨?_, List.all_eq_true.mp hg w hw⟩
  rw [hp] at hw
  obtain ⟨i, -, hi⟩ := List.mem_filterMap.mp hw
  exact List.mem_of_getElem? hi
abbrev mX9_init : MD := (yX9_init, cX9_init, 1, none)
theorem cdX9_init : Cond.code yX9_init cX9_init 1 none ∈ tb := tbm 59 (by decide +kernel) rfl
theorem iiX9_init : Cond.instanceMethod yX9_init ∈ tb ∧ yX9_init.name = "<init>" ∧ (mX9_init).2.2.2 = none := ⟨tbm 58 (by decide +kernel) rfl, rfl, rfl⟩
theorem pnX9_init : plainName yX9_init.cls = true := by decide
abbrev mX5_init : MD := (yX5_init, cX5_init, 1, none)
theorem cdX5_init : Cond.code yX5_init cX5_init 1 none ∈ tb := tbm 67 (by decide +kernel) rfl
theorem iiX5_init : Cond.instanceMethod yX5_init ∈ tb ∧ yX5_init.name = "<init>" ∧ (mX5_init).2.2.2 = none := ⟨tbm 66 (by decide +kernel) rfl, rfl, rfl⟩
theorem pnX5_init : plainName yX5_init.cls = true := by decide
abbrev mX3_init : MD := (yX3_init, cX3_init, 2, none)
theorem cdX3_init : Cond.code yX3_init cX3_init 2 none ∈ tb := tbm 85 (by decide +kernel) rfl
theorem iiX3_init : Cond.instanceMethod yX3_init ∈ tb ∧ yX3_init.name = "<init>" ∧ (mX3_init).2.2.2 = none := ⟨tbm 84 (by decide +kernel) rfl, rfl, rfl⟩
theorem pnX3_init : plainName yX3_init.cls = true := by decide
abbrev mX6_init : MD := (yX6_init, cX6_init, 2, none)
theorem cdX6_init : Cond.code yX6_init cX6_init 2 none ∈ tb := tbm 92 (by decide +kernel) rfl
theorem iiX6_init : Cond.instanceMethod yX6_init ∈ tb ∧ yX6_init.name = "<init>" ∧ (mX6_init).2.2.2 = none := ⟨tbm 91 (by decide +kernel) rfl, rfl, rfl⟩
theorem pnX6_init : plainName yX6_init.cls = true := by decide
abbrev mX2_init : MD := (yX2_init, cX2_init, 1, none)
theorem cdX2_init : Cond.code yX2_init cX2_init 1 none ∈ tb := tbm 98 (by decide +kernel) rfl
theorem iiX2_init : Cond.instanceMethod yX2_init ∈ tb ∧ yX2_init.name = "<init>" ∧ (mX2_init).2.2.2 = none := ⟨tbm 97 (by decide +kernel) rfl, rfl, rfl⟩
theorem pnX2_init : plainName yX2_init.cls = true := by decide
abbrev mX0_init : MD := (yX0_init, cX0_init, 2, none)
theorem cdX0_init : Cond.code yX0_init cX0_init 2 none ∈ tb := tbm 112 (by decide +kernel) rfl
theorem iiX0_init : Cond.instanceMethod yX0_init ∈ tb ∧ yX0_init.name = "<init>" ∧ (mX0_init).2.2.2 = none := ⟨tbm 111 (by decide +kernel) rfl, rfl, rfl⟩
theorem pnX0_init : plainName yX0_init.cls = true := by decide
abbrev mX4_init : MD := (yX4_init, cX4_init, 1, none)
theorem cdX4_init : Cond.code yX4_init cX4_init 1 none ∈ tb := tbm 119 (by decide +kernel) rfl
theorem iiX4_init : Cond.instanceMethod yX4_init ∈ tb ∧ yX4_init.name = "<init>" ∧ (mX4_init).2.2.2 = none := ⟨tbm 118 (by decide +kernel) rfl, rfl, rfl⟩
theorem pnX4_init : plainName yX4_init.cls = true := by decide
abbrev mX1_init : MD := (yX1_init, cX1_init, 1, none)
theorem cdX1_init : Cond.code yX1_init cX1_init 1 none ∈ tb := tbm 160 (by decide +kernel) rfl
theorem iiX1_init : Cond.instanceMethod yX1_init ∈ tb ∧ yX1_init.name = "<init>" ∧ (mX1_init).2.2.2 = none := ⟨tbm 159 (by decide +kernel) rfl, rfl, rfl⟩
theorem pnX1_init : plainName yX1_init.cls = true := by decide
abbrev mX7_init : MD := (yX7_init, cX7_init, 1, none)
theorem cdX7_init : Cond.code yX7_init cX7_init 1 none ∈ tb := tbm 253 (by decide +kernel) rfl
theorem iiX7_init : Cond.instanceMethod yX7_init ∈ tb ∧ yX7_init.name = "<init>" ∧ (mX7_init).2.2.2 = none := ⟨tbm 252 (by decide +kernel) rfl, rfl, rfl⟩
theorem pnX7_init : plainName yX7_init.cls = true := by decide
abbrev mX8_init : MD := (yX8_init, cX8_init, 1, none)
theorem cdX8_init : Cond.code yX8_init cX8_init 1 none ∈ tb := tbm 282 (by decide +kernel) rfl
theorem iiX8_init : Cond.instanceMethod yX8_init ∈ tb ∧ yX8_init.name = "<init>" ∧ (mX8_init).2.2.2 = none := ⟨tbm 281 (by decide +kernel) rfl, rfl, rfl⟩
theorem pnX8_init : plainName yX8_init.cls = true := by decide
abbrev mX9_say : MD := (yX9_say, cX9_say, 2, (some .int))
theorem cdX9_say : Cond.code yX9_say cX9_say 2 (some .int) ∈ tb := tbm 314 (by decide +kernel) rfl
theorem ivX9_say : Cond.instanceMethod yX9_say ∈ tb ∧ Cond.selects yX9_say.cls yX9_say yX9_say ∈ tb := ⟨tbm 312 (by decide +kernel) rfl, tbm 313 (by decide +kernel) rfl⟩
theorem pnX9_say : plainName yX9_say.cls = true := by decide
abbrev mX5_add : MD := (yX5_add, cX5_add, 2, none)
theorem cdX5_add : Cond.code yX5_add cX5_add 2 none ∈ tb := tbm 318 (by decide +kernel) rfl
theorem ivX5_add : Cond.instanceMethod yX5_add ∈ tb ∧ Cond.selects yX5_add.cls yX5_add yX5_add ∈ tb := ⟨tbm 316 (by decide +kernel) rfl, tbm 317 (by decide +kernel) rfl⟩
theorem pnX5_add : plainName yX5_add.cls = true := by decide
abbrev mX9_wipe : MD := (yX9_wipe, cX9_wipe, 2, (some .int))
theorem cdX9_wipe : Cond.code yX9_wipe cX9_wipe 2 (some .int) ∈ tb := tbm 322 (by decide +kernel) rfl
theorem ivX9_wipe : Cond.instanceMethod yX9_wipe ∈ tb ∧ Cond.selects yX9_wipe.cls yX9_wipe yX9_wipe ∈ tb := ⟨tbm 320 (by decide +kernel) rfl, tbm 321 (by decide +kernel) rfl⟩
theorem pnX9_wipe : plainName yX9_wipe.cls = true := by decide
abbrev mX5_clear : MD := (yX5_clear, cX5_clear, 1, none)
theorem cdX5_clear : Cond.code yX5_clear cX5_clear 1 none ∈ tb := tbm 326 (by decide +kernel) rfl
theorem ivX5_clear : Cond.instanceMethod yX5_clear ∈ tb ∧ Cond.selects yX5_clear.cls yX5_clear yX5_clear ∈ tb := ⟨tbm 324 (by decide +kernel) rfl, tbm 325 (by decide +kernel) rfl⟩
theorem pnX5_clear : plainName yX5_clear.cls = true := by decide
abbrev mX9_fault : MD := (yX9_fault, cX9_fault, 1, (some .int))
theorem cdX9_fault : Cond.code yX9_fault cX9_fault 1 (some .int) ∈ tb := tbm 330 (by decide +kernel) rfl
theorem ivX9_fault : Cond.instanceMethod yX9_fault ∈ tb ∧ Cond.selects yX9_fault.cls yX9_fault yX9_fault ∈ tb := ⟨tbm 328 (by decide +kernel) rfl, tbm 329 (by decide +kernel) rfl⟩
theorem pnX9_fault : plainName yX9_fault.cls = true := by decide
abbrev mX5_readPacket : MD := (yX5_readPacket, cX5_readPacket, 2, (some .int))
theorem cdX5_readPacket : Cond.code yX5_readPacket cX5_readPacket 2 (some .int) ∈ tb := tbm 334 (by decide +kernel) rfl
theorem ivX5_readPacket : Cond.instanceMethod yX5_readPacket ∈ tb ∧ Cond.selects yX5_readPacket.cls yX5_readPacket yX5_readPacket ∈ tb := ⟨tbm 332 (by decide +kernel) rfl, tbm 333 (by decide +kernel) rfl⟩
theorem pnX5_readPacket : plainName yX5_readPacket.cls = true := by decide
abbrev mX4_clear : MD := (yX4_clear, cX4_clear, 1, none)
theorem cdX4_clear : Cond.code yX4_clear cX4_clear 1 none ∈ tb := tbm 338 (by decide +kernel) rfl
theorem ivX4_clear : Cond.instanceMethod yX4_clear ∈ tb ∧ Cond.selects yX4_clear.cls yX4_clear yX4_clear ∈ tb := ⟨tbm 336 (by decide +kernel) rfl, tbm 337 (by decide +kernel) rfl⟩
theorem pnX4_clear : plainName yX4_clear.cls = true := by decide
abbrev mX5_readLetters : MD := (yX5_readLetters, cX5_readLetters, 6, (some .int))
theorem cdX5_readLetters : Cond.code yX5_readLetters cX5_readLetters 6 (some .int) ∈ tb := tbm 342 (by decide +kernel) rfl
theorem ivX5_readLetters : Cond.instanceMethod yX5_readLetters ∈ tb ∧ Cond.selects yX5_readLetters.cls yX5_readLetters yX5_readLetters ∈ tb := ⟨tbm 340 (by decide +kernel) rfl, tbm 341 (by decide +kernel) rfl⟩
theorem pnX5_readLetters : plainName yX5_readLetters.cls = true := by decide
abbrev mX5_peek : MD := (yX5_peek, cX5_peek, 1, (some .int))
theorem cdX5_peek : Cond.code yX5_peek cX5_peek 1 (some .int) ∈ tb := tbm 346 (by decide +kernel) rfl
theorem ivX5_peek : Cond.instanceMethod yX5_peek ∈ tb ∧ Cond.selects yX5_peek.cls yX5_peek yX5_peek ∈ tb := ⟨tbm 344 (by decide +kernel) rfl, tbm 345 (by decide +kernel) rfl⟩
theorem pnX5_peek : plainName yX5_peek.cls = true := by decide
abbrev mX5_take : MD := (yX5_take, cX5_take, 2, (some .boolean))
theorem cdX5_take : Cond.code yX5_take cX5_take 2 (some .boolean) ∈ tb := tbm 350 (by decide +kernel) rfl
theorem ivX5_take : Cond.instanceMethod yX5_take ∈ tb ∧ Cond.selects yX5_take.cls yX5_take yX5_take ∈ tb := ⟨tbm 348 (by decide +kernel) rfl, tbm 349 (by decide +kernel) rfl⟩
theorem pnX5_take : plainName yX5_take.cls = true := by decide
abbrev mX5_readWords : MD := (yX5_readWords, cX5_readWords, 3, (some .boolean))
theorem cdX5_readWords : Cond.code yX5_readWords cX5_readWords 3 (some .boolean) ∈ tb := tbm 354 (by decide +kernel) rfl
theorem ivX5_readWords : Cond.instanceMethod yX5_readWords ∈ tb ∧ Cond.selects yX5_readWords.cls yX5_readWords yX5_readWords ∈ tb := ⟨tbm 352 (by decide +kernel) rfl, tbm 353 (by decide +kernel) rfl⟩
theorem pnX5_readWords : plainName yX5_readWords.cls = true := by decide
abbrev mX5_readWord : MD := (yX5_readWord, cX5_readWord, 4, (some .boolean))
theorem cdX5_readWord : Cond.code yX5_readWord cX5_readWord 4 (some .boolean) ∈ tb := tbm 358 (by decide +kernel) rfl
theorem ivX5_readWord : Cond.instanceMethod yX5_readWord ∈ tb ∧ Cond.selects yX5_readWord.cls yX5_readWord yX5_readWord ∈ tb := ⟨tbm 356 (by decide +kernel) rfl, tbm 357 (by decide +kernel) rfl⟩
theorem pnX5_readWord : plainName yX5_readWord.cls = true := by decide
abbrev mX9_isHops : MD := (yX9_isHops, cX9_isHops, 1, (some .boolean))
theorem cdX9_isHops : Cond.code yX9_isHops cX9_isHops 1 (some .boolean) ∈ tb := tbm 361 (by decide +kernel) rfl
theorem isX9_isHops : Cond.static yX9_isHops ∈ tb := tbm 360 (by decide +kernel) rfl
theorem pnX9_isHops : plainName yX9_isHops.cls = true := by decide
abbrev mX4_addWord : MD := (yX4_addWord, cX4_addWord, 4, none)
theorem cdX4_addWord : Cond.code yX4_addWord cX4_addWord 4 none ∈ tb := tbm 365 (by decide +kernel) rfl
theorem ivX4_addWord : Cond.instanceMethod yX4_addWord ∈ tb ∧ Cond.selects yX4_addWord.cls yX4_addWord yX4_addWord ∈ tb := ⟨tbm 363 (by decide +kernel) rfl, tbm 364 (by decide +kernel) rfl⟩
theorem pnX4_addWord : plainName yX4_addWord.cls = true := by decide
abbrev mX9_name : MD := (yX9_name, cX9_name, 6, (some .int))
theorem cdX9_name : Cond.code yX9_name cX9_name 6 (some .int) ∈ tb := tbm 369 (by decide +kernel) rfl
theorem ivX9_name : Cond.instanceMethod yX9_name ∈ tb ∧ Cond.selects yX9_name.cls yX9_name yX9_name ∈ tb := ⟨tbm 367 (by decide +kernel) rfl, tbm 368 (by decide +kernel) rfl⟩
theorem pnX9_name : plainName yX9_name.cls = true := by decide
abbrev mX9_isStation : MD := (yX9_isStation, cX9_isStation, 1, (some .boolean))
theorem cdX9_isStation : Cond.code yX9_isStation cX9_isStation 1 (some .boolean) ∈ tb := tbm 372 (by decide +kernel) rfl
theorem isX9_isStation : Cond.static yX9_isStation ∈ tb := tbm 371 (by decide +kernel) rfl
theorem pnX9_isStation : plainName yX9_isStation.cls = true := by decide
abbrev mX5_readName : MD := (yX5_readName, cX5_readName, 2, (some .int))
theorem cdX5_readName : Cond.code yX5_readName cX5_readName 2 (some .int) ∈ tb := tbm 376 (by decide +kernel) rfl
theorem ivX5_readName : Cond.instanceMethod yX5_readName ∈ tb ∧ Cond.selects yX5_readName.cls yX5_readName yX5_readName ∈ tb := ⟨tbm 374 (by decide +kernel) rfl, tbm 375 (by decide +kernel) rfl⟩
theorem pnX5_readName : plainName yX5_readName.cls = true := by decide
abbrev mX3_stationCalled : MD := (yX3_stationCalled, cX3_stationCalled, 3, (some .int))
theorem cdX3_stationCalled : Cond.code yX3_stationCalled cX3_stationCalled 3 (some .int) ∈ tb := tbm 380 (by decide +kernel) rfl
theorem ivX3_stationCalled : Cond.instanceMethod yX3_stationCalled ∈ tb ∧ Cond.selects yX3_stationCalled.cls yX3_stationCalled yX3_stationCalled ∈ tb := ⟨tbm 378 (by decide +kernel) rfl, tbm 379 (by decide +kernel) rfl⟩
theorem pnX3_stationCalled : plainName yX3_stationCalled.cls = true := by decide
abbrev mX2_add : MD := (yX2_add, cX2_add, 2, none)
theorem cdX2_add : Cond.code yX2_add cX2_add 2 none ∈ tb := tbm 384 (by decide +kernel) rfl
theorem ivX2_add : Cond.instanceMethod yX2_add ∈ tb ∧ Cond.selects yX2_add.cls yX2_add yX2_add ∈ tb := ⟨tbm 382 (by decide +kernel) rfl, tbm 383 (by decide +kernel) rfl⟩
theorem pnX2_add : plainName yX2_add.cls = true := by decide
abbrev mX9_forget : MD := (yX9_forget, cX9_forget, 6, (some .int))
theorem cdX9_forget : Cond.code yX9_forget cX9_forget 6 (some .int) ∈ tb := tbm 388 (by decide +kernel) rfl
theorem ivX9_forget : Cond.instanceMethod yX9_forget ∈ tb ∧ Cond.selects yX9_forget.cls yX9_forget yX9_forget ∈ tb := ⟨tbm 386 (by decide +kernel) rfl, tbm 387 (by decide +kernel) rfl⟩
theorem pnX9_forget : plainName yX9_forget.cls = true := by decide
abbrev mX2_clear : MD := (yX2_clear, cX2_clear, 1, none)
theorem cdX2_clear : Cond.code yX2_clear cX2_clear 1 none ∈ tb := tbm 392 (by decide +kernel) rfl
theorem ivX2_clear : Cond.instanceMethod yX2_clear ∈ tb ∧ Cond.selects yX2_clear.cls yX2_clear yX2_clear ∈ tb := ⟨tbm 390 (by decide +kernel) rfl, tbm 391 (by decide +kernel) rfl⟩
theorem pnX2_clear : plainName yX2_clear.cls = true := by decide
abbrev mX9_set : MD := (yX9_set, cX9_set, 6, (some .int))
theorem cdX9_set : Cond.code yX9_set cX9_set 6 (some .int) ∈ tb := tbm 396 (by decide +kernel) rfl
theorem ivX9_set : Cond.instanceMethod yX9_set ∈ tb ∧ Cond.selects yX9_set.cls yX9_set yX9_set ∈ tb := ⟨tbm 394 (by decide +kernel) rfl, tbm 395 (by decide +kernel) rfl⟩
theorem pnX9_set : plainName yX9_set.cls = true := by decide
abbrev mX9_isSetting : MD := (yX9_isSetting, cX9_isSetting, 2, (some .boolean))
theorem cdX9_isSetting : Cond.code yX9_isSetting cX9_isSetting 2 (some .boolean) ∈ tb := tbm 399 (by decide +kernel) rfl
theorem isX9_isSetting : Cond.static yX9_isSetting ∈ tb := tbm 398 (by decide +kernel) rfl
theorem pnX9_isSetting : plainName yX9_isSetting.cls = true := by decide
abbrev mX9_near : MD := (yX9_near, cX9_near, 4, (some .int))
theorem cdX9_near : Cond.code yX9_near cX9_near 4 (some .int) ∈ tb := tbm 403 (by decide +kernel) rfl
theorem ivX9_near : Cond.instanceMethod yX9_near ∈ tb ∧ Cond.selects yX9_near.cls yX9_near yX9_near ∈ tb := ⟨tbm 401 (by decide +kernel) rfl, tbm 402 (by decide +kernel) rfl⟩
theorem pnX9_near : plainName yX9_near.cls = true := by decide
abbrev mX3_join : MD := (yX3_join, cX3_join, 4, none)
theorem cdX3_join : Cond.code yX3_join cX3_join 4 none ∈ tb := tbm 407 (by decide +kernel) rfl
theorem ivX3_join : Cond.instanceMethod yX3_join ∈ tb ∧ Cond.selects yX3_join.cls yX3_join yX3_join ∈ tb := ⟨tbm 405 (by decide +kernel) rfl, tbm 406 (by decide +kernel) rfl⟩
theorem pnX3_join : plainName yX3_join.cls = true := by decide
abbrev mJ6_bitCount_0f7a4 : MD := (yJ6_bitCount_0f7a4, cJ6_bitCount_0f7a4, 1, (some .int))
theorem cdJ6_bitCount_0f7a4 : Cond.code yJ6_bitCount_0f7a4 cJ6_bitCount_0f7a4 1 (some .int) ∈ tb := tbm 411 (by decide +kernel) rfl
theorem isJ6_bitCount_0f7a4 : Cond.static yJ6_bitCount_0f7a4 ∈ tb := tbm 410 (by decide +kernel) rfl
theorem pnJ6_bitCount_0f7a4 : plainName yJ6_bitCount_0f7a4.cls = true := by decide
abbrev mX9_send : MD := (yX9_send, cX9_send, 3, (some .int))
theorem cdX9_send : Cond.code yX9_send cX9_send 3 (some .int) ∈ tb := tbm 418 (by decide +kernel) rfl
theorem ivX9_send : Cond.instanceMethod yX9_send ∈ tb ∧ Cond.selects yX9_send.cls yX9_send yX9_send ∈ tb := ⟨tbm 416 (by decide +kernel) rfl, tbm 417 (by decide +kernel) rfl⟩
theorem pnX9_send : plainName yX9_send.cls = true := by decide
abbrev mX6_originate : MD := (yX6_originate, cX6_originate, 3, none)
theorem cdX6_originate : Cond.code yX6_originate cX6_originate 3 none ∈ tb := tbm 422 (by decide +kernel) rfl
theorem ivX6_originate : Cond.instanceMethod yX6_originate ∈ tb ∧ Cond.selects yX6_originate.cls yX6_originate yX6_originate ∈ tb := ⟨tbm 420 (by decide +kernel) rfl, tbm 421 (by decide +kernel) rfl⟩
theorem pnX6_originate : plainName yX6_originate.cls = true := by decide
abbrev mX0_add : MD := (yX0_add, cX0_add, 3, (some .boolean))
theorem cdX0_add : Cond.code yX0_add cX0_add 3 (some .boolean) ∈ tb := tbm 426 (by decide +kernel) rfl
theorem ivX0_add : Cond.instanceMethod yX0_add ∈ tb ∧ Cond.selects yX0_add.cls yX0_add yX0_add ∈ tb := ⟨tbm 424 (by decide +kernel) rfl, tbm 425 (by decide +kernel) rfl⟩
theorem pnX0_add : plainName yX0_add.cls = true := by decide
abbrev mX4_copyFrom : MD := (yX4_copyFrom, cX4_copyFrom, 2, none)
theorem cdX4_copyFrom : Cond.code yX4_copyFrom cX4_copyFrom 2 none ∈ tb := tbm 430 (by decide +kernel) rfl
theorem ivX4_copyFrom : Cond.instanceMethod yX4_copyFrom ∈ tb ∧ Cond.selects yX4_copyFrom.cls yX4_copyFrom yX4_copyFrom ∈ tb := ⟨tbm 428 (by decide +kernel) rfl, tbm 429 (by decide +kernel) rfl⟩
theorem pnX4_copyFrom : plainName yX4_copyFrom.cls = true := by decide
abbrev mX1_placeOf : MD := (yX1_placeOf, cX1_placeOf, 3, (some .int))
theorem cdX1_placeOf : Cond.code yX1_placeOf cX1_placeOf 3 (some .int) ∈ tb := tbm 437 (by decide +kernel) rfl
theorem ivX1_placeOf : Cond.instanceMethod yX1_placeOf ∈ tb ∧ Cond.selects yX1_placeOf.cls yX1_placeOf yX1_placeOf ∈ tb := ⟨tbm 435 (by decide +kernel) rfl, tbm 436 (by decide +kernel) rfl⟩
theorem pnX1_placeOf : plainName yX1_placeOf.cls = true := by decide
abbrev mX1_removeAt : MD := (yX1_removeAt, cX1_removeAt, 3, none)
theorem cdX1_removeAt : Cond.code yX1_removeAt cX1_removeAt 3 none ∈ tb := tbm 441 (by decide +kernel) rfl
theorem ivX1_removeAt : Cond.instanceMethod yX1_removeAt ∈ tb ∧ Cond.selects yX1_removeAt.cls yX1_removeAt yX1_removeAt ∈ tb := ⟨tbm 439 (by decide +kernel) rfl, tbm 440 (by decide +kernel) rfl⟩
theorem pnX1_removeAt : plainName yX1_removeAt.cls = true := by decide
abbrev mX1_move : MD := (yX1_move, cX1_move, 3, none)
theorem cdX1_move : Cond.code yX1_move cX1_move 3 none ∈ tb := tbm 445 (by decide +kernel) rfl
theorem ivX1_move : Cond.instanceMethod yX1_move ∈ tb ∧ Cond.selects yX1_move.cls yX1_move yX1_move ∈ tb := ⟨tbm 443 (by decide +kernel) rfl, tbm 444 (by decide +kernel) rfl⟩
theorem pnX1_move : plainName yX1_move.cls = true := by decide
abbrev mX1_add : MD := (yX1_add, cX1_add, 3, none)
theorem cdX1_add : Cond.code yX1_add cX1_add 3 none ∈ tb := tbm 449 (by decide +kernel) rfl
theorem ivX1_add : Cond.instanceMethod yX1_add ∈ tb ∧ Cond.selects yX1_add.cls yX1_add yX1_add ∈ tb := ⟨tbm 447 (by decide +kernel) rfl, tbm 448 (by decide +kernel) rfl⟩
theorem pnX1_add : plainName yX1_add.cls = true := by decide
abbrev mX9_run : MD := (yX9_run, cX9_run, 3, (some .int))
theorem cdX9_run : Cond.code yX9_run cX9_run 3 (some .int) ∈ tb := tbm 454 (by decide +kernel) rfl
theorem ivX9_run : Cond.instanceMethod yX9_run ∈ tb ∧ Cond.selects yX9_run.cls yX9_run yX9_run ∈ tb := ⟨tbm 452 (by decide +kernel) rfl, tbm 453 (by decide +kernel) rfl⟩
theorem pnX9_run : plainName yX9_run.cls = true := by decide
abbrev mX3_passTick : MD := (yX3_passTick, cX3_passTick, 5, none)
theorem cdX3_passTick : Cond.code yX3_passTick cX3_passTick 5 none ∈ tb := tbm 458 (by decide +kernel) rfl
theorem ivX3_passTick : Cond.instanceMethod yX3_passTick ∈ tb ∧ Cond.selects yX3_passTick.cls yX3_passTick yX3_passTick ∈ tb := ⟨tbm 456 (by decide +kernel) rfl, tbm 457 (by decide +kernel) rfl⟩
theorem pnX3_passTick : plainName yX3_passTick.cls = true := by decide
abbrev mX6_startSending : MD := (yX6_startSending, cX6_startSending, 2, (some .boolean))
theorem cdX6_startSending : Cond.code yX6_startSending cX6_startSending 2 (some .boolean) ∈ tb := tbm 462 (by decide +kernel) rfl
theorem ivX6_startSending : Cond.instanceMethod yX6_startSending ∈ tb ∧ Cond.selects yX6_startSending.cls yX6_startSending yX6_startSending ∈ tb := ⟨tbm 460 (by decide +kernel) rfl, tbm 461 (by decide +kernel) rfl⟩
theorem pnX6_startSending : plainName yX6_startSending.cls = true := by decide
abbrev mX0_takeDue : MD := (yX0_takeDue, cX0_takeDue, 4, (some .boolean))
theorem cdX0_takeDue : Cond.code yX0_takeDue cX0_takeDue 4 (some .boolean) ∈ tb := tbm 466 (by decide +kernel) rfl
theorem ivX0_takeDue : Cond.instanceMethod yX0_takeDue ∈ tb ∧ Cond.selects yX0_takeDue.cls yX0_takeDue yX0_takeDue ∈ tb := ⟨tbm 464 (by decide +kernel) rfl, tbm 465 (by decide +kernel) rfl⟩
theorem pnX0_takeDue : plainName yX0_takeDue.cls = true := by decide
abbrev mX0_removeAt : MD := (yX0_removeAt, cX0_removeAt, 4, none)
theorem cdX0_removeAt : Cond.code yX0_removeAt cX0_removeAt 4 none ∈ tb := tbm 470 (by decide +kernel) rfl
theorem ivX0_removeAt : Cond.instanceMethod yX0_removeAt ∈ tb ∧ Cond.selects yX0_removeAt.cls yX0_removeAt yX0_removeAt ∈ tb := ⟨tbm 468 (by decide +kernel) rfl, tbm 469 (by decide +kernel) rfl⟩
theorem pnX0_removeAt : plainName yX0_removeAt.cls = true := by decide
abbrev mX9_isIn : MD := (yX9_isIn, cX9_isIn, 2, (some .boolean))
theorem cdX9_isIn : Cond.code yX9_isIn cX9_isIn 2 (some .boolean) ∈ tb := tbm 473 (by decide +kernel) rfl
theorem isX9_isIn : Cond.static yX9_isIn ∈ tb := tbm 472 (by decide +kernel) rfl
theorem pnX9_isIn : plainName yX9_isIn.cls = true := by decide
abbrev mX3_firstIn : MD := (yX3_firstIn, cX3_firstIn, 2, (some .int))
theorem cdX3_firstIn : Cond.code yX3_firstIn cX3_firstIn 2 (some .int) ∈ tb := tbm 476 (by decide +kernel) rfl
theorem isX3_firstIn : Cond.static yX3_firstIn ∈ tb := tbm 475 (by decide +kernel) rfl
theorem pnX3_firstIn : plainName yX3_firstIn.cls = true := by decide
abbrev mX6_hear : MD := (yX6_hear, cX6_hear, 4, none)
theorem cdX6_hear : Cond.code yX6_hear cX6_hear 4 none ∈ tb := tbm 481 (by decide +kernel) rfl
theorem ivX6_hear : Cond.instanceMethod yX6_hear ∈ tb ∧ Cond.selects yX6_hear.cls yX6_hear yX6_hear ∈ tb := ⟨tbm 479 (by decide +kernel) rfl, tbm 480 (by decide +kernel) rfl⟩
theorem pnX6_hear : plainName yX6_hear.cls = true := by decide
abbrev mX1_dropOld : MD := (yX1_dropOld, cX1_dropOld, 5, none)
theorem cdX1_dropOld : Cond.code yX1_dropOld cX1_dropOld 5 none ∈ tb := tbm 486 (by decide +kernel) rfl
theorem ivX1_dropOld : Cond.instanceMethod yX1_dropOld ∈ tb ∧ Cond.selects yX1_dropOld.cls yX1_dropOld yX1_dropOld ∈ tb := ⟨tbm 484 (by decide +kernel) rfl, tbm 485 (by decide +kernel) rfl⟩
theorem pnX1_dropOld : plainName yX1_dropOld.cls = true := by decide
abbrev mX4_wasSentBy : MD := (yX4_wasSentBy, cX4_wasSentBy, 4, (some .boolean))
theorem cdX4_wasSentBy : Cond.code yX4_wasSentBy cX4_wasSentBy 4 (some .boolean) ∈ tb := tbm 490 (by decide +kernel) rfl
theorem ivX4_wasSentBy : Cond.instanceMethod yX4_wasSentBy ∈ tb ∧ Cond.selects yX4_wasSentBy.cls yX4_wasSentBy yX4_wasSentBy ∈ tb := ⟨tbm 488 (by decide +kernel) rfl, tbm 489 (by decide +kernel) rfl⟩
theorem pnX4_wasSentBy : plainName yX4_wasSentBy.cls = true := by decide
abbrev mX4_firstUnspent : MD := (yX4_firstUnspent, cX4_firstUnspent, 2, (some .int))
theorem cdX4_firstUnspent : Cond.code yX4_firstUnspent cX4_firstUnspent 2 (some .int) ∈ tb := tbm 494 (by decide +kernel) rfl
theorem ivX4_firstUnspent : Cond.instanceMethod yX4_firstUnspent ∈ tb ∧ Cond.selects yX4_firstUnspent.cls yX4_firstUnspent yX4_firstUnspent ∈ tb := ⟨tbm 492 (by decide +kernel) rfl, tbm 493 (by decide +kernel) rfl⟩
theorem pnX4_firstUnspent : plainName yX4_firstUnspent.cls = true := by decide
abbrev mX6_changeIfMeant : MD := (yX6_changeIfMeant, cX6_changeIfMeant, 6, (some .boolean))
theorem cdX6_changeIfMeant : Cond.code yX6_changeIfMeant cX6_changeIfMeant 6 (some .boolean) ∈ tb := tbm 498 (by decide +kernel) rfl
theorem ivX6_changeIfMeant : Cond.instanceMethod yX6_changeIfMeant ∈ tb ∧ Cond.selects yX6_changeIfMeant.cls yX6_changeIfMeant yX6_changeIfMeant ∈ tb := ⟨tbm 496 (by decide +kernel) rfl, tbm 497 (by decide +kernel) rfl⟩
theorem pnX6_changeIfMeant : plainName yX6_changeIfMeant.cls = true := by decide
abbrev mX4_nameAt : MD := (yX4_nameAt, cX4_nameAt, 2, (some .int))
theorem cdX4_nameAt : Cond.code yX4_nameAt cX4_nameAt 2 (some .int) ∈ tb := tbm 502 (by decide +kernel) rfl
theorem ivX4_nameAt : Cond.instanceMethod yX4_nameAt ∈ tb ∧ Cond.selects yX4_nameAt.cls yX4_nameAt yX4_nameAt ∈ tb := ⟨tbm 500 (by decide +kernel) rfl, tbm 501 (by decide +kernel) rfl⟩
theorem pnX4_nameAt : plainName yX4_nameAt.cls = true := by decide
abbrev mX4_isPlace : MD := (yX4_isPlace, cX4_isPlace, 2, (some .boolean))
theorem cdX4_isPlace : Cond.code yX4_isPlace cX4_isPlace 2 (some .boolean) ∈ tb := tbm 506 (by decide +kernel) rfl
theorem ivX4_isPlace : Cond.instanceMethod yX4_isPlace ∈ tb ∧ Cond.selects yX4_isPlace.cls yX4_isPlace yX4_isPlace ∈ tb := ⟨tbm 504 (by decide +kernel) rfl, tbm 505 (by decide +kernel) rfl⟩
theorem pnX4_isPlace : plainName yX4_isPlace.cls = true := by decide
abbrev mX4_hopsAt : MD := (yX4_hopsAt, cX4_hopsAt, 2, (some .int))
theorem cdX4_hopsAt : Cond.code yX4_hopsAt cX4_hopsAt 2 (some .int) ∈ tb := tbm 510 (by decide +kernel) rfl
theorem ivX4_hopsAt : Cond.instanceMethod yX4_hopsAt ∈ tb ∧ Cond.selects yX4_hopsAt.cls yX4_hopsAt yX4_hopsAt ∈ tb := ⟨tbm 508 (by decide +kernel) rfl, tbm 509 (by decide +kernel) rfl⟩
theorem pnX4_hopsAt : plainName yX4_hopsAt.cls = true := by decide
abbrev mX2_has : MD := (yX2_has, cX2_has, 3, (some .boolean))
theorem cdX2_has : Cond.code yX2_has cX2_has 3 (some .boolean) ∈ tb := tbm 514 (by decide +kernel) rfl
theorem ivX2_has : Cond.instanceMethod yX2_has ∈ tb ∧ Cond.selects yX2_has.cls yX2_has yX2_has ∈ tb := ⟨tbm 512 (by decide +kernel) rfl, tbm 513 (by decide +kernel) rfl⟩
theorem pnX2_has : plainName yX2_has.cls = true := by decide
abbrev mX4_spend : MD := (yX4_spend, cX4_spend, 3, none)
theorem cdX4_spend : Cond.code yX4_spend cX4_spend 3 none ∈ tb := tbm 518 (by decide +kernel) rfl
theorem ivX4_spend : Cond.instanceMethod yX4_spend ∈ tb ∧ Cond.selects yX4_spend.cls yX4_spend yX4_spend ∈ tb := ⟨tbm 516 (by decide +kernel) rfl, tbm 517 (by decide +kernel) rfl⟩
theorem pnX4_spend : plainName yX4_spend.cls = true := by decide
abbrev mJ9_min_7cf53 : MD := (yJ9_min_7cf53, cJ9_min_7cf53, 2, (some .int))
theorem cdJ9_min_7cf53 : Cond.code yJ9_min_7cf53 cJ9_min_7cf53 2 (some .int) ∈ tb := tbm 521 (by decide +kernel) rfl
theorem isJ9_min_7cf53 : Cond.static yJ9_min_7cf53 ∈ tb := tbm 520 (by decide +kernel) rfl
abbrev mX4_setHops : MD := (yX4_setHops, cX4_setHops, 3, none)
theorem cdX4_setHops : Cond.code yX4_setHops cX4_setHops 3 none ∈ tb := tbm 525 (by decide +kernel) rfl
theorem ivX4_setHops : Cond.instanceMethod yX4_setHops ∈ tb ∧ Cond.selects yX4_setHops.cls yX4_setHops yX4_setHops ∈ tb := ⟨tbm 523 (by decide +kernel) rfl, tbm 524 (by decide +kernel) rfl⟩
theorem pnX4_setHops : plainName yX4_setHops.cls = true := by decide
abbrev mX4_putAhead : MD := (yX4_putAhead, cX4_putAhead, 4, none)
theorem cdX4_putAhead : Cond.code yX4_putAhead cX4_putAhead 4 none ∈ tb := tbm 529 (by decide +kernel) rfl
theorem ivX4_putAhead : Cond.instanceMethod yX4_putAhead ∈ tb ∧ Cond.selects yX4_putAhead.cls yX4_putAhead yX4_putAhead ∈ tb := ⟨tbm 527 (by decide +kernel) rfl, tbm 528 (by decide +kernel) rfl⟩
theorem pnX4_putAhead : plainName yX4_putAhead.cls = true := by decide
abbrev mX3_keptByAll : MD := (yX3_keptByAll, cX3_keptByAll, 3, (some .int))
theorem cdX3_keptByAll : Cond.code yX3_keptByAll cX3_keptByAll 3 (some .int) ∈ tb := tbm 533 (by decide +kernel) rfl
theorem ivX3_keptByAll : Cond.instanceMethod yX3_keptByAll ∈ tb ∧ Cond.selects yX3_keptByAll.cls yX3_keptByAll yX3_keptByAll ∈ tb := ⟨tbm 531 (by decide +kernel) rfl, tbm 532 (by decide +kernel) rfl⟩
theorem pnX3_keptByAll : plainName yX3_keptByAll.cls = true := by decide
abbrev mX9_heard : MD := (yX9_heard, cX9_heard, 4, (some .int))
theorem cdX9_heard : Cond.code yX9_heard cX9_heard 4 (some .int) ∈ tb := tbm 537 (by decide +kernel) rfl
theorem ivX9_heard : Cond.instanceMethod yX9_heard ∈ tb ∧ Cond.selects yX9_heard.cls yX9_heard yX9_heard ∈ tb := ⟨tbm 535 (by decide +kernel) rfl, tbm 536 (by decide +kernel) rfl⟩
theorem pnX9_heard : plainName yX9_heard.cls = true := by decide
abbrev mX9_written : MD := (yX9_written, cX9_written, 4, (some .int))
theorem cdX9_written : Cond.code yX9_written cX9_written 4 (some .int) ∈ tb := tbm 541 (by decide +kernel) rfl
theorem ivX9_written : Cond.instanceMethod yX9_written ∈ tb ∧ Cond.selects yX9_written.cls yX9_written yX9_written ∈ tb := ⟨tbm 539 (by decide +kernel) rfl, tbm 540 (by decide +kernel) rfl⟩
theorem pnX9_written : plainName yX9_written.cls = true := by decide
abbrev mX6_hasHeard : MD := (yX6_hasHeard, cX6_hasHeard, 1, (some .boolean))
theorem cdX6_hasHeard : Cond.code yX6_hasHeard cX6_hasHeard 1 (some .boolean) ∈ tb := tbm 545 (by decide +kernel) rfl
theorem ivX6_hasHeard : Cond.instanceMethod yX6_hasHeard ∈ tb ∧ Cond.selects yX6_hasHeard.cls yX6_hasHeard yX6_hasHeard ∈ tb := ⟨tbm 543 (by decide +kernel) rfl, tbm 544 (by decide +kernel) rfl⟩
theorem pnX6_hasHeard : plainName yX6_hasHeard.cls = true := by decide
abbrev mX8_write : MD := (yX8_write, cX8_write, 3, none)
theorem cdX8_write : Cond.code yX8_write cX8_write 3 none ∈ tb := tbm 549 (by decide +kernel) rfl
theorem ivX8_write : Cond.instanceMethod yX8_write ∈ tb ∧ Cond.selects yX8_write.cls yX8_write yX8_write ∈ tb := ⟨tbm 547 (by decide +kernel) rfl, tbm 548 (by decide +kernel) rfl⟩
theorem pnX8_write : plainName yX8_write.cls = true := by decide
abbrev mX8_putLetters : MD := (yX8_putLetters, cX8_putLetters, 5, none)
theorem cdX8_putLetters : Cond.code yX8_putLetters cX8_putLetters 5 none ∈ tb := tbm 553 (by decide +kernel) rfl
theorem ivX8_putLetters : Cond.instanceMethod yX8_putLetters ∈ tb ∧ Cond.selects yX8_putLetters.cls yX8_putLetters yX8_putLetters ∈ tb := ⟨tbm 551 (by decide +kernel) rfl, tbm 552 (by decide +kernel) rfl⟩
theorem pnX8_putLetters : plainName yX8_putLetters.cls = true := by decide
abbrev mX8_put : MD := (yX8_put, cX8_put, 2, none)
theorem cdX8_put : Cond.code yX8_put cX8_put 2 none ∈ tb := tbm 557 (by decide +kernel) rfl
theorem ivX8_put : Cond.instanceMethod yX8_put ∈ tb ∧ Cond.selects yX8_put.cls yX8_put yX8_put ∈ tb := ⟨tbm 555 (by decide +kernel) rfl, tbm 556 (by decide +kernel) rfl⟩
theorem pnX8_put : plainName yX8_put.cls = true := by decide
abbrev mX8_putWord : MD := (yX8_putWord, cX8_putWord, 3, none)
theorem cdX8_putWord : Cond.code yX8_putWord cX8_putWord 3 none ∈ tb := tbm 561 (by decide +kernel) rfl
theorem ivX8_putWord : Cond.instanceMethod yX8_putWord ∈ tb ∧ Cond.selects yX8_putWord.cls yX8_putWord yX8_putWord ∈ tb := ⟨tbm 559 (by decide +kernel) rfl, tbm 560 (by decide +kernel) rfl⟩
theorem pnX8_putWord : plainName yX8_putWord.cls = true := by decide
abbrev mX4_isSpentAt : MD := (yX4_isSpentAt, cX4_isSpentAt, 2, (some .boolean))
theorem cdX4_isSpentAt : Cond.code yX4_isSpentAt cX4_isSpentAt 2 (some .boolean) ∈ tb := tbm 567 (by decide +kernel) rfl
theorem ivX4_isSpentAt : Cond.instanceMethod yX4_isSpentAt ∈ tb ∧ Cond.selects yX4_isSpentAt.cls yX4_isSpentAt yX4_isSpentAt ∈ tb := ⟨tbm 565 (by decide +kernel) rfl, tbm 566 (by decide +kernel) rfl⟩
theorem pnX4_isSpentAt : plainName yX4_isSpentAt.cls = true := by decide
abbrev mX8_signAt : MD := (yX8_signAt, cX8_signAt, 2, (some .int))
theorem cdX8_signAt : Cond.code yX8_signAt cX8_signAt 2 (some .int) ∈ tb := tbm 571 (by decide +kernel) rfl
theorem ivX8_signAt : Cond.instanceMethod yX8_signAt ∈ tb ∧ Cond.selects yX8_signAt.cls yX8_signAt yX8_signAt ∈ tb := ⟨tbm 569 (by decide +kernel) rfl, tbm 570 (by decide +kernel) rfl⟩
theorem pnX8_signAt : plainName yX8_signAt.cls = true := by decide
abbrev mX9_last : MD := (yX9_last, cX9_last, 6, (some .int))
theorem cdX9_last : Cond.code yX9_last cX9_last 6 (some .int) ∈ tb := tbm 575 (by decide +kernel) rfl
theorem ivX9_last : Cond.instanceMethod yX9_last ∈ tb ∧ Cond.selects yX9_last.cls yX9_last yX9_last ∈ tb := ⟨tbm 573 (by decide +kernel) rfl, tbm 574 (by decide +kernel) rfl⟩
theorem pnX9_last : plainName yX9_last.cls = true := by decide
abbrev mX4_spentWords : MD := (yX4_spentWords, cX4_spentWords, 3, (some .int))
theorem cdX4_spentWords : Cond.code yX4_spentWords cX4_spentWords 3 (some .int) ∈ tb := tbm 579 (by decide +kernel) rfl
theorem ivX4_spentWords : Cond.instanceMethod yX4_spentWords ∈ tb ∧ Cond.selects yX4_spentWords.cls yX4_spentWords yX4_spentWords ∈ tb := ⟨tbm 577 (by decide +kernel) rfl, tbm 578 (by decide +kernel) rfl⟩
theorem pnX4_spentWords : plainName yX4_spentWords.cls = true := by decide
abbrev mX9_trail : MD := (yX9_trail, cX9_trail, 5, (some .int))
theorem cdX9_trail : Cond.code yX9_trail cX9_trail 5 (some .int) ∈ tb := tbm 585 (by decide +kernel) rfl
theorem ivX9_trail : Cond.instanceMethod yX9_trail ∈ tb ∧ Cond.selects yX9_trail.cls yX9_trail yX9_trail ∈ tb := ⟨tbm 583 (by decide +kernel) rfl, tbm 584 (by decide +kernel) rfl⟩
theorem pnX9_trail : plainName yX9_trail.cls = true := by decide
abbrev mX4_placeOfSpent : MD := (yX4_placeOfSpent, cX4_placeOfSpent, 4, (some .int))
theorem cdX4_placeOfSpent : Cond.code yX4_placeOfSpent cX4_placeOfSpent 4 (some .int) ∈ tb := tbm 589 (by decide +kernel) rfl
theorem ivX4_placeOfSpent : Cond.instanceMethod yX4_placeOfSpent ∈ tb ∧ Cond.selects yX4_placeOfSpent.cls yX4_placeOfSpent yX4_placeOfSpent ∈ tb := ⟨tbm 587 (by decide +kernel) rfl, tbm 588 (by decide +kernel) rfl⟩
theorem pnX4_placeOfSpent : plainName yX4_placeOfSpent.cls = true := by decide
abbrev mX9_reach : MD := (yX9_reach, cX9_reach, 5, (some .int))
theorem cdX9_reach : Cond.code yX9_reach cX9_reach 5 (some .int) ∈ tb := tbm 594 (by decide +kernel) rfl
theorem ivX9_reach : Cond.instanceMethod yX9_reach ∈ tb ∧ Cond.selects yX9_reach.cls yX9_reach yX9_reach ∈ tb := ⟨tbm 592 (by decide +kernel) rfl, tbm 593 (by decide +kernel) rfl⟩
theorem pnX9_reach : plainName yX9_reach.cls = true := by decide
abbrev mX7_prepare : MD := (yX7_prepare, cX7_prepare, 2, none)
theorem cdX7_prepare : Cond.code yX7_prepare cX7_prepare 2 none ∈ tb := tbm 599 (by decide +kernel) rfl
theorem ivX7_prepare : Cond.instanceMethod yX7_prepare ∈ tb ∧ Cond.selects yX7_prepare.cls yX7_prepare yX7_prepare ∈ tb := ⟨tbm 597 (by decide +kernel) rfl, tbm 598 (by decide +kernel) rfl⟩
theorem pnX7_prepare : plainName yX7_prepare.cls = true := by decide
abbrev mX3_beginLike : MD := (yX3_beginLike, cX3_beginLike, 3, none)
theorem cdX3_beginLike : Cond.code yX3_beginLike cX3_beginLike 3 none ∈ tb := tbm 603 (by decide +kernel) rfl
theorem ivX3_beginLike : Cond.instanceMethod yX3_beginLike ∈ tb ∧ Cond.selects yX3_beginLike.cls yX3_beginLike yX3_beginLike ∈ tb := ⟨tbm 601 (by decide +kernel) rfl, tbm 602 (by decide +kernel) rfl⟩
theorem pnX3_beginLike : plainName yX3_beginLike.cls = true := by decide
abbrev mX6_beginLike : MD := (yX6_beginLike, cX6_beginLike, 3, none)
theorem cdX6_beginLike : Cond.code yX6_beginLike cX6_beginLike 3 none ∈ tb := tbm 607 (by decide +kernel) rfl
theorem ivX6_beginLike : Cond.instanceMethod yX6_beginLike ∈ tb ∧ Cond.selects yX6_beginLike.cls yX6_beginLike yX6_beginLike ∈ tb := ⟨tbm 605 (by decide +kernel) rfl, tbm 606 (by decide +kernel) rfl⟩
theorem pnX6_beginLike : plainName yX6_beginLike.cls = true := by decide
abbrev mX6_copySettings : MD := (yX6_copySettings, cX6_copySettings, 2, none)
theorem cdX6_copySettings : Cond.code yX6_copySettings cX6_copySettings 2 none ∈ tb := tbm 611 (by decide +kernel) rfl
theorem ivX6_copySettings : Cond.instanceMethod yX6_copySettings ∈ tb ∧ Cond.selects yX6_copySettings.cls yX6_copySettings yX6_copySettings ∈ tb := ⟨tbm 609 (by decide +kernel) rfl, tbm 610 (by decide +kernel) rfl⟩
theorem pnX6_copySettings : plainName yX6_copySettings.cls = true := by decide
abbrev mX2_copyFrom : MD := (yX2_copyFrom, cX2_copyFrom, 2, none)
theorem cdX2_copyFrom : Cond.code yX2_copyFrom cX2_copyFrom 2 none ∈ tb := tbm 615 (by decide +kernel) rfl
theorem ivX2_copyFrom : Cond.instanceMethod yX2_copyFrom ∈ tb ∧ Cond.selects yX2_copyFrom.cls yX2_copyFrom yX2_copyFrom ∈ tb := ⟨tbm 613 (by decide +kernel) rfl, tbm 614 (by decide +kernel) rfl⟩
theorem pnX2_copyFrom : plainName yX2_copyFrom.cls = true := by decide
abbrev mX0_clear : MD := (yX0_clear, cX0_clear, 1, none)
theorem cdX0_clear : Cond.code yX0_clear cX0_clear 1 none ∈ tb := tbm 620 (by decide +kernel) rfl
theorem ivX0_clear : Cond.instanceMethod yX0_clear ∈ tb ∧ Cond.selects yX0_clear.cls yX0_clear yX0_clear ∈ tb := ⟨tbm 618 (by decide +kernel) rfl, tbm 619 (by decide +kernel) rfl⟩
theorem pnX0_clear : plainName yX0_clear.cls = true := by decide
abbrev mX1_clear : MD := (yX1_clear, cX1_clear, 1, none)
theorem cdX1_clear : Cond.code yX1_clear cX1_clear 1 none ∈ tb := tbm 624 (by decide +kernel) rfl
theorem ivX1_clear : Cond.instanceMethod yX1_clear ∈ tb ∧ Cond.selects yX1_clear.cls yX1_clear yX1_clear ∈ tb := ⟨tbm 622 (by decide +kernel) rfl, tbm 623 (by decide +kernel) rfl⟩
theorem pnX1_clear : plainName yX1_clear.cls = true := by decide
abbrev mX7_spread : MD := (yX7_spread, cX7_spread, 7, none)
theorem cdX7_spread : Cond.code yX7_spread cX7_spread 7 none ∈ tb := tbm 628 (by decide +kernel) rfl
theorem ivX7_spread : Cond.instanceMethod yX7_spread ∈ tb ∧ Cond.selects yX7_spread.cls yX7_spread yX7_spread ∈ tb := ⟨tbm 626 (by decide +kernel) rfl, tbm 627 (by decide +kernel) rfl⟩
theorem pnX7_spread : plainName yX7_spread.cls = true := by decide
abbrev mX3_hearers : MD := (yX3_hearers, cX3_hearers, 3, (some .int))
theorem cdX3_hearers : Cond.code yX3_hearers cX3_hearers 3 (some .int) ∈ tb := tbm 639 (by decide +kernel) rfl
theorem ivX3_hearers : Cond.instanceMethod yX3_hearers ∈ tb ∧ Cond.selects yX3_hearers.cls yX3_hearers yX3_hearers ∈ tb := ⟨tbm 637 (by decide +kernel) rfl, tbm 638 (by decide +kernel) rfl⟩
theorem pnX3_hearers : plainName yX3_hearers.cls = true := by decide
abbrev mX3_tallyOfAll : MD := (yX3_tallyOfAll, cX3_tallyOfAll, 4, (some .int))
theorem cdX3_tallyOfAll : Cond.code yX3_tallyOfAll cX3_tallyOfAll 4 (some .int) ∈ tb := tbm 644 (by decide +kernel) rfl
theorem ivX3_tallyOfAll : Cond.instanceMethod yX3_tallyOfAll ∈ tb ∧ Cond.selects yX3_tallyOfAll.cls yX3_tallyOfAll yX3_tallyOfAll ∈ tb := ⟨tbm 642 (by decide +kernel) rfl, tbm 643 (by decide +kernel) rfl⟩
theorem pnX3_tallyOfAll : plainName yX3_tallyOfAll.cls = true := by decide
abbrev mX9_fewest : MD := (yX9_fewest, cX9_fewest, 5, (some .int))
theorem cdX9_fewest : Cond.code yX9_fewest cX9_fewest 5 (some .int) ∈ tb := tbm 648 (by decide +kernel) rfl
theorem ivX9_fewest : Cond.instanceMethod yX9_fewest ∈ tb ∧ Cond.selects yX9_fewest.cls yX9_fewest yX9_fewest ∈ tb := ⟨tbm 646 (by decide +kernel) rfl, tbm 647 (by decide +kernel) rfl⟩
theorem pnX9_fewest : plainName yX9_fewest.cls = true := by decide
abbrev mX9_bridges : MD := (yX9_bridges, cX9_bridges, 7, (some .int))
theorem cdX9_bridges : Cond.code yX9_bridges cX9_bridges 7 (some .int) ∈ tb := tbm 653 (by decide +kernel) rfl
theorem ivX9_bridges : Cond.instanceMethod yX9_bridges ∈ tb ∧ Cond.selects yX9_bridges.cls yX9_bridges yX9_bridges ∈ tb := ⟨tbm 651 (by decide +kernel) rfl, tbm 652 (by decide +kernel) rfl⟩
theorem pnX9_bridges : plainName yX9_bridges.cls = true := by decide
abbrev mX3_isolate : MD := (yX3_isolate, cX3_isolate, 3, none)
theorem cdX3_isolate : Cond.code yX3_isolate cX3_isolate 3 none ∈ tb := tbm 657 (by decide +kernel) rfl
theorem ivX3_isolate : Cond.instanceMethod yX3_isolate ∈ tb ∧ Cond.selects yX3_isolate.cls yX3_isolate yX3_isolate ∈ tb := ⟨tbm 655 (by decide +kernel) rfl, tbm 656 (by decide +kernel) rfl⟩
theorem pnX3_isolate : plainName yX3_isolate.cls = true := by decide
abbrev mX9_image : MD := (yX9_image, cX9_image, 2, (some .int))
theorem cdX9_image : Cond.code yX9_image cX9_image 2 (some .int) ∈ tb := tbm 661 (by decide +kernel) rfl
theorem ivX9_image : Cond.instanceMethod yX9_image ∈ tb ∧ Cond.selects yX9_image.cls yX9_image yX9_image ∈ tb := ⟨tbm 659 (by decide +kernel) rfl, tbm 660 (by decide +kernel) rfl⟩
theorem pnX9_image : plainName yX9_image.cls = true := by decide
abbrev mX3_copyFrom : MD := (yX3_copyFrom, cX3_copyFrom, 3, none)
theorem cdX3_copyFrom : Cond.code yX3_copyFrom cX3_copyFrom 3 none ∈ tb := tbm 665 (by decide +kernel) rfl
theorem ivX3_copyFrom : Cond.instanceMethod yX3_copyFrom ∈ tb ∧ Cond.selects yX3_copyFrom.cls yX3_copyFrom yX3_copyFrom ∈ tb := ⟨tbm 663 (by decide +kernel) rfl, tbm 664 (by decide +kernel) rfl⟩
theorem pnX3_copyFrom : plainName yX3_copyFrom.cls = true := by decide
abbrev mX6_copyFrom : MD := (yX6_copyFrom, cX6_copyFrom, 2, none)
theorem cdX6_copyFrom : Cond.code yX6_copyFrom cX6_copyFrom 2 none ∈ tb := tbm 669 (by decide +kernel) rfl
theorem ivX6_copyFrom : Cond.instanceMethod yX6_copyFrom ∈ tb ∧ Cond.selects yX6_copyFrom.cls yX6_copyFrom yX6_copyFrom ∈ tb := ⟨tbm 667 (by decide +kernel) rfl, tbm 668 (by decide +kernel) rfl⟩
theorem pnX6_copyFrom : plainName yX6_copyFrom.cls = true := by decide
abbrev mX0_copyFrom : MD := (yX0_copyFrom, cX0_copyFrom, 3, none)
theorem cdX0_copyFrom : Cond.code yX0_copyFrom cX0_copyFrom 3 none ∈ tb := tbm 674 (by decide +kernel) rfl
theorem ivX0_copyFrom : Cond.instanceMethod yX0_copyFrom ∈ tb ∧ Cond.selects yX0_copyFrom.cls yX0_copyFrom yX0_copyFrom ∈ tb := ⟨tbm 672 (by decide +kernel) rfl, tbm 673 (by decide +kernel) rfl⟩
theorem pnX0_copyFrom : plainName yX0_copyFrom.cls = true := by decide
abbrev mX1_copyFrom : MD := (yX1_copyFrom, cX1_copyFrom, 2, none)
theorem cdX1_copyFrom : Cond.code yX1_copyFrom cX1_copyFrom 2 none ∈ tb := tbm 678 (by decide +kernel) rfl
theorem ivX1_copyFrom : Cond.instanceMethod yX1_copyFrom ∈ tb ∧ Cond.selects yX1_copyFrom.cls yX1_copyFrom yX1_copyFrom ∈ tb := ⟨tbm 676 (by decide +kernel) rfl, tbm 677 (by decide +kernel) rfl⟩
theorem pnX1_copyFrom : plainName yX1_copyFrom.cls = true := by decide
abbrev mX9_restore : MD := (yX9_restore, cX9_restore, 2, (some .int))
theorem cdX9_restore : Cond.code yX9_restore cX9_restore 2 (some .int) ∈ tb := tbm 683 (by decide +kernel) rfl
theorem ivX9_restore : Cond.instanceMethod yX9_restore ∈ tb ∧ Cond.selects yX9_restore.cls yX9_restore yX9_restore ∈ tb := ⟨tbm 681 (by decide +kernel) rfl, tbm 682 (by decide +kernel) rfl⟩
theorem pnX9_restore : plainName yX9_restore.cls = true := by decide
abbrev mX9_count : MD := (yX9_count, cX9_count, 2, (some .int))
theorem cdX9_count : Cond.code yX9_count cX9_count 2 (some .int) ∈ tb := tbm 687 (by decide +kernel) rfl
theorem ivX9_count : Cond.instanceMethod yX9_count ∈ tb ∧ Cond.selects yX9_count.cls yX9_count yX9_count ∈ tb := ⟨tbm 685 (by decide +kernel) rfl, tbm 686 (by decide +kernel) rfl⟩
theorem pnX9_count : plainName yX9_count.cls = true := by decide
abbrev mX3_pairsNear : MD := (yX3_pairsNear, cX3_pairsNear, 3, (some .int))
theorem cdX3_pairsNear : Cond.code yX3_pairsNear cX3_pairsNear 3 (some .int) ∈ tb := tbm 691 (by decide +kernel) rfl
theorem ivX3_pairsNear : Cond.instanceMethod yX3_pairsNear ∈ tb ∧ Cond.selects yX3_pairsNear.cls yX3_pairsNear yX3_pairsNear ∈ tb := ⟨tbm 689 (by decide +kernel) rfl, tbm 690 (by decide +kernel) rfl⟩
theorem pnX3_pairsNear : plainName yX3_pairsNear.cls = true := by decide
abbrev mX9_imagesKept : MD := (yX9_imagesKept, cX9_imagesKept, 3, (some .int))
theorem cdX9_imagesKept : Cond.code yX9_imagesKept cX9_imagesKept 3 (some .int) ∈ tb := tbm 695 (by decide +kernel) rfl
theorem ivX9_imagesKept : Cond.instanceMethod yX9_imagesKept ∈ tb ∧ Cond.selects yX9_imagesKept.cls yX9_imagesKept yX9_imagesKept ∈ tb := ⟨tbm 694 (by decide +kernel) rfl, tbm 0 (by decide +kernel) rfl⟩
theorem pnX9_imagesKept : plainName yX9_imagesKept.cls = true := by decide
abbrev mX10_init : MD := (yX10_init, cX10_init, 2, none)
theorem cdX10_init : Cond.code yX10_init cX10_init 2 none ∈ tb := tbm 700 (by decide +kernel) rfl
theorem iiX10_init : Cond.instanceMethod yX10_init ∈ tb ∧ yX10_init.name = "<init>" ∧ (mX10_init).2.2.2 = none := ⟨tbm 699 (by decide +kernel) rfl, rfl, rfl⟩
theorem pnX10_init : plainName yX10_init.cls = true := by decide
abbrev mX10_say : MD := (yX10_say, cX10_say, 2, (some .int))
theorem cdX10_say : Cond.code yX10_say cX10_say 2 (some .int) ∈ tb := tbm 755 (by decide +kernel) rfl
theorem ivX10_say : Cond.instanceMethod yX10_say ∈ tb ∧ Cond.selects yX10_say.cls yX10_say yX10_say ∈ tb := ⟨tbm 753 (by decide +kernel) rfl, tbm 754 (by decide +kernel) rfl⟩
theorem pnX10_say : plainName yX10_say.cls = true := by decide
abbrev mX10_in : MD := (yX10_in, cX10_in, 3, (some .boolean))
theorem cdX10_in : Cond.code yX10_in cX10_in 3 (some .boolean) ∈ tb := tbm 758 (by decide +kernel) rfl
theorem isX10_in : Cond.static yX10_in ∈ tb := tbm 757 (by decide +kernel) rfl
theorem pnX10_in : plainName yX10_in.cls = true := by decide
abbrev mX10_wipe : MD := (yX10_wipe, cX10_wipe, 2, (some .int))
theorem cdX10_wipe : Cond.code yX10_wipe cX10_wipe 2 (some .int) ∈ tb := tbm 762 (by decide +kernel) rfl
theorem ivX10_wipe : Cond.instanceMethod yX10_wipe ∈ tb ∧ Cond.selects yX10_wipe.cls yX10_wipe yX10_wipe ∈ tb := ⟨tbm 760 (by decide +kernel) rfl, tbm 761 (by decide +kernel) rfl⟩
theorem pnX10_wipe : plainName yX10_wipe.cls = true := by decide
abbrev mX10_fault : MD := (yX10_fault, cX10_fault, 1, (some .int))
theorem cdX10_fault : Cond.code yX10_fault cX10_fault 1 (some .int) ∈ tb := tbm 766 (by decide +kernel) rfl
theorem ivX10_fault : Cond.instanceMethod yX10_fault ∈ tb ∧ Cond.selects yX10_fault.cls yX10_fault yX10_fault ∈ tb := ⟨tbm 764 (by decide +kernel) rfl, tbm 765 (by decide +kernel) rfl⟩
theorem pnX10_fault : plainName yX10_fault.cls = true := by decide
abbrev mX10_readPacket : MD := (yX10_readPacket, cX10_readPacket, 2, (some .int))
theorem cdX10_readPacket : Cond.code yX10_readPacket cX10_readPacket 2 (some .int) ∈ tb := tbm 770 (by decide +kernel) rfl
theorem ivX10_readPacket : Cond.instanceMethod yX10_readPacket ∈ tb ∧ Cond.selects yX10_readPacket.cls yX10_readPacket yX10_readPacket ∈ tb := ⟨tbm 769 (by decide +kernel) rfl, tbm 1 (by decide +kernel) rfl⟩
theorem pnX10_readPacket : plainName yX10_readPacket.cls = true := by decide
abbrev mX10_readLetters : MD := (yX10_readLetters, cX10_readLetters, 5, (some .int))
theorem cdX10_readLetters : Cond.code yX10_readLetters cX10_readLetters 5 (some .int) ∈ tb := tbm 774 (by decide +kernel) rfl
theorem ivX10_readLetters : Cond.instanceMethod yX10_readLetters ∈ tb ∧ Cond.selects yX10_readLetters.cls yX10_readLetters yX10_readLetters ∈ tb := ⟨tbm 773 (by decide +kernel) rfl, tbm 2 (by decide +kernel) rfl⟩
theorem pnX10_readLetters : plainName yX10_readLetters.cls = true := by decide
abbrev mX10_isLetter : MD := (yX10_isLetter, cX10_isLetter, 2, (some .boolean))
theorem cdX10_isLetter : Cond.code yX10_isLetter cX10_isLetter 2 (some .boolean) ∈ tb := tbm 778 (by decide +kernel) rfl
theorem ivX10_isLetter : Cond.instanceMethod yX10_isLetter ∈ tb ∧ Cond.selects yX10_isLetter.cls yX10_isLetter yX10_isLetter ∈ tb := ⟨tbm 777 (by decide +kernel) rfl, tbm 3 (by decide +kernel) rfl⟩
theorem pnX10_isLetter : plainName yX10_isLetter.cls = true := by decide
abbrev mX10_readSign : MD := (yX10_readSign, cX10_readSign, 2, none)
theorem cdX10_readSign : Cond.code yX10_readSign cX10_readSign 2 none ∈ tb := tbm 782 (by decide +kernel) rfl
theorem ivX10_readSign : Cond.instanceMethod yX10_readSign ∈ tb ∧ Cond.selects yX10_readSign.cls yX10_readSign yX10_readSign ∈ tb := ⟨tbm 781 (by decide +kernel) rfl, tbm 4 (by decide +kernel) rfl⟩
theorem pnX10_readSign : plainName yX10_readSign.cls = true := by decide
abbrev mX10_isAt : MD := (yX10_isAt, cX10_isAt, 2, (some .boolean))
theorem cdX10_isAt : Cond.code yX10_isAt cX10_isAt 2 (some .boolean) ∈ tb := tbm 786 (by decide +kernel) rfl
theorem ivX10_isAt : Cond.instanceMethod yX10_isAt ∈ tb ∧ Cond.selects yX10_isAt.cls yX10_isAt yX10_isAt ∈ tb := ⟨tbm 785 (by decide +kernel) rfl, tbm 5 (by decide +kernel) rfl⟩
theorem pnX10_isAt : plainName yX10_isAt.cls = true := by decide
abbrev mX10_readWord : MD := (yX10_readWord, cX10_readWord, 4, none)
theorem cdX10_readWord : Cond.code yX10_readWord cX10_readWord 4 none ∈ tb := tbm 790 (by decide +kernel) rfl
theorem ivX10_readWord : Cond.instanceMethod yX10_readWord ∈ tb ∧ Cond.selects yX10_readWord.cls yX10_readWord yX10_readWord ∈ tb := ⟨tbm 789 (by decide +kernel) rfl, tbm 6 (by decide +kernel) rfl⟩
theorem pnX10_readWord : plainName yX10_readWord.cls = true := by decide
abbrev mX10_name : MD := (yX10_name, cX10_name, 4, (some .int))
theorem cdX10_name : Cond.code yX10_name cX10_name 4 (some .int) ∈ tb := tbm 794 (by decide +kernel) rfl
theorem ivX10_name : Cond.instanceMethod yX10_name ∈ tb ∧ Cond.selects yX10_name.cls yX10_name yX10_name ∈ tb := ⟨tbm 792 (by decide +kernel) rfl, tbm 793 (by decide +kernel) rfl⟩
theorem pnX10_name : plainName yX10_name.cls = true := by decide
abbrev mX10_isStation : MD := (yX10_isStation, cX10_isStation, 1, (some .boolean))
theorem cdX10_isStation : Cond.code yX10_isStation cX10_isStation 1 (some .boolean) ∈ tb := tbm 797 (by decide +kernel) rfl
theorem isX10_isStation : Cond.static yX10_isStation ∈ tb := tbm 796 (by decide +kernel) rfl
theorem pnX10_isStation : plainName yX10_isStation.cls = true := by decide
abbrev mX10_readName : MD := (yX10_readName, cX10_readName, 2, (some .int))
theorem cdX10_readName : Cond.code yX10_readName cX10_readName 2 (some .int) ∈ tb := tbm 801 (by decide +kernel) rfl
theorem ivX10_readName : Cond.instanceMethod yX10_readName ∈ tb ∧ Cond.selects yX10_readName.cls yX10_readName yX10_readName ∈ tb := ⟨tbm 800 (by decide +kernel) rfl, tbm 7 (by decide +kernel) rfl⟩
theorem pnX10_readName : plainName yX10_readName.cls = true := by decide
abbrev mX10_call : MD := (yX10_call, cX10_call, 4, (some .int))
theorem cdX10_call : Cond.code yX10_call cX10_call 4 (some .int) ∈ tb := tbm 805 (by decide +kernel) rfl
theorem ivX10_call : Cond.instanceMethod yX10_call ∈ tb ∧ Cond.selects yX10_call.cls yX10_call yX10_call ∈ tb := ⟨tbm 804 (by decide +kernel) rfl, tbm 8 (by decide +kernel) rfl⟩
theorem pnX10_call : plainName yX10_call.cls = true := by decide
abbrev mX10_more : MD := (yX10_more, cX10_more, 6, (some .int))
theorem cdX10_more : Cond.code yX10_more cX10_more 6 (some .int) ∈ tb := tbm 809 (by decide +kernel) rfl
theorem ivX10_more : Cond.instanceMethod yX10_more ∈ tb ∧ Cond.selects yX10_more.cls yX10_more yX10_more ∈ tb := ⟨tbm 808 (by decide +kernel) rfl, tbm 9 (by decide +kernel) rfl⟩
theorem pnX10_more : plainName yX10_more.cls = true := by decide
abbrev mX10_forget : MD := (yX10_forget, cX10_forget, 5, (some .int))
theorem cdX10_forget : Cond.code yX10_forget cX10_forget 5 (some .int) ∈ tb := tbm 813 (by decide +kernel) rfl
theorem ivX10_forget : Cond.instanceMethod yX10_forget ∈ tb ∧ Cond.selects yX10_forget.cls yX10_forget yX10_forget ∈ tb := ⟨tbm 811 (by decide +kernel) rfl, tbm 812 (by decide +kernel) rfl⟩
theorem pnX10_forget : plainName yX10_forget.cls = true := by decide
abbrev mX10_set : MD := (yX10_set, cX10_set, 6, (some .int))
theorem cdX10_set : Cond.code yX10_set cX10_set 6 (some .int) ∈ tb := tbm 817 (by decide +kernel) rfl
theorem ivX10_set : Cond.instanceMethod yX10_set ∈ tb ∧ Cond.selects yX10_set.cls yX10_set yX10_set ∈ tb := ⟨tbm 815 (by decide +kernel) rfl, tbm 816 (by decide +kernel) rfl⟩
theorem pnX10_set : plainName yX10_set.cls = true := by decide
abbrev mX10_near : MD := (yX10_near, cX10_near, 6, (some .int))
theorem cdX10_near : Cond.code yX10_near cX10_near 6 (some .int) ∈ tb := tbm 821 (by decide +kernel) rfl
theorem ivX10_near : Cond.instanceMethod yX10_near ∈ tb ∧ Cond.selects yX10_near.cls yX10_near yX10_near ∈ tb := ⟨tbm 819 (by decide +kernel) rfl, tbm 820 (by decide +kernel) rfl⟩
theorem pnX10_near : plainName yX10_near.cls = true := by decide
abbrev mX10_areNear : MD := (yX10_areNear, cX10_areNear, 3, (some .boolean))
theorem cdX10_areNear : Cond.code yX10_areNear cX10_areNear 3 (some .boolean) ∈ tb := tbm 825 (by decide +kernel) rfl
theorem ivX10_areNear : Cond.instanceMethod yX10_areNear ∈ tb ∧ Cond.selects yX10_areNear.cls yX10_areNear yX10_areNear ∈ tb := ⟨tbm 824 (by decide +kernel) rfl, tbm 10 (by decide +kernel) rfl⟩
theorem pnX10_areNear : plainName yX10_areNear.cls = true := by decide
abbrev mX10_send : MD := (yX10_send, cX10_send, 2, (some .int))
theorem cdX10_send : Cond.code yX10_send cX10_send 2 (some .int) ∈ tb := tbm 829 (by decide +kernel) rfl
theorem ivX10_send : Cond.instanceMethod yX10_send ∈ tb ∧ Cond.selects yX10_send.cls yX10_send yX10_send ∈ tb := ⟨tbm 827 (by decide +kernel) rfl, tbm 828 (by decide +kernel) rfl⟩
theorem pnX10_send : plainName yX10_send.cls = true := by decide
abbrev mX10_keep : MD := (yX10_keep, cX10_keep, 5, (some .boolean))
theorem cdX10_keep : Cond.code yX10_keep cX10_keep 5 (some .boolean) ∈ tb := tbm 833 (by decide +kernel) rfl
theorem ivX10_keep : Cond.instanceMethod yX10_keep ∈ tb ∧ Cond.selects yX10_keep.cls yX10_keep yX10_keep ∈ tb := ⟨tbm 832 (by decide +kernel) rfl, tbm 11 (by decide +kernel) rfl⟩
theorem pnX10_keep : plainName yX10_keep.cls = true := by decide
abbrev mX10_slot : MD := (yX10_slot, cX10_slot, 2, (some .int))
theorem cdX10_slot : Cond.code yX10_slot cX10_slot 2 (some .int) ∈ tb := tbm 836 (by decide +kernel) rfl
theorem isX10_slot : Cond.static yX10_slot ∈ tb := tbm 835 (by decide +kernel) rfl
theorem pnX10_slot : plainName yX10_slot.cls = true := by decide
abbrev mX10_begin : MD := (yX10_begin, cX10_begin, 3, none)
theorem cdX10_begin : Cond.code yX10_begin cX10_begin 3 none ∈ tb := tbm 840 (by decide +kernel) rfl
theorem ivX10_begin : Cond.instanceMethod yX10_begin ∈ tb ∧ Cond.selects yX10_begin.cls yX10_begin yX10_begin ∈ tb := ⟨tbm 839 (by decide +kernel) rfl, tbm 12 (by decide +kernel) rfl⟩
theorem pnX10_begin : plainName yX10_begin.cls = true := by decide
abbrev mX10_placeKnown : MD := (yX10_placeKnown, cX10_placeKnown, 6, (some .int))
theorem cdX10_placeKnown : Cond.code yX10_placeKnown cX10_placeKnown 6 (some .int) ∈ tb := tbm 844 (by decide +kernel) rfl
theorem ivX10_placeKnown : Cond.instanceMethod yX10_placeKnown ∈ tb ∧ Cond.selects yX10_placeKnown.cls yX10_placeKnown yX10_placeKnown ∈ tb := ⟨tbm 843 (by decide +kernel) rfl, tbm 13 (by decide +kernel) rfl⟩
theorem pnX10_placeKnown : plainName yX10_placeKnown.cls = true := by decide
abbrev mX10_known : MD := (yX10_known, cX10_known, 2, (some .int))
theorem cdX10_known : Cond.code yX10_known cX10_known 2 (some .int) ∈ tb := tbm 847 (by decide +kernel) rfl
theorem isX10_known : Cond.static yX10_known ∈ tb := tbm 846 (by decide +kernel) rfl
theorem pnX10_known : plainName yX10_known.cls = true := by decide
abbrev mX10_unknow : MD := (yX10_unknow, cX10_unknow, 5, none)
theorem cdX10_unknow : Cond.code yX10_unknow cX10_unknow 5 none ∈ tb := tbm 851 (by decide +kernel) rfl
theorem ivX10_unknow : Cond.instanceMethod yX10_unknow ∈ tb ∧ Cond.selects yX10_unknow.cls yX10_unknow yX10_unknow ∈ tb := ⟨tbm 850 (by decide +kernel) rfl, tbm 14 (by decide +kernel) rfl⟩
theorem pnX10_unknow : plainName yX10_unknow.cls = true := by decide
abbrev mX10_know : MD := (yX10_know, cX10_know, 5, none)
theorem cdX10_know : Cond.code yX10_know cX10_know 5 none ∈ tb := tbm 855 (by decide +kernel) rfl
theorem ivX10_know : Cond.instanceMethod yX10_know ∈ tb ∧ Cond.selects yX10_know.cls yX10_know yX10_know ∈ tb := ⟨tbm 854 (by decide +kernel) rfl, tbm 15 (by decide +kernel) rfl⟩
theorem pnX10_know : plainName yX10_know.cls = true := by decide
abbrev mX10_run : MD := (yX10_run, cX10_run, 3, (some .int))
theorem cdX10_run : Cond.code yX10_run cX10_run 3 (some .int) ∈ tb := tbm 859 (by decide +kernel) rfl
theorem ivX10_run : Cond.instanceMethod yX10_run ∈ tb ∧ Cond.selects yX10_run.cls yX10_run yX10_run ∈ tb := ⟨tbm 857 (by decide +kernel) rfl, tbm 858 (by decide +kernel) rfl⟩
theorem pnX10_run : plainName yX10_run.cls = true := by decide
abbrev mX10_tick : MD := (yX10_tick, cX10_tick, 2, none)
theorem cdX10_tick : Cond.code yX10_tick cX10_tick 2 none ∈ tb := tbm 863 (by decide +kernel) rfl
theorem ivX10_tick : Cond.instanceMethod yX10_tick ∈ tb ∧ Cond.selects yX10_tick.cls yX10_tick yX10_tick ∈ tb := ⟨tbm 862 (by decide +kernel) rfl, tbm 16 (by decide +kernel) rfl⟩
theorem pnX10_tick : plainName yX10_tick.cls = true := by decide
abbrev mX10_sendOne : MD := (yX10_sendOne, cX10_sendOne, 5, none)
theorem cdX10_sendOne : Cond.code yX10_sendOne cX10_sendOne 5 none ∈ tb := tbm 867 (by decide +kernel) rfl
theorem ivX10_sendOne : Cond.instanceMethod yX10_sendOne ∈ tb ∧ Cond.selects yX10_sendOne.cls yX10_sendOne yX10_sendOne ∈ tb := ⟨tbm 866 (by decide +kernel) rfl, tbm 17 (by decide +kernel) rfl⟩
theorem pnX10_sendOne : plainName yX10_sendOne.cls = true := by decide
abbrev mX10_count : MD := (yX10_count, cX10_count, 3, none)
theorem cdX10_count : Cond.code yX10_count cX10_count 3 none ∈ tb := tbm 871 (by decide +kernel) rfl
theorem ivX10_count : Cond.instanceMethod yX10_count ∈ tb ∧ Cond.selects yX10_count.cls yX10_count yX10_count ∈ tb := ⟨tbm 870 (by decide +kernel) rfl, tbm 18 (by decide +kernel) rfl⟩
theorem pnX10_count : plainName yX10_count.cls = true := by decide
abbrev mX10_hearsFrom : MD := (yX10_hearsFrom, cX10_hearsFrom, 5, (some .int))
theorem cdX10_hearsFrom : Cond.code yX10_hearsFrom cX10_hearsFrom 5 (some .int) ∈ tb := tbm 875 (by decide +kernel) rfl
theorem ivX10_hearsFrom : Cond.instanceMethod yX10_hearsFrom ∈ tb ∧ Cond.selects yX10_hearsFrom.cls yX10_hearsFrom yX10_hearsFrom ∈ tb := ⟨tbm 874 (by decide +kernel) rfl, tbm 19 (by decide +kernel) rfl⟩
theorem pnX10_hearsFrom : plainName yX10_hearsFrom.cls = true := by decide
abbrev mX10_hear : MD := (yX10_hear, cX10_hear, 4, none)
theorem cdX10_hear : Cond.code yX10_hear cX10_hear 4 none ∈ tb := tbm 879 (by decide +kernel) rfl
theorem ivX10_hear : Cond.instanceMethod yX10_hear ∈ tb ∧ Cond.selects yX10_hear.cls yX10_hear yX10_hear ∈ tb := ⟨tbm 878 (by decide +kernel) rfl, tbm 20 (by decide +kernel) rfl⟩
theorem pnX10_hear : plainName yX10_hear.cls = true := by decide
abbrev mX10_look : MD := (yX10_look, cX10_look, 3, none)
theorem cdX10_look : Cond.code yX10_look cX10_look 3 none ∈ tb := tbm 883 (by decide +kernel) rfl
theorem ivX10_look : Cond.instanceMethod yX10_look ∈ tb ∧ Cond.selects yX10_look.cls yX10_look yX10_look ∈ tb := ⟨tbm 882 (by decide +kernel) rfl, tbm 21 (by decide +kernel) rfl⟩
theorem pnX10_look : plainName yX10_look.cls = true := by decide
abbrev mX10_isOwn : MD := (yX10_isOwn, cX10_isOwn, 4, (some .boolean))
theorem cdX10_isOwn : Cond.code yX10_isOwn cX10_isOwn 4 (some .boolean) ∈ tb := tbm 887 (by decide +kernel) rfl
theorem ivX10_isOwn : Cond.instanceMethod yX10_isOwn ∈ tb ∧ Cond.selects yX10_isOwn.cls yX10_isOwn yX10_isOwn ∈ tb := ⟨tbm 886 (by decide +kernel) rfl, tbm 22 (by decide +kernel) rfl⟩
theorem pnX10_isOwn : plainName yX10_isOwn.cls = true := by decide
abbrev mX10_isSpent : MD := (yX10_isSpent, cX10_isSpent, 1, (some .boolean))
theorem cdX10_isSpent : Cond.code yX10_isSpent cX10_isSpent 1 (some .boolean) ∈ tb := tbm 890 (by decide +kernel) rfl
theorem isX10_isSpent : Cond.static yX10_isSpent ∈ tb := tbm 889 (by decide +kernel) rfl
theorem pnX10_isSpent : plainName yX10_isSpent.cls = true := by decide
abbrev mX10_isFor : MD := (yX10_isFor, cX10_isFor, 7, (some .boolean))
theorem cdX10_isFor : Cond.code yX10_isFor cX10_isFor 7 (some .boolean) ∈ tb := tbm 894 (by decide +kernel) rfl
theorem ivX10_isFor : Cond.instanceMethod yX10_isFor ∈ tb ∧ Cond.selects yX10_isFor.cls yX10_isFor yX10_isFor ∈ tb := ⟨tbm 893 (by decide +kernel) rfl, tbm 23 (by decide +kernel) rfl⟩
theorem pnX10_isFor : plainName yX10_isFor.cls = true := by decide
abbrev mX10_hopsOf : MD := (yX10_hopsOf, cX10_hopsOf, 1, (some .int))
theorem cdX10_hopsOf : Cond.code yX10_hopsOf cX10_hopsOf 1 (some .int) ∈ tb := tbm 897 (by decide +kernel) rfl
theorem isX10_hopsOf : Cond.static yX10_hopsOf ∈ tb := tbm 896 (by decide +kernel) rfl
theorem pnX10_hopsOf : plainName yX10_hopsOf.cls = true := by decide
abbrev mX10_isOf : MD := (yX10_isOf, cX10_isOf, 7, (some .boolean))
theorem cdX10_isOf : Cond.code yX10_isOf cX10_isOf 7 (some .boolean) ∈ tb := tbm 901 (by decide +kernel) rfl
theorem ivX10_isOf : Cond.instanceMethod yX10_isOf ∈ tb ∧ Cond.selects yX10_isOf.cls yX10_isOf yX10_isOf ∈ tb := ⟨tbm 900 (by decide +kernel) rfl, tbm 24 (by decide +kernel) rfl⟩
theorem pnX10_isOf : plainName yX10_isOf.cls = true := by decide
abbrev mX10_keptByAll : MD := (yX10_keptByAll, cX10_keptByAll, 3, (some .int))
theorem cdX10_keptByAll : Cond.code yX10_keptByAll cX10_keptByAll 3 (some .int) ∈ tb := tbm 905 (by decide +kernel) rfl
theorem ivX10_keptByAll : Cond.instanceMethod yX10_keptByAll ∈ tb ∧ Cond.selects yX10_keptByAll.cls yX10_keptByAll yX10_keptByAll ∈ tb := ⟨tbm 904 (by decide +kernel) rfl, tbm 25 (by decide +kernel) rfl⟩
theorem pnX10_keptByAll : plainName yX10_keptByAll.cls = true := by decide
abbrev mX10_heard : MD := (yX10_heard, cX10_heard, 3, (some .int))
theorem cdX10_heard : Cond.code yX10_heard cX10_heard 3 (some .int) ∈ tb := tbm 909 (by decide +kernel) rfl
theorem ivX10_heard : Cond.instanceMethod yX10_heard ∈ tb ∧ Cond.selects yX10_heard.cls yX10_heard yX10_heard ∈ tb := ⟨tbm 907 (by decide +kernel) rfl, tbm 908 (by decide +kernel) rfl⟩
theorem pnX10_heard : plainName yX10_heard.cls = true := by decide
abbrev mX10_written : MD := (yX10_written, cX10_written, 3, (some .int))
theorem cdX10_written : Cond.code yX10_written cX10_written 3 (some .int) ∈ tb := tbm 913 (by decide +kernel) rfl
theorem ivX10_written : Cond.instanceMethod yX10_written ∈ tb ∧ Cond.selects yX10_written.cls yX10_written yX10_written ∈ tb := ⟨tbm 911 (by decide +kernel) rfl, tbm 912 (by decide +kernel) rfl⟩
theorem pnX10_written : plainName yX10_written.cls = true := by decide
abbrev mX10_layLine : MD := (yX10_layLine, cX10_layLine, 3, none)
theorem cdX10_layLine : Cond.code yX10_layLine cX10_layLine 3 none ∈ tb := tbm 917 (by decide +kernel) rfl
theorem ivX10_layLine : Cond.instanceMethod yX10_layLine ∈ tb ∧ Cond.selects yX10_layLine.cls yX10_layLine yX10_layLine ∈ tb := ⟨tbm 916 (by decide +kernel) rfl, tbm 26 (by decide +kernel) rfl⟩
theorem pnX10_layLine : plainName yX10_layLine.cls = true := by decide
abbrev mX10_putLetters : MD := (yX10_putLetters, cX10_putLetters, 4, none)
theorem cdX10_putLetters : Cond.code yX10_putLetters cX10_putLetters 4 none ∈ tb := tbm 921 (by decide +kernel) rfl
theorem ivX10_putLetters : Cond.instanceMethod yX10_putLetters ∈ tb ∧ Cond.selects yX10_putLetters.cls yX10_putLetters yX10_putLetters ∈ tb := ⟨tbm 920 (by decide +kernel) rfl, tbm 27 (by decide +kernel) rfl⟩
theorem pnX10_putLetters : plainName yX10_putLetters.cls = true := by decide
abbrev mX10_put : MD := (yX10_put, cX10_put, 2, none)
theorem cdX10_put : Cond.code yX10_put cX10_put 2 none ∈ tb := tbm 925 (by decide +kernel) rfl
theorem ivX10_put : Cond.instanceMethod yX10_put ∈ tb ∧ Cond.selects yX10_put.cls yX10_put yX10_put ∈ tb := ⟨tbm 924 (by decide +kernel) rfl, tbm 28 (by decide +kernel) rfl⟩
theorem pnX10_put : plainName yX10_put.cls = true := by decide
abbrev mX10_words : MD := (yX10_words, cX10_words, 2, (some .int))
theorem cdX10_words : Cond.code yX10_words cX10_words 2 (some .int) ∈ tb := tbm 929 (by decide +kernel) rfl
theorem ivX10_words : Cond.instanceMethod yX10_words ∈ tb ∧ Cond.selects yX10_words.cls yX10_words yX10_words ∈ tb := ⟨tbm 928 (by decide +kernel) rfl, tbm 29 (by decide +kernel) rfl⟩
theorem pnX10_words : plainName yX10_words.cls = true := by decide
abbrev mX10_word : MD := (yX10_word, cX10_word, 3, (some .int))
theorem cdX10_word : Cond.code yX10_word cX10_word 3 (some .int) ∈ tb := tbm 933 (by decide +kernel) rfl
theorem ivX10_word : Cond.instanceMethod yX10_word ∈ tb ∧ Cond.selects yX10_word.cls yX10_word yX10_word ∈ tb := ⟨tbm 932 (by decide +kernel) rfl, tbm 30 (by decide +kernel) rfl⟩
theorem pnX10_word : plainName yX10_word.cls = true := by decide
abbrev mX10_last : MD := (yX10_last, cX10_last, 3, (some .int))
theorem cdX10_last : Cond.code yX10_last cX10_last 3 (some .int) ∈ tb := tbm 937 (by decide +kernel) rfl
theorem ivX10_last : Cond.instanceMethod yX10_last ∈ tb ∧ Cond.selects yX10_last.cls yX10_last yX10_last ∈ tb := ⟨tbm 935 (by decide +kernel) rfl, tbm 936 (by decide +kernel) rfl⟩
theorem pnX10_last : plainName yX10_last.cls = true := by decide
abbrev mX10_spentWords : MD := (yX10_spentWords, cX10_spentWords, 4, (some .int))
theorem cdX10_spentWords : Cond.code yX10_spentWords cX10_spentWords 4 (some .int) ∈ tb := tbm 941 (by decide +kernel) rfl
theorem ivX10_spentWords : Cond.instanceMethod yX10_spentWords ∈ tb ∧ Cond.selects yX10_spentWords.cls yX10_spentWords yX10_spentWords ∈ tb := ⟨tbm 940 (by decide +kernel) rfl, tbm 31 (by decide +kernel) rfl⟩
theorem pnX10_spentWords : plainName yX10_spentWords.cls = true := by decide
abbrev mX10_firstHops : MD := (yX10_firstHops, cX10_firstHops, 3, (some .int))
theorem cdX10_firstHops : Cond.code yX10_firstHops cX10_firstHops 3 (some .int) ∈ tb := tbm 945 (by decide +kernel) rfl
theorem ivX10_firstHops : Cond.instanceMethod yX10_firstHops ∈ tb ∧ Cond.selects yX10_firstHops.cls yX10_firstHops yX10_firstHops ∈ tb := ⟨tbm 944 (by decide +kernel) rfl, tbm 32 (by decide +kernel) rfl⟩
theorem pnX10_firstHops : plainName yX10_firstHops.cls = true := by decide
abbrev mX10_trail : MD := (yX10_trail, cX10_trail, 5, (some .int))
theorem cdX10_trail : Cond.code yX10_trail cX10_trail 5 (some .int) ∈ tb := tbm 949 (by decide +kernel) rfl
theorem ivX10_trail : Cond.instanceMethod yX10_trail ∈ tb ∧ Cond.selects yX10_trail.cls yX10_trail yX10_trail ∈ tb := ⟨tbm 947 (by decide +kernel) rfl, tbm 948 (by decide +kernel) rfl⟩
theorem pnX10_trail : plainName yX10_trail.cls = true := by decide
abbrev mX10_stationOf : MD := (yX10_stationOf, cX10_stationOf, 4, (some .int))
theorem cdX10_stationOf : Cond.code yX10_stationOf cX10_stationOf 4 (some .int) ∈ tb := tbm 953 (by decide +kernel) rfl
theorem ivX10_stationOf : Cond.instanceMethod yX10_stationOf ∈ tb ∧ Cond.selects yX10_stationOf.cls yX10_stationOf yX10_stationOf ∈ tb := ⟨tbm 952 (by decide +kernel) rfl, tbm 33 (by decide +kernel) rfl⟩
theorem pnX10_stationOf : plainName yX10_stationOf.cls = true := by decide
abbrev mX10_reach : MD := (yX10_reach, cX10_reach, 6, (some .int))
theorem cdX10_reach : Cond.code yX10_reach cX10_reach 6 (some .int) ∈ tb := tbm 957 (by decide +kernel) rfl
theorem ivX10_reach : Cond.instanceMethod yX10_reach ∈ tb ∧ Cond.selects yX10_reach.cls yX10_reach yX10_reach ∈ tb := ⟨tbm 955 (by decide +kernel) rfl, tbm 956 (by decide +kernel) rfl⟩
theorem pnX10_reach : plainName yX10_reach.cls = true := by decide
abbrev mX10_reachFrom : MD := (yX10_reachFrom, cX10_reachFrom, 7, (some .int))
theorem cdX10_reachFrom : Cond.code yX10_reachFrom cX10_reachFrom 7 (some .int) ∈ tb := tbm 961 (by decide +kernel) rfl
theorem ivX10_reachFrom : Cond.instanceMethod yX10_reachFrom ∈ tb ∧ Cond.selects yX10_reachFrom.cls yX10_reachFrom yX10_reachFrom ∈ tb := ⟨tbm 960 (by decide +kernel) rfl, tbm 34 (by decide +kernel) rfl⟩
theorem pnX10_reachFrom : plainName yX10_reachFrom.cls = true := by decide
abbrev mX10_save : MD := (yX10_save, cX10_save, 3, none)
theorem cdX10_save : Cond.code yX10_save cX10_save 3 none ∈ tb := tbm 965 (by decide +kernel) rfl
theorem ivX10_save : Cond.instanceMethod yX10_save ∈ tb ∧ Cond.selects yX10_save.cls yX10_save yX10_save ∈ tb := ⟨tbm 964 (by decide +kernel) rfl, tbm 35 (by decide +kernel) rfl⟩
theorem pnX10_save : plainName yX10_save.cls = true := by decide
abbrev mX10_sumOf : MD := (yX10_sumOf, cX10_sumOf, 4, (some .int))
theorem cdX10_sumOf : Cond.code yX10_sumOf cX10_sumOf 4 (some .int) ∈ tb := tbm 969 (by decide +kernel) rfl
theorem ivX10_sumOf : Cond.instanceMethod yX10_sumOf ∈ tb ∧ Cond.selects yX10_sumOf.cls yX10_sumOf yX10_sumOf ∈ tb := ⟨tbm 968 (by decide +kernel) rfl, tbm 36 (by decide +kernel) rfl⟩
theorem pnX10_sumOf : plainName yX10_sumOf.cls = true := by decide
abbrev mX10_load : MD := (yX10_load, cX10_load, 3, none)
theorem cdX10_load : Cond.code yX10_load cX10_load 3 none ∈ tb := tbm 973 (by decide +kernel) rfl
theorem ivX10_load : Cond.instanceMethod yX10_load ∈ tb ∧ Cond.selects yX10_load.cls yX10_load yX10_load ∈ tb := ⟨tbm 972 (by decide +kernel) rfl, tbm 37 (by decide +kernel) rfl⟩
theorem pnX10_load : plainName yX10_load.cls = true := by decide
abbrev mX10_latest : MD := (yX10_latest, cX10_latest, 3, (some .int))
theorem cdX10_latest : Cond.code yX10_latest cX10_latest 3 (some .int) ∈ tb := tbm 977 (by decide +kernel) rfl
theorem ivX10_latest : Cond.instanceMethod yX10_latest ∈ tb ∧ Cond.selects yX10_latest.cls yX10_latest yX10_latest ∈ tb := ⟨tbm 976 (by decide +kernel) rfl, tbm 38 (by decide +kernel) rfl⟩
theorem pnX10_latest : plainName yX10_latest.cls = true := by decide
abbrev mX10_fewest : MD := (yX10_fewest, cX10_fewest, 5, (some .int))
theorem cdX10_fewest : Cond.code yX10_fewest cX10_fewest 5 (some .int) ∈ tb := tbm 981 (by decide +kernel) rfl
theorem ivX10_fewest : Cond.instanceMethod yX10_fewest ∈ tb ∧ Cond.selects yX10_fewest.cls yX10_fewest yX10_fewest ∈ tb := ⟨tbm 979 (by decide +kernel) rfl, tbm 980 (by decide +kernel) rfl⟩
theorem pnX10_fewest : plainName yX10_fewest.cls = true := by decide
abbrev mX10_bridges : MD := (yX10_bridges, cX10_bridges, 7, (some .int))
theorem cdX10_bridges : Cond.code yX10_bridges cX10_bridges 7 (some .int) ∈ tb := tbm 985 (by decide +kernel) rfl
theorem ivX10_bridges : Cond.instanceMethod yX10_bridges ∈ tb ∧ Cond.selects yX10_bridges.cls yX10_bridges yX10_bridges ∈ tb := ⟨tbm 983 (by decide +kernel) rfl, tbm 984 (by decide +kernel) rfl⟩
theorem pnX10_bridges : plainName yX10_bridges.cls = true := by decide
abbrev mX10_image : MD := (yX10_image, cX10_image, 2, (some .int))
theorem cdX10_image : Cond.code yX10_image cX10_image 2 (some .int) ∈ tb := tbm 989 (by decide +kernel) rfl
theorem ivX10_image : Cond.instanceMethod yX10_image ∈ tb ∧ Cond.selects yX10_image.cls yX10_image yX10_image ∈ tb := ⟨tbm 987 (by decide +kernel) rfl, tbm 988 (by decide +kernel) rfl⟩
theorem pnX10_image : plainName yX10_image.cls = true := by decide
abbrev mX10_restore : MD := (yX10_restore, cX10_restore, 2, (some .int))
theorem cdX10_restore : Cond.code yX10_restore cX10_restore 2 (some .int) ∈ tb := tbm 993 (by decide +kernel) rfl
theorem ivX10_restore : Cond.instanceMethod yX10_restore ∈ tb ∧ Cond.selects yX10_restore.cls yX10_restore yX10_restore ∈ tb := ⟨tbm 991 (by decide +kernel) rfl, tbm 992 (by decide +kernel) rfl⟩
theorem pnX10_restore : plainName yX10_restore.cls = true := by decide
abbrev mX10_count_ : MD := (yX10_count_, cX10_count_, 2, (some .int))
theorem cdX10_count_ : Cond.code yX10_count_ cX10_count_ 2 (some .int) ∈ tb := tbm 997 (by decide +kernel) rfl
theorem ivX10_count_ : Cond.instanceMethod yX10_count_ ∈ tb ∧ Cond.selects yX10_count_.cls yX10_count_ yX10_count_ ∈ tb := ⟨tbm 995 (by decide +kernel) rfl, tbm 996 (by decide +kernel) rfl⟩
theorem pnX10_count_ : plainName yX10_count_.cls = true := by decide
abbrev mX10_pairs : MD := (yX10_pairs, cX10_pairs, 3, (some .int))
theorem cdX10_pairs : Cond.code yX10_pairs cX10_pairs 3 (some .int) ∈ tb := tbm 1001 (by decide +kernel) rfl
theorem ivX10_pairs : Cond.instanceMethod yX10_pairs ∈ tb ∧ Cond.selects yX10_pairs.cls yX10_pairs yX10_pairs ∈ tb := ⟨tbm 1000 (by decide +kernel) rfl, tbm 39 (by decide +kernel) rfl⟩
theorem pnX10_pairs : plainName yX10_pairs.cls = true := by decide
theorem x_oi : Cond.instanceMethod Lib.objectInit ∈ tb := tbm 61 (by decide +kernel) rfl
theorem x_oc : Cond.code Lib.objectInit ⟨#[0xb1]⟩ 1 none ∈ tb := tbm 62 (by decide +kernel) rfl
theorem ini_RL : Cond.initialized RL ∈ tb := tbm 40 (by decide +kernel) rfl
theorem ini_RX9 : Cond.initialized RX9 ∈ tb := tbm 41 (by decide +kernel) rfl
theorem ini_RX5 : Cond.initialized RX5 ∈ tb := tbm 42 (by decide +kernel) rfl
theorem ini_RX3 : Cond.initialized RX3 ∈ tb := tbm 43 (by decide +kernel) rfl
theorem ini_RX6 : Cond.initialized RX6 ∈ tb := tbm 44 (by decide +kernel) rfl
theorem ini_RX2 : Cond.initialized RX2 ∈ tb := tbm 45 (by decide +kernel) rfl
theorem ini_RX0 : Cond.initialized RX0 ∈ tb := tbm 46 (by decide +kernel) rfl
theorem ini_RX4 : Cond.initialized RX4 ∈ tb := tbm 47 (by decide +kernel) rfl
theorem ini_RX1 : Cond.initialized RX1 ∈ tb := tbm 48 (by decide +kernel) rfl
theorem ini_RX7 : Cond.initialized RX7 ∈ tb := tbm 49 (by decide +kernel) rfl
theorem ini_RX8 : Cond.initialized RX8 ∈ tb := tbm 50 (by decide +kernel) rfl
theorem ini_RX10 : Cond.initialized RX10 ∈ tb := tbm 51 (by decide +kernel) rfl
theorem ini_RJ6 : Cond.initialized RJ6 ∈ tb := tbm 52 (by decide +kernel) rfl
theorem ini_RJ10 : Cond.initialized RJ10 ∈ tb := tbm 53 (by decide +kernel) rfl
theorem ini_RJ9 : Cond.initialized RJ9 ∈ tb := tbm 54 (by decide +kernel) rfl
theorem ckX0 : CK 0 RX0 TX0 3 := ⟨rfl, tb_sub [149, 151, 153] (by decide +kernel) (by decide +kernel), tyX0_ok, nmX0, rfl, by decide⟩
theorem ckX1 : CK 1 RX1 TX1 4 := ⟨rfl, tb_sub [167, 169, 171, 173] (by decide +kernel) (by decide +kernel), tyX1_ok, nmX1, rfl, by decide⟩
theorem ckX2 : CK 2 RX2 TX2 2 := ⟨rfl, tb_sub [103, 105] (by decide +kernel) (by decide +kernel), tyX2_ok, nmX2, rfl, by decide⟩
theorem ckX3 : CK 3 RX3 TX3 3 := ⟨rfl, tb_sub [242, 244, 246] (by decide +kernel) (by decide +kernel), tyX3_ok, nmX3, rfl, by decide⟩
theorem ckX4 : CK 4 RX4 TX4 4 := ⟨rfl, tb_sub [135, 137, 139, 141] (by decide +kernel) (by decide +kernel), tyX4_ok, nmX4, rfl, by decide⟩
theorem ckX5 : CK 5 RX5 TX5 3 := ⟨rfl, tb_sub [73, 75, 77] (by decide +kernel) (by decide +kernel), tyX5_ok, nmX5, rfl, by decide⟩
theorem ckX6 : CK 6 RX6 TX6 13 := ⟨rfl, tb_sub [207, 209, 211, 213, 215, 217, 219, 221, 223, 225, 227, 229, 231] (by decide +kernel) (by decide +kernel), tyX6_ok, nmX6, rfl, by decide⟩
theorem ckX7 : CK 7 RX7 TX7 4 := ⟨rfl, tb_sub [266, 268, 270, 272] (by decide +kernel) (by decide +kernel), tyX7_ok, nmX7, rfl, by decide⟩
theorem ckX8 : CK 8 RX8 TX8 2 := ⟨rfl, tb_sub [287, 289] (by decide +kernel) (by decide +kernel), tyX8_ok, nmX8, rfl, by decide⟩
theorem ckX9 : CK 9 RX9 TX9 6 := ⟨rfl, tb_sub [298, 300, 302, 304, 306, 308] (by decide +kernel) (by decide +kernel), tyX9_ok, nmX9, rfl, by decide⟩
theorem ckX10 : CK 10 RX10 TX10 16 := ⟨rfl, tb_sub [718, 720, 722, 724, 726, 728, 730, 732, 734, 736, 738, 740, 742, 744, 746, 748] (by decide +kernel) (by decide +kernel), tyX10_ok, nmX10, rfl, by decide⟩
theorem cl_RL_7 : Cond.classLink RL 7 RX9 ∈ tb := tbm 55 (by decide +kernel) rfl
theorem in_RX9 : Cond.instantiable RX9 6 ∈ tb := tbm 56 (by decide +kernel) rfl
theorem ok_RL_9 : okC RL 9 mX9_init 0 := ⟨tbm 57 (by decide +kernel) rfl, ini_RX9, cdX9_init, by decide +kernel⟩
theorem ml_RX9_1 : Cond.methodLink RX9 1 Lib.objectInit ∈ tb := tbm 60 (by decide +kernel) rfl
theorem cl_RX9_7 : Cond.classLink RX9 7 RX5 ∈ tb := tbm 63 (by decide +kernel) rfl
theorem in_RX5 : Cond.instantiable RX5 3 ∈ tb := tbm 64 (by decide +kernel) rfl
theorem ok_RX9_9 : okN RX9 9 mX5_init 0 := ⟨by decide +kernel, ini_RX5, cdX5_init, by decide +kernel⟩
theorem ml_RX5_3 : Cond.methodLink RX5 3 Lib.objectInit ∈ tb := tbm 68 (by decide +kernel) rfl
theorem fl_RX5_9 : FL RX5 9 5 0 true := ⟨_, _, _, ckX5, by decide, tbm 69 (by decide +kernel) rfl, rfl, rfl⟩
theorem fl_RX5_15 : FL RX5 15 5 1 false := ⟨_, _, _, ckX5, by decide, tbm 70 (by decide +kernel) rfl, rfl, rfl⟩
theorem fl_RX9_48 : FL RX9 48 5 1 false := ⟨_, _, _, ckX5, by decide, tbm 71 (by decide +kernel) rfl, rfl, rfl⟩
theorem fl_RX5_19 : FL RX5 19 5 2 false := ⟨_, _, _, ckX5, by decide, tbm 72 (by decide +kernel) rfl, rfl, rfl⟩
theorem ac_int : Cond.arrayClass .int ∈ tb := tbm 80 (by decide +kernel) rfl
theorem cl_RX9_16 : Cond.classLink RX9 16 RX3 ∈ tb := tbm 81 (by decide +kernel) rfl
theorem in_RX3 : Cond.instantiable RX3 3 ∈ tb := tbm 82 (by decide +kernel) rfl
theorem ok_RX9_18 : okC RX9 18 mX3_init 0 := ⟨tbm 83 (by decide +kernel) rfl, ini_RX3, cdX3_init, by decide +kernel⟩
theorem ml_RX3_3 : Cond.methodLink RX3 3 Lib.objectInit ∈ tb := tbm 86 (by decide +kernel) rfl
theorem cl_RX3_9 : Cond.classLink RX3 9 RX6 ∈ tb := tbm 87 (by decide +kernel) rfl
theorem in_RX6 : Cond.instantiable RX6 13 ∈ tb := tbm 89 (by decide +kernel) rfl
theorem ok_RX3_21 : okC RX3 21 mX6_init 1 := ⟨tbm 90 (by decide +kernel) rfl, ini_RX6, cdX6_init, by decide +kernel⟩
theorem ml_RX6_3 : Cond.methodLink RX6 3 Lib.objectInit ∈ tb := tbm 93 (by decide +kernel) rfl
theorem cl_RX6_9 : Cond.classLink RX6 9 RX2 ∈ tb := tbm 94 (by decide +kernel) rfl
theorem in_RX2 : Cond.instantiable RX2 2 ∈ tb := tbm 95 (by decide +kernel) rfl
theorem ok_RX6_11 : okN RX6 11 mX2_init 0 := ⟨by decide +kernel, ini_RX2, cdX2_init, by decide +kernel⟩
theorem ml_RX2_3 : Cond.methodLink RX2 3 Lib.objectInit ∈ tb := tbm 99 (by decide +kernel) rfl
theorem fl_RX2_9 : FL RX2 9 2 0 true := ⟨_, _, _, ckX2, by decide, tbm 100 (by decide +kernel) rfl, rfl, rfl⟩
theorem fl_RX2_21 : FL RX2 21 2 1 false := ⟨_, _, _, ckX2, by decide, tbm 101 (by decide +kernel) rfl, rfl, rfl⟩
theorem fl_RX9_91 : FL RX9 91 2 1 false := ⟨_, _, _, ckX2, by decide, tbm 102 (by decide +kernel) rfl, rfl, rfl⟩
theorem cl_RX6_35 : Cond.classLink RX6 35 RX0 ∈ tb := tbm 108 (by decide +kernel) rfl
theorem in_RX0 : Cond.instantiable RX0 3 ∈ tb := tbm 109 (by decide +kernel) rfl
theorem ok_RX6_37 : okC RX6 37 mX0_init 0 := ⟨tbm 110 (by decide +kernel) rfl, ini_RX0, cdX0_init, by decide +kernel⟩
theorem ml_RX0_3 : Cond.methodLink RX0 3 Lib.objectInit ∈ tb := tbm 113 (by decide +kernel) rfl
theorem cl_RX0_9 : Cond.classLink RX0 9 RX4 ∈ tb := tbm 114 (by decide +kernel) rfl
theorem in_RX4 : Cond.instantiable RX4 4 ∈ tb := tbm 116 (by decide +kernel) rfl
theorem ok_RX0_21 : okN RX0 21 mX4_init 0 := ⟨by decide +kernel, ini_RX4, cdX4_init, by decide +kernel⟩
theorem ml_RX4_3 : Cond.methodLink RX4 3 Lib.objectInit ∈ tb := tbm 120 (by decide +kernel) rfl
theorem fl_RX4_9 : FL RX4 9 4 0 true := ⟨_, _, _, ckX4, by decide, tbm 121 (by decide +kernel) rfl, rfl, rfl⟩
theorem fl_RX4_21 : FL RX4 21 4 1 false := ⟨_, _, _, ckX4, by decide, tbm 122 (by decide +kernel) rfl, rfl, rfl⟩
theorem fl_RX8_32 : FL RX8 32 4 1 false := ⟨_, _, _, ckX4, by decide, tbm 123 (by decide +kernel) rfl, rfl, rfl⟩
theorem fl_RX9_167 : FL RX9 167 4 1 false := ⟨_, _, _, ckX4, by decide, tbm 124 (by decide +kernel) rfl, rfl, rfl⟩
theorem fl_RX8_19 : FL RX8 19 4 2 false := ⟨_, _, _, ckX4, by decide, tbm 125 (by decide +kernel) rfl, rfl, rfl⟩
theorem fl_RX4_25 : FL RX4 25 4 2 false := ⟨_, _, _, ckX4, by decide, tbm 126 (by decide +kernel) rfl, rfl, rfl⟩
theorem fl_RX7_52 : FL RX7 52 4 2 false := ⟨_, _, _, ckX4, by decide, tbm 127 (by decide +kernel) rfl, rfl, rfl⟩
theorem fl_RX1_31 : FL RX1 31 4 2 false := ⟨_, _, _, ckX4, by decide, tbm 128 (by decide +kernel) rfl, rfl, rfl⟩
theorem fl_RX5_31 : FL RX5 31 4 2 false := ⟨_, _, _, ckX4, by decide, tbm 129 (by decide +kernel) rfl, rfl, rfl⟩
theorem fl_RX4_28 : FL RX4 28 4 3 false := ⟨_, _, _, ckX4, by decide, tbm 130 (by decide +kernel) rfl, rfl, rfl⟩
theorem fl_RX8_37 : FL RX8 37 4 3 false := ⟨_, _, _, ckX4, by decide, tbm 131 (by decide +kernel) rfl, rfl, rfl⟩
theorem fl_RX7_55 : FL RX7 55 4 3 false := ⟨_, _, _, ckX4, by decide, tbm 132 (by decide +kernel) rfl, rfl, rfl⟩
theorem fl_RX1_36 : FL RX1 36 4 3 false := ⟨_, _, _, ckX4, by decide, tbm 133 (by decide +kernel) rfl, rfl, rfl⟩
theorem fl_RX5_42 : FL RX5 42 4 3 false := ⟨_, _, _, ckX4, by decide, tbm 134 (by decide +kernel) rfl, rfl, rfl⟩
theorem fl_RX0_11 : FL RX0 11 0 0 true := ⟨_, _, _, ckX0, by decide, tbm 144 (by decide +kernel) rfl, rfl, rfl⟩
theorem fl_RX0_17 : FL RX0 17 0 1 true := ⟨_, _, _, ckX0, by decide, tbm 145 (by decide +kernel) rfl, rfl, rfl⟩
theorem fl_RX0_22 : FL RX0 22 0 2 false := ⟨_, _, _, ckX0, by decide, tbm 146 (by decide +kernel) rfl, rfl, rfl⟩
theorem fl_RX3_73 : FL RX3 73 0 2 false := ⟨_, _, _, ckX0, by decide, tbm 147 (by decide +kernel) rfl, rfl, rfl⟩
theorem fl_RX9_126 : FL RX9 126 0 2 false := ⟨_, _, _, ckX0, by decide, tbm 148 (by decide +kernel) rfl, rfl, rfl⟩
theorem cl_RX6_42 : Cond.classLink RX6 42 RX1 ∈ tb := tbm 156 (by decide +kernel) rfl
theorem in_RX1 : Cond.instantiable RX1 4 ∈ tb := tbm 157 (by decide +kernel) rfl
theorem ok_RX6_44 : okN RX6 44 mX1_init 0 := ⟨by decide +kernel, ini_RX1, cdX1_init, by decide +kernel⟩
theorem ml_RX1_3 : Cond.methodLink RX1 3 Lib.objectInit ∈ tb := tbm 161 (by decide +kernel) rfl
theorem fl_RX1_9 : FL RX1 9 1 0 true := ⟨_, _, _, ckX1, by decide, tbm 162 (by decide +kernel) rfl, rfl, rfl⟩
theorem fl_RX1_15 : FL RX1 15 1 1 true := ⟨_, _, _, ckX1, by decide, tbm 163 (by decide +kernel) rfl, rfl, rfl⟩
theorem fl_RX1_18 : FL RX1 18 1 2 true := ⟨_, _, _, ckX1, by decide, tbm 164 (by decide +kernel) rfl, rfl, rfl⟩
theorem fl_RX1_27 : FL RX1 27 1 3 false := ⟨_, _, _, ckX1, by decide, tbm 165 (by decide +kernel) rfl, rfl, rfl⟩
theorem fl_RX9_149 : FL RX9 149 1 3 false := ⟨_, _, _, ckX1, by decide, tbm 166 (by decide +kernel) rfl, rfl, rfl⟩
theorem cl_RX6_49 : Cond.classLink RX6 49 RX4 ∈ tb := tbm 176 (by decide +kernel) rfl
theorem ok_RX6_51 : okN RX6 51 mX4_init 0 := ⟨by decide +kernel, ini_RX4, cdX4_init, by decide +kernel⟩
theorem fl_RX6_62 : FL RX6 62 6 0 false := ⟨_, _, _, ckX6, by decide, tbm 178 (by decide +kernel) rfl, rfl, rfl⟩
theorem fl_RX7_47 : FL RX7 47 6 0 false := ⟨_, _, _, ckX6, by decide, tbm 179 (by decide +kernel) rfl, rfl, rfl⟩
theorem fl_RX9_79 : FL RX9 79 6 0 false := ⟨_, _, _, ckX6, by decide, tbm 180 (by decide +kernel) rfl, rfl, rfl⟩
theorem fl_RX3_66 : FL RX3 66 6 0 false := ⟨_, _, _, ckX6, by decide, tbm 181 (by decide +kernel) rfl, rfl, rfl⟩
theorem fl_RX6_12 : FL RX6 12 6 1 true := ⟨_, _, _, ckX6, by decide, tbm 182 (by decide +kernel) rfl, rfl, rfl⟩
theorem fl_RX9_84 : FL RX9 84 6 1 true := ⟨_, _, _, ckX6, by decide, tbm 183 (by decide +kernel) rfl, rfl, rfl⟩
theorem fl_RX6_18 : FL RX6 18 6 2 true := ⟨_, _, _, ckX6, by decide, tbm 184 (by decide +kernel) rfl, rfl, rfl⟩
theorem fl_RX9_88 : FL RX9 88 6 2 true := ⟨_, _, _, ckX6, by decide, tbm 185 (by decide +kernel) rfl, rfl, rfl⟩
theorem fl_RX6_21 : FL RX6 21 6 3 false := ⟨_, _, _, ckX6, by decide, tbm 186 (by decide +kernel) rfl, rfl, rfl⟩
theorem fl_RX9_100 : FL RX9 100 6 3 false := ⟨_, _, _, ckX6, by decide, tbm 187 (by decide +kernel) rfl, rfl, rfl⟩
theorem fl_RX6_25 : FL RX6 25 6 4 false := ⟨_, _, _, ckX6, by decide, tbm 188 (by decide +kernel) rfl, rfl, rfl⟩
theorem fl_RX9_103 : FL RX9 103 6 4 false := ⟨_, _, _, ckX6, by decide, tbm 189 (by decide +kernel) rfl, rfl, rfl⟩
theorem fl_RX6_28 : FL RX6 28 6 5 false := ⟨_, _, _, ckX6, by decide, tbm 190 (by decide +kernel) rfl, rfl, rfl⟩
theorem fl_RX9_106 : FL RX9 106 6 5 false := ⟨_, _, _, ckX6, by decide, tbm 191 (by decide +kernel) rfl, rfl, rfl⟩
theorem fl_RX6_31 : FL RX6 31 6 6 true := ⟨_, _, _, ckX6, by decide, tbm 192 (by decide +kernel) rfl, rfl, rfl⟩
theorem fl_RX3_55 : FL RX3 55 6 6 true := ⟨_, _, _, ckX6, by decide, tbm 193 (by decide +kernel) rfl, rfl, rfl⟩
theorem fl_RX9_142 : FL RX9 142 6 6 true := ⟨_, _, _, ckX6, by decide, tbm 194 (by decide +kernel) rfl, rfl, rfl⟩
theorem fl_RX6_38 : FL RX6 38 6 7 true := ⟨_, _, _, ckX6, by decide, tbm 195 (by decide +kernel) rfl, rfl, rfl⟩
theorem fl_RX3_69 : FL RX3 69 6 7 true := ⟨_, _, _, ckX6, by decide, tbm 196 (by decide +kernel) rfl, rfl, rfl⟩
theorem fl_RX9_122 : FL RX9 122 6 7 true := ⟨_, _, _, ckX6, by decide, tbm 197 (by decide +kernel) rfl, rfl, rfl⟩
theorem fl_RX6_45 : FL RX6 45 6 8 true := ⟨_, _, _, ckX6, by decide, tbm 198 (by decide +kernel) rfl, rfl, rfl⟩
theorem fl_RX9_145 : FL RX9 145 6 8 true := ⟨_, _, _, ckX6, by decide, tbm 199 (by decide +kernel) rfl, rfl, rfl⟩
theorem fl_RX6_52 : FL RX6 52 6 9 true := ⟨_, _, _, ckX6, by decide, tbm 200 (by decide +kernel) rfl, rfl, rfl⟩
theorem fl_RX9_156 : FL RX9 156 6 9 true := ⟨_, _, _, ckX6, by decide, tbm 201 (by decide +kernel) rfl, rfl, rfl⟩
theorem fl_RX6_85 : FL RX6 85 6 10 false := ⟨_, _, _, ckX6, by decide, tbm 202 (by decide +kernel) rfl, rfl, rfl⟩
theorem fl_RX9_171 : FL RX9 171 6 10 false := ⟨_, _, _, ckX6, by decide, tbm 203 (by decide +kernel) rfl, rfl, rfl⟩
theorem fl_RX6_56 : FL RX6 56 6 11 true := ⟨_, _, _, ckX6, by decide, tbm 204 (by decide +kernel) rfl, rfl, rfl⟩
theorem fl_RX3_58 : FL RX3 58 6 11 true := ⟨_, _, _, ckX6, by decide, tbm 205 (by decide +kernel) rfl, rfl, rfl⟩
theorem fl_RX6_59 : FL RX6 59 6 12 true := ⟨_, _, _, ckX6, by decide, tbm 206 (by decide +kernel) rfl, rfl, rfl⟩
theorem fl_RX3_11 : FL RX3 11 3 0 true := ⟨_, _, _, ckX3, by decide, tbm 234 (by decide +kernel) rfl, rfl, rfl⟩
theorem fl_RX7_43 : FL RX7 43 3 0 true := ⟨_, _, _, ckX3, by decide, tbm 235 (by decide +kernel) rfl, rfl, rfl⟩
theorem fl_RX9_71 : FL RX9 71 3 0 true := ⟨_, _, _, ckX3, by decide, tbm 236 (by decide +kernel) rfl, rfl, rfl⟩
theorem fl_RX3_17 : FL RX3 17 3 1 true := ⟨_, _, _, ckX3, by decide, tbm 237 (by decide +kernel) rfl, rfl, rfl⟩
theorem fl_RX9_113 : FL RX9 113 3 1 true := ⟨_, _, _, ckX3, by decide, tbm 238 (by decide +kernel) rfl, rfl, rfl⟩
theorem fl_RX3_28 : FL RX3 28 3 2 false := ⟨_, _, _, ckX3, by decide, tbm 239 (by decide +kernel) rfl, rfl, rfl⟩
theorem fl_RX7_71 : FL RX7 71 3 2 false := ⟨_, _, _, ckX3, by decide, tbm 240 (by decide +kernel) rfl, rfl, rfl⟩
theorem fl_RX9_129 : FL RX9 129 3 2 false := ⟨_, _, _, ckX3, by decide, tbm 241 (by decide +kernel) rfl, rfl, rfl⟩
theorem cl_RX9_23 : Cond.classLink RX9 23 RX7 ∈ tb := tbm 249 (by decide +kernel) rfl
theorem in_RX7 : Cond.instantiable RX7 4 ∈ tb := tbm 250 (by decide +kernel) rfl
theorem ok_RX9_25 : okN RX9 25 mX7_init 0 := ⟨by decide +kernel, ini_RX7, cdX7_init, by decide +kernel⟩
theorem ml_RX7_3 : Cond.methodLink RX7 3 Lib.objectInit ∈ tb := tbm 254 (by decide +kernel) rfl
theorem cl_RX7_9 : Cond.classLink RX7 9 RX3 ∈ tb := tbm 255 (by decide +kernel) rfl
theorem ok_RX7_11 : okC RX7 11 mX3_init 0 := ⟨tbm 256 (by decide +kernel) rfl, ini_RX3, cdX3_init, by decide +kernel⟩
theorem cl_RX7_18 : Cond.classLink RX7 18 RX4 ∈ tb := tbm 257 (by decide +kernel) rfl
theorem ok_RX7_20 : okN RX7 20 mX4_init 0 := ⟨by decide +kernel, ini_RX4, cdX4_init, by decide +kernel⟩
theorem fl_RX7_12 : FL RX7 12 7 0 true := ⟨_, _, _, ckX7, by decide, tbm 259 (by decide +kernel) rfl, rfl, rfl⟩
theorem fl_RX9_203 : FL RX9 203 7 0 true := ⟨_, _, _, ckX7, by decide, tbm 260 (by decide +kernel) rfl, rfl, rfl⟩
theorem fl_RX7_21 : FL RX7 21 7 1 true := ⟨_, _, _, ckX7, by decide, tbm 261 (by decide +kernel) rfl, rfl, rfl⟩
theorem fl_RX7_29 : FL RX7 29 7 2 false := ⟨_, _, _, ckX7, by decide, tbm 262 (by decide +kernel) rfl, rfl, rfl⟩
theorem fl_RX9_197 : FL RX9 197 7 2 false := ⟨_, _, _, ckX7, by decide, tbm 263 (by decide +kernel) rfl, rfl, rfl⟩
theorem fl_RX7_33 : FL RX7 33 7 3 false := ⟨_, _, _, ckX7, by decide, tbm 264 (by decide +kernel) rfl, rfl, rfl⟩
theorem fl_RX9_200 : FL RX9 200 7 3 false := ⟨_, _, _, ckX7, by decide, tbm 265 (by decide +kernel) rfl, rfl, rfl⟩
theorem cl_RX9_34 : Cond.classLink RX9 34 RX4 ∈ tb := tbm 276 (by decide +kernel) rfl
theorem ok_RX9_36 : okN RX9 36 mX4_init 0 := ⟨by decide +kernel, ini_RX4, cdX4_init, by decide +kernel⟩
theorem cl_RX9_41 : Cond.classLink RX9 41 RX8 ∈ tb := tbm 278 (by decide +kernel) rfl
theorem in_RX8 : Cond.instantiable RX8 2 ∈ tb := tbm 279 (by decide +kernel) rfl
theorem ok_RX9_43 : okN RX9 43 mX8_init 0 := ⟨by decide +kernel, ini_RX8, cdX8_init, by decide +kernel⟩
theorem ml_RX8_3 : Cond.methodLink RX8 3 Lib.objectInit ∈ tb := tbm 283 (by decide +kernel) rfl
theorem fl_RX8_9 : FL RX8 9 8 0 true := ⟨_, _, _, ckX8, by decide, tbm 284 (by decide +kernel) rfl, rfl, rfl⟩
theorem fl_RX8_15 : FL RX8 15 8 1 false := ⟨_, _, _, ckX8, by decide, tbm 285 (by decide +kernel) rfl, rfl, rfl⟩
theorem fl_RX9_163 : FL RX9 163 8 1 false := ⟨_, _, _, ckX8, by decide, tbm 286 (by decide +kernel) rfl, rfl, rfl⟩
theorem fl_RX9_10 : FL RX9 10 9 0 true := ⟨_, _, _, ckX9, by decide, tbm 292 (by decide +kernel) rfl, rfl, rfl⟩
theorem fl_RX9_19 : FL RX9 19 9 1 true := ⟨_, _, _, ckX9, by decide, tbm 293 (by decide +kernel) rfl, rfl, rfl⟩
theorem fl_RX9_26 : FL RX9 26 9 2 true := ⟨_, _, _, ckX9, by decide, tbm 294 (by decide +kernel) rfl, rfl, rfl⟩
theorem fl_RX9_30 : FL RX9 30 9 3 true := ⟨_, _, _, ckX9, by decide, tbm 295 (by decide +kernel) rfl, rfl, rfl⟩
theorem fl_RX9_37 : FL RX9 37 9 4 true := ⟨_, _, _, ckX9, by decide, tbm 296 (by decide +kernel) rfl, rfl, rfl⟩
theorem fl_RX9_44 : FL RX9 44 9 5 true := ⟨_, _, _, ckX9, by decide, tbm 297 (by decide +kernel) rfl, rfl, rfl⟩
theorem ok_RL_13 : okC RL 13 mX9_say 1 := ⟨tbm 311 (by decide +kernel) rfl, ini_RX9, cdX9_say, by decide +kernel⟩
theorem ok_RX9_52 : okC RX9 52 mX5_add 1 := ⟨tbm 315 (by decide +kernel) rfl, ini_RX5, cdX5_add, by decide +kernel⟩
theorem ok_RL_18 : okC RL 18 mX9_wipe 0 := ⟨tbm 319 (by decide +kernel) rfl, ini_RX9, cdX9_wipe, by decide +kernel⟩
theorem ok_RX9_56 : okC RX9 56 mX5_clear 0 := ⟨tbm 323 (by decide +kernel) rfl, ini_RX5, cdX5_clear, by decide +kernel⟩
theorem ok_RL_23 : okC RL 23 mX9_fault 0 := ⟨tbm 327 (by decide +kernel) rfl, ini_RX9, cdX9_fault, by decide +kernel⟩
theorem ok_RX9_59 : okC RX9 59 mX5_readPacket 1 := ⟨tbm 331 (by decide +kernel) rfl, ini_RX5, cdX5_readPacket, by decide +kernel⟩
theorem ok_RX5_26 : okC RX5 26 mX4_clear 0 := ⟨tbm 335 (by decide +kernel) rfl, ini_RX4, cdX4_clear, by decide +kernel⟩
theorem ok_RX5_22 : okC RX5 22 mX5_readLetters 2 := ⟨tbm 339 (by decide +kernel) rfl, ini_RX5, cdX5_readLetters, by decide +kernel⟩
theorem ok_RX5_45 : okC RX5 45 mX5_peek 0 := ⟨tbm 343 (by decide +kernel) rfl, ini_RX5, cdX5_peek, by decide +kernel⟩
theorem ok_RX5_34 : okC RX5 34 mX5_take 1 := ⟨tbm 347 (by decide +kernel) rfl, ini_RX5, cdX5_take, by decide +kernel⟩
theorem ok_RX5_38 : okC RX5 38 mX5_readWords 1 := ⟨tbm 351 (by decide +kernel) rfl, ini_RX5, cdX5_readWords, by decide +kernel⟩
theorem ok_RX5_49 : okC RX5 49 mX5_readWord 1 := ⟨tbm 355 (by decide +kernel) rfl, ini_RX5, cdX5_readWord, by decide +kernel⟩
theorem ok_RX5_52 : okN RX5 52 mX9_isHops 1 := ⟨by decide +kernel, ini_RX9, cdX9_isHops, by decide +kernel⟩
theorem ok_RX5_55 : okC RX5 55 mX4_addWord 3 := ⟨tbm 362 (by decide +kernel) rfl, ini_RX4, cdX4_addWord, by decide +kernel⟩
theorem ok_RL_27 : okC RL 27 mX9_name 2 := ⟨tbm 366 (by decide +kernel) rfl, ini_RX9, cdX9_name, by decide +kernel⟩
theorem ok_RX9_63 : okC RX9 63 mX9_isStation 1 := ⟨tbm 370 (by decide +kernel) rfl, ini_RX9, cdX9_isStation, by decide +kernel⟩
theorem ok_RX9_67 : okC RX9 67 mX5_readName 0 := ⟨tbm 373 (by decide +kernel) rfl, ini_RX5, cdX5_readName, by decide +kernel⟩
theorem ok_RX9_75 : okC RX9 75 mX3_stationCalled 1 := ⟨tbm 377 (by decide +kernel) rfl, ini_RX3, cdX3_stationCalled, by decide +kernel⟩
theorem ok_RX9_94 : okC RX9 94 mX2_add 1 := ⟨tbm 381 (by decide +kernel) rfl, ini_RX2, cdX2_add, by decide +kernel⟩
theorem ok_RL_32 : okC RL 32 mX9_forget 2 := ⟨tbm 385 (by decide +kernel) rfl, ini_RX9, cdX9_forget, by decide +kernel⟩
theorem ok_RX9_95 : okC RX9 95 mX2_clear 0 := ⟨tbm 389 (by decide +kernel) rfl, ini_RX2, cdX2_clear, by decide +kernel⟩
theorem ok_RL_36 : okC RL 36 mX9_set 3 := ⟨tbm 393 (by decide +kernel) rfl, ini_RX9, cdX9_set, by decide +kernel⟩
theorem ok_RX9_96 : okC RX9 96 mX9_isSetting 2 := ⟨tbm 397 (by decide +kernel) rfl, ini_RX9, cdX9_isSetting, by decide +kernel⟩
theorem ok_RL_41 : okC RL 41 mX9_near 3 := ⟨tbm 400 (by decide +kernel) rfl, ini_RX9, cdX9_near, by decide +kernel⟩
theorem ok_RX9_109 : okC RX9 109 mX3_join 3 := ⟨tbm 404 (by decide +kernel) rfl, ini_RX3, cdX3_join, by decide +kernel⟩
theorem ok_RX3_35 : okN RX3 35 mX9_isStation 1 := ⟨by decide +kernel, ini_RX9, cdX9_isStation, by decide +kernel⟩
theorem ok_RX9_117 : okC RX9 117 mJ6_bitCount_0f7a4 1 := ⟨tbm 409 (by decide +kernel) rfl, ini_RJ6, cdJ6_bitCount_0f7a4, by decide +kernel⟩
theorem ct_RJ6_265 : Cond.constant RJ6 265 1431655765 ∈ tb := tbm 412 (by decide +kernel) rfl
theorem ct_RJ6_266 : Cond.constant RJ6 266 858993459 ∈ tb := tbm 413 (by decide +kernel) rfl
theorem ct_RJ6_267 : Cond.constant RJ6 267 252645135 ∈ tb := tbm 414 (by decide +kernel) rfl
theorem ok_RL_45 : okC RL 45 mX9_send 1 := ⟨tbm 415 (by decide +kernel) rfl, ini_RX9, cdX9_send, by decide +kernel⟩
theorem ok_RX9_132 : okC RX9 132 mX6_originate 2 := ⟨tbm 419 (by decide +kernel) rfl, ini_RX6, cdX6_originate, by decide +kernel⟩
theorem ok_RX6_95 : okC RX6 95 mX0_add 2 := ⟨tbm 423 (by decide +kernel) rfl, ini_RX0, cdX0_add, by decide +kernel⟩
theorem ok_RX0_26 : okC RX0 26 mX4_copyFrom 1 := ⟨tbm 427 (by decide +kernel) rfl, ini_RX4, cdX4_copyFrom, by decide +kernel⟩
theorem ml_RX4_15 : Cond.methodLink RX4 15 arraycopyName ∈ tb := tbm 431 (by decide +kernel) rfl
theorem x_nat : Cond.native arraycopyName ∈ tb := tbm 433 (by decide +kernel) rfl
theorem ok_RX6_99 : okC RX6 99 mX1_placeOf 1 := ⟨tbm 434 (by decide +kernel) rfl, ini_RX1, cdX1_placeOf, by decide +kernel⟩
theorem ok_RX6_103 : okC RX6 103 mX1_removeAt 1 := ⟨tbm 438 (by decide +kernel) rfl, ini_RX1, cdX1_removeAt, by decide +kernel⟩
theorem ok_RX1_43 : okC RX1 43 mX1_move 2 := ⟨tbm 442 (by decide +kernel) rfl, ini_RX1, cdX1_move, by decide +kernel⟩
theorem ok_RX6_107 : okC RX6 107 mX1_add 2 := ⟨tbm 446 (by decide +kernel) rfl, ini_RX1, cdX1_add, by decide +kernel⟩
theorem ok_RX1_39 : okC RX1 39 mX1_removeAt 1 := ⟨tbm 450 (by decide +kernel) rfl, ini_RX1, cdX1_removeAt, by decide +kernel⟩
theorem ok_RL_49 : okC RL 49 mX9_run 1 := ⟨tbm 451 (by decide +kernel) rfl, ini_RX9, cdX9_run, by decide +kernel⟩
theorem ok_RX9_136 : okC RX9 136 mX3_passTick 0 := ⟨tbm 455 (by decide +kernel) rfl, ini_RX3, cdX3_passTick, by decide +kernel⟩
theorem ok_RX3_39 : okC RX3 39 mX6_startSending 1 := ⟨tbm 459 (by decide +kernel) rfl, ini_RX6, cdX6_startSending, by decide +kernel⟩
theorem ok_RX6_110 : okC RX6 110 mX0_takeDue 2 := ⟨tbm 463 (by decide +kernel) rfl, ini_RX0, cdX0_takeDue, by decide +kernel⟩
theorem ok_RX0_30 : okC RX0 30 mX0_removeAt 1 := ⟨tbm 467 (by decide +kernel) rfl, ini_RX0, cdX0_removeAt, by decide +kernel⟩
theorem ok_RX3_42 : okN RX3 42 mX9_isIn 2 := ⟨by decide +kernel, ini_RX9, cdX9_isIn, by decide +kernel⟩
theorem ok_RX3_46 : okC RX3 46 mX3_firstIn 1 := ⟨tbm 474 (by decide +kernel) rfl, ini_RX3, cdX3_firstIn, by decide +kernel⟩
theorem ok_RX3_50 : okC RX3 50 mJ6_bitCount_0f7a4 1 := ⟨tbm 477 (by decide +kernel) rfl, ini_RJ6, cdJ6_bitCount_0f7a4, by decide +kernel⟩
theorem ok_RX3_62 : okC RX3 62 mX6_hear 2 := ⟨tbm 478 (by decide +kernel) rfl, ini_RX6, cdX6_hear, by decide +kernel⟩
theorem ok_RX6_82 : okC RX6 82 mX4_copyFrom 1 := ⟨tbm 482 (by decide +kernel) rfl, ini_RX4, cdX4_copyFrom, by decide +kernel⟩
theorem ok_RX6_114 : okC RX6 114 mX1_dropOld 2 := ⟨tbm 483 (by decide +kernel) rfl, ini_RX1, cdX1_dropOld, by decide +kernel⟩
theorem ok_RX6_118 : okC RX6 118 mX4_wasSentBy 1 := ⟨tbm 487 (by decide +kernel) rfl, ini_RX4, cdX4_wasSentBy, by decide +kernel⟩
theorem ok_RX6_122 : okC RX6 122 mX4_firstUnspent 0 := ⟨tbm 491 (by decide +kernel) rfl, ini_RX4, cdX4_firstUnspent, by decide +kernel⟩
theorem ok_RX6_126 : okC RX6 126 mX6_changeIfMeant 2 := ⟨tbm 495 (by decide +kernel) rfl, ini_RX6, cdX6_changeIfMeant, by decide +kernel⟩
theorem ok_RX6_129 : okC RX6 129 mX4_nameAt 1 := ⟨tbm 499 (by decide +kernel) rfl, ini_RX4, cdX4_nameAt, by decide +kernel⟩
theorem ok_RX4_31 : okC RX4 31 mX4_isPlace 1 := ⟨tbm 503 (by decide +kernel) rfl, ini_RX4, cdX4_isPlace, by decide +kernel⟩
theorem ok_RX6_133 : okC RX6 133 mX4_hopsAt 1 := ⟨tbm 507 (by decide +kernel) rfl, ini_RX4, cdX4_hopsAt, by decide +kernel⟩
theorem ok_RX6_136 : okC RX6 136 mX2_has 1 := ⟨tbm 511 (by decide +kernel) rfl, ini_RX2, cdX2_has, by decide +kernel⟩
theorem ok_RX6_139 : okC RX6 139 mX4_spend 2 := ⟨tbm 515 (by decide +kernel) rfl, ini_RX4, cdX4_spend, by decide +kernel⟩
theorem ml_RX6_142 : Cond.methodLink RX6 142 Lib.Math.min.name ∈ tb := tbm 519 (by decide +kernel) rfl
theorem ok_RX6_148 : okC RX6 148 mX4_setHops 2 := ⟨tbm 522 (by decide +kernel) rfl, ini_RX4, cdX4_setHops, by decide +kernel⟩
theorem ok_RX6_151 : okC RX6 151 mX4_putAhead 2 := ⟨tbm 526 (by decide +kernel) rfl, ini_RX4, cdX4_putAhead, by decide +kernel⟩
theorem ok_RX9_139 : okC RX9 139 mX3_keptByAll 0 := ⟨tbm 530 (by decide +kernel) rfl, ini_RX3, cdX3_keptByAll, by decide +kernel⟩
theorem ok_RL_53 : okC RL 53 mX9_heard 2 := ⟨tbm 534 (by decide +kernel) rfl, ini_RX9, cdX9_heard, by decide +kernel⟩
theorem ok_RL_57 : okC RL 57 mX9_written 2 := ⟨tbm 538 (by decide +kernel) rfl, ini_RX9, cdX9_written, by decide +kernel⟩
theorem ok_RX9_152 : okC RX9 152 mX6_hasHeard 0 := ⟨tbm 542 (by decide +kernel) rfl, ini_RX6, cdX6_hasHeard, by decide +kernel⟩
theorem ok_RX9_159 : okC RX9 159 mX8_write 1 := ⟨tbm 546 (by decide +kernel) rfl, ini_RX8, cdX8_write, by decide +kernel⟩
theorem ok_RX8_24 : okC RX8 24 mX8_putLetters 2 := ⟨tbm 550 (by decide +kernel) rfl, ini_RX8, cdX8_putLetters, by decide +kernel⟩
theorem ok_RX8_28 : okC RX8 28 mX8_put 1 := ⟨tbm 554 (by decide +kernel) rfl, ini_RX8, cdX8_put, by decide +kernel⟩
theorem ok_RX8_33 : okC RX8 33 mX8_putWord 2 := ⟨tbm 558 (by decide +kernel) rfl, ini_RX8, cdX8_putWord, by decide +kernel⟩
theorem ok_RX8_40 : okC RX8 40 mX4_nameAt 1 := ⟨tbm 562 (by decide +kernel) rfl, ini_RX4, cdX4_nameAt, by decide +kernel⟩
theorem ok_RX8_44 : okC RX8 44 mX4_hopsAt 1 := ⟨tbm 563 (by decide +kernel) rfl, ini_RX4, cdX4_hopsAt, by decide +kernel⟩
theorem ok_RX8_47 : okC RX8 47 mX4_isSpentAt 1 := ⟨tbm 564 (by decide +kernel) rfl, ini_RX4, cdX4_isSpentAt, by decide +kernel⟩
theorem ok_RX9_164 : okC RX9 164 mX8_signAt 1 := ⟨tbm 568 (by decide +kernel) rfl, ini_RX8, cdX8_signAt, by decide +kernel⟩
theorem ok_RL_61 : okC RL 61 mX9_last 2 := ⟨tbm 572 (by decide +kernel) rfl, ini_RX9, cdX9_last, by decide +kernel⟩
theorem ok_RX9_168 : okC RX9 168 mX4_spentWords 0 := ⟨tbm 576 (by decide +kernel) rfl, ini_RX4, cdX4_spentWords, by decide +kernel⟩
theorem ok_RX9_174 : okC RX9 174 mX4_firstUnspent 0 := ⟨tbm 580 (by decide +kernel) rfl, ini_RX4, cdX4_firstUnspent, by decide +kernel⟩
theorem ok_RX9_177 : okC RX9 177 mX4_hopsAt 1 := ⟨tbm 581 (by decide +kernel) rfl, ini_RX4, cdX4_hopsAt, by decide +kernel⟩
theorem ok_RL_65 : okC RL 65 mX9_trail 2 := ⟨tbm 582 (by decide +kernel) rfl, ini_RX9, cdX9_trail, by decide +kernel⟩
theorem ok_RX9_180 : okC RX9 180 mX4_placeOfSpent 1 := ⟨tbm 586 (by decide +kernel) rfl, ini_RX4, cdX4_placeOfSpent, by decide +kernel⟩
theorem ok_RX9_183 : okC RX9 183 mX4_nameAt 1 := ⟨tbm 590 (by decide +kernel) rfl, ini_RX4, cdX4_nameAt, by decide +kernel⟩
theorem ok_RL_69 : okC RL 69 mX9_reach 3 := ⟨tbm 591 (by decide +kernel) rfl, ini_RX9, cdX9_reach, by decide +kernel⟩
theorem ok_RX9_186 : okC RX9 186 mX9_isHops 1 := ⟨tbm 595 (by decide +kernel) rfl, ini_RX9, cdX9_isHops, by decide +kernel⟩
theorem ok_RX9_189 : okC RX9 189 mX7_prepare 1 := ⟨tbm 596 (by decide +kernel) rfl, ini_RX7, cdX7_prepare, by decide +kernel⟩
theorem ok_RX7_25 : okC RX7 25 mX3_beginLike 1 := ⟨tbm 600 (by decide +kernel) rfl, ini_RX3, cdX3_beginLike, by decide +kernel⟩
theorem ok_RX3_32 : okC RX3 32 mX6_beginLike 1 := ⟨tbm 604 (by decide +kernel) rfl, ini_RX6, cdX6_beginLike, by decide +kernel⟩
theorem ok_RX6_65 : okC RX6 65 mX6_copySettings 1 := ⟨tbm 608 (by decide +kernel) rfl, ini_RX6, cdX6_copySettings, by decide +kernel⟩
theorem ok_RX6_92 : okC RX6 92 mX2_copyFrom 1 := ⟨tbm 612 (by decide +kernel) rfl, ini_RX2, cdX2_copyFrom, by decide +kernel⟩
theorem ml_RX2_15 : Cond.methodLink RX2 15 arraycopyName ∈ tb := tbm 616 (by decide +kernel) rfl
theorem ok_RX6_88 : okC RX6 88 mX0_clear 0 := ⟨tbm 617 (by decide +kernel) rfl, ini_RX0, cdX0_clear, by decide +kernel⟩
theorem ok_RX6_91 : okC RX6 91 mX1_clear 0 := ⟨tbm 621 (by decide +kernel) rfl, ini_RX1, cdX1_clear, by decide +kernel⟩
theorem ok_RX9_193 : okC RX9 193 mX7_spread 3 := ⟨tbm 625 (by decide +kernel) rfl, ini_RX7, cdX7_spread, by decide +kernel⟩
theorem ok_RX7_36 : okN RX7 36 mX9_isStation 1 := ⟨by decide +kernel, ini_RX9, cdX9_isStation, by decide +kernel⟩
theorem ok_RX7_40 : okC RX7 40 mX4_clear 0 := ⟨tbm 630 (by decide +kernel) rfl, ini_RX4, cdX4_clear, by decide +kernel⟩
theorem ok_RX7_58 : okC RX7 58 mX4_addWord 3 := ⟨tbm 631 (by decide +kernel) rfl, ini_RX4, cdX4_addWord, by decide +kernel⟩
theorem ok_RX7_62 : okC RX7 62 mX6_originate 2 := ⟨tbm 632 (by decide +kernel) rfl, ini_RX6, cdX6_originate, by decide +kernel⟩
theorem ct_RX7_66 : Cond.constant RX7 66 100000 ∈ tb := tbm 633 (by decide +kernel) rfl
theorem ok_RX7_67 : okC RX7 67 mX3_keptByAll 0 := ⟨tbm 634 (by decide +kernel) rfl, ini_RX3, cdX3_keptByAll, by decide +kernel⟩
theorem ok_RX7_74 : okC RX7 74 mX3_passTick 0 := ⟨tbm 635 (by decide +kernel) rfl, ini_RX3, cdX3_passTick, by decide +kernel⟩
theorem ok_RX7_77 : okC RX7 77 mX3_hearers 0 := ⟨tbm 636 (by decide +kernel) rfl, ini_RX3, cdX3_hearers, by decide +kernel⟩
theorem ok_RX3_78 : okC RX3 78 mX6_hasHeard 0 := ⟨tbm 640 (by decide +kernel) rfl, ini_RX6, cdX6_hasHeard, by decide +kernel⟩
theorem ok_RX9_204 : okC RX9 204 mX3_tallyOfAll 1 := ⟨tbm 641 (by decide +kernel) rfl, ini_RX3, cdX3_tallyOfAll, by decide +kernel⟩
theorem ok_RL_73 : okC RL 73 mX9_fewest 2 := ⟨tbm 645 (by decide +kernel) rfl, ini_RX9, cdX9_fewest, by decide +kernel⟩
theorem ok_RX9_207 : okC RX9 207 mX9_isIn 2 := ⟨tbm 649 (by decide +kernel) rfl, ini_RX9, cdX9_isIn, by decide +kernel⟩
theorem ok_RL_77 : okC RL 77 mX9_bridges 3 := ⟨tbm 650 (by decide +kernel) rfl, ini_RX9, cdX9_bridges, by decide +kernel⟩
theorem ok_RX9_210 : okC RX9 210 mX3_isolate 1 := ⟨tbm 654 (by decide +kernel) rfl, ini_RX3, cdX3_isolate, by decide +kernel⟩
theorem ok_RL_81 : okC RL 81 mX9_image 1 := ⟨tbm 658 (by decide +kernel) rfl, ini_RX9, cdX9_image, by decide +kernel⟩
theorem ok_RX9_213 : okC RX9 213 mX3_copyFrom 1 := ⟨tbm 662 (by decide +kernel) rfl, ini_RX3, cdX3_copyFrom, by decide +kernel⟩
theorem ok_RX3_24 : okC RX3 24 mX6_copyFrom 1 := ⟨tbm 666 (by decide +kernel) rfl, ini_RX6, cdX6_copyFrom, by decide +kernel⟩
theorem ml_RX6_69 : Cond.methodLink RX6 69 arraycopyName ∈ tb := tbm 670 (by decide +kernel) rfl
theorem ok_RX6_75 : okC RX6 75 mX0_copyFrom 1 := ⟨tbm 671 (by decide +kernel) rfl, ini_RX0, cdX0_copyFrom, by decide +kernel⟩
theorem ok_RX6_79 : okC RX6 79 mX1_copyFrom 1 := ⟨tbm 675 (by decide +kernel) rfl, ini_RX1, cdX1_copyFrom, by decide +kernel⟩
theorem ml_RX1_21 : Cond.methodLink RX1 21 arraycopyName ∈ tb := tbm 679 (by decide +kernel) rfl
theorem ok_RL_85 : okC RL 85 mX9_restore 1 := ⟨tbm 680 (by decide +kernel) rfl, ini_RX9, cdX9_restore, by decide +kernel⟩
theorem ok_RL_89 : okC RL 89 mX9_count 1 := ⟨tbm 684 (by decide +kernel) rfl, ini_RX9, cdX9_count, by decide +kernel⟩
theorem ok_RX9_216 : okC RX9 216 mX3_pairsNear 0 := ⟨tbm 688 (by decide +kernel) rfl, ini_RX3, cdX3_pairsNear, by decide +kernel⟩
theorem ok_RX9_219 : okC RX9 219 mX9_imagesKept 0 := ⟨tbm 692 (by decide +kernel) rfl, ini_RX9, cdX9_imagesKept, by decide +kernel⟩
theorem cl_RL_10 : Cond.classLink RL 10 RX10 ∈ tb := tbm 696 (by decide +kernel) rfl
theorem in_RX10 : Cond.instantiable RX10 16 ∈ tb := tbm 697 (by decide +kernel) rfl
theorem ok_RL_12 : okC RL 12 mX10_init 0 := ⟨tbm 698 (by decide +kernel) rfl, ini_RX10, cdX10_init, by decide +kernel⟩
theorem ml_RX10_1 : Cond.methodLink RX10 1 Lib.objectInit ∈ tb := tbm 701 (by decide +kernel) rfl
theorem fl_RX10_7 : FL RX10 7 10 0 true := ⟨_, _, _, ckX10, by decide, tbm 702 (by decide +kernel) rfl, rfl, rfl⟩
theorem fl_RX10_13 : FL RX10 13 10 1 true := ⟨_, _, _, ckX10, by decide, tbm 703 (by decide +kernel) rfl, rfl, rfl⟩
theorem fl_RX10_16 : FL RX10 16 10 2 true := ⟨_, _, _, ckX10, by decide, tbm 704 (by decide +kernel) rfl, rfl, rfl⟩
theorem fl_RX10_20 : FL RX10 20 10 3 true := ⟨_, _, _, ckX10, by decide, tbm 705 (by decide +kernel) rfl, rfl, rfl⟩
theorem fl_RX10_45 : FL RX10 45 10 4 false := ⟨_, _, _, ckX10, by decide, tbm 706 (by decide +kernel) rfl, rfl, rfl⟩
theorem fl_RX10_23 : FL RX10 23 10 5 true := ⟨_, _, _, ckX10, by decide, tbm 707 (by decide +kernel) rfl, rfl, rfl⟩
theorem fl_RX10_49 : FL RX10 49 10 6 false := ⟨_, _, _, ckX10, by decide, tbm 708 (by decide +kernel) rfl, rfl, rfl⟩
theorem fl_RX10_56 : FL RX10 56 10 7 false := ⟨_, _, _, ckX10, by decide, tbm 709 (by decide +kernel) rfl, rfl, rfl⟩
theorem fl_RX10_26 : FL RX10 26 10 8 true := ⟨_, _, _, ckX10, by decide, tbm 710 (by decide +kernel) rfl, rfl, rfl⟩
theorem fl_RX10_29 : FL RX10 29 10 9 true := ⟨_, _, _, ckX10, by decide, tbm 711 (by decide +kernel) rfl, rfl, rfl⟩
theorem fl_RX10_32 : FL RX10 32 10 10 true := ⟨_, _, _, ckX10, by decide, tbm 712 (by decide +kernel) rfl, rfl, rfl⟩
theorem fl_RX10_35 : FL RX10 35 10 11 true := ⟨_, _, _, ckX10, by decide, tbm 713 (by decide +kernel) rfl, rfl, rfl⟩
theorem fl_RX10_38 : FL RX10 38 10 12 true := ⟨_, _, _, ckX10, by decide, tbm 714 (by decide +kernel) rfl, rfl, rfl⟩
theorem fl_RX10_157 : FL RX10 157 10 13 false := ⟨_, _, _, ckX10, by decide, tbm 715 (by decide +kernel) rfl, rfl, rfl⟩
theorem fl_RX10_190 : FL RX10 190 10 14 false := ⟨_, _, _, ckX10, by decide, tbm 716 (by decide +kernel) rfl, rfl, rfl⟩
theorem fl_RX10_193 : FL RX10 193 10 15 false := ⟨_, _, _, ckX10, by decide, tbm 717 (by decide +kernel) rfl, rfl, rfl⟩
theorem ac_boolean : Cond.arrayClass .boolean ∈ tb := tbm 751 (by decide +kernel) rfl
theorem ok_RL_17 : okC RL 17 mX10_say 1 := ⟨tbm 752 (by decide +kernel) rfl, ini_RX10, cdX10_say, by decide +kernel⟩
theorem ok_RX10_41 : okC RX10 41 mX10_in 3 := ⟨tbm 756 (by decide +kernel) rfl, ini_RX10, cdX10_in, by decide +kernel⟩
theorem ok_RL_22 : okC RL 22 mX10_wipe 0 := ⟨tbm 759 (by decide +kernel) rfl, ini_RX10, cdX10_wipe, by decide +kernel⟩
theorem ok_RL_26 : okC RL 26 mX10_fault 0 := ⟨tbm 763 (by decide +kernel) rfl, ini_RX10, cdX10_fault, by decide +kernel⟩
theorem ok_RX10_74 : okC RX10 74 mX10_readPacket 0 := ⟨tbm 767 (by decide +kernel) rfl, ini_RX10, cdX10_readPacket, by decide +kernel⟩
theorem ok_RX10_63 : okC RX10 63 mX10_readLetters 2 := ⟨tbm 771 (by decide +kernel) rfl, ini_RX10, cdX10_readLetters, by decide +kernel⟩
theorem ok_RX10_52 : okC RX10 52 mX10_isLetter 1 := ⟨tbm 775 (by decide +kernel) rfl, ini_RX10, cdX10_isLetter, by decide +kernel⟩
theorem ok_RX10_67 : okC RX10 67 mX10_readSign 1 := ⟨tbm 779 (by decide +kernel) rfl, ini_RX10, cdX10_readSign, by decide +kernel⟩
theorem ok_RX10_60 : okC RX10 60 mX10_isAt 1 := ⟨tbm 783 (by decide +kernel) rfl, ini_RX10, cdX10_isAt, by decide +kernel⟩
theorem ok_RX10_71 : okC RX10 71 mX10_readWord 0 := ⟨tbm 787 (by decide +kernel) rfl, ini_RX10, cdX10_readWord, by decide +kernel⟩
theorem ok_RL_31 : okC RL 31 mX10_name 2 := ⟨tbm 791 (by decide +kernel) rfl, ini_RX10, cdX10_name, by decide +kernel⟩
theorem ok_RX10_78 : okC RX10 78 mX10_isStation 1 := ⟨tbm 795 (by decide +kernel) rfl, ini_RX10, cdX10_isStation, by decide +kernel⟩
theorem ok_RX10_81 : okC RX10 81 mX10_readName 0 := ⟨tbm 798 (by decide +kernel) rfl, ini_RX10, cdX10_readName, by decide +kernel⟩
theorem ok_RX10_84 : okC RX10 84 mX10_call 2 := ⟨tbm 802 (by decide +kernel) rfl, ini_RX10, cdX10_call, by decide +kernel⟩
theorem ok_RX10_87 : okC RX10 87 mX10_more 4 := ⟨tbm 806 (by decide +kernel) rfl, ini_RX10, cdX10_more, by decide +kernel⟩
theorem ok_RL_35 : okC RL 35 mX10_forget 2 := ⟨tbm 810 (by decide +kernel) rfl, ini_RX10, cdX10_forget, by decide +kernel⟩
theorem ok_RL_40 : okC RL 40 mX10_set 3 := ⟨tbm 814 (by decide +kernel) rfl, ini_RX10, cdX10_set, by decide +kernel⟩
theorem ok_RL_44 : okC RL 44 mX10_near 3 := ⟨tbm 818 (by decide +kernel) rfl, ini_RX10, cdX10_near, by decide +kernel⟩
theorem ok_RX10_91 : okC RX10 91 mX10_areNear 2 := ⟨tbm 822 (by decide +kernel) rfl, ini_RX10, cdX10_areNear, by decide +kernel⟩
theorem ok_RL_48 : okC RL 48 mX10_send 1 := ⟨tbm 826 (by decide +kernel) rfl, ini_RX10, cdX10_send, by decide +kernel⟩
theorem ok_RX10_113 : okC RX10 113 mX10_keep 2 := ⟨tbm 830 (by decide +kernel) rfl, ini_RX10, cdX10_keep, by decide +kernel⟩
theorem ok_RX10_95 : okC RX10 95 mX10_slot 2 := ⟨tbm 834 (by decide +kernel) rfl, ini_RX10, cdX10_slot, by decide +kernel⟩
theorem ok_RX10_116 : okC RX10 116 mX10_begin 1 := ⟨tbm 837 (by decide +kernel) rfl, ini_RX10, cdX10_begin, by decide +kernel⟩
theorem ok_RX10_105 : okC RX10 105 mX10_placeKnown 3 := ⟨tbm 841 (by decide +kernel) rfl, ini_RX10, cdX10_placeKnown, by decide +kernel⟩
theorem ok_RX10_98 : okC RX10 98 mX10_known 2 := ⟨tbm 845 (by decide +kernel) rfl, ini_RX10, cdX10_known, by decide +kernel⟩
theorem ok_RX10_101 : okC RX10 101 mX10_unknow 2 := ⟨tbm 848 (by decide +kernel) rfl, ini_RX10, cdX10_unknow, by decide +kernel⟩
theorem ok_RX10_109 : okC RX10 109 mX10_know 3 := ⟨tbm 852 (by decide +kernel) rfl, ini_RX10, cdX10_know, by decide +kernel⟩
theorem ok_RL_52 : okC RL 52 mX10_run 1 := ⟨tbm 856 (by decide +kernel) rfl, ini_RX10, cdX10_run, by decide +kernel⟩
theorem ok_RX10_151 : okC RX10 151 mX10_tick 0 := ⟨tbm 860 (by decide +kernel) rfl, ini_RX10, cdX10_tick, by decide +kernel⟩
theorem ok_RX10_122 : okC RX10 122 mX10_sendOne 1 := ⟨tbm 864 (by decide +kernel) rfl, ini_RX10, cdX10_sendOne, by decide +kernel⟩
theorem ok_RX10_119 : okC RX10 119 mX10_count 2 := ⟨tbm 868 (by decide +kernel) rfl, ini_RX10, cdX10_count, by decide +kernel⟩
theorem ok_RX10_125 : okC RX10 125 mX10_hearsFrom 1 := ⟨tbm 872 (by decide +kernel) rfl, ini_RX10, cdX10_hearsFrom, by decide +kernel⟩
theorem ok_RX10_129 : okC RX10 129 mX10_hear 2 := ⟨tbm 876 (by decide +kernel) rfl, ini_RX10, cdX10_hear, by decide +kernel⟩
theorem ok_RX10_132 : okC RX10 132 mX10_look 1 := ⟨tbm 880 (by decide +kernel) rfl, ini_RX10, cdX10_look, by decide +kernel⟩
theorem ok_RX10_138 : okC RX10 138 mX10_isOwn 1 := ⟨tbm 884 (by decide +kernel) rfl, ini_RX10, cdX10_isOwn, by decide +kernel⟩
theorem ok_RX10_135 : okC RX10 135 mX10_isSpent 1 := ⟨tbm 888 (by decide +kernel) rfl, ini_RX10, cdX10_isSpent, by decide +kernel⟩
theorem ok_RX10_141 : okC RX10 141 mX10_isFor 2 := ⟨tbm 891 (by decide +kernel) rfl, ini_RX10, cdX10_isFor, by decide +kernel⟩
theorem ok_RX10_144 : okC RX10 144 mX10_hopsOf 1 := ⟨tbm 895 (by decide +kernel) rfl, ini_RX10, cdX10_hopsOf, by decide +kernel⟩
theorem ok_RX10_147 : okC RX10 147 mX10_isOf 4 := ⟨tbm 898 (by decide +kernel) rfl, ini_RX10, cdX10_isOf, by decide +kernel⟩
theorem ok_RX10_154 : okC RX10 154 mX10_keptByAll 0 := ⟨tbm 902 (by decide +kernel) rfl, ini_RX10, cdX10_keptByAll, by decide +kernel⟩
theorem ok_RL_56 : okC RL 56 mX10_heard 2 := ⟨tbm 906 (by decide +kernel) rfl, ini_RX10, cdX10_heard, by decide +kernel⟩
theorem ok_RL_60 : okC RL 60 mX10_written 2 := ⟨tbm 910 (by decide +kernel) rfl, ini_RX10, cdX10_written, by decide +kernel⟩
theorem ok_RX10_172 : okC RX10 172 mX10_layLine 1 := ⟨tbm 914 (by decide +kernel) rfl, ini_RX10, cdX10_layLine, by decide +kernel⟩
theorem ok_RX10_163 : okC RX10 163 mX10_putLetters 2 := ⟨tbm 918 (by decide +kernel) rfl, ini_RX10, cdX10_putLetters, by decide +kernel⟩
theorem ok_RX10_160 : okC RX10 160 mX10_put 1 := ⟨tbm 922 (by decide +kernel) rfl, ini_RX10, cdX10_put, by decide +kernel⟩
theorem ok_RX10_166 : okC RX10 166 mX10_words 1 := ⟨tbm 926 (by decide +kernel) rfl, ini_RX10, cdX10_words, by decide +kernel⟩
theorem ok_RX10_169 : okC RX10 169 mX10_word 2 := ⟨tbm 930 (by decide +kernel) rfl, ini_RX10, cdX10_word, by decide +kernel⟩
theorem ok_RL_64 : okC RL 64 mX10_last 2 := ⟨tbm 934 (by decide +kernel) rfl, ini_RX10, cdX10_last, by decide +kernel⟩
theorem ok_RX10_175 : okC RX10 175 mX10_spentWords 1 := ⟨tbm 938 (by decide +kernel) rfl, ini_RX10, cdX10_spentWords, by decide +kernel⟩
theorem ok_RX10_178 : okC RX10 178 mX10_firstHops 1 := ⟨tbm 942 (by decide +kernel) rfl, ini_RX10, cdX10_firstHops, by decide +kernel⟩
theorem ok_RL_68 : okC RL 68 mX10_trail 2 := ⟨tbm 946 (by decide +kernel) rfl, ini_RX10, cdX10_trail, by decide +kernel⟩
theorem ok_RX10_181 : okC RX10 181 mX10_stationOf 1 := ⟨tbm 950 (by decide +kernel) rfl, ini_RX10, cdX10_stationOf, by decide +kernel⟩
theorem ok_RL_72 : okC RL 72 mX10_reach 3 := ⟨tbm 954 (by decide +kernel) rfl, ini_RX10, cdX10_reach, by decide +kernel⟩
theorem ok_RX10_199 : okC RX10 199 mX10_reachFrom 4 := ⟨tbm 958 (by decide +kernel) rfl, ini_RX10, cdX10_reachFrom, by decide +kernel⟩
theorem ok_RX10_184 : okC RX10 184 mX10_save 1 := ⟨tbm 962 (by decide +kernel) rfl, ini_RX10, cdX10_save, by decide +kernel⟩
theorem ok_RX10_187 : okC RX10 187 mX10_sumOf 1 := ⟨tbm 966 (by decide +kernel) rfl, ini_RX10, cdX10_sumOf, by decide +kernel⟩
theorem ok_RX10_196 : okC RX10 196 mX10_load 1 := ⟨tbm 970 (by decide +kernel) rfl, ini_RX10, cdX10_load, by decide +kernel⟩
theorem ok_RX10_202 : okC RX10 202 mX10_latest 0 := ⟨tbm 974 (by decide +kernel) rfl, ini_RX10, cdX10_latest, by decide +kernel⟩
theorem ok_RL_76 : okC RL 76 mX10_fewest 2 := ⟨tbm 978 (by decide +kernel) rfl, ini_RX10, cdX10_fewest, by decide +kernel⟩
theorem ok_RL_80 : okC RL 80 mX10_bridges 3 := ⟨tbm 982 (by decide +kernel) rfl, ini_RX10, cdX10_bridges, by decide +kernel⟩
theorem ok_RL_84 : okC RL 84 mX10_image 1 := ⟨tbm 986 (by decide +kernel) rfl, ini_RX10, cdX10_image, by decide +kernel⟩
theorem ok_RL_88 : okC RL 88 mX10_restore 1 := ⟨tbm 990 (by decide +kernel) rfl, ini_RX10, cdX10_restore, by decide +kernel⟩
theorem ok_RL_92 : okC RL 92 mX10_count_ 1 := ⟨tbm 994 (by decide +kernel) rfl, ini_RX10, cdX10_count_, by decide +kernel⟩
theorem ok_RX10_205 : okC RX10 205 mX10_pairs 0 := ⟨tbm 998 (by decide +kernel) rfl, ini_RX10, cdX10_pairs, by decide +kernel⟩
theorem x_sta : Cond.static arraycopyName ∈ tb := tbm 432 (by decide +kernel) rfl
theorem x_sys : Cond.initialized "java/lang/System" ∈ tb := tbm 53 (by decide +kernel) rfl
theorem x_ms : Cond.static Lib.Math.min.name ∈ tb := tbm 520 (by decide +kernel) rfl
theorem x_mi : Cond.initialized "java/lang/Math" ∈ tb := tbm 54 (by decide +kernel) rfl
theorem x_mc : Cond.code Lib.Math.min.name Lib.Math.min.code 2 (some .int) ∈ tb := tbm 521 (by decide +kernel) rfl
end
section
def b2 (c : Bool) : Int32 := if c = true then 1 else 0
theorem b2_nar (c : Bool) : narrow .boolean (.int (b2 c)) = .int (b2 c) := by cases c <;> decide
theorem b2_fit (c : Bool) : fits .boolean (.int (b2 c)) = true := by cases c <;> rfl
theorem b2_t : b2 true = 1 := rfl
theorem b2_f : b2 false = 0 := rfl
theorem nI_zero : (0 : Int32) = nI 0 := rfl
def Pm (z : Nat) (sh : SH) (mr : MR) (P : Option Value → MI → Prop) : PT := fun v z' sh' mi' mr' => z' = z ∧ sh' = sh ∧ mr' = mr ∧ P v mi'
/-- a method that makes nothing and writes ints alone -/
def Mi (M : MD) (d : Nat) (avs : List Value) (z : Nat) (sh : SH) (mi : MI) (mr : MR) (P : Option Value → MI → Prop) : Prop := Mv M d 0 0 avs z sh mi mr (Pm z sh mr P)
/-- a method that only reads, and answers an int -/
def Mp (M : MD) (d : Nat) (avs : List Value) (z : Nat) (sh : SH) (mi : MI) (mr : MR) (r : Int32) : Prop := Mi M d avs z sh mi mr (fun v mi' => v = some (.int r) ∧ mi' = mi)
section RULES5
variable {y : MethodName} {cc : ByteArray} {nL : Nat} {ret : Option FieldType} {E : ET} {kc ks pc : Nat} {ls st : List Value} {z : Nat} {sh : SH} {mi : MI} {mr : MR}
theorem r_ifN_eq {a : Nat} {off : Int} (tgt : Nat) (d : decode cc pc = .ok (.ifCond .eq off, 3)) (ht : (pc : Int) + off = (tgt : Int)) (ha : a < 2 ^ 31) (kt : a = 0 → Wp y cc nL ret E kc ks tgt ls st z sh mi mr) (kf : a ≠ 0 → Wp y cc nL ret E kc ks (pc + 3) ls st z sh mi mr) : Wp y cc nL ret E kc ks pc ls (.int (nI a) :: st) z sh mi mr := by
  refine r_if_eq tgt d ht (fun h => kt ?_) (fun h => kf (fun e => h (by rw [e]; rfl)))
  rw [nI_zero] at h
  exact (nI_eq ha (by omega)).mp h
theorem r_ifN_ne {a : Nat} {off : Int} (tgt : Nat) (d : decode cc pc = .ok (.ifCond .ne off, 3)) (ht : (pc : Int) + off = (tgt : Int)) (ha : a < 2 ^ 31) (kt : a ≠ 0 → Wp y cc nL ret E kc ks tgt ls st z sh mi mr) (kf : a = 0 → Wp y cc nL ret E kc ks (pc + 3) ls st z sh mi mr) : Wp y cc nL ret E kc ks pc ls (.int (nI a) :: st) z sh mi mr := by
  refine r_if_ne tgt d ht (fun h => kt (fun e => h (by rw [e]; rfl))) (fun h => kf ?_)
  rw [nI_zero] at h
  exact (nI_eq ha (by omega)).mp h
theorem r_ifN_le {a : Nat} {off : Int} (tgt : Nat) (d : decode cc pc = .ok (.ifCond .le off, 3)) (ht : (pc : Int) + off = (tgt : Int)) (ha : a < 2 ^ 31) (kt : a = 0 → Wp y cc nL ret E kc ks tgt ls st z sh mi mr) (kf : 0 < a → Wp y cc nL ret E kc ks (pc + 3) ls st z sh mi mr) : Wp y cc nL ret E kc ks pc ls (.int (nI a) :: st) z sh mi mr := by
  refine r_if_le tgt d ht (fun h => kt ?_) (fun h => kf ?_)
  · rw [nI_zero] at h
    have := (nI_leI ha (by omega)).mp h
    omega
  · rw [nI_zero] at h
    have : ¬ a ≤ 0 := fun e => h ((nI_leI ha (by omega)).mpr e)
    omega
theorem r_ifN_lt {a : Nat} {off : Int} (tgt : Nat) (d : decode cc pc = .ok (.ifCond .lt off, 3)) (ht : (pc : Int) + off = (tgt : Int)) (ha : a < 2 ^ 31) (kf : Wp y cc nL ret E kc ks (pc + 3) ls st z sh mi mr) : Wp y cc nL ret E kc ks pc ls (.int (nI a) :: st) z sh mi mr := r_if_lt tgt d ht (fun h => absurd h (nI_pos ha)) (fun _ => kf)
theorem r_ifN_ge {a : Nat} {off : Int} (tgt : Nat) (d : decode cc pc = .ok (.ifCond .ge off, 3)) (ht : (pc : Int) + off = (tgt : Int)) (ha : a < 2 ^ 31) (kt : Wp y cc nL ret E kc ks tgt ls st z sh mi mr) : Wp y cc nL ret E kc ks pc ls (.int (nI a) :: st) z sh mi mr := r_if_ge tgt d ht (fun _ => kt) (fun h => absurd (nI_pos' ha) h)
theorem r_ifB_eq {b : Bool} {off : Int} (tgt : Nat) (d : decode cc pc = .ok (.ifCond .eq off, 3)) (ht : (pc : Int) + off = (tgt : Int)) (kt : b = false → Wp y cc nL ret E kc ks tgt ls st z sh mi mr) (kf : b = true → Wp y cc nL ret E kc ks (pc + 3) ls st z sh mi mr) : Wp y cc nL ret E kc ks pc ls (.int (b2 b) :: st) z sh mi mr := by
  refine r_if_eq tgt d ht (fun h => kt ?_) (fun h => kf ?_) <;> cases b
  · rfl
  · exact absurd h (by decide)
  · exact absurd rfl h
  · rfl
theorem r_ifB_ne {b : Bool} {off : Int} (tgt : Nat) (d : decode cc pc = .ok (.ifCond .ne off, 3)) (ht : (pc : Int) + off = (tgt : Int)) (kt : b = true → Wp y cc nL ret E kc ks tgt ls st z sh mi mr) (kf : b = false → Wp y cc nL ret E kc ks (pc + 3) ls st z sh mi mr) : Wp y cc nL ret E kc ks pc ls (.int (b2 b) :: st) z sh mi mr := by
  refine r_if_ne tgt d ht (fun h => kt ?_) (fun h => kf ?_) <;> cases b
  · exact absurd rfl h
  · rfl
  · rfl
  · exact absurd h (by decide)
theorem r_callVi {M : MD} {idx b κ n nA d' : Nat} (As : List Value) {P : Option Value → MI → Prop} {st0 : List Value} (d : decode cc pc = .ok (.invokevirtual idx, 3)) (ok : okC y.cls idx M nA) (hi : Cond.instanceMethod M.1 ∈ tb ∧ Cond.selects M.1.cls M.1 M.1 ∈ tb) (hs : sh b = (κ, n)) (hκ : ∃ T N, vwCl[κ]? = some (M.1.cls, T, N)) (hst : st0 = As.reverse ++ .ref b :: st) (hn : As.length = nA) (hcat : (st.map fun v => v.category).sum ≤ 8) (hroom : roomOk E.1 kc ks d' 0 0 M.2.2.1)
    (hM : Mi M d' (.ref b :: As) z sh mi mr P) (k : ∀ v mi', P v mi' → Wp y cc nL ret E kc ks (pc + 3) ls (v.toList ++ st) z sh mi' mr) : Wp y cc nL ret E kc ks pc ls st0 z sh mi mr :=
  r_callV As d ok hi hs hκ hst hn hcat hroom hM (fun v z' sh' mi' mr' h => by obtain ⟨rfl, rfl, rfl, h⟩ := h; exact k v mi' h)
theorem r_callSi {M : MD} {idx nA d' : Nat} (As : List Value) {P : Option Value → MI → Prop} {st0 : List Value} (d : decode cc pc = .ok (.invokestatic idx, 3)) (ok : okC y.cls idx M nA) (hi : Cond.static M.1 ∈ tb) (hst : st0 = As.reverse ++ st) (hn : As.length = nA) (hcat : (st.map fun v => v.category).sum ≤ 8) (hroom : roomOk E.1 kc ks d' 0 0 M.2.2.1)
    (hM : Mi M d' As z sh mi mr P) (k : ∀ v mi', P v mi' → Wp y cc nL ret E kc ks (pc + 3) ls (v.toList ++ st) z sh mi' mr) : Wp y cc nL ret E kc ks pc ls st0 z sh mi mr :=
  r_callS As d ok hi hst hn hcat hroom hM (fun v z' sh' mi' mr' h => by obtain ⟨rfl, rfl, rfl, h⟩ := h; exact k v mi' h)
theorem r_callSNi {M : MD} {idx nA d' : Nat} (As : List Value) {P : Option Value → MI → Prop} {st0 : List Value} (d : decode cc pc = .ok (.invokestatic idx, 3)) (ok : okN y.cls idx M nA) (hi : Cond.static M.1 ∈ tb) (hst : st0 = As.reverse ++ st) (hn : As.length = nA) (hcat : (st.map fun v => v.category).sum ≤ 8) (hroom : roomOk E.1 kc ks d' 0 0 M.2.2.1)
    (hM : Mi M d' As z sh mi mr P) (k : ∀ v mi', P v mi' → Wp y cc nL ret E kc ks (pc + 3) ls (v.toList ++ st) z sh mi' mr) : Wp y cc nL ret E kc ks pc ls st0 z sh mi mr :=
  r_callSN As d ok hi hst hn hcat hroom hM (fun v z' sh' mi' mr' h => by obtain ⟨rfl, rfl, rfl, h⟩ := h; exact k v mi' h)
theorem r_callVp {M : MD} {idx b κ n nA d' : Nat} (As : List Value) {r : Int32} {st0 : List Value} (d : decode cc pc = .ok (.invokevirtual idx, 3)) (ok : okC y.cls idx M nA) (hi : Cond.instanceMethod M.1 ∈ tb ∧ Cond.selects M.1.cls M.1 M.1 ∈ tb) (hs : sh b = (κ, n)) (hκ : ∃ T N, vwCl[κ]? = some (M.1.cls, T, N)) (hst : st0 = As.reverse ++ .ref b :: st) (hn : As.length = nA) (hcat : (st.map fun v => v.category).sum ≤ 8) (hroom : roomOk E.1 kc ks d' 0 0 M.2.2.1)
    (hM : Mp M d' (.ref b :: As) z sh mi mr r) (k : Wp y cc nL ret E kc ks (pc + 3) ls (.int r :: st) z sh mi mr) : Wp y cc nL ret E kc ks pc ls st0 z sh mi mr :=
  r_callVi As d ok hi hs hκ hst hn hcat hroom hM (fun v mi' h => by obtain ⟨rfl, rfl⟩ := h; exact k)
theorem r_callSp {M : MD} {idx nA d' : Nat} (As : List Value) {r : Int32} {st0 : List Value} (d : decode cc pc = .ok (.invokestatic idx, 3)) (ok : okC y.cls idx M nA) (hi : Cond.static M.1 ∈ tb) (hst : st0 = As.reverse ++ st) (hn : As.length = nA) (hcat : (st.map fun v => v.category).sum ≤ 8) (hroom : roomOk E.1 kc ks d' 0 0 M.2.2.1)
    (hM : Mp M d' As z sh mi mr r) (k : Wp y cc nL ret E kc ks (pc + 3) ls (.int r :: st) z sh mi mr) : Wp y cc nL ret E kc ks pc ls st0 z sh mi mr :=
  r_callSi As d ok hi hst hn hcat hroom hM (fun v mi' h => by obtain ⟨rfl, rfl⟩ := h; exact k)
theorem r_callSNp {M : MD} {idx nA d' : Nat} (As : List Value) {r : Int32} {st0 : List Value} (d : decode cc pc = .ok (.invokestatic idx, 3)) (ok : okN y.cls idx M nA) (hi : Cond.static M.1 ∈ tb) (hst : st0 = As.reverse ++ st) (hn : As.length = nA) (hcat : (st.map fun v => v.category).sum ≤ 8) (hroom : roomOk E.1 kc ks d' 0 0 M.2.2.1)
    (hM : Mp M d' As z sh mi mr r) (k : Wp y cc nL ret E kc ks (pc + 3) ls (.int r :: st) z sh mi mr) : Wp y cc nL ret E kc ks pc ls st0 z sh mi mr :=
  r_callSNi As d ok hi hst hn hcat hroom hM (fun v mi' h => by obtain ⟨rfl, rfl⟩ := h; exact k)
theorem Mp.of {M : MD} {d : Nat} {avs : List Value} {r r' : Int32} (h : Mp M d avs z sh mi mr r) (e : r = r') : Mp M d avs z sh mi mr r' := e ▸ h
end RULES5
end
section
theorem nI_or (a b : Nat) : nI a ||| nI b = nI (a ||| b) := by
  apply Int32.toBitVec.inj
  show (BitVec.ofNat 32 a) ||| (BitVec.ofNat 32 b) = BitVec.ofNat 32 (a ||| b)
  rw [BitVec.ofNat_or]
theorem nI_and (a b : Nat) : nI a &&& nI b = nI (a &&& b) := by
  apply Int32.toBitVec.inj
  show (BitVec.ofNat 32 a) &&& (BitVec.ofNat 32 b) = BitVec.ofNat 32 (a &&& b)
  rw [BitVec.ofNat_and]
theorem nI_sm : ∀ n, n < 32 → ((nI n &&& 31).toBitVec.smod 32).toNat = n := by decide
theorem nI_shl {a k : Nat} (hk : k < 32) (h : a * 2 ^ k < 2 ^ 32) : nI a <<< (nI k &&& 31) = nI (a * 2 ^ k) := pk_shlN _ k (nI_sm k hk) h
theorem nI_shr {a k : Nat} (hk : k < 32) (h : a < 2 ^ 31) : nI a >>> (nI k &&& 31) = nI (a / 2 ^ k) := pk_shrN h _ k (nI_sm k hk)
section RULES6
variable {y : MethodName} {cc : ByteArray} {nL : Nat} {ret : Option FieldType} {E : ET} {kc ks pc : Nat} {ls st : List Value} {z : Nat} {sh : SH} {mi : MI} {mr : MR}
theorem r_iandN {a b : Nat} (d : decode cc pc = .ok (.iand, 1)) (k : Wp y cc nL ret E kc ks (pc + 1) ls (.int (nI (a &&& b)) :: st) z sh mi mr) : Wp y cc nL ret E kc ks pc ls (.int (nI b) :: .int (nI a) :: st) z sh mi mr := r_iand d (r_top (nI_and a b) k)
theorem r_iorN {a b : Nat} (d : decode cc pc = .ok (.ior, 1)) (k : Wp y cc nL ret E kc ks (pc + 1) ls (.int (nI (a ||| b)) :: st) z sh mi mr) : Wp y cc nL ret E kc ks pc ls (.int (nI b) :: .int (nI a) :: st) z sh mi mr := r_ior d (r_top (nI_or a b) k)
theorem r_ishlN {a b : Nat} (d : decode cc pc = .ok (.ishl, 1)) (hb : b < 32) (h : a * 2 ^ b < 2 ^ 32) (k : Wp y cc nL ret E kc ks (pc + 1) ls (.int (nI (a * 2 ^ b)) :: st) z sh mi mr) : Wp y cc nL ret E kc ks pc ls (.int (nI b) :: .int (nI a) :: st) z sh mi mr := r_ishl d (r_top (nI_shl hb h) k)
theorem r_ishrN {a b : Nat} (d : decode cc pc = .ok (.ishr, 1)) (hb : b < 32) (h : a < 2 ^ 31) (k : Wp y cc nL ret E kc ks (pc + 1) ls (.int (nI (a / 2 ^ b)) :: st) z sh mi mr) : Wp y cc nL ret E kc ks pc ls (.int (nI b) :: .int (nI a) :: st) z sh mi mr := r_ishr d (r_top (nI_shr hb h) k)
end RULES6
theorem or_low {a k b : Nat} (h : b < 2 ^ k) : a * 2 ^ k ||| b = a * 2 ^ k + b := by
  rw [← Nat.shiftLeft_eq, ← Nat.shiftLeft_add_eq_or_of_lt h]
theorem and_mod (a k : Nat) : a &&& (2 ^ k - 1) = a % 2 ^ k := Nat.and_two_pow_sub_one_eq_mod a k
theorem nI_m16 {a : Nat} (h : a < 2 ^ 31) : nI a &&& (-16) = nI (a / 16 * 16) := by
  apply Int32.toBitVec.inj
  show (BitVec.ofNat 32 a) &&& (-16 : Int32).toBitVec = BitVec.ofNat 32 (a / 16 * 16)
  apply BitVec.eq_of_getLsbD_eq
  intro i hi
  rw [BitVec.getLsbD_and, BitVec.getLsbD_ofNat, BitVec.getLsbD_ofNat]
  have e : ((-16 : Int32).toBitVec).getLsbD i = decide (4 ≤ i) := by
    have : ∀ j : Fin 32, ((-16 : Int32).toBitVec).getLsbD j.val = decide (4 ≤ j.val) := by decide
    exact this ⟨i, hi⟩
  rw [e, show a / 16 * 16 = (a >>> 4) <<< 4 by rw [Nat.shiftRight_eq_div_pow, Nat.shiftLeft_eq], Nat.testBit_shiftLeft, Nat.testBit_shiftRight]
  by_cases h4 : 4 ≤ i
  · simp [h4, show 4 + (i - 4) = i by omega, hi]
  · simp [h4]
theorem nI_m15 {a : Nat} (h : a < 2 ^ 31) : nI a &&& (-15) = nI (a / 16 * 16 + a % 2) := by
  apply Int32.toBitVec.inj
  show (BitVec.ofNat 32 a) &&& (-15 : Int32).toBitVec = BitVec.ofNat 32 (a / 16 * 16 + a % 2)
  apply BitVec.eq_of_getLsbD_eq
  intro i hi
  rw [BitVec.getLsbD_and, BitVec.getLsbD_ofNat, BitVec.getLsbD_ofNat]
  have e : ((-15 : Int32).toBitVec).getLsbD i = (decide (4 ≤ i) || decide (i = 0)) := by
    have : ∀ j : Fin 32, ((-15 : Int32).toBitVec).getLsbD j.val = (decide (4 ≤ j.val) || decide (j.val = 0)) := by decide
    exact this ⟨i, hi⟩
  have e2 : a / 16 * 16 + a % 2 = (a >>> 4) <<< 4 ||| a % 2 := by
    rw [Nat.shiftRight_eq_div_pow, ← Nat.shiftLeft_add_eq_or_of_lt (by omega : a % 2 < 2 ^ 4), Nat.shiftLeft_eq]
  rw [e, e2, Nat.testBit_or, Nat.testBit_shiftLeft, Nat.testBit_shiftRight, show a % 2 = a % 2 ^ 1 by rfl, Nat.testBit_mod_two_pow]
  by_cases h4 : 4 ≤ i
  · simp [h4, show 4 + (i - 4) = i by omega, hi, show ¬ i < 1 by omega]
  · by_cases h0 : i = 0
    · subst h0; simp
    · simp [h4, h0, show ¬ i < 1 by omega]
end
section
section RULES7
variable {y : MethodName} {cc : ByteArray} {nL : Nat} {ret : Option FieldType} {E : ET} {kc ks pc : Nat} {ls st : List Value} {z : Nat} {sh : SH} {mi : MI} {mr : MR}
theorem r_callVw {M : MD} {idx b κ n nA d' : Nat} (As : List Value) {P : MI → Prop} {st0 : List Value} (d : decode cc pc = .ok (.invokevirtual idx, 3)) (ok : okC y.cls idx M nA) (hi : Cond.instanceMethod M.1 ∈ tb ∧ Cond.selects M.1.cls M.1 M.1 ∈ tb) (hs : sh b = (κ, n)) (hκ : ∃ T N, vwCl[κ]? = some (M.1.cls, T, N)) (hst : st0 = As.reverse ++ .ref b :: st) (hn : As.length = nA) (hcat : (st.map fun v => v.category).sum ≤ 8) (hroom : roomOk E.1 kc ks d' 0 0 M.2.2.1)
    (hM : Mi M d' (.ref b :: As) z sh mi mr (fun v mi' => v = none ∧ P mi')) (k : ∀ mi', P mi' → Wp y cc nL ret E kc ks (pc + 3) ls st z sh mi' mr) : Wp y cc nL ret E kc ks pc ls st0 z sh mi mr :=
  r_callVi As d ok hi hs hκ hst hn hcat hroom hM (fun v mi' h => by obtain ⟨rfl, h⟩ := h; exact k mi' h)
theorem r_callVx {M : MD} {idx b κ n nA d' : Nat} (As : List Value) {P : MI → Prop} {r : Int32} {st0 : List Value} (d : decode cc pc = .ok (.invokevirtual idx, 3)) (ok : okC y.cls idx M nA) (hi : Cond.instanceMethod M.1 ∈ tb ∧ Cond.selects M.1.cls M.1 M.1 ∈ tb) (hs : sh b = (κ, n)) (hκ : ∃ T N, vwCl[κ]? = some (M.1.cls, T, N)) (hst : st0 = As.reverse ++ .ref b :: st) (hn : As.length = nA) (hcat : (st.map fun v => v.category).sum ≤ 8) (hroom : roomOk E.1 kc ks d' 0 0 M.2.2.1)
    (hM : Mi M d' (.ref b :: As) z sh mi mr (fun v mi' => v = some (.int r) ∧ P mi')) (k : ∀ mi', P mi' → Wp y cc nL ret E kc ks (pc + 3) ls (.int r :: st) z sh mi' mr) : Wp y cc nL ret E kc ks pc ls st0 z sh mi mr :=
  r_callVi As d ok hi hs hκ hst hn hcat hroom hM (fun v mi' h => by obtain ⟨rfl, h⟩ := h; exact k mi' h)
/-- a method that makes nothing -/
def Mm (M : MD) (d : Nat) (avs : List Value) (z : Nat) (sh : SH) (mi : MI) (mr : MR) (P : Option Value → MI → MR → Prop) : Prop := Mv M d 0 0 avs z sh mi mr (fun v z' sh' mi' mr' => z' = z ∧ sh' = sh ∧ P v mi' mr')
theorem r_callVm {M : MD} {idx b κ n nA d' : Nat} (As : List Value) {P : Option Value → MI → MR → Prop} {st0 : List Value} (d : decode cc pc = .ok (.invokevirtual idx, 3)) (ok : okC y.cls idx M nA) (hi : Cond.instanceMethod M.1 ∈ tb ∧ Cond.selects M.1.cls M.1 M.1 ∈ tb) (hs : sh b = (κ, n)) (hκ : ∃ T N, vwCl[κ]? = some (M.1.cls, T, N)) (hst : st0 = As.reverse ++ .ref b :: st) (hn : As.length = nA) (hcat : (st.map fun v => v.category).sum ≤ 8) (hroom : roomOk E.1 kc ks d' 0 0 M.2.2.1)
    (hM : Mm M d' (.ref b :: As) z sh mi mr P) (k : ∀ v mi' mr', P v mi' mr' → Wp y cc nL ret E kc ks (pc + 3) ls (v.toList ++ st) z sh mi' mr') : Wp y cc nL ret E kc ks pc ls st0 z sh mi mr :=
  r_callV As d ok hi hs hκ hst hn hcat hroom hM (fun v z' sh' mi' mr' h => by obtain ⟨rfl, rfl, h⟩ := h; exact k v mi' mr' h)
theorem r_callVmw {M : MD} {idx b κ n nA d' : Nat} (As : List Value) {P : MI → MR → Prop} {st0 : List Value} (d : decode cc pc = .ok (.invokevirtual idx, 3)) (ok : okC y.cls idx M nA) (hi : Cond.instanceMethod M.1 ∈ tb ∧ Cond.selects M.1.cls M.1 M.1 ∈ tb) (hs : sh b = (κ, n)) (hκ : ∃ T N, vwCl[κ]? = some (M.1.cls, T, N)) (hst : st0 = As.reverse ++ .ref b :: st) (hn : As.length = nA) (hcat : (st.map fun v => v.category).sum ≤ 8) (hroom : roomOk E.1 kc ks d' 0 0 M.2.2.1)
    (hM : Mm M d' (.ref b :: As) z sh mi mr (fun v mi' mr' => v = none ∧ P mi' mr')) (k : ∀ mi' mr', P mi' mr' → Wp y cc nL ret E kc ks (pc + 3) ls st z sh mi' mr') : Wp y cc nL ret E kc ks pc ls st0 z sh mi mr :=
  r_callVm As d ok hi hs hκ hst hn hcat hroom hM (fun v mi' mr' h => by obtain ⟨rfl, h⟩ := h; exact k mi' mr' h)
theorem r_callVmx {M : MD} {idx b κ n nA d' : Nat} (As : List Value) {P : MI → MR → Prop} {r : Int32} {st0 : List Value} (d : decode cc pc = .ok (.invokevirtual idx, 3)) (ok : okC y.cls idx M nA) (hi : Cond.instanceMethod M.1 ∈ tb ∧ Cond.selects M.1.cls M.1 M.1 ∈ tb) (hs : sh b = (κ, n)) (hκ : ∃ T N, vwCl[κ]? = some (M.1.cls, T, N)) (hst : st0 = As.reverse ++ .ref b :: st) (hn : As.length = nA) (hcat : (st.map fun v => v.category).sum ≤ 8) (hroom : roomOk E.1 kc ks d' 0 0 M.2.2.1)
    (hM : Mm M d' (.ref b :: As) z sh mi mr (fun v mi' mr' => v = some (.int r) ∧ P mi' mr')) (k : ∀ mi' mr', P mi' mr' → Wp y cc nL ret E kc ks (pc + 3) ls (.int r :: st) z sh mi' mr') : Wp y cc nL ret E kc ks pc ls st0 z sh mi mr :=
  r_callVm As d ok hi hs hκ hst hn hcat hroom hM (fun v mi' mr' h => by obtain ⟨rfl, h⟩ := h; exact k mi' mr' h)
abbrev EM (d z : Nat) (sh : SH) (P : Option Value → MI → MR → Prop) : ET := mE d 0 0 (fun v z' sh' mi' mr' => z' = z ∧ sh' = sh ∧ P v mi' mr')
end RULES7
end
section
/-! WHAT THE SYSTEM IS: names as lists of letters 1 to 26, words, packets, stations, the net -/
abbrev Nm : Type := List Nat
abbrev Wd : Type := Nm × Nat × Bool
abbrev Pk : Type := Nm × Nm × List Wd
abbrev Se : Type := Nm × List Nm × List Nm × Nat × Nat × Nat
abbrev Kp : Type := List (Pk × Nat)
abbrev Kn : Type := List (Nm × Nm × Nat)
abbrev St : Type := Se × (Nat → Nat) × Kp × Kn × Option (Pk × Nat)
abbrev Nt : Type := (Nat → St) × (Nat → Nat → Bool) × Nat
abbrev Al : Type := List Nat × Nt × (Nat → Option Nt)
def en (b : Nat) (l : Nm) : Nat := l.foldl (fun v x => v * b + x) 0
def bn (c : Bool) : Nat := if c = true then 1 else 0
def wc (b : Nat) (w : Wd) : Nat := 16 * en b w.1 + 2 * w.2.1 + bn w.2.2
def okL (k : Nat) (l : Nm) : Prop := 1 ≤ l.length ∧ l.length ≤ k ∧ ∀ x ∈ l, 1 ≤ x ∧ x ≤ 26
def okW (w : Wd) : Prop := okL 3 w.1 ∧ w.2.1 ≤ 7
def okP (p : Pk) : Prop := okL 3 p.1 ∧ okL 4 p.2.1 ∧ p.2.2.length ≤ 8 ∧ ∀ w ∈ p.2.2, okW w
-- reading the pad
def sg (P : List Nat) (i : Nat) : Nat := P.getD i 0
def lets (f : Nat) : Nat → List Nat → Nat → Nm
  | 0, _, _ => []
  | k + 1, P, i => if f ≤ sg P i ∧ sg P i ≤ f + 25 then (sg P i - f + 1) :: lets f k P (i + 1) else []
def rdW (P : List Nat) (i : Nat) : Option Wd × Nat :=
  let l := lets 65 3 P i
  let j := i + l.length
  if l = [] then (none, i)
  else if sg P j = 45 then
    if 49 ≤ sg P (j + 1) ∧ sg P (j + 1) ≤ 55 then (some (l, sg P (j + 1) - 48, decide (sg P (j + 2) = 42)), j + 2 + bn (decide (sg P (j + 2) = 42)))
    else (none, j + 1)
  else (some (l, 0, decide (sg P j = 42)), j + bn (decide (sg P j = 42)))
def rdWs : Nat → List Nat → Nat → Option (List Wd) × Nat
  | 0, _, i => (some [], i)
  | k + 1, P, i => match rdW P i with
    | (none, j) => (none, j)
    | (some w, j) => if k ≠ 0 ∧ sg P j = 44 then (((rdWs k P (j + 1)).1).map (fun ws => w :: ws), (rdWs k P (j + 1)).2) else (some [w], j)
def prs (P : List Nat) : Nat ⊕ Pk :=
  let s := lets 65 3 P 0
  if s = [] then .inl 0
  else if sg P s.length ≠ 62 then .inl s.length
  else match (if sg P (s.length + 1) = 58 then (some [], s.length + 1) else rdWs 5 P (s.length + 1)) with
    | (none, j) => .inl j
    | (some ws, j) =>
      if sg P j ≠ 58 then .inl j
      else if lets 97 4 P (j + 1) = [] ∨ j + 1 + (lets 97 4 P (j + 1)).length < P.length then .inl (j + 1 + (lets 97 4 P (j + 1)).length)
      else .inr (s, lets 97 4 P (j + 1), ws)
def prsN (P : List Nat) : Option Nm := if lets 65 3 P 0 = [] ∨ (lets 65 3 P 0).length < P.length then none else some (lets 65 3 P 0)
-- stations
def bump (t : Nat → Nat) (w : Nat) : Nat → Nat := fun x => if x = w then t x + 1 else t x
def ownP (call : Nm) (p : Pk) : Bool := p.1 == call || p.2.2.any (fun w => w.2.2 && w.1 == call)
def unIx (ws : List Wd) : Nat := ws.findIdx (fun w => !w.2.2)
def knIx (k : Kn) (p : Pk) : Nat := k.findIdx (fun q => q.1 == p.1 && q.2.1 == p.2.1)
def knAdd (k : Kn) (p : Pk) (now : Nat) : Kn := (if 16 ≤ k.length then k.eraseIdx 0 else k) ++ [(p.1, p.2.1, now)]
def knOld (k : Kn) (now win : Nat) : Kn := k.filter (fun q => decide (now - q.2.2 ≤ win))
def orig (st : St) (p : Pk) (now : Nat) : St := (st.1, st.2.1, st.2.2.1 ++ [(p, now)], knAdd (st.2.2.2.1.eraseIdx (knIx st.2.2.2.1 p)) p now, st.2.2.2.2)
def chg (se : Se) (p : Pk) (i : Nat) : Option Pk :=
  match p.2.2[i]? with
  | none => none
  | some w =>
    if w.1 = se.1 ∨ (w.2.1 = 0 ∧ w.1 ∈ se.2.1) then some (p.1, p.2.1, p.2.2.set i (se.1, 0, true))
    else if w.2.1 = 0 ∨ w.1 ∉ se.2.2.1 then none
    else if min w.2.1 se.2.2.2.1 - 1 = 0 then some (p.1, p.2.1, p.2.2.set i (se.1, 0, true))
    else if p.2.2.length < 8 then some (p.1, p.2.1, p.2.2.take i ++ (se.1, 0, true) :: (w.1, min w.2.1 se.2.2.2.1 - 1, w.2.2) :: p.2.2.drop (i + 1))
    else some (p.1, p.2.1, p.2.2.set i (w.1, min w.2.1 se.2.2.2.1 - 1, w.2.2))
def look (st : St) (p : Pk) (now : Nat) : St :=
  if ownP st.1.1 p = true then (st.1, bump st.2.1 2, st.2.2)
  else if knIx st.2.2.2.1 p < st.2.2.2.1.length then (st.1, bump st.2.1 3, st.2.2)
  else if unIx p.2.2 = p.2.2.length then (st.1, bump st.2.1 4, st.2.2.1, knAdd st.2.2.2.1 p now, st.2.2.2.2)
  else match chg st.1 p (unIx p.2.2) with
    | none => (st.1, bump st.2.1 6, st.2.2.1, knAdd st.2.2.2.1 p now, st.2.2.2.2)
    | some p' =>
      if st.2.2.1.length < 12 then (st.1, bump st.2.1 5, st.2.2.1 ++ [(p', now + st.1.2.2.2.2.1)], knAdd st.2.2.2.1 p now, st.2.2.2.2)
      else (st.1, bump (bump st.2.1 5) 8, st.2.2.1, knAdd st.2.2.2.1 p now, st.2.2.2.2)
def hears (st : St) (p : Pk) (now : Nat) : St := look (st.1, bump st.2.1 1, st.2.2.1, knOld st.2.2.2.1 now st.1.2.2.2.2.2, some (p, now)) p now
-- the net
def duIx (k : Kp) (now : Nat) : Nat := k.findIdx (fun q => decide (q.2 ≤ now))
def sentP (st : St) (now : Nat) : Option Pk := (st.2.2.1[duIx st.2.2.1 now]?).map (fun q => q.1)
def aftS (st : St) (now : Nat) : St := if duIx st.2.2.1 now < st.2.2.1.length then (st.1, bump st.2.1 0, st.2.2.1.eraseIdx (duIx st.2.2.1 now), st.2.2.2) else st
def audi (n : Nt) (s : Nat) : List Nat := (List.range 6).filter (fun q => (sentP (n.1 q) n.2.2).isSome && n.2.1 s q)
def tckS (n : Nt) (s : Nat) : St :=
  if (sentP (n.1 s) n.2.2).isSome = true then aftS (n.1 s) n.2.2
  else match audi n s with
    | [] => n.1 s
    | [q] => (match sentP (n.1 q) n.2.2 with
      | some p => hears (n.1 s) p n.2.2
      | none => n.1 s)
    | _ => ((n.1 s).1, bump (n.1 s).2.1 7, (n.1 s).2.2)
def tck (n : Nt) : Nt := (fun s => tckS n s, n.2.1, n.2.2 + 1)
def tcks : Nat → Nt → Nt
  | 0, n => n
  | k + 1, n => tcks k (tck n)
def sum6 (f : Nat → Nat) : Nat := f 0 + f 1 + f 2 + f 3 + f 4 + f 5
def keptA (n : Nt) : Nat := sum6 (fun s => (n.1 s).2.2.1.length)
def upS (f : Nat → St) (s : Nat) (st : St) : Nat → St := fun x => if x = s then st else f x
-- how far it comes
def triN (n : Nt) (w : Option Nat) : Nt := (fun s => ((n.1 s).1, (fun _ => 0), [], [], none), (fun a b => n.2.1 a b && decide (some a ≠ w) && decide (some b ≠ w)), 0)
def tri0 (n : Nt) (w : Option Nat) (s : Nat) (f : Nm) (h : Nat) : Nt := (upS (triN n w).1 s (orig ((triN n w).1 s) ((n.1 s).1.1, [1], [(f, h, false)]) 0), (triN n w).2)
def triR : Nat → Nt × (Nat → Option Nat) → Nt × (Nat → Option Nat)
  | 0, q => q
  | k + 1, q => if keptA q.1 = 0 then q else triR k (tck q.1, fun s => match q.2 s with
    | some t => some t
    | none => if ((tck q.1).1 s).2.2.2.2.isSome = true then some q.1.2.2 else none)
def tri (n : Nt) (w : Option Nat) (s : Nat) (f : Nm) (h : Nat) : Nt × (Nat → Option Nat) := triR 30 (tri0 n w s f h, fun _ => none)
def setA (f : Nat → Option Nat) : Nat := sum6 (fun s => if (f s).isSome = true then 2 ^ s else 0)
def latA (f : Nat → Option Nat) : Int32 := (List.range 6).foldl (fun m s => match f s with
  | some t => if m < nI t then nI t else m
  | none => m) (-6)
end
section
theorem fi_at {α : Type} {l : List α} {p : α → Bool} {i : Nat} {x : α} (h : l[i]? = some x) (hp : p x = true) (hb : ∀ (j : Nat) (y : α), j < i → l[j]? = some y → p y = false) : l.findIdx p = i := by
  obtain ⟨hl, hx⟩ := List.getElem?_eq_some_iff.mp h
  rw [List.findIdx_eq hl]
  refine ⟨by rw [hx]; exact hp, fun j hj => hb j _ hj (List.getElem?_eq_getElem (by omega))⟩
theorem fi_no {α : Type} {l : List α} {p : α → Bool} (hb : ∀ (j : Nat) (y : α), l[j]? = some y → p y = false) : l.findIdx p = l.length := by
  rw [List.findIdx_eq_length]
  intro x hx
  obtain ⟨j, hj⟩ := List.getElem?_of_mem hx
  exact hb j x hj
theorem fi_lt {α : Type} {l : List α} {p : α → Bool} (h : l.findIdx p < l.length) : ∃ x, l[l.findIdx p]? = some x ∧ p x = true := ⟨_, List.getElem?_eq_getElem h, List.findIdx_getElem⟩
theorem fi_bef {α : Type} {l : List α} {p : α → Bool} {j : Nat} {y : α} (h : j < l.findIdx p) (hy : l[j]? = some y) : p y = false := by
  have h1 := List.not_of_lt_findIdx h
  have h2 := (List.getElem?_eq_some_iff.mp hy).2
  rw [h2] at h1
  exact h1
theorem gl_lt {α : Type} {l : List α} {i : Nat} {x : α} (h : l[i]? = some x) : i < l.length := (List.getElem?_eq_some_iff.mp h).1
theorem gl_ex {α : Type} {l : List α} {i : Nat} (h : i < l.length) : ∃ x, l[i]? = some x := ⟨_, List.getElem?_eq_getElem h⟩
theorem gl_mem {α : Type} {l : List α} {i : Nat} {x : α} (h : l[i]? = some x) : x ∈ l := List.mem_of_getElem? h
-- the numbers of names
theorem en_nil (b : Nat) : en b [] = 0 := rfl
theorem en_snoc (b : Nat) (l : Nm) (x : Nat) : en b (l ++ [x]) = en b l * b + x := by simp [en, List.foldl_append]
theorem en_lt {b : Nat} (hb : 27 ≤ b) : ∀ (n : Nat) (l : Nm), l.length = n → (∀ x ∈ l, 1 ≤ x ∧ x ≤ 26) → en b l < b ^ n
  | 0, l, h, _ => by
    have : l = [] := List.length_eq_zero_iff.mp h
    subst this; simp [en]
  | n + 1, l, h, hx => by
    have hne : l ≠ [] := by intro e; subst e; simp at h
    rw [← List.dropLast_concat_getLast hne, en_snoc]
    have h1 := en_lt hb n l.dropLast (by simp [h]) (fun x hx' => hx x (List.dropLast_subset _ hx'))
    have h2 := (hx _ (List.getLast_mem hne)).2
    rw [Nat.pow_succ]
    have : (en b l.dropLast + 1) * b ≤ b ^ n * b := Nat.mul_le_mul_right b h1
    rw [Nat.add_mul, Nat.one_mul] at this
    omega
theorem en_pos {b : Nat} {l : Nm} (hne : l ≠ []) (hx : ∀ x ∈ l, 1 ≤ x ∧ x ≤ 26) : 0 < en b l := by
  rw [← List.dropLast_concat_getLast hne, en_snoc]
  have h2 := (hx _ (List.getLast_mem hne)).1
  omega
theorem en_inj {b : Nat} (hb : 27 ≤ b) : ∀ (n : Nat) (l l' : Nm), l.length = n → (∀ x ∈ l, 1 ≤ x ∧ x ≤ 26) → (∀ x ∈ l', 1 ≤ x ∧ x ≤ 26) → en b l = en b l' → l = l'
  | 0, l, l', h, _, hx', e => by
    have : l = [] := List.length_eq_zero_iff.mp h
    subst this
    by_cases hne : l' = []
    · exact hne.symm
    · have := en_pos (b := b) hne hx'
      rw [en_nil] at e; omega
  | n + 1, l, l', h, hx, hx', e => by
    have hne : l ≠ [] := by intro e; subst e; simp at h
    have hne' : l' ≠ [] := by
      intro e'; subst e'
      have := en_pos (b := b) hne hx
      rw [en_nil] at e; omega
    rw [← List.dropLast_concat_getLast hne, ← List.dropLast_concat_getLast hne', en_snoc, en_snoc] at e
    have h2 := hx _ (List.getLast_mem hne)
    have h2' := hx' _ (List.getLast_mem hne')
    have e1 : l.getLast hne = l'.getLast hne' := by
      have := congrArg (· % b) e
      simp only [Nat.add_comm, Nat.add_mul_mod_self_right] at this
      rw [Nat.mod_eq_of_lt (by omega), Nat.mod_eq_of_lt (by omega)] at this
      exact this
    have e2 : en b l.dropLast = en b l'.dropLast := by
      rw [e1] at e
      have : en b l.dropLast * b = en b l'.dropLast * b := by omega
      exact Nat.eq_of_mul_eq_mul_right (by omega) this
    have e3 := en_inj hb n l.dropLast l'.dropLast (by simp [h]) (fun x q => hx x (List.dropLast_subset _ q)) (fun x q => hx' x (List.dropLast_subset _ q)) e2
    rw [← List.dropLast_concat_getLast hne, ← List.dropLast_concat_getLast hne', e3, e1]
theorem okL_lt {k b : Nat} {l : Nm} (h : okL k l) (hb : 27 ≤ b) : en b l < b ^ k := Nat.lt_of_lt_of_le (en_lt hb l.length l rfl h.2.2) (Nat.pow_le_pow_right (by omega) h.2.1)
theorem okL_inj {k b : Nat} {l l' : Nm} (h : okL k l) (h' : okL k l') (hb : 27 ≤ b) : en b l = en b l' ↔ l = l' := ⟨fun e => en_inj hb l.length l l' rfl h.2.2 h'.2.2 e, fun e => by rw [e]⟩
theorem okL_pos {k b : Nat} {l : Nm} (h : okL k l) : 0 < en b l := en_pos (fun e => by have := h.1; rw [e] at this; simp at this) h.2.2
theorem okL_32 {l : Nm} (h : okL 3 l) : en 32 l < 32768 := okL_lt h (by omega)
theorem okL_27 {l : Nm} (h : okL 3 l) : en 27 l < 19683 := okL_lt h (by omega)
theorem okT_32 {l : Nm} (h : okL 4 l) : en 32 l < 1048576 := okL_lt h (by omega)
theorem okT_27 {l : Nm} (h : okL 4 l) : en 27 l < 531441 := okL_lt h (by omega)
theorem bn_le (c : Bool) : bn c ≤ 1 := by cases c <;> decide
theorem wc_and1 (b : Nat) (w : Wd) : wc b w &&& 1 = bn w.2.2 := by
  rw [show (1 : Nat) = 2 ^ 1 - 1 from rfl, and_mod]
  have := bn_le w.2.2
  unfold wc; omega
theorem wc_mod2 (b : Nat) (w : Wd) : wc b w % 2 = bn w.2.2 := by
  have := bn_le w.2.2
  unfold wc; omega
theorem wc_div16 {b : Nat} {w : Wd} (h : w.2.1 ≤ 7) : wc b w / 16 = en b w.1 := by
  have := bn_le w.2.2
  unfold wc; omega
theorem wc_hops {b : Nat} {w : Wd} (h : w.2.1 ≤ 7) : wc b w / 2 % 8 = w.2.1 := by
  have := bn_le w.2.2
  unfold wc; omega
theorem wc_lt {w : Wd} (h : okW w) : wc 32 w < 2 ^ 20 := by
  have h1 := okL_32 h.1
  have h2 := h.2
  have := bn_le w.2.2
  unfold wc; omega
theorem wc_lt27 {w : Wd} (h : okW w) : wc 27 w < 2 ^ 20 := by
  have h1 := okL_27 h.1
  have h2 := h.2
  have := bn_le w.2.2
  unfold wc; omega
theorem bn_ne (c : Bool) : bn c ≠ 0 ↔ c = true := by cases c <;> decide
theorem bn_eq (c : Bool) : bn c = 0 ↔ c = false := by cases c <;> decide
-- where a packet, names, what is known, what is kept lie in the class's memory
def LPk (sh : SH) (mr : MR) (a : Nat) : Prop := sh a = (4, 0) ∧ mr a 0 = some (a + 1) ∧ sh (a + 1) = (11, 8)
def LNm (sh : SH) (mr : MR) (a : Nat) : Prop := sh a = (2, 0) ∧ mr a 0 = some (a + 1) ∧ sh (a + 1) = (11, 2)
def LKn (sh : SH) (mr : MR) (a : Nat) : Prop := sh a = (1, 0) ∧ mr a 0 = some (a + 1) ∧ sh (a + 1) = (11, 16) ∧ mr a 1 = some (a + 2) ∧ sh (a + 2) = (11, 16) ∧ mr a 2 = some (a + 3) ∧ sh (a + 3) = (11, 16)
def LKp (sh : SH) (mr : MR) (a : Nat) : Prop := sh a = (0, 0) ∧ mr a 0 = some (a + 1) ∧ sh (a + 1) = (14, 12) ∧ mr a 1 = some (a + 2) ∧ sh (a + 2) = (11, 12) ∧ ∀ j, j < 12 → LPk sh mr (a + 3 + 2 * j)
def LSt (sh : SH) (mr : MR) (a : Nat) : Prop := sh a = (6, 0) ∧ (mr a 1 = some (a + 1) ∧ LNm sh mr (a + 1)) ∧ (mr a 2 = some (a + 3) ∧ LNm sh mr (a + 3)) ∧ (mr a 6 = some (a + 5) ∧ sh (a + 5) = (11, 9)) ∧ (mr a 7 = some (a + 6) ∧ LKp sh mr (a + 6)) ∧ (mr a 8 = some (a + 33) ∧ LKn sh mr (a + 33)) ∧ (mr a 9 = some (a + 37) ∧ LPk sh mr (a + 37)) ∧ (mr a 11 = some (a + 39) ∧ LPk sh mr (a + 39)) ∧ (mr a 12 = some (a + 41) ∧ LPk sh mr (a + 41))
def LNt (sh : SH) (mr : MR) (a : Nat) : Prop := sh a = (3, 0) ∧ mr a 0 = some (a + 1) ∧ sh (a + 1) = (15, 6) ∧ mr a 1 = some (a + 2) ∧ sh (a + 2) = (11, 6) ∧ ∀ s, s < 6 → mr (a + 1) s = some (a + 3 + 43 * s) ∧ LSt sh mr (a + 3 + 43 * s)
/-- what the rows hold -/
def PkC (mi : MI) (a : Nat) (p : Pk) : Prop := mi a 1 = nI p.2.2.length ∧ mi a 2 = nI (en 32 p.1) ∧ mi a 3 = nI (en 32 p.2.1) ∧ ∀ i w, p.2.2[i]? = some w → mi (a + 1) i = nI (wc 32 w)
def NmC (mi : MI) (a : Nat) (l : List Nm) : Prop := mi a 1 = nI l.length ∧ ∀ i x, l[i]? = some x → mi (a + 1) i = nI (en 32 x)
def KnC (mi : MI) (a : Nat) (l : Kn) : Prop := mi a 3 = nI l.length ∧ ∀ i q, l[i]? = some q → mi (a + 1) i = nI (en 32 q.1) ∧ mi (a + 2) i = nI (en 32 q.2.1) ∧ mi (a + 3) i = nI q.2.2
def KpC (mi : MI) (mr : MR) (a : Nat) (l : Kp) : Prop := mi a 2 = nI l.length ∧ ∀ i q, l[i]? = some q → mi (a + 2) i = nI q.2 ∧ ∃ x, mr (a + 1) i = some x ∧ PkC mi x q.1
/-- the packets of a 'Kept' are its own, each once -/
def KpR (mr : MR) (a : Nat) : Prop := ∃ f : Nat → Nat, (∀ i, i < 12 → f i < 12 ∧ mr (a + 1) i = some (a + 3 + 2 * f i)) ∧ ∀ i j, i < 12 → j < 12 → f i = f j → i = j
abbrev EP (d z : Nat) (sh : SH) (mr : MR) (mi : MI) (r : Int32) : ET := mE d 0 0 (Pm z sh mr (fun v mi' => v = some (.int r) ∧ mi' = mi))
abbrev EI (d z : Nat) (sh : SH) (mr : MR) (P : Option Value → MI → Prop) : ET := mE d 0 0 (Pm z sh mr P)
end
section
/-- the reference's layout: its object at o, its ten rows behind it -/
def LM (sh : SH) (mr : MR) (o : Nat) : Prop := sh o = (10, 0) ∧ (mr o 0 = some (o + 1) ∧ sh (o + 1) = (11, 1387)) ∧ (mr o 1 = some (o + 2) ∧ sh (o + 2) = (11, 4161)) ∧ (mr o 2 = some (o + 3) ∧ sh (o + 3) = (12, 2)) ∧ (mr o 3 = some (o + 4) ∧ sh (o + 4) = (11, 40)) ∧ (mr o 5 = some (o + 5) ∧ sh (o + 5) = (11, 11)) ∧ (mr o 8 = some (o + 6) ∧ sh (o + 6) = (11, 66)) ∧ (mr o 9 = some (o + 7) ∧ sh (o + 7) = (12, 6)) ∧ (mr o 10 = some (o + 8) ∧ sh (o + 8) = (11, 6)) ∧ (mr o 11 = some (o + 9) ∧ sh (o + 9) = (11, 6)) ∧ (mr o 12 = some (o + 10) ∧ sh (o + 10) = (11, 80))
section REF1
variable {z : Nat} {sh : SH} {mi : MI} {mr : MR}
def inB (v lo hi : Int32) : Bool := !decide (v < lo) && !decide (hi < v)
theorem c_in (v lo hi : Int32) : Mp mX10_in 0 [.int v, .int lo, .int hi] z sh mi mr (b2 (inB v lo hi)) := by
  refine Mv.of pnX10_in (Nat.le_of_ble_eq_true rfl) rfl ?_
  refine r_iload_n 0 dX10_in_0 rfl rfl ?_
  refine r_iload_n 1 dX10_in_1 rfl rfl ?_
  refine r_icmp_lt 14 dX10_in_2 (by decide) (fun h2 => ?_) (fun h2 => ?_)
  · refine r_iconst (v := nI 0) dX10_in_14 (by decide) ?_
    refine r_zret dX10_in_15 rfl (by first | exact b2_nar _ | decide) (Nat.le_of_ble_eq_true rfl) (Nat.le_of_ble_eq_true rfl) ?_
    refine ⟨rfl, rfl, rfl, ?_, rfl⟩
    simp only [inB]; simp only [h2, decide_true, decide_false]; try simp only [h7, decide_true, decide_false]
    rfl
  · refine r_iload_n 0 dX10_in_5 rfl rfl ?_
    refine r_iload_n 2 dX10_in_6 rfl rfl ?_
    refine r_icmp_gt 14 dX10_in_7 (by decide) (fun h7 => ?_) (fun h7 => ?_)
    · refine r_iconst (v := nI 0) dX10_in_14 (by decide) ?_
      refine r_zret dX10_in_15 rfl (by first | exact b2_nar _ | decide) (Nat.le_of_ble_eq_true rfl) (Nat.le_of_ble_eq_true rfl) ?_
      refine ⟨rfl, rfl, rfl, ?_, rfl⟩
      simp only [inB]; simp only [h2, decide_true, decide_false]; try simp only [h7, decide_true, decide_false]
      rfl
    · refine r_iconst (v := nI 1) dX10_in_10 (by decide) ?_
      refine r_goto 15 dX10_in_11 (by decide) ?_
      refine r_zret dX10_in_15 rfl (by first | exact b2_nar _ | decide) (Nat.le_of_ble_eq_true rfl) (Nat.le_of_ble_eq_true rfl) ?_
      refine ⟨rfl, rfl, rfl, ?_, rfl⟩
      simp only [inB]; simp only [h2, decide_true, decide_false]; try simp only [h7, decide_true, decide_false]
      rfl
def stB (s : Int32) : Bool := inB s (nI 0) (nI 5)
theorem c_isStation (s : Int32) : Mp mX10_isStation 1 [.int s] z sh mi mr (b2 (stB s)) := by
  refine Mv.of pnX10_isStation (Nat.le_of_ble_eq_true rfl) rfl ?_
  refine r_iload_n 0 dX10_isStation_0 rfl rfl ?_
  refine r_iconst (v := nI 0) dX10_isStation_1 (by decide) ?_
  refine r_iconst (v := nI 5) dX10_isStation_2 (by decide) ?_
  refine r_callSp [_, _, _] dX10_isStation_3 ok_RX10_41 isX10_in rfl rfl (Nat.le_of_ble_eq_true rfl) (by refine ⟨?_, ?_, ?_, ?_⟩ <;> exact Nat.le_of_ble_eq_true rfl) (c_in _ _ _) ?_
  refine r_zret dX10_isStation_6 rfl (by first | exact b2_nar _ | decide) (Nat.le_of_ble_eq_true rfl) (Nat.le_of_ble_eq_true rfl) ?_
  exact ⟨rfl, rfl, rfl, rfl, rfl⟩
theorem c_isAt {o : Nat} (hL : LM sh mr o) {sign : Int32} {a n : Nat} (ha : mi o 6 = nI a) (hn : mi o 4 = nI n) (hn40 : n ≤ 40) (ha40 : a ≤ 40) : Mp mX10_isAt 0 [.ref o, .int sign] z sh mi mr (b2 (decide (a < n) && decide (mi (o + 4) a = sign))) := by
  obtain ⟨l0, ⟨l1, l2⟩, ⟨l3, l4⟩, ⟨l5, l6⟩, ⟨l7, l8⟩, ⟨l9, l10⟩, ⟨l11, l12⟩, ⟨l13, l14⟩, ⟨l15, l16⟩, ⟨l17, l18⟩, ⟨l19, l20⟩⟩ := hL
  refine Mv.of pnX10_isAt (Nat.le_of_ble_eq_true rfl) rfl ?_
  refine r_aload_n 0 dX10_isAt_0 rfl rfl ?_
  refine r_getV dX10_isAt_1 fl_RX10_49 rfl (by assumption) (by first | assumption | exact up2_same _ _ _ _ | exact (Eq.trans (up2_ne _ _ (by omega)) (by first | assumption | exact up2_same _ _ _ _)) | exact (Eq.trans (up2_ne _ _ (by omega)) (Eq.trans (up2_ne _ _ (by omega)) (by first | assumption | exact up2_same _ _ _ _))) | exact (Eq.trans (up2_ne _ _ (by omega)) (Eq.trans (up2_ne _ _ (by omega)) (Eq.trans (up2_ne _ _ (by omega)) (by first | assumption | exact up2_same _ _ _ _)))) | exact (Eq.trans (up2_ne _ _ (by omega)) (Eq.trans (up2_ne _ _ (by omega)) (Eq.trans (up2_ne _ _ (by omega)) (Eq.trans (up2_ne _ _ (by omega)) (by first | assumption | exact up2_same _ _ _ _))))) | rfl) ?_
  refine r_aload_n 0 dX10_isAt_4 rfl rfl ?_
  refine r_getV dX10_isAt_5 fl_RX10_45 rfl (by assumption) (by first | assumption | exact up2_same _ _ _ _ | exact (Eq.trans (up2_ne _ _ (by omega)) (by first | assumption | exact up2_same _ _ _ _)) | exact (Eq.trans (up2_ne _ _ (by omega)) (Eq.trans (up2_ne _ _ (by omega)) (by first | assumption | exact up2_same _ _ _ _))) | exact (Eq.trans (up2_ne _ _ (by omega)) (Eq.trans (up2_ne _ _ (by omega)) (Eq.trans (up2_ne _ _ (by omega)) (by first | assumption | exact up2_same _ _ _ _)))) | exact (Eq.trans (up2_ne _ _ (by omega)) (Eq.trans (up2_ne _ _ (by omega)) (Eq.trans (up2_ne _ _ (by omega)) (Eq.trans (up2_ne _ _ (by omega)) (by first | assumption | exact up2_same _ _ _ _))))) | rfl) ?_
  refine r_icmpN_ge 28 dX10_isAt_8 (by decide) (by omega) (by omega) (fun h8 => ?_) (fun h8 => ?_)
  · refine r_iconst (v := nI 0) dX10_isAt_28 (by decide) ?_
    refine r_zret dX10_isAt_29 rfl (by first | exact b2_nar _ | decide) (Nat.le_of_ble_eq_true rfl) (Nat.le_of_ble_eq_true rfl) ?_
    refine ⟨rfl, rfl, rfl, ?_, rfl⟩
    first | rw [show decide (a < n) = false by simp; omega]; rfl | (rw [show decide (a < n) = true by simp; omega, show decide (mi (o + 4) a = sign) = true by simpa using h21]; rfl) | (rw [show decide (mi (o + 4) a = sign) = false by simpa using h21, Bool.and_false]; rfl)
  · refine r_aload_n 0 dX10_isAt_11 rfl rfl ?_
    refine r_getR dX10_isAt_12 fl_RX10_20 rfl (by assumption) (by assumption) ?_
    refine r_aload_n 0 dX10_isAt_15 rfl rfl ?_
    refine r_getV dX10_isAt_16 fl_RX10_49 rfl (by assumption) (by first | assumption | exact up2_same _ _ _ _ | exact (Eq.trans (up2_ne _ _ (by omega)) (by first | assumption | exact up2_same _ _ _ _)) | exact (Eq.trans (up2_ne _ _ (by omega)) (Eq.trans (up2_ne _ _ (by omega)) (by first | assumption | exact up2_same _ _ _ _))) | exact (Eq.trans (up2_ne _ _ (by omega)) (Eq.trans (up2_ne _ _ (by omega)) (Eq.trans (up2_ne _ _ (by omega)) (by first | assumption | exact up2_same _ _ _ _)))) | exact (Eq.trans (up2_ne _ _ (by omega)) (Eq.trans (up2_ne _ _ (by omega)) (Eq.trans (up2_ne _ _ (by omega)) (Eq.trans (up2_ne _ _ (by omega)) (by first | assumption | exact up2_same _ _ _ _))))) | rfl) ?_
    refine r_ialdV dX10_isAt_19 (by assumption) (by omega) (by omega) (by first | assumption | exact up2_same _ _ _ _ | exact (Eq.trans (up2_ne _ _ (by omega)) (by first | assumption | exact up2_same _ _ _ _)) | exact (Eq.trans (up2_ne _ _ (by omega)) (Eq.trans (up2_ne _ _ (by omega)) (by first | assumption | exact up2_same _ _ _ _))) | exact (Eq.trans (up2_ne _ _ (by omega)) (Eq.trans (up2_ne _ _ (by omega)) (Eq.trans (up2_ne _ _ (by omega)) (by first | assumption | exact up2_same _ _ _ _)))) | exact (Eq.trans (up2_ne _ _ (by omega)) (Eq.trans (up2_ne _ _ (by omega)) (Eq.trans (up2_ne _ _ (by omega)) (Eq.trans (up2_ne _ _ (by omega)) (by first | assumption | exact up2_same _ _ _ _))))) | rfl) ?_
    refine r_iload_n 1 dX10_isAt_20 rfl rfl ?_
    refine r_icmp_ne 28 dX10_isAt_21 (by decide) (fun h21 => ?_) (fun h21 => ?_)
    · refine r_iconst (v := nI 0) dX10_isAt_28 (by decide) ?_
      refine r_zret dX10_isAt_29 rfl (by first | exact b2_nar _ | decide) (Nat.le_of_ble_eq_true rfl) (Nat.le_of_ble_eq_true rfl) ?_
      refine ⟨rfl, rfl, rfl, ?_, rfl⟩
      first | rw [show decide (a < n) = false by simp; omega]; rfl | (rw [show decide (a < n) = true by simp; omega, show decide (mi (o + 4) a = sign) = true by simpa using h21]; rfl) | (rw [show decide (mi (o + 4) a = sign) = false by simpa using h21, Bool.and_false]; rfl)
    · refine r_iconst (v := nI 1) dX10_isAt_24 (by decide) ?_
      refine r_goto 29 dX10_isAt_25 (by decide) ?_
      refine r_zret dX10_isAt_29 rfl (by first | exact b2_nar _ | decide) (Nat.le_of_ble_eq_true rfl) (Nat.le_of_ble_eq_true rfl) ?_
      refine ⟨rfl, rfl, rfl, ?_, rfl⟩
      first | rw [show decide (a < n) = false by simp; omega]; rfl | (rw [show decide (a < n) = true by simp; omega, show decide (mi (o + 4) a = sign) = true by simpa using h21]; rfl) | (rw [show decide (mi (o + 4) a = sign) = false by simpa using h21, Bool.and_false]; rfl)
end REF1
end
section
section PACKET
variable {z : Nat} {sh : SH} {mi : MI} {mr : MR} {a : Nat}
theorem c_isPlace (hL : LPk sh mr a) {n i : Nat} (hn : mi a 1 = nI n) (h8 : n ≤ 8) (hi : i < 2 ^ 31) : Mp mX4_isPlace 0 [.ref a, .int (nI i)] z sh mi mr (b2 (decide (i < n))) := by
  obtain ⟨l0, l1, l2⟩ := hL
  refine Mv.of pnX4_isPlace (Nat.le_of_ble_eq_true rfl) rfl ?_
  refine r_iload_n 1 dX4_isPlace_0 rfl rfl ?_
  refine r_ifN_lt 16 dX4_isPlace_1 (by decide) (by omega) ?_
  refine r_iload_n 1 dX4_isPlace_4 rfl rfl ?_
  refine r_aload_n 0 dX4_isPlace_5 rfl rfl ?_
  refine r_getV dX4_isPlace_6 fl_RX4_21 rfl (by assumption) (by first | assumption | exact up2_same _ _ _ _ | exact (Eq.trans (up2_ne _ _ (by omega)) (by first | assumption | exact up2_same _ _ _ _)) | exact (Eq.trans (up2_ne _ _ (by omega)) (Eq.trans (up2_ne _ _ (by omega)) (by first | assumption | exact up2_same _ _ _ _))) | exact (Eq.trans (up2_ne _ _ (by omega)) (Eq.trans (up2_ne _ _ (by omega)) (Eq.trans (up2_ne _ _ (by omega)) (by first | assumption | exact up2_same _ _ _ _)))) | exact (Eq.trans (up2_ne _ _ (by omega)) (Eq.trans (up2_ne _ _ (by omega)) (Eq.trans (up2_ne _ _ (by omega)) (Eq.trans (up2_ne _ _ (by omega)) (by first | assumption | exact up2_same _ _ _ _))))) | rfl) ?_
  refine r_icmpN_ge 16 dX4_isPlace_9 (by decide) (by omega) (by omega) (fun h9 => ?_) (fun h9 => ?_)
  · refine r_iconst (v := nI 0) dX4_isPlace_16 (by decide) ?_
    refine r_zret dX4_isPlace_17 rfl (by first | exact b2_nar _ | decide) (Nat.le_of_ble_eq_true rfl) (Nat.le_of_ble_eq_true rfl) ?_
    refine ⟨rfl, rfl, rfl, ?_, rfl⟩
    first | (rw [show decide (i < n) = false by simp; omega]; rfl) | (rw [show decide (i < n) = true by simp; omega]; rfl)
  · refine r_iconst (v := nI 1) dX4_isPlace_12 (by decide) ?_
    refine r_goto 17 dX4_isPlace_13 (by decide) ?_
    refine r_zret dX4_isPlace_17 rfl (by first | exact b2_nar _ | decide) (Nat.le_of_ble_eq_true rfl) (Nat.le_of_ble_eq_true rfl) ?_
    refine ⟨rfl, rfl, rfl, ?_, rfl⟩
    first | (rw [show decide (i < n) = false by simp; omega]; rfl) | (rw [show decide (i < n) = true by simp; omega]; rfl)
theorem c_nameAt (hL : LPk sh mr a) {n i v : Nat} (hn : mi a 1 = nI n) (h8 : n ≤ 8) (hi : i < n) (hv : mi (a + 1) i = nI v) (hv2 : v < 2 ^ 31) : Mp mX4_nameAt 1 [.ref a, .int (nI i)] z sh mi mr (nI (v / 16)) := by
  obtain ⟨l0, l1, l2⟩ := id hL
  refine Mv.of pnX4_nameAt (Nat.le_of_ble_eq_true rfl) rfl ?_
  refine r_aload_n 0 dX4_nameAt_0 rfl rfl ?_
  refine r_iload_n 1 dX4_nameAt_1 rfl rfl ?_
  refine r_callVp [_] dX4_nameAt_2 ok_RX4_31 ivX4_isPlace (by assumption) ⟨_, _, rfl⟩ rfl rfl (Nat.le_of_ble_eq_true rfl) (by refine ⟨?_, ?_, ?_, ?_⟩ <;> exact Nat.le_of_ble_eq_true rfl) (c_isPlace hL hn h8 (by omega)) ?_
  refine r_ifB_eq 19 dX4_nameAt_5 (by decide) (fun h5 => ?_) (fun h5 => ?_)
  · simp at h5
    omega
  · refine r_aload_n 0 dX4_nameAt_8 rfl rfl ?_
    refine r_getR dX4_nameAt_9 fl_RX4_9 rfl (by assumption) (by assumption) ?_
    refine r_iload_n 1 dX4_nameAt_12 rfl rfl ?_
    refine r_ialdV dX4_nameAt_13 (by assumption) (by omega) (by omega) (by first | assumption | exact up2_same _ _ _ _ | exact (Eq.trans (up2_ne _ _ (by omega)) (by first | assumption | exact up2_same _ _ _ _)) | exact (Eq.trans (up2_ne _ _ (by omega)) (Eq.trans (up2_ne _ _ (by omega)) (by first | assumption | exact up2_same _ _ _ _))) | exact (Eq.trans (up2_ne _ _ (by omega)) (Eq.trans (up2_ne _ _ (by omega)) (Eq.trans (up2_ne _ _ (by omega)) (by first | assumption | exact up2_same _ _ _ _)))) | exact (Eq.trans (up2_ne _ _ (by omega)) (Eq.trans (up2_ne _ _ (by omega)) (Eq.trans (up2_ne _ _ (by omega)) (Eq.trans (up2_ne _ _ (by omega)) (by first | assumption | exact up2_same _ _ _ _))))) | rfl) ?_
    refine r_iconst (v := nI 4) dX4_nameAt_14 (by decide) ?_
    refine r_ishrN dX4_nameAt_15 (by omega) (by omega) ?_
    refine r_goto 20 dX4_nameAt_16 (by decide) ?_
    refine r_iret dX4_nameAt_20 rfl (Nat.le_of_ble_eq_true rfl) (Nat.le_of_ble_eq_true rfl) ?_
    exact ⟨rfl, rfl, rfl, rfl, rfl⟩
theorem c_hopsAt (hL : LPk sh mr a) {n i v : Nat} (hn : mi a 1 = nI n) (h8 : n ≤ 8) (hi : i < n) (hv : mi (a + 1) i = nI v) (hv2 : v < 2 ^ 31) : Mp mX4_hopsAt 1 [.ref a, .int (nI i)] z sh mi mr (nI (v / 2 % 8)) := by
  obtain ⟨l0, l1, l2⟩ := id hL
  refine Mv.of pnX4_hopsAt (Nat.le_of_ble_eq_true rfl) rfl ?_
  refine r_aload_n 0 dX4_hopsAt_0 rfl rfl ?_
  refine r_iload_n 1 dX4_hopsAt_1 rfl rfl ?_
  refine r_callVp [_] dX4_hopsAt_2 ok_RX4_31 ivX4_isPlace (by assumption) ⟨_, _, rfl⟩ rfl rfl (Nat.le_of_ble_eq_true rfl) (by refine ⟨?_, ?_, ?_, ?_⟩ <;> exact Nat.le_of_ble_eq_true rfl) (c_isPlace hL hn h8 (by omega)) ?_
  refine r_ifB_eq 22 dX4_hopsAt_5 (by decide) (fun h5 => ?_) (fun h5 => ?_)
  · simp at h5
    omega
  · refine r_aload_n 0 dX4_hopsAt_8 rfl rfl ?_
    refine r_getR dX4_hopsAt_9 fl_RX4_9 rfl (by assumption) (by assumption) ?_
    refine r_iload_n 1 dX4_hopsAt_12 rfl rfl ?_
    refine r_ialdV dX4_hopsAt_13 (by assumption) (by omega) (by omega) (by first | assumption | exact up2_same _ _ _ _ | exact (Eq.trans (up2_ne _ _ (by omega)) (by first | assumption | exact up2_same _ _ _ _)) | exact (Eq.trans (up2_ne _ _ (by omega)) (Eq.trans (up2_ne _ _ (by omega)) (by first | assumption | exact up2_same _ _ _ _))) | exact (Eq.trans (up2_ne _ _ (by omega)) (Eq.trans (up2_ne _ _ (by omega)) (Eq.trans (up2_ne _ _ (by omega)) (by first | assumption | exact up2_same _ _ _ _)))) | exact (Eq.trans (up2_ne _ _ (by omega)) (Eq.trans (up2_ne _ _ (by omega)) (Eq.trans (up2_ne _ _ (by omega)) (Eq.trans (up2_ne _ _ (by omega)) (by first | assumption | exact up2_same _ _ _ _))))) | rfl) ?_
    refine r_iconst (v := nI 1) dX4_hopsAt_14 (by decide) ?_
    refine r_ishrN dX4_hopsAt_15 (by omega) (by omega) ?_
    refine r_bipush (v := nI 7) dX4_hopsAt_16 (by decide) ?_
    refine r_iandN dX4_hopsAt_18 ?_
    refine r_goto 23 dX4_hopsAt_19 (by decide) ?_
    refine r_iret dX4_hopsAt_23 rfl (Nat.le_of_ble_eq_true rfl) (Nat.le_of_ble_eq_true rfl) ?_
    refine ⟨rfl, rfl, rfl, ?_, rfl⟩
    rw [show (7 : Nat) = 2 ^ 3 - 1 from rfl, and_mod]
theorem c_isSpentAt (hL : LPk sh mr a) {n i v : Nat} (hn : mi a 1 = nI n) (h8 : n ≤ 8) (hi : i < n) (hv : mi (a + 1) i = nI v) (hv2 : v < 2 ^ 31) : Mp mX4_isSpentAt 1 [.ref a, .int (nI i)] z sh mi mr (b2 (decide (v % 2 = 1))) := by
  obtain ⟨l0, l1, l2⟩ := id hL
  have e1 : v &&& 1 = v % 2 := and_mod v 1
  refine Mv.of pnX4_isSpentAt (Nat.le_of_ble_eq_true rfl) rfl ?_
  refine r_aload_n 0 dX4_isSpentAt_0 rfl rfl ?_
  refine r_iload_n 1 dX4_isSpentAt_1 rfl rfl ?_
  refine r_callVp [_] dX4_isSpentAt_2 ok_RX4_31 ivX4_isPlace (by assumption) ⟨_, _, rfl⟩ rfl rfl (Nat.le_of_ble_eq_true rfl) (by refine ⟨?_, ?_, ?_, ?_⟩ <;> exact Nat.le_of_ble_eq_true rfl) (c_isPlace hL hn h8 (by omega)) ?_
  refine r_ifB_eq 23 dX4_isSpentAt_5 (by decide) (fun h5 => ?_) (fun h5 => ?_)
  · refine r_iconst (v := nI 0) dX4_isSpentAt_23 (by decide) ?_
    refine r_zret dX4_isSpentAt_24 rfl (by first | exact b2_nar _ | decide) (Nat.le_of_ble_eq_true rfl) (Nat.le_of_ble_eq_true rfl) ?_
    refine ⟨rfl, rfl, rfl, ?_, rfl⟩
    first | (simp at h5; omega) | (rw [show decide (v % 2 = 1) = false by simp; omega]; rfl) | (rw [show decide (v % 2 = 1) = true by simp; omega]; rfl)
  · refine r_aload_n 0 dX4_isSpentAt_8 rfl rfl ?_
    refine r_getR dX4_isSpentAt_9 fl_RX4_9 rfl (by assumption) (by assumption) ?_
    refine r_iload_n 1 dX4_isSpentAt_12 rfl rfl ?_
    refine r_ialdV dX4_isSpentAt_13 (by assumption) (by omega) (by omega) (by first | assumption | exact up2_same _ _ _ _ | exact (Eq.trans (up2_ne _ _ (by omega)) (by first | assumption | exact up2_same _ _ _ _)) | exact (Eq.trans (up2_ne _ _ (by omega)) (Eq.trans (up2_ne _ _ (by omega)) (by first | assumption | exact up2_same _ _ _ _))) | exact (Eq.trans (up2_ne _ _ (by omega)) (Eq.trans (up2_ne _ _ (by omega)) (Eq.trans (up2_ne _ _ (by omega)) (by first | assumption | exact up2_same _ _ _ _)))) | exact (Eq.trans (up2_ne _ _ (by omega)) (Eq.trans (up2_ne _ _ (by omega)) (Eq.trans (up2_ne _ _ (by omega)) (Eq.trans (up2_ne _ _ (by omega)) (by first | assumption | exact up2_same _ _ _ _))))) | rfl) ?_
    refine r_iconst (v := nI 1) dX4_isSpentAt_14 (by decide) ?_
    refine r_iandN dX4_isSpentAt_15 ?_
    rw [e1]
    refine r_ifN_eq 23 dX4_isSpentAt_16 (by decide) (by omega) (fun h16 => ?_) (fun h16 => ?_)
    · refine r_iconst (v := nI 0) dX4_isSpentAt_23 (by decide) ?_
      refine r_zret dX4_isSpentAt_24 rfl (by first | exact b2_nar _ | decide) (Nat.le_of_ble_eq_true rfl) (Nat.le_of_ble_eq_true rfl) ?_
      refine ⟨rfl, rfl, rfl, ?_, rfl⟩
      first | (simp at h5; omega) | (rw [show decide (v % 2 = 1) = false by simp; omega]; rfl) | (rw [show decide (v % 2 = 1) = true by simp; omega]; rfl)
    · refine r_iconst (v := nI 1) dX4_isSpentAt_19 (by decide) ?_
      refine r_goto 24 dX4_isSpentAt_20 (by decide) ?_
      refine r_zret dX4_isSpentAt_24 rfl (by first | exact b2_nar _ | decide) (Nat.le_of_ble_eq_true rfl) (Nat.le_of_ble_eq_true rfl) ?_
      refine ⟨rfl, rfl, rfl, ?_, rfl⟩
      first | (simp at h5; omega) | (rw [show decide (v % 2 = 1) = false by simp; omega]; rfl) | (rw [show decide (v % 2 = 1) = true by simp; omega]; rfl)
theorem c_firstUnspent (hL : LPk sh mr a) {p : Pk} (hP : PkC mi a p) (hok : okP p) : Mp mX4_firstUnspent 0 [.ref a] z sh mi mr (if unIx p.2.2 < p.2.2.length then nI (unIx p.2.2) else -6) := by
  obtain ⟨l0, l1, l2⟩ := id hL
  obtain ⟨p1, p2, p3, p4⟩ := id hP
  have h8 := hok.2.2.1
  have H : ∀ k i : Nat, i + k = p.2.2.length → (∀ j w, j < i → p.2.2[j]? = some w → w.2.2 = true) → Wp yX4_firstUnspent cX4_firstUnspent 2 (some .int) (EP 0 z sh mr mi (if unIx p.2.2 < p.2.2.length then nI (unIx p.2.2) else -6)) 0 0 2 [.ref a, .int (nI i)] [] z sh mi mr := by
    intro k
    induction k with
    | zero =>
      intro i hi hb
      have hno : unIx p.2.2 = p.2.2.length := fi_no (fun j w hj => by simp [hb j w (by have := gl_lt hj; omega) hj])
      refine r_iload_n 1 dX4_firstUnspent_2 rfl rfl ?_
      refine r_aload_n 0 dX4_firstUnspent_3 rfl rfl ?_
      refine r_getV dX4_firstUnspent_4 fl_RX4_21 rfl (by assumption) (by first | assumption | exact up2_same _ _ _ _ | exact (Eq.trans (up2_ne _ _ (by omega)) (by first | assumption | exact up2_same _ _ _ _)) | exact (Eq.trans (up2_ne _ _ (by omega)) (Eq.trans (up2_ne _ _ (by omega)) (by first | assumption | exact up2_same _ _ _ _))) | exact (Eq.trans (up2_ne _ _ (by omega)) (Eq.trans (up2_ne _ _ (by omega)) (Eq.trans (up2_ne _ _ (by omega)) (by first | assumption | exact up2_same _ _ _ _)))) | exact (Eq.trans (up2_ne _ _ (by omega)) (Eq.trans (up2_ne _ _ (by omega)) (Eq.trans (up2_ne _ _ (by omega)) (Eq.trans (up2_ne _ _ (by omega)) (by first | assumption | exact up2_same _ _ _ _))))) | rfl) ?_
      refine r_icmpN_ge 29 dX4_firstUnspent_7 (by decide) (by omega) (by omega) (fun h7 => ?_) (fun h7 => ?_)
      · refine r_bipush (v := -6) dX4_firstUnspent_29 (by decide) ?_
        refine r_iret dX4_firstUnspent_31 rfl (Nat.le_of_ble_eq_true rfl) (Nat.le_of_ble_eq_true rfl) ?_
        refine ⟨rfl, rfl, rfl, ?_, rfl⟩
        rw [hno, if_neg (Nat.lt_irrefl _)]
      · omega
    | succ k ih =>
      intro i hi hb
      obtain ⟨w, hw⟩ := gl_ex (l := p.2.2) (i := i) (by omega)
      have hv := p4 i w hw
      have hlt := wc_lt (hok.2.2.2 w (gl_mem hw))
      refine r_iload_n 1 dX4_firstUnspent_2 rfl rfl ?_
      refine r_aload_n 0 dX4_firstUnspent_3 rfl rfl ?_
      refine r_getV dX4_firstUnspent_4 fl_RX4_21 rfl (by assumption) (by first | assumption | exact up2_same _ _ _ _ | exact (Eq.trans (up2_ne _ _ (by omega)) (by first | assumption | exact up2_same _ _ _ _)) | exact (Eq.trans (up2_ne _ _ (by omega)) (Eq.trans (up2_ne _ _ (by omega)) (by first | assumption | exact up2_same _ _ _ _))) | exact (Eq.trans (up2_ne _ _ (by omega)) (Eq.trans (up2_ne _ _ (by omega)) (Eq.trans (up2_ne _ _ (by omega)) (by first | assumption | exact up2_same _ _ _ _)))) | exact (Eq.trans (up2_ne _ _ (by omega)) (Eq.trans (up2_ne _ _ (by omega)) (Eq.trans (up2_ne _ _ (by omega)) (Eq.trans (up2_ne _ _ (by omega)) (by first | assumption | exact up2_same _ _ _ _))))) | rfl) ?_
      refine r_icmpN_ge 29 dX4_firstUnspent_7 (by decide) (by omega) (by omega) (fun h7 => ?_) (fun h7 => ?_)
      · omega
      · refine r_aload_n 0 dX4_firstUnspent_10 rfl rfl ?_
        refine r_getR dX4_firstUnspent_11 fl_RX4_9 rfl (by assumption) (by assumption) ?_
        refine r_iload_n 1 dX4_firstUnspent_14 rfl rfl ?_
        refine r_ialdV dX4_firstUnspent_15 (by assumption) (by omega) (by omega) (by first | assumption | exact up2_same _ _ _ _ | exact (Eq.trans (up2_ne _ _ (by omega)) (by first | assumption | exact up2_same _ _ _ _)) | exact (Eq.trans (up2_ne _ _ (by omega)) (Eq.trans (up2_ne _ _ (by omega)) (by first | assumption | exact up2_same _ _ _ _))) | exact (Eq.trans (up2_ne _ _ (by omega)) (Eq.trans (up2_ne _ _ (by omega)) (Eq.trans (up2_ne _ _ (by omega)) (by first | assumption | exact up2_same _ _ _ _)))) | exact (Eq.trans (up2_ne _ _ (by omega)) (Eq.trans (up2_ne _ _ (by omega)) (Eq.trans (up2_ne _ _ (by omega)) (Eq.trans (up2_ne _ _ (by omega)) (by first | assumption | exact up2_same _ _ _ _))))) | rfl) ?_
        refine r_iconst (v := nI 1) dX4_firstUnspent_16 (by decide) ?_
        refine r_iandN dX4_firstUnspent_17 ?_
        rw [wc_and1]
        have hb1 := bn_le w.2.2
        refine r_ifN_ne 23 dX4_firstUnspent_18 (by decide) (by omega) (fun h18 => ?_) (fun h18 => ?_)
        · refine r_iincN 1 (b := 1) (ls2 := [_, _]) dX4_firstUnspent_23 rfl (by decide) (by decide) rfl ?_
          refine r_goto 2 dX4_firstUnspent_26 (by decide) ?_
          refine ih (i + 1) (by omega) (fun j w' hj hw' => ?_)
          rcases Nat.lt_or_ge j i with q | q
          · exact hb j w' q hw'
          · have : j = i := by omega
            subst this
            rw [hw] at hw'
            cases hw'
            exact (bn_ne _).mp h18
        · refine r_iload_n 1 dX4_firstUnspent_21 rfl rfl ?_
          refine r_iret dX4_firstUnspent_22 rfl (Nat.le_of_ble_eq_true rfl) (Nat.le_of_ble_eq_true rfl) ?_
          refine ⟨rfl, rfl, rfl, ?_, rfl⟩
          have hu : unIx p.2.2 = i := fi_at hw (by simp [(bn_eq _).mp h18]) (fun j w' hj hw' => by simp [hb j w' hj hw'])
          rw [hu, if_pos (by omega)]
  refine Mv.of pnX4_firstUnspent (Nat.le_of_ble_eq_true rfl) rfl ?_
  refine r_iconst (v := nI 0) dX4_firstUnspent_0 (by decide) ?_
  refine r_istore_n 1 (ls2 := [_, _]) dX4_firstUnspent_1 rfl (by decide) (Nat.le_of_ble_eq_true rfl) rfl ?_
  exact H p.2.2.length 0 (by omega) (fun j w hj => by omega)
theorem c_spentWords (hL : LPk sh mr a) {p : Pk} (hP : PkC mi a p) (hok : okP p) : Mp mX4_spentWords 0 [.ref a] z sh mi mr (nI (p.2.2.countP (fun w => w.2.2))) := by
  obtain ⟨l0, l1, l2⟩ := id hL
  obtain ⟨p1, p2, p3, p4⟩ := id hP
  have h8 := hok.2.2.1
  have H : ∀ k i c : Nat, i + k = p.2.2.length → c = (p.2.2.take i).countP (fun w => w.2.2) → Wp yX4_spentWords cX4_spentWords 3 (some .int) (EP 0 z sh mr mi (nI (p.2.2.countP (fun w => w.2.2)))) 0 0 4 [.ref a, .int (nI c), .int (nI i)] [] z sh mi mr := by
    intro k
    induction k with
    | zero =>
      intro i c hi hc
      refine r_iload_n 2 dX4_spentWords_4 rfl rfl ?_
      refine r_aload_n 0 dX4_spentWords_5 rfl rfl ?_
      refine r_getV dX4_spentWords_6 fl_RX4_21 rfl (by assumption) (by first | assumption | exact up2_same _ _ _ _ | exact (Eq.trans (up2_ne _ _ (by omega)) (by first | assumption | exact up2_same _ _ _ _)) | exact (Eq.trans (up2_ne _ _ (by omega)) (Eq.trans (up2_ne _ _ (by omega)) (by first | assumption | exact up2_same _ _ _ _))) | exact (Eq.trans (up2_ne _ _ (by omega)) (Eq.trans (up2_ne _ _ (by omega)) (Eq.trans (up2_ne _ _ (by omega)) (by first | assumption | exact up2_same _ _ _ _)))) | exact (Eq.trans (up2_ne _ _ (by omega)) (Eq.trans (up2_ne _ _ (by omega)) (Eq.trans (up2_ne _ _ (by omega)) (Eq.trans (up2_ne _ _ (by omega)) (by first | assumption | exact up2_same _ _ _ _))))) | rfl) ?_
      refine r_icmpN_ge 29 dX4_spentWords_9 (by decide) (by omega) (by omega) (fun h9 => ?_) (fun h9 => ?_)
      · refine r_iload_n 1 dX4_spentWords_29 rfl rfl ?_
        refine r_iret dX4_spentWords_30 rfl (Nat.le_of_ble_eq_true rfl) (Nat.le_of_ble_eq_true rfl) ?_
        refine ⟨rfl, rfl, rfl, ?_, rfl⟩
        rw [hc, List.take_of_length_le (by omega)]
      · omega
    | succ k ih =>
      intro i c hi hc
      obtain ⟨w, hw⟩ := gl_ex (l := p.2.2) (i := i) (by omega)
      have hv := p4 i w hw
      have hlt := wc_lt (hok.2.2.2 w (gl_mem hw))
      refine r_iload_n 2 dX4_spentWords_4 rfl rfl ?_
      refine r_aload_n 0 dX4_spentWords_5 rfl rfl ?_
      refine r_getV dX4_spentWords_6 fl_RX4_21 rfl (by assumption) (by first | assumption | exact up2_same _ _ _ _ | exact (Eq.trans (up2_ne _ _ (by omega)) (by first | assumption | exact up2_same _ _ _ _)) | exact (Eq.trans (up2_ne _ _ (by omega)) (Eq.trans (up2_ne _ _ (by omega)) (by first | assumption | exact up2_same _ _ _ _))) | exact (Eq.trans (up2_ne _ _ (by omega)) (Eq.trans (up2_ne _ _ (by omega)) (Eq.trans (up2_ne _ _ (by omega)) (by first | assumption | exact up2_same _ _ _ _)))) | exact (Eq.trans (up2_ne _ _ (by omega)) (Eq.trans (up2_ne _ _ (by omega)) (Eq.trans (up2_ne _ _ (by omega)) (Eq.trans (up2_ne _ _ (by omega)) (by first | assumption | exact up2_same _ _ _ _))))) | rfl) ?_
      refine r_icmpN_ge 29 dX4_spentWords_9 (by decide) (by omega) (by omega) (fun h9 => ?_) (fun h9 => ?_)
      · omega
      · refine r_iload_n 1 dX4_spentWords_12 rfl rfl ?_
        refine r_aload_n 0 dX4_spentWords_13 rfl rfl ?_
        refine r_getR dX4_spentWords_14 fl_RX4_9 rfl (by assumption) (by assumption) ?_
        refine r_iload_n 2 dX4_spentWords_17 rfl rfl ?_
        refine r_ialdV dX4_spentWords_18 (by assumption) (by omega) (by omega) (by first | assumption | exact up2_same _ _ _ _ | exact (Eq.trans (up2_ne _ _ (by omega)) (by first | assumption | exact up2_same _ _ _ _)) | exact (Eq.trans (up2_ne _ _ (by omega)) (Eq.trans (up2_ne _ _ (by omega)) (by first | assumption | exact up2_same _ _ _ _))) | exact (Eq.trans (up2_ne _ _ (by omega)) (Eq.trans (up2_ne _ _ (by omega)) (Eq.trans (up2_ne _ _ (by omega)) (by first | assumption | exact up2_same _ _ _ _)))) | exact (Eq.trans (up2_ne _ _ (by omega)) (Eq.trans (up2_ne _ _ (by omega)) (Eq.trans (up2_ne _ _ (by omega)) (Eq.trans (up2_ne _ _ (by omega)) (by first | assumption | exact up2_same _ _ _ _))))) | rfl) ?_
        refine r_iconst (v := nI 1) dX4_spentWords_19 (by decide) ?_
        refine r_iandN dX4_spentWords_20 ?_
        rw [wc_and1]
        refine r_iaddN dX4_spentWords_21 ?_
        refine r_istore_n 1 (ls2 := [_, _, _]) dX4_spentWords_22 rfl (by decide) (Nat.le_of_ble_eq_true rfl) rfl ?_
        refine r_iincN 2 (b := 1) (ls2 := [_, _, _]) dX4_spentWords_23 rfl (by decide) (by decide) rfl ?_
        refine r_goto 4 dX4_spentWords_26 (by decide) ?_
        refine ih (i + 1) _ (by omega) ?_
        rw [hc, List.take_succ, hw, List.countP_append]
        cases hwb : w.2.2 <;> simp [bn, hwb]
  refine Mv.of pnX4_spentWords (Nat.le_of_ble_eq_true rfl) rfl ?_
  refine r_iconst (v := nI 0) dX4_spentWords_0 (by decide) ?_
  refine r_istore_n 1 (ls2 := [_, _]) dX4_spentWords_1 rfl (by decide) (Nat.le_of_ble_eq_true rfl) rfl ?_
  refine r_iconst (v := nI 0) dX4_spentWords_2 (by decide) ?_
  refine r_istore_n 2 (ls2 := [_, _, _]) dX4_spentWords_3 rfl (by decide) (Nat.le_of_ble_eq_true rfl) rfl ?_
  exact H p.2.2.length 0 0 (by omega) (by simp)
def spQ (ws : List Wd) (x : Int32) (j : Nat) : Bool := match ws[j]? with
  | some w => w.2.2 && (nI ((ws.take j).countP (fun w => w.2.2)) == x)
  | none => false
def spF (ws : List Wd) (x : Int32) : Option Nat := (List.range ws.length).find? (spQ ws x)
theorem fr_at {q : Nat → Bool} {n i : Nat} (hi : i < n) (h : q i = true) (hb : ∀ j, j < i → q j = false) : (List.range n).find? q = some i := by
  rw [List.find?_range_eq_some]
  exact ⟨h, List.mem_range.mpr hi, fun j hj => by simp [hb j hj]⟩
theorem fr_no {q : Nat → Bool} {n : Nat} (hb : ∀ j, j < n → q j = false) : (List.range n).find? q = none := by
  rw [List.find?_eq_none]
  intro j hj
  simp [hb j (List.mem_range.mp hj)]
theorem c_placeOfSpent (hL : LPk sh mr a) {p : Pk} (hP : PkC mi a p) (hok : okP p) (x : Int32) : Mp mX4_placeOfSpent 0 [.ref a, .int x] z sh mi mr (match spF p.2.2 x with | some j => nI j | none => -6) := by
  obtain ⟨l0, l1, l2⟩ := id hL
  obtain ⟨p1, p2, p3, p4⟩ := id hP
  have h8 := hok.2.2.1
  have H : ∀ k i c : Nat, i + k = p.2.2.length → c = (p.2.2.take i).countP (fun w => w.2.2) → (∀ j, j < i → spQ p.2.2 x j = false) → Wp yX4_placeOfSpent cX4_placeOfSpent 4 (some .int) (EP 0 z sh mr mi (match spF p.2.2 x with | some j => nI j | none => -6)) 0 0 4 [.ref a, .int x, .int (nI c), .int (nI i)] [] z sh mi mr := by
    intro k
    induction k with
    | zero =>
      intro i c hi hc hb
      refine r_iload_n 3 dX4_placeOfSpent_4 rfl rfl ?_
      refine r_aload_n 0 dX4_placeOfSpent_5 rfl rfl ?_
      refine r_getV dX4_placeOfSpent_6 fl_RX4_21 rfl (by assumption) (by first | assumption | exact up2_same _ _ _ _ | exact (Eq.trans (up2_ne _ _ (by omega)) (by first | assumption | exact up2_same _ _ _ _)) | exact (Eq.trans (up2_ne _ _ (by omega)) (Eq.trans (up2_ne _ _ (by omega)) (by first | assumption | exact up2_same _ _ _ _))) | exact (Eq.trans (up2_ne _ _ (by omega)) (Eq.trans (up2_ne _ _ (by omega)) (Eq.trans (up2_ne _ _ (by omega)) (by first | assumption | exact up2_same _ _ _ _)))) | exact (Eq.trans (up2_ne _ _ (by omega)) (Eq.trans (up2_ne _ _ (by omega)) (Eq.trans (up2_ne _ _ (by omega)) (Eq.trans (up2_ne _ _ (by omega)) (by first | assumption | exact up2_same _ _ _ _))))) | rfl) ?_
      refine r_icmpN_ge 39 dX4_placeOfSpent_9 (by decide) (by omega) (by omega) (fun h9 => ?_) (fun h9 => ?_)
      · refine r_bipush (v := -6) dX4_placeOfSpent_39 (by decide) ?_
        refine r_iret dX4_placeOfSpent_41 rfl (Nat.le_of_ble_eq_true rfl) (Nat.le_of_ble_eq_true rfl) ?_
        refine ⟨rfl, rfl, rfl, ?_, rfl⟩
        rw [show spF p.2.2 x = none from fr_no (fun j hj => hb j (by omega))]
      · omega
    | succ k ih =>
      intro i c hi hc hb
      obtain ⟨w, hw⟩ := gl_ex (l := p.2.2) (i := i) (by omega)
      have hv := p4 i w hw
      have hlt := wc_lt (hok.2.2.2 w (gl_mem hw))
      have hbn := bn_le w.2.2
      have ext : spQ p.2.2 x i = false → ∀ j, j < i + 1 → spQ p.2.2 x j = false := fun h j hj => by
        rcases Nat.lt_or_ge j i with q | q
        · exact hb j q
        · rw [show j = i by omega]; exact h
      refine r_iload_n 3 dX4_placeOfSpent_4 rfl rfl ?_
      refine r_aload_n 0 dX4_placeOfSpent_5 rfl rfl ?_
      refine r_getV dX4_placeOfSpent_6 fl_RX4_21 rfl (by assumption) (by first | assumption | exact up2_same _ _ _ _ | exact (Eq.trans (up2_ne _ _ (by omega)) (by first | assumption | exact up2_same _ _ _ _)) | exact (Eq.trans (up2_ne _ _ (by omega)) (Eq.trans (up2_ne _ _ (by omega)) (by first | assumption | exact up2_same _ _ _ _))) | exact (Eq.trans (up2_ne _ _ (by omega)) (Eq.trans (up2_ne _ _ (by omega)) (Eq.trans (up2_ne _ _ (by omega)) (by first | assumption | exact up2_same _ _ _ _)))) | exact (Eq.trans (up2_ne _ _ (by omega)) (Eq.trans (up2_ne _ _ (by omega)) (Eq.trans (up2_ne _ _ (by omega)) (Eq.trans (up2_ne _ _ (by omega)) (by first | assumption | exact up2_same _ _ _ _))))) | rfl) ?_
      refine r_icmpN_ge 39 dX4_placeOfSpent_9 (by decide) (by omega) (by omega) (fun h9 => ?_) (fun h9 => ?_)
      · omega
      · refine r_aload_n 0 dX4_placeOfSpent_12 rfl rfl ?_
        refine r_getR dX4_placeOfSpent_13 fl_RX4_9 rfl (by assumption) (by assumption) ?_
        refine r_iload_n 3 dX4_placeOfSpent_16 rfl rfl ?_
        refine r_ialdV dX4_placeOfSpent_17 (by assumption) (by omega) (by omega) (by first | assumption | exact up2_same _ _ _ _ | exact (Eq.trans (up2_ne _ _ (by omega)) (by first | assumption | exact up2_same _ _ _ _)) | exact (Eq.trans (up2_ne _ _ (by omega)) (Eq.trans (up2_ne _ _ (by omega)) (by first | assumption | exact up2_same _ _ _ _))) | exact (Eq.trans (up2_ne _ _ (by omega)) (Eq.trans (up2_ne _ _ (by omega)) (Eq.trans (up2_ne _ _ (by omega)) (by first | assumption | exact up2_same _ _ _ _)))) | exact (Eq.trans (up2_ne _ _ (by omega)) (Eq.trans (up2_ne _ _ (by omega)) (Eq.trans (up2_ne _ _ (by omega)) (Eq.trans (up2_ne _ _ (by omega)) (by first | assumption | exact up2_same _ _ _ _))))) | rfl) ?_
        refine r_iconst (v := nI 1) dX4_placeOfSpent_18 (by decide) ?_
        refine r_iandN dX4_placeOfSpent_19 ?_
        rw [wc_and1]
        refine r_ifN_eq 33 dX4_placeOfSpent_20 (by decide) (by omega) (fun h20 => ?_) (fun h20 => ?_)
        · refine r_iincN 3 (b := 1) (ls2 := [_, _, _, _]) dX4_placeOfSpent_33 rfl (by decide) (by decide) rfl ?_
          refine r_goto 4 dX4_placeOfSpent_36 (by decide) ?_
          refine ih (i + 1) _ (by omega) ?_ (ext ?_)
          · rw [hc, List.take_succ, hw, List.countP_append]
            first | simp [(bn_eq _).mp h20] | simp [(bn_ne _).mp h20]
          · first | simp [spQ, hw, (bn_eq _).mp h20] | simp [spQ, hw, (bn_ne _).mp h20, ← hc, h25]
        · refine r_iload_n 2 dX4_placeOfSpent_23 rfl rfl ?_
          refine r_iload_n 1 dX4_placeOfSpent_24 rfl rfl ?_
          refine r_icmp_ne 30 dX4_placeOfSpent_25 (by decide) (fun h25 => ?_) (fun h25 => ?_)
          · refine r_iincN 2 (b := 1) (ls2 := [_, _, _, _]) dX4_placeOfSpent_30 rfl (by decide) (by decide) rfl ?_
            refine r_iincN 3 (b := 1) (ls2 := [_, _, _, _]) dX4_placeOfSpent_33 rfl (by decide) (by decide) rfl ?_
            refine r_goto 4 dX4_placeOfSpent_36 (by decide) ?_
            refine ih (i + 1) _ (by omega) ?_ (ext ?_)
            · rw [hc, List.take_succ, hw, List.countP_append]
              first | simp [(bn_eq _).mp h20] | simp [(bn_ne _).mp h20]
            · first | simp [spQ, hw, (bn_eq _).mp h20] | simp [spQ, hw, (bn_ne _).mp h20, ← hc, h25]
          · refine r_iload_n 3 dX4_placeOfSpent_28 rfl rfl ?_
            refine r_iret dX4_placeOfSpent_29 rfl (Nat.le_of_ble_eq_true rfl) (Nat.le_of_ble_eq_true rfl) ?_
            refine ⟨rfl, rfl, rfl, ?_, rfl⟩
            rw [show spF p.2.2 x = some i from fr_at (by omega) (by simp [spQ, hw, (bn_ne _).mp h20, ← hc, h25]) hb]
  refine Mv.of pnX4_placeOfSpent (Nat.le_of_ble_eq_true rfl) rfl ?_
  refine r_iconst (v := nI 0) dX4_placeOfSpent_0 (by decide) ?_
  refine r_istore_n 2 (ls2 := [_, _, _]) dX4_placeOfSpent_1 rfl (by decide) (Nat.le_of_ble_eq_true rfl) rfl ?_
  refine r_iconst (v := nI 0) dX4_placeOfSpent_2 (by decide) ?_
  refine r_istore_n 3 (ls2 := [_, _, _, _]) dX4_placeOfSpent_3 rfl (by decide) (Nat.le_of_ble_eq_true rfl) rfl ?_
  exact H p.2.2.length 0 0 (by omega) (by simp) (fun j hj => by omega)
theorem c_wasSentBy (hL : LPk sh mr a) {p : Pk} (hP : PkC mi a p) (hok : okP p) {c : Nm} (hc : okL 3 c) : Mp mX4_wasSentBy 0 [.ref a, .int (nI (en 32 c))] z sh mi mr (b2 (ownP c p)) := by
  obtain ⟨l0, l1, l2⟩ := id hL
  obtain ⟨p1, p2, p3, p4⟩ := id hP
  have h8 := hok.2.2.1
  have c1 := okL_32 hc
  have c2 := okL_32 hok.1
  have H : p.1 ≠ c → ∀ k i : Nat, i + k = p.2.2.length → (∀ j w, j < i → p.2.2[j]? = some w → (w.2.2 && w.1 == c) = false) → Wp yX4_wasSentBy cX4_wasSentBy 4 (some .boolean) (EP 0 z sh mr mi (b2 (ownP c p))) 0 0 16 [.ref a, .int (nI (en 32 c)), .int (nI (en 32 c * 2 ^ 4)), .int (nI i)] [] z sh mi mr := by
    intro hne k
    induction k with
    | zero =>
      intro i hi hb
      have hno : ownP c p = false := by
        unfold ownP
        rw [Bool.or_eq_false_iff]
        refine ⟨by simpa using hne, ?_⟩
        rw [List.any_eq_false]
        intro w hw
        obtain ⟨j, hj⟩ := List.getElem?_of_mem hw
        simp [hb j w (by have := gl_lt hj; omega) hj]
      refine r_iload_n 3 dX4_wasSentBy_16 rfl rfl ?_
      refine r_aload_n 0 dX4_wasSentBy_17 rfl rfl ?_
      refine r_getV dX4_wasSentBy_18 fl_RX4_21 rfl (by assumption) (by first | assumption | exact up2_same _ _ _ _ | exact (Eq.trans (up2_ne _ _ (by omega)) (by first | assumption | exact up2_same _ _ _ _)) | exact (Eq.trans (up2_ne _ _ (by omega)) (Eq.trans (up2_ne _ _ (by omega)) (by first | assumption | exact up2_same _ _ _ _))) | exact (Eq.trans (up2_ne _ _ (by omega)) (Eq.trans (up2_ne _ _ (by omega)) (Eq.trans (up2_ne _ _ (by omega)) (by first | assumption | exact up2_same _ _ _ _)))) | exact (Eq.trans (up2_ne _ _ (by omega)) (Eq.trans (up2_ne _ _ (by omega)) (Eq.trans (up2_ne _ _ (by omega)) (Eq.trans (up2_ne _ _ (by omega)) (by first | assumption | exact up2_same _ _ _ _))))) | rfl) ?_
      refine r_icmpN_ge 56 dX4_wasSentBy_21 (by decide) (by omega) (by omega) (fun h21 => ?_) (fun h21 => ?_)
      · refine r_iconst (v := nI 0) dX4_wasSentBy_56 (by decide) ?_
        refine r_zret dX4_wasSentBy_57 rfl (by first | exact b2_nar _ | decide) (Nat.le_of_ble_eq_true rfl) (Nat.le_of_ble_eq_true rfl) ?_
        exact ⟨rfl, rfl, rfl, by rw [hno]; rfl, rfl⟩
      · omega
    | succ k ih =>
      intro i hi hb
      obtain ⟨w, hw⟩ := gl_ex (l := p.2.2) (i := i) (by omega)
      have hv := p4 i w hw
      have hwk := hok.2.2.2 w (gl_mem hw)
      have hlt := wc_lt hwk
      have hd := wc_div16 (b := 32) hwk.2
      have hwn := okL_32 hwk.1
      have hbn := bn_le w.2.2
      have ext : (w.2.2 && w.1 == c) = false → ∀ j w', j < i + 1 → p.2.2[j]? = some w' → (w'.2.2 && w'.1 == c) = false := fun h j w' hj hw' => by
        rcases Nat.lt_or_ge j i with q | q
        · exact hb j w' q hw'
        · rw [show j = i by omega, hw] at hw'
          cases hw'; exact h
      refine r_iload_n 3 dX4_wasSentBy_16 rfl rfl ?_
      refine r_aload_n 0 dX4_wasSentBy_17 rfl rfl ?_
      refine r_getV dX4_wasSentBy_18 fl_RX4_21 rfl (by assumption) (by first | assumption | exact up2_same _ _ _ _ | exact (Eq.trans (up2_ne _ _ (by omega)) (by first | assumption | exact up2_same _ _ _ _)) | exact (Eq.trans (up2_ne _ _ (by omega)) (Eq.trans (up2_ne _ _ (by omega)) (by first | assumption | exact up2_same _ _ _ _))) | exact (Eq.trans (up2_ne _ _ (by omega)) (Eq.trans (up2_ne _ _ (by omega)) (Eq.trans (up2_ne _ _ (by omega)) (by first | assumption | exact up2_same _ _ _ _)))) | exact (Eq.trans (up2_ne _ _ (by omega)) (Eq.trans (up2_ne _ _ (by omega)) (Eq.trans (up2_ne _ _ (by omega)) (Eq.trans (up2_ne _ _ (by omega)) (by first | assumption | exact up2_same _ _ _ _))))) | rfl) ?_
      refine r_icmpN_ge 56 dX4_wasSentBy_21 (by decide) (by omega) (by omega) (fun h21 => ?_) (fun h21 => ?_)
      · omega
      · refine r_aload_n 0 dX4_wasSentBy_24 rfl rfl ?_
        refine r_getR dX4_wasSentBy_25 fl_RX4_9 rfl (by assumption) (by assumption) ?_
        refine r_iload_n 3 dX4_wasSentBy_28 rfl rfl ?_
        refine r_ialdV dX4_wasSentBy_29 (by assumption) (by omega) (by omega) (by first | assumption | exact up2_same _ _ _ _ | exact (Eq.trans (up2_ne _ _ (by omega)) (by first | assumption | exact up2_same _ _ _ _)) | exact (Eq.trans (up2_ne _ _ (by omega)) (Eq.trans (up2_ne _ _ (by omega)) (by first | assumption | exact up2_same _ _ _ _))) | exact (Eq.trans (up2_ne _ _ (by omega)) (Eq.trans (up2_ne _ _ (by omega)) (Eq.trans (up2_ne _ _ (by omega)) (by first | assumption | exact up2_same _ _ _ _)))) | exact (Eq.trans (up2_ne _ _ (by omega)) (Eq.trans (up2_ne _ _ (by omega)) (Eq.trans (up2_ne _ _ (by omega)) (Eq.trans (up2_ne _ _ (by omega)) (by first | assumption | exact up2_same _ _ _ _))))) | rfl) ?_
        refine r_iconst (v := nI 1) dX4_wasSentBy_30 (by decide) ?_
        refine r_iandN dX4_wasSentBy_31 ?_
        rw [wc_and1]
        refine r_ifN_eq 50 dX4_wasSentBy_32 (by decide) (by omega) (fun h32 => ?_) (fun h32 => ?_)
        · refine r_iincN 3 (b := 1) (ls2 := [_, _, _, _]) dX4_wasSentBy_50 rfl (by decide) (by decide) rfl ?_
          refine r_goto 16 dX4_wasSentBy_53 (by decide) ?_
          refine ih (i + 1) (by omega) (ext ?_)
          first | simp [(bn_eq _).mp h32] | (have hcw : w.1 ≠ c := fun e => h45 (by rw [e]); simp [hcw])
        · refine r_aload_n 0 dX4_wasSentBy_35 rfl rfl ?_
          refine r_getR dX4_wasSentBy_36 fl_RX4_9 rfl (by assumption) (by assumption) ?_
          refine r_iload_n 3 dX4_wasSentBy_39 rfl rfl ?_
          refine r_ialdV dX4_wasSentBy_40 (by assumption) (by omega) (by omega) (by first | assumption | exact up2_same _ _ _ _ | exact (Eq.trans (up2_ne _ _ (by omega)) (by first | assumption | exact up2_same _ _ _ _)) | exact (Eq.trans (up2_ne _ _ (by omega)) (Eq.trans (up2_ne _ _ (by omega)) (by first | assumption | exact up2_same _ _ _ _))) | exact (Eq.trans (up2_ne _ _ (by omega)) (Eq.trans (up2_ne _ _ (by omega)) (Eq.trans (up2_ne _ _ (by omega)) (by first | assumption | exact up2_same _ _ _ _)))) | exact (Eq.trans (up2_ne _ _ (by omega)) (Eq.trans (up2_ne _ _ (by omega)) (Eq.trans (up2_ne _ _ (by omega)) (Eq.trans (up2_ne _ _ (by omega)) (by first | assumption | exact up2_same _ _ _ _))))) | rfl) ?_
          refine r_bipush (v := -16) dX4_wasSentBy_41 (by decide) ?_
          refine r_iand dX4_wasSentBy_43 ?_
          refine r_top (nI_m16 (by omega)) ?_
          refine r_iload_n 2 dX4_wasSentBy_44 rfl rfl ?_
          rw [hd]
          refine r_icmpN_ne 50 dX4_wasSentBy_45 (by decide) (by omega) (by omega) (fun h45 => ?_) (fun h45 => ?_)
          · refine r_iincN 3 (b := 1) (ls2 := [_, _, _, _]) dX4_wasSentBy_50 rfl (by decide) (by decide) rfl ?_
            refine r_goto 16 dX4_wasSentBy_53 (by decide) ?_
            refine ih (i + 1) (by omega) (ext ?_)
            first | simp [(bn_eq _).mp h32] | (have hcw : w.1 ≠ c := fun e => h45 (by rw [e]); simp [hcw])
          · have hcw : w.1 = c := (okL_inj (b := 32) hwk.1 hc (by omega)).mp (by omega)
            have hyes : ownP c p = true := by unfold ownP; rw [Bool.or_eq_true]; right; rw [List.any_eq_true]; exact ⟨w, gl_mem hw, by simp [(bn_ne _).mp h32, hcw]⟩
            refine r_iconst (v := nI 1) dX4_wasSentBy_48 (by decide) ?_
            refine r_zret dX4_wasSentBy_49 rfl (by decide) (Nat.le_refl _) (Nat.le_refl _) ?_
            exact ⟨rfl, rfl, rfl, by rw [hyes]; rfl, rfl⟩
  refine Mv.of pnX4_wasSentBy (Nat.le_of_ble_eq_true rfl) rfl ?_
  refine r_aload_n 0 dX4_wasSentBy_0 rfl rfl ?_
  refine r_getV dX4_wasSentBy_1 fl_RX4_25 rfl (by assumption) (by first | assumption | exact up2_same _ _ _ _ | exact (Eq.trans (up2_ne _ _ (by omega)) (by first | assumption | exact up2_same _ _ _ _)) | exact (Eq.trans (up2_ne _ _ (by omega)) (Eq.trans (up2_ne _ _ (by omega)) (by first | assumption | exact up2_same _ _ _ _))) | exact (Eq.trans (up2_ne _ _ (by omega)) (Eq.trans (up2_ne _ _ (by omega)) (Eq.trans (up2_ne _ _ (by omega)) (by first | assumption | exact up2_same _ _ _ _)))) | exact (Eq.trans (up2_ne _ _ (by omega)) (Eq.trans (up2_ne _ _ (by omega)) (Eq.trans (up2_ne _ _ (by omega)) (Eq.trans (up2_ne _ _ (by omega)) (by first | assumption | exact up2_same _ _ _ _))))) | rfl) ?_
  refine r_iload_n 1 dX4_wasSentBy_4 rfl rfl ?_
  refine r_icmpN_ne 10 dX4_wasSentBy_5 (by decide) (by omega) (by omega) (fun h5 => ?_) (fun h5 => ?_)
  · refine r_iload_n 1 dX4_wasSentBy_10 rfl rfl ?_
    refine r_iconst (v := nI 4) dX4_wasSentBy_11 (by decide) ?_
    refine r_ishlN dX4_wasSentBy_12 (by omega) (by omega) ?_
    refine r_istore_n 2 (ls2 := [_, _, _]) dX4_wasSentBy_13 rfl (by decide) (Nat.le_of_ble_eq_true rfl) rfl ?_
    refine r_iconst (v := nI 0) dX4_wasSentBy_14 (by decide) ?_
    refine r_istore_n 3 (ls2 := [_, _, _, _]) dX4_wasSentBy_15 rfl (by decide) (Nat.le_of_ble_eq_true rfl) rfl ?_
    exact H (fun e => h5 (by rw [e])) p.2.2.length 0 (by omega) (fun j w hj => by omega)
  · have hyes : ownP c p = true := by unfold ownP; rw [(okL_inj (b := 32) hok.1 hc (by omega)).mp h5]; simp
    refine r_iconst (v := nI 1) dX4_wasSentBy_8 (by decide) ?_
    refine r_zret dX4_wasSentBy_9 rfl (by decide) (Nat.le_refl _) (Nat.le_refl _) ?_
    exact ⟨rfl, rfl, rfl, by rw [hyes]; rfl, rfl⟩
/-- ints written alone, none elsewhere than in these rows -/
def Oth (mi mi' : MI) (lo hi : Nat) : Prop := ∀ x, (x < lo ∨ hi ≤ x) → mi' x = mi x
theorem c_clear (hL : LPk sh mr a) : Mi mX4_clear 0 [.ref a] z sh mi mr (fun v mi' => v = none ∧ mi' = up2 (up2 (up2 mi a 1 (nI 0)) a 2 (nI 0)) a 3 (nI 0)) := by
  obtain ⟨l0, l1, l2⟩ := id hL
  refine Mv.of pnX4_clear (Nat.le_of_ble_eq_true rfl) rfl ?_
  refine r_aload_n 0 dX4_clear_0 rfl rfl ?_
  refine r_iconst (v := nI 0) dX4_clear_1 (by decide) ?_
  refine r_putI dX4_clear_2 fl_RX4_21 rfl rfl rfl (by assumption) ?_
  refine r_aload_n 0 dX4_clear_5 rfl rfl ?_
  refine r_iconst (v := nI 0) dX4_clear_6 (by decide) ?_
  refine r_putI dX4_clear_7 fl_RX4_25 rfl rfl rfl (by assumption) ?_
  refine r_aload_n 0 dX4_clear_10 rfl rfl ?_
  refine r_iconst (v := nI 0) dX4_clear_11 (by decide) ?_
  refine r_putI dX4_clear_12 fl_RX4_28 rfl rfl rfl (by assumption) ?_
  refine r_vret dX4_clear_15 rfl (Nat.le_of_ble_eq_true rfl) (Nat.le_of_ble_eq_true rfl) ?_
  exact ⟨rfl, rfl, rfl, rfl, rfl⟩
theorem c_copyPk {b : Nat} (hL : LPk sh mr a) (hB : LPk sh mr b) : Mi mX4_copyFrom 1 [.ref a, .ref b] z sh mi mr (fun v mi' => v = none ∧ (∀ x, x ≠ a → x ≠ a + 1 → mi' x = mi x) ∧ mi' a 1 = mi b 1 ∧ mi' a 2 = mi b 2 ∧ mi' a 3 = mi b 3 ∧ ∀ j, j < 8 → mi' (a + 1) j = mi (b + 1) j) := by
  obtain ⟨l0, l1, l2⟩ := id hL
  obtain ⟨k0, k1, k2⟩ := id hB
  have n1 : a ≠ a + 1 := by omega
  have n2 : b ≠ a + 1 := fun e => by rw [e, l2] at k0; cases k0
  refine Mv.of pnX4_copyFrom (Nat.le_of_ble_eq_true rfl) rfl ?_
  refine r_aload_n 1 dX4_copyFrom_0 rfl rfl ?_
  refine r_getR dX4_copyFrom_1 fl_RX4_9 rfl (by assumption) (by assumption) ?_
  refine r_iconst (v := nI 0) dX4_copyFrom_4 (by decide) ?_
  refine r_aload_n 0 dX4_copyFrom_5 rfl rfl ?_
  refine r_getR dX4_copyFrom_6 fl_RX4_9 rfl (by assumption) (by assumption) ?_
  refine r_iconst (v := nI 0) dX4_copyFrom_9 (by decide) ?_
  refine r_bipush (v := nI 8) dX4_copyFrom_10 (by decide) ?_
  refine r_acopy dX4_copyFrom_12 ml_RX4_15 x_nat x_sta x_sys (by assumption) (by assumption) (by decide) ⟨(Nat.le_of_ble_eq_true rfl), (Nat.le_of_ble_eq_true rfl)⟩ ?_
  refine r_aload_n 0 dX4_copyFrom_15 rfl rfl ?_
  refine r_aload_n 1 dX4_copyFrom_16 rfl rfl ?_
  refine r_getV dX4_copyFrom_17 fl_RX4_21 rfl (by assumption) (by rfl) ?_
  refine r_putI dX4_copyFrom_20 fl_RX4_21 rfl rfl rfl (by assumption) ?_
  refine r_aload_n 0 dX4_copyFrom_23 rfl rfl ?_
  refine r_aload_n 1 dX4_copyFrom_24 rfl rfl ?_
  refine r_getV dX4_copyFrom_25 fl_RX4_25 rfl (by assumption) (by rfl) ?_
  refine r_putI dX4_copyFrom_28 fl_RX4_25 rfl rfl rfl (by assumption) ?_
  refine r_aload_n 0 dX4_copyFrom_31 rfl rfl ?_
  refine r_aload_n 1 dX4_copyFrom_32 rfl rfl ?_
  refine r_getV dX4_copyFrom_33 fl_RX4_28 rfl (by assumption) (by rfl) ?_
  refine r_putI dX4_copyFrom_36 fl_RX4_28 rfl rfl rfl (by assumption) ?_
  refine r_vret dX4_copyFrom_39 rfl (Nat.le_of_ble_eq_true rfl) (Nat.le_of_ble_eq_true rfl) ?_
  refine ⟨rfl, rfl, rfl, rfl, ?_⟩
  refine ⟨fun x h1 h2 => ?_, ?_, ?_, ?_, fun j hj => ?_⟩
  · simp [up2_row, cpRow, h1, h2]
  · simp [up2, cpRow, n1, n2]
  · simp [up2, cpRow, n1, n2]
  · simp [up2, cpRow, n1, n2]
  · simp [up2_row, cpRow, hj, Ne.symm n1]
theorem c_spend (hL : LPk sh mr a) {n i e : Nat} (hn : mi a 1 = nI n) (h8 : n ≤ 8) (hi : i < n) (he : e < 32768) : Mi mX4_spend 1 [.ref a, .int (nI i), .int (nI e)] z sh mi mr (fun v mi' => v = none ∧ mi' = up2 mi (a + 1) i (nI (16 * e + 1))) := by
  obtain ⟨l0, l1, l2⟩ := id hL
  refine Mv.of pnX4_spend (Nat.le_of_ble_eq_true rfl) rfl ?_
  refine r_aload_n 0 dX4_spend_0 rfl rfl ?_
  refine r_iload_n 1 dX4_spend_1 rfl rfl ?_
  refine r_callVp [_] dX4_spend_2 ok_RX4_31 ivX4_isPlace (by assumption) ⟨_, _, rfl⟩ rfl rfl (Nat.le_of_ble_eq_true rfl) (by refine ⟨?_, ?_, ?_, ?_⟩ <;> exact Nat.le_of_ble_eq_true rfl) (c_isPlace hL hn h8 (by omega)) ?_
  refine r_ifB_eq 19 dX4_spend_5 (by decide) (fun h5 => ?_) (fun h5 => ?_)
  · first | (exfalso; simp at h5; omega) | (refine r_vret dX4_spend_19 rfl (Nat.le_refl _) (Nat.le_refl _) ?_; refine ⟨rfl, rfl, rfl, rfl, ?_⟩; rw [or_low (by omega : (1 : Nat) < 2 ^ 4), Nat.mul_comm])
  · refine r_aload_n 0 dX4_spend_8 rfl rfl ?_
    refine r_getR dX4_spend_9 fl_RX4_9 rfl (by assumption) (by assumption) ?_
    refine r_iload_n 1 dX4_spend_12 rfl rfl ?_
    refine r_iload_n 2 dX4_spend_13 rfl rfl ?_
    refine r_iconst (v := nI 4) dX4_spend_14 (by decide) ?_
    refine r_ishlN dX4_spend_15 (by omega) (by omega) ?_
    refine r_iconst (v := nI 1) dX4_spend_16 (by decide) ?_
    refine r_iorN dX4_spend_17 ?_
    refine r_iast dX4_spend_18 (by assumption) (by omega) (by omega) ?_
    first | (exfalso; simp at h5; omega) | (refine r_vret dX4_spend_19 rfl (Nat.le_refl _) (Nat.le_refl _) ?_; refine ⟨rfl, rfl, rfl, rfl, ?_⟩; rw [or_low (by omega : (1 : Nat) < 2 ^ 4), Nat.mul_comm])
theorem c_setHops (hL : LPk sh mr a) {n i e v : Nat} (hn : mi a 1 = nI n) (h8 : n ≤ 8) (hi : i < n) (hv : mi (a + 1) i = nI v) (hv2 : v < 2 ^ 31) (he : e ≤ 7) : Mi mX4_setHops 1 [.ref a, .int (nI i), .int (nI e)] z sh mi mr (fun r mi' => r = none ∧ mi' = up2 mi (a + 1) i (nI (v / 16 * 16 + 2 * e + v % 2))) := by
  obtain ⟨l0, l1, l2⟩ := id hL
  have key : v / 16 * 16 + v % 2 ||| e * 2 ^ 1 = v / 16 * 16 + 2 * e + v % 2 := by
    have e1 : v / 16 * 16 + v % 2 = v / 16 * 2 ^ 4 ||| v % 2 := (or_low (by omega : v % 2 < 2 ^ 4)).symm
    rw [e1, Nat.or_assoc, Nat.or_comm (v % 2), or_low (by omega : v % 2 < 2 ^ 1), or_low (by omega : e * 2 ^ 1 + v % 2 < 2 ^ 4)]
    omega
  refine Mv.of pnX4_setHops (Nat.le_of_ble_eq_true rfl) rfl ?_
  refine r_aload_n 0 dX4_setHops_0 rfl rfl ?_
  refine r_iload_n 1 dX4_setHops_1 rfl rfl ?_
  refine r_callVp [_] dX4_setHops_2 ok_RX4_31 ivX4_isPlace (by assumption) ⟨_, _, rfl⟩ rfl rfl (Nat.le_of_ble_eq_true rfl) (by refine ⟨?_, ?_, ?_, ?_⟩ <;> exact Nat.le_of_ble_eq_true rfl) (c_isPlace hL hn h8 (by omega)) ?_
  refine r_ifB_eq 27 dX4_setHops_5 (by decide) (fun h5 => ?_) (fun h5 => ?_)
  · first | (exfalso; simp at h5; omega) | (refine r_vret dX4_setHops_27 rfl (Nat.le_refl _) (Nat.le_refl _) ?_; refine ⟨rfl, rfl, rfl, rfl, ?_⟩; rw [key])
  · refine r_aload_n 0 dX4_setHops_8 rfl rfl ?_
    refine r_getR dX4_setHops_9 fl_RX4_9 rfl (by assumption) (by assumption) ?_
    refine r_iload_n 1 dX4_setHops_12 rfl rfl ?_
    refine r_aload_n 0 dX4_setHops_13 rfl rfl ?_
    refine r_getR dX4_setHops_14 fl_RX4_9 rfl (by assumption) (by assumption) ?_
    refine r_iload_n 1 dX4_setHops_17 rfl rfl ?_
    refine r_ialdV dX4_setHops_18 (by assumption) (by omega) (by omega) (by first | assumption | exact up2_same _ _ _ _ | exact (Eq.trans (up2_ne _ _ (by omega)) (by first | assumption | exact up2_same _ _ _ _)) | exact (Eq.trans (up2_ne _ _ (by omega)) (Eq.trans (up2_ne _ _ (by omega)) (by first | assumption | exact up2_same _ _ _ _))) | exact (Eq.trans (up2_ne _ _ (by omega)) (Eq.trans (up2_ne _ _ (by omega)) (Eq.trans (up2_ne _ _ (by omega)) (by first | assumption | exact up2_same _ _ _ _)))) | exact (Eq.trans (up2_ne _ _ (by omega)) (Eq.trans (up2_ne _ _ (by omega)) (Eq.trans (up2_ne _ _ (by omega)) (Eq.trans (up2_ne _ _ (by omega)) (by first | assumption | exact up2_same _ _ _ _))))) | rfl) ?_
    refine r_bipush (v := -15) dX4_setHops_19 (by decide) ?_
    refine r_iand dX4_setHops_21 ?_
    refine r_top (nI_m15 (by omega)) ?_
    refine r_iload_n 2 dX4_setHops_22 rfl rfl ?_
    refine r_iconst (v := nI 1) dX4_setHops_23 (by decide) ?_
    refine r_ishlN dX4_setHops_24 (by omega) (by omega) ?_
    refine r_iorN dX4_setHops_25 ?_
    refine r_iast dX4_setHops_26 (by assumption) (by omega) (by omega) ?_
    first | (exfalso; simp at h5; omega) | (refine r_vret dX4_setHops_27 rfl (Nat.le_refl _) (Nat.le_refl _) ?_; refine ⟨rfl, rfl, rfl, rfl, ?_⟩; rw [key])
theorem c_addWord (hL : LPk sh mr a) {n e h : Nat} {s : Bool} (hn : mi a 1 = nI n) (h8 : n < 8) (he : e < 32768) (hh : h ≤ 7) : Mi mX4_addWord 0 [.ref a, .int (nI e), .int (nI h), .int (b2 s)] z sh mi mr (fun v mi' => v = none ∧ mi' = up2 (up2 mi (a + 1) n (nI (16 * e + 2 * h + bn s))) a 1 (nI (n + 1))) := by
  obtain ⟨l0, l1, l2⟩ := id hL
  have key : ∀ q, q ≤ 1 → (e * 2 ^ 4 ||| h * 2 ^ 1) ||| q = 16 * e + 2 * h + q := by
    intro q hq
    rw [Nat.or_assoc, or_low (by omega : q < 2 ^ 1), or_low (by omega : h * 2 ^ 1 + q < 2 ^ 4)]
    omega
  refine Mv.of pnX4_addWord (Nat.le_of_ble_eq_true rfl) rfl ?_
  refine r_aload_n 0 dX4_addWord_0 rfl rfl ?_
  refine r_getV dX4_addWord_1 fl_RX4_21 rfl (by assumption) (by first | assumption | exact up2_same _ _ _ _ | exact (Eq.trans (up2_ne _ _ (by omega)) (by first | assumption | exact up2_same _ _ _ _)) | exact (Eq.trans (up2_ne _ _ (by omega)) (Eq.trans (up2_ne _ _ (by omega)) (by first | assumption | exact up2_same _ _ _ _))) | exact (Eq.trans (up2_ne _ _ (by omega)) (Eq.trans (up2_ne _ _ (by omega)) (Eq.trans (up2_ne _ _ (by omega)) (by first | assumption | exact up2_same _ _ _ _)))) | exact (Eq.trans (up2_ne _ _ (by omega)) (Eq.trans (up2_ne _ _ (by omega)) (Eq.trans (up2_ne _ _ (by omega)) (Eq.trans (up2_ne _ _ (by omega)) (by first | assumption | exact up2_same _ _ _ _))))) | rfl) ?_
  refine r_bipush (v := nI 8) dX4_addWord_4 (by decide) ?_
  refine r_icmpN_ge 45 dX4_addWord_6 (by decide) (by omega) (by omega) (fun h6 => ?_) (fun h6 => ?_)
  · first | omega | (refine r_vret dX4_addWord_45 rfl (Nat.le_refl _) (Nat.le_refl _) ?_; refine ⟨rfl, rfl, rfl, rfl, ?_⟩; rw [key _ (by omega), h25]; rfl)
  · refine r_aload_n 0 dX4_addWord_9 rfl rfl ?_
    refine r_getR dX4_addWord_10 fl_RX4_9 rfl (by assumption) (by assumption) ?_
    refine r_aload_n 0 dX4_addWord_13 rfl rfl ?_
    refine r_getV dX4_addWord_14 fl_RX4_21 rfl (by assumption) (by first | assumption | exact up2_same _ _ _ _ | exact (Eq.trans (up2_ne _ _ (by omega)) (by first | assumption | exact up2_same _ _ _ _)) | exact (Eq.trans (up2_ne _ _ (by omega)) (Eq.trans (up2_ne _ _ (by omega)) (by first | assumption | exact up2_same _ _ _ _))) | exact (Eq.trans (up2_ne _ _ (by omega)) (Eq.trans (up2_ne _ _ (by omega)) (Eq.trans (up2_ne _ _ (by omega)) (by first | assumption | exact up2_same _ _ _ _)))) | exact (Eq.trans (up2_ne _ _ (by omega)) (Eq.trans (up2_ne _ _ (by omega)) (Eq.trans (up2_ne _ _ (by omega)) (Eq.trans (up2_ne _ _ (by omega)) (by first | assumption | exact up2_same _ _ _ _))))) | rfl) ?_
    refine r_iload_n 1 dX4_addWord_17 rfl rfl ?_
    refine r_iconst (v := nI 4) dX4_addWord_18 (by decide) ?_
    refine r_ishlN dX4_addWord_19 (by omega) (by omega) ?_
    refine r_iload_n 2 dX4_addWord_20 rfl rfl ?_
    refine r_iconst (v := nI 1) dX4_addWord_21 (by decide) ?_
    refine r_ishlN dX4_addWord_22 (by omega) (by omega) ?_
    refine r_iorN dX4_addWord_23 ?_
    refine r_iload_n 3 dX4_addWord_24 rfl rfl ?_
    refine r_ifB_eq 32 dX4_addWord_25 (by decide) (fun h25 => ?_) (fun h25 => ?_)
    · refine r_iconst (v := nI 0) dX4_addWord_32 (by decide) ?_
      refine r_iorN dX4_addWord_33 ?_
      refine r_iast dX4_addWord_34 (by assumption) (by omega) (by omega) ?_
      refine r_aload_n 0 dX4_addWord_35 rfl rfl ?_
      refine r_dup dX4_addWord_36 rfl ?_
      refine r_getV dX4_addWord_37 fl_RX4_21 rfl (by assumption) (by first | assumption | exact up2_same _ _ _ _ | exact (Eq.trans (up2_ne _ _ (by omega)) (by first | assumption | exact up2_same _ _ _ _)) | exact (Eq.trans (up2_ne _ _ (by omega)) (Eq.trans (up2_ne _ _ (by omega)) (by first | assumption | exact up2_same _ _ _ _))) | exact (Eq.trans (up2_ne _ _ (by omega)) (Eq.trans (up2_ne _ _ (by omega)) (Eq.trans (up2_ne _ _ (by omega)) (by first | assumption | exact up2_same _ _ _ _)))) | exact (Eq.trans (up2_ne _ _ (by omega)) (Eq.trans (up2_ne _ _ (by omega)) (Eq.trans (up2_ne _ _ (by omega)) (Eq.trans (up2_ne _ _ (by omega)) (by first | assumption | exact up2_same _ _ _ _))))) | rfl) ?_
      refine r_iconst (v := nI 1) dX4_addWord_40 (by decide) ?_
      refine r_iaddN dX4_addWord_41 ?_
      refine r_putI dX4_addWord_42 fl_RX4_21 rfl rfl rfl (by assumption) ?_
      first | omega | (refine r_vret dX4_addWord_45 rfl (Nat.le_refl _) (Nat.le_refl _) ?_; refine ⟨rfl, rfl, rfl, rfl, ?_⟩; rw [key _ (by omega), h25]; rfl)
    · refine r_iconst (v := nI 1) dX4_addWord_28 (by decide) ?_
      refine r_goto 33 dX4_addWord_29 (by decide) ?_
      refine r_iorN dX4_addWord_33 ?_
      refine r_iast dX4_addWord_34 (by assumption) (by omega) (by omega) ?_
      refine r_aload_n 0 dX4_addWord_35 rfl rfl ?_
      refine r_dup dX4_addWord_36 rfl ?_
      refine r_getV dX4_addWord_37 fl_RX4_21 rfl (by assumption) (by first | assumption | exact up2_same _ _ _ _ | exact (Eq.trans (up2_ne _ _ (by omega)) (by first | assumption | exact up2_same _ _ _ _)) | exact (Eq.trans (up2_ne _ _ (by omega)) (Eq.trans (up2_ne _ _ (by omega)) (by first | assumption | exact up2_same _ _ _ _))) | exact (Eq.trans (up2_ne _ _ (by omega)) (Eq.trans (up2_ne _ _ (by omega)) (Eq.trans (up2_ne _ _ (by omega)) (by first | assumption | exact up2_same _ _ _ _)))) | exact (Eq.trans (up2_ne _ _ (by omega)) (Eq.trans (up2_ne _ _ (by omega)) (Eq.trans (up2_ne _ _ (by omega)) (Eq.trans (up2_ne _ _ (by omega)) (by first | assumption | exact up2_same _ _ _ _))))) | rfl) ?_
      refine r_iconst (v := nI 1) dX4_addWord_40 (by decide) ?_
      refine r_iaddN dX4_addWord_41 ?_
      refine r_putI dX4_addWord_42 fl_RX4_21 rfl rfl rfl (by assumption) ?_
      first | omega | (refine r_vret dX4_addWord_45 rfl (Nat.le_refl _) (Nat.le_refl _) ?_; refine ⟨rfl, rfl, rfl, rfl, ?_⟩; rw [key _ (by omega), h25]; rfl)
/-- the words from lo on, up to hi, one place further -/
def shR (f : Nat → Int32) (lo hi : Nat) : Nat → Int32 := fun j => if lo < j ∧ j ≤ hi then f (j - 1) else f j
def upR (mi : MI) (a : Nat) (f : Nat → Int32) : MI := fun x => if x = a then f else mi x
theorem upR_at (mi : MI) (a : Nat) (f : Nat → Int32) : upR mi a f a = f := by simp [upR]
theorem upR_ne (mi : MI) {a x : Nat} (f : Nat → Int32) (h : x ≠ a) : upR mi a f x = mi x := by simp [upR, h]
theorem c_putAhead (hL : LPk sh mr a) {n i e : Nat} (hn : mi a 1 = nI n) (h8 : n < 8) (hi : i < n) (he : e < 32768) : Mi mX4_putAhead 1 [.ref a, .int (nI i), .int (nI e)] z sh mi mr (fun v mi' => v = none ∧ mi' = up2 (up2 (upR mi (a + 1) (shR (mi (a + 1)) i n)) (a + 1) i (nI (16 * e + 1))) a 1 (nI (n + 1))) := by
  obtain ⟨l0, l1, l2⟩ := id hL
  have H : ∀ k j : Nat, j = i + k → j ≤ n → Wp yX4_putAhead cX4_putAhead 4 none (EI 1 z sh mr (fun v mi' => v = none ∧ mi' = up2 (up2 (upR mi (a + 1) (shR (mi (a + 1)) i n)) (a + 1) i (nI (16 * e + 1))) a 1 (nI (n + 1)))) 0 0 23 [.ref a, .int (nI i), .int (nI e), .int (nI j)] [] z sh (upR mi (a + 1) (shR (mi (a + 1)) j n)) mr := by
    intro k
    induction k with
    | zero =>
      intro j hj hjn
      have hj' : j = i := by omega
      subst hj'
      have hn' : upR mi (a + 1) (shR (mi (a + 1)) j n) a 1 = nI n := by rw [upR_ne _ _ (by omega)]; exact hn
      refine r_iload_n 3 dX4_putAhead_23 rfl rfl ?_
      refine r_iload_n 1 dX4_putAhead_24 rfl rfl ?_
      refine r_icmpN_le 48 dX4_putAhead_25 (by decide) (by omega) (by omega) (fun h25 => ?_) (fun h25 => ?_)
      · refine r_aload_n 0 dX4_putAhead_48 rfl rfl ?_
        refine r_getR dX4_putAhead_49 fl_RX4_9 rfl (by assumption) (by assumption) ?_
        refine r_iload_n 1 dX4_putAhead_52 rfl rfl ?_
        refine r_iload_n 2 dX4_putAhead_53 rfl rfl ?_
        refine r_iconst (v := nI 4) dX4_putAhead_54 (by decide) ?_
        refine r_ishlN dX4_putAhead_55 (by omega) (by omega) ?_
        refine r_iconst (v := nI 1) dX4_putAhead_56 (by decide) ?_
        refine r_iorN dX4_putAhead_57 ?_
        refine r_iast dX4_putAhead_58 (by assumption) (by omega) (by omega) ?_
        refine r_aload_n 0 dX4_putAhead_59 rfl rfl ?_
        refine r_dup dX4_putAhead_60 rfl ?_
        refine r_getV dX4_putAhead_61 fl_RX4_21 rfl (by assumption) (by first | assumption | exact up2_same _ _ _ _ | exact (Eq.trans (up2_ne _ _ (by omega)) (by first | assumption | exact up2_same _ _ _ _)) | exact (Eq.trans (up2_ne _ _ (by omega)) (Eq.trans (up2_ne _ _ (by omega)) (by first | assumption | exact up2_same _ _ _ _))) | exact (Eq.trans (up2_ne _ _ (by omega)) (Eq.trans (up2_ne _ _ (by omega)) (Eq.trans (up2_ne _ _ (by omega)) (by first | assumption | exact up2_same _ _ _ _)))) | exact (Eq.trans (up2_ne _ _ (by omega)) (Eq.trans (up2_ne _ _ (by omega)) (Eq.trans (up2_ne _ _ (by omega)) (Eq.trans (up2_ne _ _ (by omega)) (by first | assumption | exact up2_same _ _ _ _))))) | rfl) ?_
        refine r_iconst (v := nI 1) dX4_putAhead_64 (by decide) ?_
        refine r_iaddN dX4_putAhead_65 ?_
        refine r_putI dX4_putAhead_66 fl_RX4_21 rfl rfl rfl (by assumption) ?_
        refine r_vret dX4_putAhead_69 rfl (Nat.le_of_ble_eq_true rfl) (Nat.le_of_ble_eq_true rfl) ?_
        refine ⟨rfl, rfl, rfl, rfl, ?_⟩
        rw [or_low (by omega : (1 : Nat) < 2 ^ 4), Nat.mul_comm]
      · omega
    | succ k ih =>
      intro j hj hjn
      refine r_iload_n 3 dX4_putAhead_23 rfl rfl ?_
      refine r_iload_n 1 dX4_putAhead_24 rfl rfl ?_
      refine r_icmpN_le 48 dX4_putAhead_25 (by decide) (by omega) (by omega) (fun h25 => ?_) (fun h25 => ?_)
      · omega
      · refine r_aload_n 0 dX4_putAhead_28 rfl rfl ?_
        refine r_getR dX4_putAhead_29 fl_RX4_9 rfl (by assumption) (by assumption) ?_
        refine r_iload_n 3 dX4_putAhead_32 rfl rfl ?_
        refine r_aload_n 0 dX4_putAhead_33 rfl rfl ?_
        refine r_getR dX4_putAhead_34 fl_RX4_9 rfl (by assumption) (by assumption) ?_
        refine r_iload_n 3 dX4_putAhead_37 rfl rfl ?_
        refine r_iconst (v := nI 1) dX4_putAhead_38 (by decide) ?_
        refine r_isubN dX4_putAhead_39 (by omega) ?_
        refine r_ialdV dX4_putAhead_40 (by assumption) (by omega) (by omega) (by rfl) ?_
        refine r_iast dX4_putAhead_41 (by assumption) (by omega) (by omega) ?_
        refine r_iinc 3 (ls2 := [_, _, _, _]) dX4_putAhead_42 rfl rfl (by decide) rfl ?_
        refine r_goto 23 dX4_putAhead_45 (by decide) ?_
        have ej : nI j + Int32.ofInt (-1) = nI (j - 1) := sb_m1 (by omega)
        rw [ej]
        refine r_mem ?_ (ih (j - 1) (by omega) (by omega))
        funext x q
        by_cases hx : x = a + 1
        · subst hx
          by_cases hq : q = j
          · subst hq
            simp only [up2_same, upR_at, shR]
            rw [if_neg (by omega), if_pos (by omega)]
          · rw [up2_ne _ _ (Or.inr hq), upR_at, upR_at]
            unfold shR
            by_cases h1 : j < q ∧ q ≤ n
            · rw [if_pos h1, if_pos (by omega)]
            · rw [if_neg h1, if_neg (by omega)]
        · rw [up2_ne _ _ (Or.inl hx), upR_ne _ _ hx, upR_ne _ _ hx]
  refine Mv.of pnX4_putAhead (Nat.le_of_ble_eq_true rfl) rfl ?_
  refine r_aload_n 0 dX4_putAhead_0 rfl rfl ?_
  refine r_iload_n 1 dX4_putAhead_1 rfl rfl ?_
  refine r_callVp [_] dX4_putAhead_2 ok_RX4_31 ivX4_isPlace (by assumption) ⟨_, _, rfl⟩ rfl rfl (Nat.le_of_ble_eq_true rfl) (by refine ⟨?_, ?_, ?_, ?_⟩ <;> exact Nat.le_of_ble_eq_true rfl) (c_isPlace hL hn (by omega) (by omega)) ?_
  refine r_ifB_eq 17 dX4_putAhead_5 (by decide) (fun h5 => ?_) (fun h5 => ?_)
  · first | (exfalso; simp at h5; omega) | omega
  · refine r_aload_n 0 dX4_putAhead_8 rfl rfl ?_
    refine r_getV dX4_putAhead_9 fl_RX4_21 rfl (by assumption) (by first | assumption | rfl) ?_
    refine r_bipush (v := nI 8) dX4_putAhead_12 (by decide) ?_
    refine r_icmpN_lt 18 dX4_putAhead_14 (by decide) (by omega) (by omega) (fun h14 => ?_) (fun h14 => ?_)
    · refine r_aload_n 0 dX4_putAhead_18 rfl rfl ?_
      refine r_getV dX4_putAhead_19 fl_RX4_21 rfl (by assumption) (by first | assumption | rfl) ?_
      refine r_istore_n 3 (ls2 := [_, _, _, _]) dX4_putAhead_22 rfl (by decide) (Nat.le_of_ble_eq_true rfl) rfl ?_
      refine r_mem ?_ (H (n - i) n (by omega) (Nat.le_refl _))
      funext x q
      by_cases hx : x = a + 1
      · subst hx
        rw [upR_at]
        unfold shR
        rw [if_neg (by omega)]
      · rw [upR_ne _ _ hx]
    · first | (exfalso; simp at h5; omega) | omega
end PACKET
end
section
section NAMES
variable {z : Nat} {sh : SH} {mi : MI} {mr : MR} {a : Nat}
theorem c_nmClear (hL : LNm sh mr a) : Mi mX2_clear 0 [.ref a] z sh mi mr (fun v mi' => v = none ∧ mi' = up2 mi a 1 (nI 0)) := by
  obtain ⟨l0, l1, l2⟩ := id hL
  refine Mv.of pnX2_clear (Nat.le_of_ble_eq_true rfl) rfl ?_
  refine r_aload_n 0 dX2_clear_0 rfl rfl ?_
  refine r_iconst (v := nI 0) dX2_clear_1 (by decide) ?_
  refine r_putI dX2_clear_2 fl_RX2_21 rfl rfl rfl (by assumption) ?_
  refine r_vret dX2_clear_5 rfl (Nat.le_of_ble_eq_true rfl) (Nat.le_of_ble_eq_true rfl) ?_
  exact ⟨rfl, rfl, rfl, rfl, rfl⟩
theorem c_nmCopy {b : Nat} (hL : LNm sh mr a) (hB : LNm sh mr b) : Mi mX2_copyFrom 1 [.ref a, .ref b] z sh mi mr (fun v mi' => v = none ∧ (∀ x, x ≠ a → x ≠ a + 1 → mi' x = mi x) ∧ mi' a 1 = mi b 1 ∧ ∀ j, j < 2 → mi' (a + 1) j = mi (b + 1) j) := by
  obtain ⟨l0, l1, l2⟩ := id hL
  obtain ⟨k0, k1, k2⟩ := id hB
  have n1 : a ≠ a + 1 := by omega
  have n2 : b ≠ a + 1 := fun e => by rw [e, l2] at k0; cases k0
  refine Mv.of pnX2_copyFrom (Nat.le_of_ble_eq_true rfl) rfl ?_
  refine r_aload_n 1 dX2_copyFrom_0 rfl rfl ?_
  refine r_getR dX2_copyFrom_1 fl_RX2_9 rfl (by assumption) (by assumption) ?_
  refine r_iconst (v := nI 0) dX2_copyFrom_4 (by decide) ?_
  refine r_aload_n 0 dX2_copyFrom_5 rfl rfl ?_
  refine r_getR dX2_copyFrom_6 fl_RX2_9 rfl (by assumption) (by assumption) ?_
  refine r_iconst (v := nI 0) dX2_copyFrom_9 (by decide) ?_
  refine r_iconst (v := nI 2) dX2_copyFrom_10 (by decide) ?_
  refine r_acopy dX2_copyFrom_11 ml_RX2_15 x_nat x_sta x_sys (by assumption) (by assumption) (by decide) ⟨(Nat.le_of_ble_eq_true rfl), (Nat.le_of_ble_eq_true rfl)⟩ ?_
  refine r_aload_n 0 dX2_copyFrom_14 rfl rfl ?_
  refine r_aload_n 1 dX2_copyFrom_15 rfl rfl ?_
  refine r_getV dX2_copyFrom_16 fl_RX2_21 rfl (by assumption) (by rfl) ?_
  refine r_putI dX2_copyFrom_19 fl_RX2_21 rfl rfl rfl (by assumption) ?_
  refine r_vret dX2_copyFrom_22 rfl (Nat.le_of_ble_eq_true rfl) (Nat.le_of_ble_eq_true rfl) ?_
  refine ⟨rfl, rfl, rfl, rfl, ?_⟩
  refine ⟨fun x h1 h2 => ?_, ?_, fun j hj => ?_⟩
  · simp [up2_row, cpRow, h1, h2]
  · simp [up2, cpRow, n1, n2]
  · simp [up2_row, cpRow, hj, Ne.symm n1]
theorem c_nmAdd (hL : LNm sh mr a) {n : Nat} {x : Int32} (hn : mi a 1 = nI n) (h2 : n < 2) : Mi mX2_add 0 [.ref a, .int x] z sh mi mr (fun v mi' => v = none ∧ mi' = up2 (up2 mi (a + 1) n x) a 1 (nI (n + 1))) := by
  obtain ⟨l0, l1, l2⟩ := id hL
  refine Mv.of pnX2_add (Nat.le_of_ble_eq_true rfl) rfl ?_
  refine r_aload_n 0 dX2_add_0 rfl rfl ?_
  refine r_getV dX2_add_1 fl_RX2_21 rfl (by assumption) (by first | assumption | exact up2_same _ _ _ _ | exact (Eq.trans (up2_ne _ _ (by omega)) (by first | assumption | exact up2_same _ _ _ _)) | exact (Eq.trans (up2_ne _ _ (by omega)) (Eq.trans (up2_ne _ _ (by omega)) (by first | assumption | exact up2_same _ _ _ _))) | exact (Eq.trans (up2_ne _ _ (by omega)) (Eq.trans (up2_ne _ _ (by omega)) (Eq.trans (up2_ne _ _ (by omega)) (by first | assumption | exact up2_same _ _ _ _)))) | exact (Eq.trans (up2_ne _ _ (by omega)) (Eq.trans (up2_ne _ _ (by omega)) (Eq.trans (up2_ne _ _ (by omega)) (Eq.trans (up2_ne _ _ (by omega)) (by first | assumption | exact up2_same _ _ _ _))))) | rfl) ?_
  refine r_iconst (v := nI 2) dX2_add_4 (by decide) ?_
  refine r_icmpN_ge 28 dX2_add_5 (by decide) (by omega) (by omega) (fun h5 => ?_) (fun h5 => ?_)
  · first | omega | (refine r_vret dX2_add_28 rfl (Nat.le_refl _) (Nat.le_refl _) ?_; exact ⟨rfl, rfl, rfl, rfl, rfl⟩)
  · refine r_aload_n 0 dX2_add_8 rfl rfl ?_
    refine r_getR dX2_add_9 fl_RX2_9 rfl (by assumption) (by assumption) ?_
    refine r_aload_n 0 dX2_add_12 rfl rfl ?_
    refine r_getV dX2_add_13 fl_RX2_21 rfl (by assumption) (by first | assumption | exact up2_same _ _ _ _ | exact (Eq.trans (up2_ne _ _ (by omega)) (by first | assumption | exact up2_same _ _ _ _)) | exact (Eq.trans (up2_ne _ _ (by omega)) (Eq.trans (up2_ne _ _ (by omega)) (by first | assumption | exact up2_same _ _ _ _))) | exact (Eq.trans (up2_ne _ _ (by omega)) (Eq.trans (up2_ne _ _ (by omega)) (Eq.trans (up2_ne _ _ (by omega)) (by first | assumption | exact up2_same _ _ _ _)))) | exact (Eq.trans (up2_ne _ _ (by omega)) (Eq.trans (up2_ne _ _ (by omega)) (Eq.trans (up2_ne _ _ (by omega)) (Eq.trans (up2_ne _ _ (by omega)) (by first | assumption | exact up2_same _ _ _ _))))) | rfl) ?_
    refine r_iload_n 1 dX2_add_16 rfl rfl ?_
    refine r_iast dX2_add_17 (by assumption) (by omega) (by omega) ?_
    refine r_aload_n 0 dX2_add_18 rfl rfl ?_
    refine r_dup dX2_add_19 rfl ?_
    refine r_getV dX2_add_20 fl_RX2_21 rfl (by assumption) (by first | assumption | exact up2_same _ _ _ _ | exact (Eq.trans (up2_ne _ _ (by omega)) (by first | assumption | exact up2_same _ _ _ _)) | exact (Eq.trans (up2_ne _ _ (by omega)) (Eq.trans (up2_ne _ _ (by omega)) (by first | assumption | exact up2_same _ _ _ _))) | exact (Eq.trans (up2_ne _ _ (by omega)) (Eq.trans (up2_ne _ _ (by omega)) (Eq.trans (up2_ne _ _ (by omega)) (by first | assumption | exact up2_same _ _ _ _)))) | exact (Eq.trans (up2_ne _ _ (by omega)) (Eq.trans (up2_ne _ _ (by omega)) (Eq.trans (up2_ne _ _ (by omega)) (Eq.trans (up2_ne _ _ (by omega)) (by first | assumption | exact up2_same _ _ _ _))))) | rfl) ?_
    refine r_iconst (v := nI 1) dX2_add_23 (by decide) ?_
    refine r_iaddN dX2_add_24 ?_
    refine r_putI dX2_add_25 fl_RX2_21 rfl rfl rfl (by assumption) ?_
    first | omega | (refine r_vret dX2_add_28 rfl (Nat.le_refl _) (Nat.le_refl _) ?_; exact ⟨rfl, rfl, rfl, rfl, rfl⟩)
theorem c_nmHas (hL : LNm sh mr a) {l : List Nm} (hC : NmC mi a l) (hl : l.length ≤ 2) (hok : ∀ x ∈ l, okL 3 x) {c : Nm} (hc : okL 3 c) : Mp mX2_has 0 [.ref a, .int (nI (en 32 c))] z sh mi mr (b2 (decide (c ∈ l))) := by
  obtain ⟨l0, l1, l2⟩ := id hL
  obtain ⟨p1, p2⟩ := id hC
  have c1 := okL_32 hc
  have H : ∀ k i : Nat, i + k = l.length → (∀ j x, j < i → l[j]? = some x → x ≠ c) → Wp yX2_has cX2_has 3 (some .boolean) (EP 0 z sh mr mi (b2 (decide (c ∈ l)))) 0 0 2 [.ref a, .int (nI (en 32 c)), .int (nI i)] [] z sh mi mr := by
    intro k
    induction k with
    | zero =>
      intro i hi hb
      have hno : decide (c ∈ l) = false := by
        rw [decide_eq_false_iff_not]
        intro hm
        obtain ⟨j, hj⟩ := List.getElem?_of_mem hm
        exact hb j c (by have := gl_lt hj; omega) hj rfl
      refine r_iload_n 2 dX2_has_2 rfl rfl ?_
      refine r_aload_n 0 dX2_has_3 rfl rfl ?_
      refine r_getV dX2_has_4 fl_RX2_21 rfl (by assumption) (by first | assumption | exact up2_same _ _ _ _ | exact (Eq.trans (up2_ne _ _ (by omega)) (by first | assumption | exact up2_same _ _ _ _)) | exact (Eq.trans (up2_ne _ _ (by omega)) (Eq.trans (up2_ne _ _ (by omega)) (by first | assumption | exact up2_same _ _ _ _))) | exact (Eq.trans (up2_ne _ _ (by omega)) (Eq.trans (up2_ne _ _ (by omega)) (Eq.trans (up2_ne _ _ (by omega)) (by first | assumption | exact up2_same _ _ _ _)))) | exact (Eq.trans (up2_ne _ _ (by omega)) (Eq.trans (up2_ne _ _ (by omega)) (Eq.trans (up2_ne _ _ (by omega)) (Eq.trans (up2_ne _ _ (by omega)) (by first | assumption | exact up2_same _ _ _ _))))) | rfl) ?_
      refine r_icmpN_ge 28 dX2_has_7 (by decide) (by omega) (by omega) (fun h7 => ?_) (fun h7 => ?_)
      · refine r_iconst (v := nI 0) dX2_has_28 (by decide) ?_
        refine r_zret dX2_has_29 rfl (by first | exact b2_nar _ | decide) (Nat.le_of_ble_eq_true rfl) (Nat.le_of_ble_eq_true rfl) ?_
        exact ⟨rfl, rfl, rfl, by rw [hno]; rfl, rfl⟩
      · omega
    | succ k ih =>
      intro i hi hb
      obtain ⟨x, hx⟩ := gl_ex (l := l) (i := i) (by omega)
      have hv := p2 i x hx
      have hxk := hok x (gl_mem hx)
      have hlt := okL_32 hxk
      refine r_iload_n 2 dX2_has_2 rfl rfl ?_
      refine r_aload_n 0 dX2_has_3 rfl rfl ?_
      refine r_getV dX2_has_4 fl_RX2_21 rfl (by assumption) (by first | assumption | exact up2_same _ _ _ _ | exact (Eq.trans (up2_ne _ _ (by omega)) (by first | assumption | exact up2_same _ _ _ _)) | exact (Eq.trans (up2_ne _ _ (by omega)) (Eq.trans (up2_ne _ _ (by omega)) (by first | assumption | exact up2_same _ _ _ _))) | exact (Eq.trans (up2_ne _ _ (by omega)) (Eq.trans (up2_ne _ _ (by omega)) (Eq.trans (up2_ne _ _ (by omega)) (by first | assumption | exact up2_same _ _ _ _)))) | exact (Eq.trans (up2_ne _ _ (by omega)) (Eq.trans (up2_ne _ _ (by omega)) (Eq.trans (up2_ne _ _ (by omega)) (Eq.trans (up2_ne _ _ (by omega)) (by first | assumption | exact up2_same _ _ _ _))))) | rfl) ?_
      refine r_icmpN_ge 28 dX2_has_7 (by decide) (by omega) (by omega) (fun h7 => ?_) (fun h7 => ?_)
      · omega
      · refine r_aload_n 0 dX2_has_10 rfl rfl ?_
        refine r_getR dX2_has_11 fl_RX2_9 rfl (by assumption) (by assumption) ?_
        refine r_iload_n 2 dX2_has_14 rfl rfl ?_
        refine r_ialdV dX2_has_15 (by assumption) (by omega) (by omega) (by first | assumption | exact up2_same _ _ _ _ | exact (Eq.trans (up2_ne _ _ (by omega)) (by first | assumption | exact up2_same _ _ _ _)) | exact (Eq.trans (up2_ne _ _ (by omega)) (Eq.trans (up2_ne _ _ (by omega)) (by first | assumption | exact up2_same _ _ _ _))) | exact (Eq.trans (up2_ne _ _ (by omega)) (Eq.trans (up2_ne _ _ (by omega)) (Eq.trans (up2_ne _ _ (by omega)) (by first | assumption | exact up2_same _ _ _ _)))) | exact (Eq.trans (up2_ne _ _ (by omega)) (Eq.trans (up2_ne _ _ (by omega)) (Eq.trans (up2_ne _ _ (by omega)) (Eq.trans (up2_ne _ _ (by omega)) (by first | assumption | exact up2_same _ _ _ _))))) | rfl) ?_
        refine r_iload_n 1 dX2_has_16 rfl rfl ?_
        refine r_icmpN_ne 22 dX2_has_17 (by decide) (by omega) (by omega) (fun h17 => ?_) (fun h17 => ?_)
        · refine r_iincN 2 (b := 1) (ls2 := [_, _, _]) dX2_has_22 rfl (by decide) (by decide) rfl ?_
          refine r_goto 2 dX2_has_25 (by decide) ?_
          refine ih (i + 1) (by omega) (fun j x' hj hx' => ?_)
          rcases Nat.lt_or_ge j i with q | q
          · exact hb j x' q hx'
          · rw [show j = i by omega, hx] at hx'
            cases hx'
            exact fun e => h17 (by rw [e])
        · have hyes : decide (c ∈ l) = true := by rw [decide_eq_true_iff, ← (okL_inj (b := 32) hxk hc (by omega)).mp h17]; exact gl_mem hx
          refine r_iconst (v := nI 1) dX2_has_20 (by decide) ?_
          refine r_zret dX2_has_21 rfl (by decide) (Nat.le_refl _) (Nat.le_refl _) ?_
          exact ⟨rfl, rfl, rfl, by rw [hyes]; rfl, rfl⟩
  refine Mv.of pnX2_has (Nat.le_of_ble_eq_true rfl) rfl ?_
  refine r_iconst (v := nI 0) dX2_has_0 (by decide) ?_
  refine r_istore_n 2 (ls2 := [_, _, _]) dX2_has_1 rfl (by decide) (Nat.le_of_ble_eq_true rfl) rfl ?_
  exact H l.length 0 (by omega) (fun j w hj => by omega)
end NAMES
section KNOWN
variable {z : Nat} {sh : SH} {mi : MI} {mr : MR} {a : Nat}
def KnE (mi : MI) (a i : Nat) (q : Nm × Nm × Nat) : Prop := mi (a + 1) i = nI (en 32 q.1) ∧ mi (a + 2) i = nI (en 32 q.2.1) ∧ mi (a + 3) i = nI q.2.2
theorem c_knClear (hL : LKn sh mr a) : Mi mX1_clear 0 [.ref a] z sh mi mr (fun v mi' => v = none ∧ mi' = up2 mi a 3 (nI 0)) := by
  obtain ⟨l0, l1, l2, l3, l4, l5, l6⟩ := id hL
  refine Mv.of pnX1_clear (Nat.le_of_ble_eq_true rfl) rfl ?_
  refine r_aload_n 0 dX1_clear_0 rfl rfl ?_
  refine r_iconst (v := nI 0) dX1_clear_1 (by decide) ?_
  refine r_putI dX1_clear_2 fl_RX1_27 rfl rfl rfl (by assumption) ?_
  refine r_vret dX1_clear_5 rfl (Nat.le_of_ble_eq_true rfl) (Nat.le_of_ble_eq_true rfl) ?_
  exact ⟨rfl, rfl, rfl, rfl, rfl⟩
theorem LKn.apart {b : Nat} (hL : LKn sh mr a) (hB : LKn sh mr b) : b = a ∨ b + 4 ≤ a ∨ a + 4 ≤ b := by
  obtain ⟨l0, l1, l2, l3, l4, l5, l6⟩ := hL
  obtain ⟨k0, k1, k2, k3, k4, k5, k6⟩ := hB
  have n1 : b ≠ a + 1 := fun e => by rw [e, l2] at k0; cases k0
  have n2 : b ≠ a + 2 := fun e => by rw [e, l4] at k0; cases k0
  have n3 : b ≠ a + 3 := fun e => by rw [e, l6] at k0; cases k0
  have n4 : a ≠ b + 1 := fun e => by rw [e, k2] at l0; cases l0
  have n5 : a ≠ b + 2 := fun e => by rw [e, k4] at l0; cases l0
  have n6 : a ≠ b + 3 := fun e => by rw [e, k6] at l0; cases l0
  omega
theorem c_knCopy {b : Nat} (hL : LKn sh mr a) (hB : LKn sh mr b) : Mi mX1_copyFrom 1 [.ref a, .ref b] z sh mi mr (fun v mi' => v = none ∧ Oth mi mi' a (a + 4) ∧ mi' a 3 = mi b 3 ∧ ∀ r j, 1 ≤ r → r ≤ 3 → j < 16 → mi' (a + r) j = mi (b + r) j) := by
  have hap := hL.apart hB
  obtain ⟨l0, l1, l2, l3, l4, l5, l6⟩ := id hL
  obtain ⟨k0, k1, k2, k3, k4, k5, k6⟩ := id hB
  refine Mv.of pnX1_copyFrom (Nat.le_of_ble_eq_true rfl) rfl ?_
  refine r_aload_n 1 dX1_copyFrom_0 rfl rfl ?_
  refine r_getR dX1_copyFrom_1 fl_RX1_9 rfl (by assumption) (by assumption) ?_
  refine r_iconst (v := nI 0) dX1_copyFrom_4 (by decide) ?_
  refine r_aload_n 0 dX1_copyFrom_5 rfl rfl ?_
  refine r_getR dX1_copyFrom_6 fl_RX1_9 rfl (by assumption) (by assumption) ?_
  refine r_iconst (v := nI 0) dX1_copyFrom_9 (by decide) ?_
  refine r_bipush (v := nI 16) dX1_copyFrom_10 (by decide) ?_
  refine r_acopy dX1_copyFrom_12 ml_RX1_21 x_nat x_sta x_sys (by assumption) (by assumption) (by decide) ⟨(Nat.le_of_ble_eq_true rfl), (Nat.le_of_ble_eq_true rfl)⟩ ?_
  refine r_aload_n 1 dX1_copyFrom_15 rfl rfl ?_
  refine r_getR dX1_copyFrom_16 fl_RX1_15 rfl (by assumption) (by assumption) ?_
  refine r_iconst (v := nI 0) dX1_copyFrom_19 (by decide) ?_
  refine r_aload_n 0 dX1_copyFrom_20 rfl rfl ?_
  refine r_getR dX1_copyFrom_21 fl_RX1_15 rfl (by assumption) (by assumption) ?_
  refine r_iconst (v := nI 0) dX1_copyFrom_24 (by decide) ?_
  refine r_bipush (v := nI 16) dX1_copyFrom_25 (by decide) ?_
  refine r_acopy dX1_copyFrom_27 ml_RX1_21 x_nat x_sta x_sys (by assumption) (by assumption) (by decide) ⟨(Nat.le_of_ble_eq_true rfl), (Nat.le_of_ble_eq_true rfl)⟩ ?_
  refine r_aload_n 1 dX1_copyFrom_30 rfl rfl ?_
  refine r_getR dX1_copyFrom_31 fl_RX1_18 rfl (by assumption) (by assumption) ?_
  refine r_iconst (v := nI 0) dX1_copyFrom_34 (by decide) ?_
  refine r_aload_n 0 dX1_copyFrom_35 rfl rfl ?_
  refine r_getR dX1_copyFrom_36 fl_RX1_18 rfl (by assumption) (by assumption) ?_
  refine r_iconst (v := nI 0) dX1_copyFrom_39 (by decide) ?_
  refine r_bipush (v := nI 16) dX1_copyFrom_40 (by decide) ?_
  refine r_acopy dX1_copyFrom_42 ml_RX1_21 x_nat x_sta x_sys (by assumption) (by assumption) (by decide) ⟨(Nat.le_of_ble_eq_true rfl), (Nat.le_of_ble_eq_true rfl)⟩ ?_
  refine r_aload_n 0 dX1_copyFrom_45 rfl rfl ?_
  refine r_aload_n 1 dX1_copyFrom_46 rfl rfl ?_
  refine r_getV dX1_copyFrom_47 fl_RX1_27 rfl (by assumption) (by rfl) ?_
  refine r_putI dX1_copyFrom_50 fl_RX1_27 rfl rfl rfl (by assumption) ?_
  refine r_vret dX1_copyFrom_53 rfl (Nat.le_of_ble_eq_true rfl) (Nat.le_of_ble_eq_true rfl) ?_
  refine ⟨rfl, rfl, rfl, rfl, ?_⟩
  refine ⟨fun x hx => ?_, ?_, fun r j r1 r3 hj => ?_⟩
  · rw [up2_row _ _ (by omega)]; unfold cpRow; rw [if_neg (by omega), if_neg (by omega), if_neg (by omega)]
  · rw [up2_same]; unfold cpRow; rw [if_neg (by omega), if_neg (by omega), if_neg (by omega)]
  · rcases (show r = 1 ∨ r = 2 ∨ r = 3 by omega) with rfl | rfl | rfl
    · rw [up2_row _ _ (by omega)]; unfold cpRow; rw [if_neg (by omega), if_neg (by omega), if_pos rfl, if_pos hj]
    · rw [up2_row _ _ (by omega)]; unfold cpRow; rw [if_neg (by omega), if_pos rfl, if_pos hj, if_neg (by omega)]
    · rw [up2_row _ _ (by omega)]; unfold cpRow; rw [if_pos rfl, if_pos hj, if_neg (by omega), if_neg (by omega)]
theorem c_move (hL : LKn sh mr a) {i j : Nat} (hi : i < 16) (hj : j < 16) : Mi mX1_move 0 [.ref a, .int (nI i), .int (nI j)] z sh mi mr (fun v mi' => v = none ∧ Oth mi mi' (a + 1) (a + 4) ∧ ∀ r q, 1 ≤ r → r ≤ 3 → mi' (a + r) q = if q = j then mi (a + r) i else mi (a + r) q) := by
  obtain ⟨l0, l1, l2, l3, l4, l5, l6⟩ := id hL
  refine Mv.of pnX1_move (Nat.le_of_ble_eq_true rfl) rfl ?_
  refine r_iload_n 1 dX1_move_0 rfl rfl ?_
  refine r_ifN_lt 56 dX1_move_1 (by decide) (by omega) ?_
  refine r_iload_n 1 dX1_move_4 rfl rfl ?_
  refine r_bipush (v := nI 16) dX1_move_5 (by decide) ?_
  refine r_icmpN_ge 56 dX1_move_7 (by decide) (by omega) (by omega) (fun h7 => ?_) (fun h7 => ?_)
  · first | omega | (refine r_vret dX1_move_56 rfl (Nat.le_refl _) (Nat.le_refl _) ?_; refine ⟨rfl, rfl, rfl, rfl, fun x hx => ?_, fun r q r1 r3 => ?_⟩; (rw [up2_row _ _ (by omega), up2_row _ _ (by omega), up2_row _ _ (by omega)]); (rcases (show r = 1 ∨ r = 2 ∨ r = 3 by omega) with rfl | rfl | rfl <;> by_cases hq : q = j <;> simp [up2, hq]))
  · refine r_iload_n 2 dX1_move_10 rfl rfl ?_
    refine r_ifN_lt 56 dX1_move_11 (by decide) (by omega) ?_
    refine r_iload_n 2 dX1_move_14 rfl rfl ?_
    refine r_bipush (v := nI 16) dX1_move_15 (by decide) ?_
    refine r_icmpN_ge 56 dX1_move_17 (by decide) (by omega) (by omega) (fun h17 => ?_) (fun h17 => ?_)
    · first | omega | (refine r_vret dX1_move_56 rfl (Nat.le_refl _) (Nat.le_refl _) ?_; refine ⟨rfl, rfl, rfl, rfl, fun x hx => ?_, fun r q r1 r3 => ?_⟩; (rw [up2_row _ _ (by omega), up2_row _ _ (by omega), up2_row _ _ (by omega)]); (rcases (show r = 1 ∨ r = 2 ∨ r = 3 by omega) with rfl | rfl | rfl <;> by_cases hq : q = j <;> simp [up2, hq]))
    · refine r_aload_n 0 dX1_move_20 rfl rfl ?_
      refine r_getR dX1_move_21 fl_RX1_9 rfl (by assumption) (by assumption) ?_
      refine r_iload_n 2 dX1_move_24 rfl rfl ?_
      refine r_aload_n 0 dX1_move_25 rfl rfl ?_
      refine r_getR dX1_move_26 fl_RX1_9 rfl (by assumption) (by assumption) ?_
      refine r_iload_n 1 dX1_move_29 rfl rfl ?_
      refine r_ialdV dX1_move_30 (by assumption) (by omega) (by omega) (by rfl) ?_
      refine r_iast dX1_move_31 (by assumption) (by omega) (by omega) ?_
      refine r_aload_n 0 dX1_move_32 rfl rfl ?_
      refine r_getR dX1_move_33 fl_RX1_15 rfl (by assumption) (by assumption) ?_
      refine r_iload_n 2 dX1_move_36 rfl rfl ?_
      refine r_aload_n 0 dX1_move_37 rfl rfl ?_
      refine r_getR dX1_move_38 fl_RX1_15 rfl (by assumption) (by assumption) ?_
      refine r_iload_n 1 dX1_move_41 rfl rfl ?_
      refine r_ialdV dX1_move_42 (by assumption) (by omega) (by omega) (by rfl) ?_
      refine r_iast dX1_move_43 (by assumption) (by omega) (by omega) ?_
      refine r_aload_n 0 dX1_move_44 rfl rfl ?_
      refine r_getR dX1_move_45 fl_RX1_18 rfl (by assumption) (by assumption) ?_
      refine r_iload_n 2 dX1_move_48 rfl rfl ?_
      refine r_aload_n 0 dX1_move_49 rfl rfl ?_
      refine r_getR dX1_move_50 fl_RX1_18 rfl (by assumption) (by assumption) ?_
      refine r_iload_n 1 dX1_move_53 rfl rfl ?_
      refine r_ialdV dX1_move_54 (by assumption) (by omega) (by omega) (by rfl) ?_
      refine r_iast dX1_move_55 (by assumption) (by omega) (by omega) ?_
      first | omega | (refine r_vret dX1_move_56 rfl (Nat.le_refl _) (Nat.le_refl _) ?_; refine ⟨rfl, rfl, rfl, rfl, fun x hx => ?_, fun r q r1 r3 => ?_⟩; (rw [up2_row _ _ (by omega), up2_row _ _ (by omega), up2_row _ _ (by omega)]); (rcases (show r = 1 ∨ r = 2 ∨ r = 3 by omega) with rfl | rfl | rfl <;> by_cases hq : q = j <;> simp [up2, hq]))
theorem c_placeOf {b : Nat} (hL : LKn sh mr a) (hB : LPk sh mr b) {l : Kn} (hC : KnC mi a l) (hl : l.length ≤ 16) (hok : ∀ q ∈ l, okL 3 q.1 ∧ okL 4 q.2.1) {p : Pk} (hP : PkC mi b p) (hp : okP p) : Mp mX1_placeOf 0 [.ref a, .ref b] z sh mi mr (if knIx l p < l.length then nI (knIx l p) else -6) := by
  obtain ⟨l0, l1, l2, l3, l4, l5, l6⟩ := id hL
  obtain ⟨k0, k1, k2⟩ := id hB
  obtain ⟨p1, p2⟩ := id hC
  obtain ⟨q1, q2, q3, q4⟩ := id hP
  have c1 := okL_32 hp.1
  have c2 := okT_32 hp.2.1
  have H : ∀ k i : Nat, i + k = l.length → (∀ j x, j < i → l[j]? = some x → (x.1 == p.1 && x.2.1 == p.2.1) = false) → Wp yX1_placeOf cX1_placeOf 3 (some .int) (EP 0 z sh mr mi (if knIx l p < l.length then nI (knIx l p) else -6)) 0 0 2 [.ref a, .ref b, .int (nI i)] [] z sh mi mr := by
    intro k
    induction k with
    | zero =>
      intro i hi hb
      have hno : knIx l p = l.length := fi_no (fun j w hj => hb j w (by have := gl_lt hj; omega) hj)
      refine r_iload_n 2 dX1_placeOf_2 rfl rfl ?_
      refine r_aload_n 0 dX1_placeOf_3 rfl rfl ?_
      refine r_getV dX1_placeOf_4 fl_RX1_27 rfl (by assumption) (by first | assumption | exact up2_same _ _ _ _ | exact (Eq.trans (up2_ne _ _ (by omega)) (by first | assumption | exact up2_same _ _ _ _)) | exact (Eq.trans (up2_ne _ _ (by omega)) (Eq.trans (up2_ne _ _ (by omega)) (by first | assumption | exact up2_same _ _ _ _))) | exact (Eq.trans (up2_ne _ _ (by omega)) (Eq.trans (up2_ne _ _ (by omega)) (Eq.trans (up2_ne _ _ (by omega)) (by first | assumption | exact up2_same _ _ _ _)))) | exact (Eq.trans (up2_ne _ _ (by omega)) (Eq.trans (up2_ne _ _ (by omega)) (Eq.trans (up2_ne _ _ (by omega)) (Eq.trans (up2_ne _ _ (by omega)) (by first | assumption | exact up2_same _ _ _ _))))) | rfl) ?_
      refine r_icmpN_ge 44 dX1_placeOf_7 (by decide) (by omega) (by omega) (fun h7 => ?_) (fun h7 => ?_)
      · refine r_bipush (v := -6) dX1_placeOf_44 (by decide) ?_
        refine r_iret dX1_placeOf_46 rfl (Nat.le_of_ble_eq_true rfl) (Nat.le_of_ble_eq_true rfl) ?_
        refine ⟨rfl, rfl, rfl, ?_, rfl⟩
        rw [hno, if_neg (Nat.lt_irrefl _)]
      · omega
    | succ k ih =>
      intro i hi hb
      obtain ⟨x, hx⟩ := gl_ex (l := l) (i := i) (by omega)
      obtain ⟨v1, v2, v3⟩ := p2 i x hx
      have hxk := hok x (gl_mem hx)
      have hlt := okL_32 hxk.1
      have hlt2 := okT_32 hxk.2
      refine r_iload_n 2 dX1_placeOf_2 rfl rfl ?_
      refine r_aload_n 0 dX1_placeOf_3 rfl rfl ?_
      refine r_getV dX1_placeOf_4 fl_RX1_27 rfl (by assumption) (by first | assumption | exact up2_same _ _ _ _ | exact (Eq.trans (up2_ne _ _ (by omega)) (by first | assumption | exact up2_same _ _ _ _)) | exact (Eq.trans (up2_ne _ _ (by omega)) (Eq.trans (up2_ne _ _ (by omega)) (by first | assumption | exact up2_same _ _ _ _))) | exact (Eq.trans (up2_ne _ _ (by omega)) (Eq.trans (up2_ne _ _ (by omega)) (Eq.trans (up2_ne _ _ (by omega)) (by first | assumption | exact up2_same _ _ _ _)))) | exact (Eq.trans (up2_ne _ _ (by omega)) (Eq.trans (up2_ne _ _ (by omega)) (Eq.trans (up2_ne _ _ (by omega)) (Eq.trans (up2_ne _ _ (by omega)) (by first | assumption | exact up2_same _ _ _ _))))) | rfl) ?_
      refine r_icmpN_ge 44 dX1_placeOf_7 (by decide) (by omega) (by omega) (fun h7 => ?_) (fun h7 => ?_)
      · omega
      · refine r_aload_n 0 dX1_placeOf_10 rfl rfl ?_
        refine r_getR dX1_placeOf_11 fl_RX1_9 rfl (by assumption) (by assumption) ?_
        refine r_iload_n 2 dX1_placeOf_14 rfl rfl ?_
        refine r_ialdV dX1_placeOf_15 (by assumption) (by omega) (by omega) (by first | assumption | exact up2_same _ _ _ _ | exact (Eq.trans (up2_ne _ _ (by omega)) (by first | assumption | exact up2_same _ _ _ _)) | exact (Eq.trans (up2_ne _ _ (by omega)) (Eq.trans (up2_ne _ _ (by omega)) (by first | assumption | exact up2_same _ _ _ _))) | exact (Eq.trans (up2_ne _ _ (by omega)) (Eq.trans (up2_ne _ _ (by omega)) (Eq.trans (up2_ne _ _ (by omega)) (by first | assumption | exact up2_same _ _ _ _)))) | exact (Eq.trans (up2_ne _ _ (by omega)) (Eq.trans (up2_ne _ _ (by omega)) (Eq.trans (up2_ne _ _ (by omega)) (Eq.trans (up2_ne _ _ (by omega)) (by first | assumption | exact up2_same _ _ _ _))))) | rfl) ?_
        refine r_aload_n 1 dX1_placeOf_16 rfl rfl ?_
        refine r_getV dX1_placeOf_17 fl_RX1_31 rfl (by assumption) (by first | assumption | exact up2_same _ _ _ _ | exact (Eq.trans (up2_ne _ _ (by omega)) (by first | assumption | exact up2_same _ _ _ _)) | exact (Eq.trans (up2_ne _ _ (by omega)) (Eq.trans (up2_ne _ _ (by omega)) (by first | assumption | exact up2_same _ _ _ _))) | exact (Eq.trans (up2_ne _ _ (by omega)) (Eq.trans (up2_ne _ _ (by omega)) (Eq.trans (up2_ne _ _ (by omega)) (by first | assumption | exact up2_same _ _ _ _)))) | exact (Eq.trans (up2_ne _ _ (by omega)) (Eq.trans (up2_ne _ _ (by omega)) (Eq.trans (up2_ne _ _ (by omega)) (Eq.trans (up2_ne _ _ (by omega)) (by first | assumption | exact up2_same _ _ _ _))))) | rfl) ?_
        refine r_icmpN_ne 38 dX1_placeOf_20 (by decide) (by omega) (by omega) (fun h20 => ?_) (fun h20 => ?_)
        · refine r_iincN 2 (b := 1) (ls2 := [_, _, _]) dX1_placeOf_38 rfl (by decide) (by decide) rfl ?_
          refine r_goto 2 dX1_placeOf_41 (by decide) ?_
          refine ih (i + 1) (by omega) (fun j x' hj hx' => ?_)
          rcases Nat.lt_or_ge j i with q | q
          · exact hb j x' q hx'
          · rw [show j = i by omega, hx] at hx'
            cases hx'
            first | (have e : x.1 ≠ p.1 := fun e => h20 (by rw [e]); simp [e]; done) | (have e : x.2.1 ≠ p.2.1 := fun e => h33 (by rw [e]); simp [e])
        · refine r_aload_n 0 dX1_placeOf_23 rfl rfl ?_
          refine r_getR dX1_placeOf_24 fl_RX1_15 rfl (by assumption) (by assumption) ?_
          refine r_iload_n 2 dX1_placeOf_27 rfl rfl ?_
          refine r_ialdV dX1_placeOf_28 (by assumption) (by omega) (by omega) (by first | assumption | exact up2_same _ _ _ _ | exact (Eq.trans (up2_ne _ _ (by omega)) (by first | assumption | exact up2_same _ _ _ _)) | exact (Eq.trans (up2_ne _ _ (by omega)) (Eq.trans (up2_ne _ _ (by omega)) (by first | assumption | exact up2_same _ _ _ _))) | exact (Eq.trans (up2_ne _ _ (by omega)) (Eq.trans (up2_ne _ _ (by omega)) (Eq.trans (up2_ne _ _ (by omega)) (by first | assumption | exact up2_same _ _ _ _)))) | exact (Eq.trans (up2_ne _ _ (by omega)) (Eq.trans (up2_ne _ _ (by omega)) (Eq.trans (up2_ne _ _ (by omega)) (Eq.trans (up2_ne _ _ (by omega)) (by first | assumption | exact up2_same _ _ _ _))))) | rfl) ?_
          refine r_aload_n 1 dX1_placeOf_29 rfl rfl ?_
          refine r_getV dX1_placeOf_30 fl_RX1_36 rfl (by assumption) (by first | assumption | exact up2_same _ _ _ _ | exact (Eq.trans (up2_ne _ _ (by omega)) (by first | assumption | exact up2_same _ _ _ _)) | exact (Eq.trans (up2_ne _ _ (by omega)) (Eq.trans (up2_ne _ _ (by omega)) (by first | assumption | exact up2_same _ _ _ _))) | exact (Eq.trans (up2_ne _ _ (by omega)) (Eq.trans (up2_ne _ _ (by omega)) (Eq.trans (up2_ne _ _ (by omega)) (by first | assumption | exact up2_same _ _ _ _)))) | exact (Eq.trans (up2_ne _ _ (by omega)) (Eq.trans (up2_ne _ _ (by omega)) (Eq.trans (up2_ne _ _ (by omega)) (Eq.trans (up2_ne _ _ (by omega)) (by first | assumption | exact up2_same _ _ _ _))))) | rfl) ?_
          refine r_icmpN_ne 38 dX1_placeOf_33 (by decide) (by omega) (by omega) (fun h33 => ?_) (fun h33 => ?_)
          · refine r_iincN 2 (b := 1) (ls2 := [_, _, _]) dX1_placeOf_38 rfl (by decide) (by decide) rfl ?_
            refine r_goto 2 dX1_placeOf_41 (by decide) ?_
            refine ih (i + 1) (by omega) (fun j x' hj hx' => ?_)
            rcases Nat.lt_or_ge j i with q | q
            · exact hb j x' q hx'
            · rw [show j = i by omega, hx] at hx'
              cases hx'
              first | (have e : x.1 ≠ p.1 := fun e => h20 (by rw [e]); simp [e]; done) | (have e : x.2.1 ≠ p.2.1 := fun e => h33 (by rw [e]); simp [e])
          · refine r_iload_n 2 dX1_placeOf_36 rfl rfl ?_
            refine r_iret dX1_placeOf_37 rfl (Nat.le_of_ble_eq_true rfl) (Nat.le_of_ble_eq_true rfl) ?_
            have hu : knIx l p = i := fi_at hx (by simp [(okL_inj (b := 32) hxk.1 hp.1 (by omega)).mp h20, (okL_inj (b := 32) hxk.2 hp.2.1 (by omega)).mp h33]) hb
            refine ⟨rfl, rfl, rfl, ?_, rfl⟩
            rw [hu, if_pos (by omega)]
  refine Mv.of pnX1_placeOf (Nat.le_of_ble_eq_true rfl) rfl ?_
  refine r_iconst (v := nI 0) dX1_placeOf_0 (by decide) ?_
  refine r_istore_n 2 (ls2 := [_, _, _]) dX1_placeOf_1 rfl (by decide) (Nat.le_of_ble_eq_true rfl) rfl ?_
  exact H l.length 0 (by omega) (fun j w hj => by omega)
theorem Oth.at {mi m : MI} {lo hi x : Nat} (h : Oth mi m lo hi) (hx : x < lo ∨ hi ≤ x) : m x = mi x := h x hx
theorem Oth.trans {m1 m2 m3 : MI} {lo hi : Nat} (h : Oth m1 m2 lo hi) (h' : Oth m2 m3 lo hi) : Oth m1 m3 lo hi := fun x hx => (h' x hx).trans (h x hx)
theorem Oth.wide {m1 m2 : MI} {lo hi lo' hi' : Nat} (h : Oth m1 m2 lo hi) (h1 : lo' ≤ lo) (h2 : hi ≤ hi') : Oth m1 m2 lo' hi' := fun x hx => h x (by omega)
theorem Oth.rf {m : MI} {lo hi : Nat} : Oth m m lo hi := fun _ _ => rfl
theorem Oth.up {m1 m2 : MI} {lo hi a k : Nat} {v : Int32} (h : Oth m1 m2 lo hi) (h1 : lo ≤ a) (h2 : a < hi) : Oth m1 (up2 m2 a k v) lo hi := fun x hx => by rw [up2_row _ _ (by omega)]; exact h x hx
theorem c_knRem (hL : LKn sh mr a) {l : Kn} (hC : KnC mi a l) (hl : l.length ≤ 16) {k : Nat} (hk : k < l.length) : Mi mX1_removeAt 1 [.ref a, .int (nI k)] z sh mi mr (fun v mi' => v = none ∧ KnC mi' a (l.eraseIdx k) ∧ Oth mi mi' a (a + 4)) := by
  obtain ⟨l0, l1, l2, l3, l4, l5, l6⟩ := id hL
  obtain ⟨p1, p2⟩ := id hC
  have H : ∀ t j : Nat, ∀ m : MI, j + t = l.length → k < j → Oth mi m (a + 1) (a + 4) → (∀ r q, 1 ≤ r → r ≤ 3 → m (a + r) q = if k ≤ q ∧ q + 1 < j then mi (a + r) (q + 1) else mi (a + r) q) → Wp yX1_removeAt cX1_removeAt 3 none (EI 1 z sh mr (fun v mi' => v = none ∧ KnC mi' a (l.eraseIdx k) ∧ Oth mi mi' a (a + 4))) 0 0 17 [.ref a, .int (nI k), .int (nI j)] [] z sh m mr := by
    intro t
    induction t with
    | zero =>
      intro j m hj hkj ho hm
      have hsz : m a 3 = nI l.length := by rw [ho a (by omega)]; exact p1
      refine r_iload_n 2 dX1_removeAt_17 rfl rfl ?_
      refine r_aload_n 0 dX1_removeAt_18 rfl rfl ?_
      refine r_getV dX1_removeAt_19 fl_RX1_27 rfl (by assumption) (by first | assumption | exact up2_same _ _ _ _ | exact (Eq.trans (up2_ne _ _ (by omega)) (by first | assumption | exact up2_same _ _ _ _)) | exact (Eq.trans (up2_ne _ _ (by omega)) (Eq.trans (up2_ne _ _ (by omega)) (by first | assumption | exact up2_same _ _ _ _))) | exact (Eq.trans (up2_ne _ _ (by omega)) (Eq.trans (up2_ne _ _ (by omega)) (Eq.trans (up2_ne _ _ (by omega)) (by first | assumption | exact up2_same _ _ _ _)))) | exact (Eq.trans (up2_ne _ _ (by omega)) (Eq.trans (up2_ne _ _ (by omega)) (Eq.trans (up2_ne _ _ (by omega)) (Eq.trans (up2_ne _ _ (by omega)) (by first | assumption | exact up2_same _ _ _ _))))) | rfl) ?_
      refine r_icmpN_ge 39 dX1_removeAt_22 (by decide) (by omega) (by omega) (fun h22 => ?_) (fun h22 => ?_)
      · refine r_aload_n 0 dX1_removeAt_39 rfl rfl ?_
        refine r_dup dX1_removeAt_40 rfl ?_
        refine r_getV dX1_removeAt_41 fl_RX1_27 rfl (by assumption) (by first | assumption | exact up2_same _ _ _ _ | exact (Eq.trans (up2_ne _ _ (by omega)) (by first | assumption | exact up2_same _ _ _ _)) | exact (Eq.trans (up2_ne _ _ (by omega)) (Eq.trans (up2_ne _ _ (by omega)) (by first | assumption | exact up2_same _ _ _ _))) | exact (Eq.trans (up2_ne _ _ (by omega)) (Eq.trans (up2_ne _ _ (by omega)) (Eq.trans (up2_ne _ _ (by omega)) (by first | assumption | exact up2_same _ _ _ _)))) | exact (Eq.trans (up2_ne _ _ (by omega)) (Eq.trans (up2_ne _ _ (by omega)) (Eq.trans (up2_ne _ _ (by omega)) (Eq.trans (up2_ne _ _ (by omega)) (by first | assumption | exact up2_same _ _ _ _))))) | rfl) ?_
        refine r_iconst (v := nI 1) dX1_removeAt_44 (by decide) ?_
        refine r_isubN dX1_removeAt_45 (by omega) ?_
        refine r_putI dX1_removeAt_46 fl_RX1_27 rfl rfl rfl (by assumption) ?_
        refine r_vret dX1_removeAt_49 rfl (Nat.le_of_ble_eq_true rfl) (Nat.le_of_ble_eq_true rfl) ?_
        refine ⟨rfl, rfl, rfl, rfl, ⟨?_, fun i q hq => ?_⟩, (ho.wide (by omega) (by omega)).up (by omega) (by omega)⟩
        · rw [up2_same, List.length_eraseIdx_of_lt hk]
        · rw [List.getElem?_eraseIdx] at hq
          rw [up2_row _ _ (by omega), up2_row _ _ (by omega), up2_row _ _ (by omega), hm 1 i (by omega) (by omega), hm 2 i (by omega) (by omega), hm 3 i (by omega) (by omega)]
          by_cases hik : i < k
          · rw [if_pos hik] at hq
            rw [if_neg (by omega), if_neg (by omega), if_neg (by omega)]
            exact p2 i q hq
          · rw [if_neg hik] at hq
            have := gl_lt hq
            rw [if_pos (by omega), if_pos (by omega), if_pos (by omega)]
            exact p2 (i + 1) q hq
      · omega
    | succ t ih =>
      intro j m hj hkj ho hm
      have hsz : m a 3 = nI l.length := by rw [ho a (by omega)]; exact p1
      refine r_iload_n 2 dX1_removeAt_17 rfl rfl ?_
      refine r_aload_n 0 dX1_removeAt_18 rfl rfl ?_
      refine r_getV dX1_removeAt_19 fl_RX1_27 rfl (by assumption) (by first | assumption | exact up2_same _ _ _ _ | exact (Eq.trans (up2_ne _ _ (by omega)) (by first | assumption | exact up2_same _ _ _ _)) | exact (Eq.trans (up2_ne _ _ (by omega)) (Eq.trans (up2_ne _ _ (by omega)) (by first | assumption | exact up2_same _ _ _ _))) | exact (Eq.trans (up2_ne _ _ (by omega)) (Eq.trans (up2_ne _ _ (by omega)) (Eq.trans (up2_ne _ _ (by omega)) (by first | assumption | exact up2_same _ _ _ _)))) | exact (Eq.trans (up2_ne _ _ (by omega)) (Eq.trans (up2_ne _ _ (by omega)) (Eq.trans (up2_ne _ _ (by omega)) (Eq.trans (up2_ne _ _ (by omega)) (by first | assumption | exact up2_same _ _ _ _))))) | rfl) ?_
      refine r_icmpN_ge 39 dX1_removeAt_22 (by decide) (by omega) (by omega) (fun h22 => ?_) (fun h22 => ?_)
      · omega
      · refine r_aload_n 0 dX1_removeAt_25 rfl rfl ?_
        refine r_iload_n 2 dX1_removeAt_26 rfl rfl ?_
        refine r_iload_n 2 dX1_removeAt_27 rfl rfl ?_
        refine r_iconst (v := nI 1) dX1_removeAt_28 (by decide) ?_
        refine r_isubN dX1_removeAt_29 (by omega) ?_
        refine r_callVw [_, _] dX1_removeAt_30 ok_RX1_43 ivX1_move (by assumption) ⟨_, _, rfl⟩ rfl rfl (Nat.le_of_ble_eq_true rfl) (by refine ⟨?_, ?_, ?_, ?_⟩ <;> exact Nat.le_of_ble_eq_true rfl) (c_move hL (by omega) (by omega)) ?_
        intro m2 ⟨ho2, hm2⟩
        refine r_iincN 2 (b := 1) (ls2 := [_, _, _]) dX1_removeAt_33 rfl (by decide) (by decide) rfl ?_
        refine r_goto 17 dX1_removeAt_36 (by decide) ?_
        refine ih (j + 1) m2 (by omega) (by omega) (ho.trans ho2) (fun r q r1 r3 => ?_)
        rw [hm2 r q r1 r3]
        by_cases hq : q = j - 1
        · rw [if_pos hq, hm r j r1 r3, if_neg (by omega), if_pos (by omega), show q + 1 = j by omega]
        · rw [if_neg hq, hm r q r1 r3]
          by_cases h1 : k ≤ q ∧ q + 1 < j
          · rw [if_pos h1, if_pos (by omega)]
          · rw [if_neg h1, if_neg (by omega)]
  refine Mv.of pnX1_removeAt (Nat.le_of_ble_eq_true rfl) rfl ?_
  refine r_iload_n 1 dX1_removeAt_0 rfl rfl ?_
  refine r_ifN_lt 12 dX1_removeAt_1 (by decide) (by omega) ?_
  refine r_iload_n 1 dX1_removeAt_4 rfl rfl ?_
  refine r_aload_n 0 dX1_removeAt_5 rfl rfl ?_
  refine r_getV dX1_removeAt_6 fl_RX1_27 rfl (by assumption) (by first | assumption | exact up2_same _ _ _ _ | exact (Eq.trans (up2_ne _ _ (by omega)) (by first | assumption | exact up2_same _ _ _ _)) | exact (Eq.trans (up2_ne _ _ (by omega)) (Eq.trans (up2_ne _ _ (by omega)) (by first | assumption | exact up2_same _ _ _ _))) | exact (Eq.trans (up2_ne _ _ (by omega)) (Eq.trans (up2_ne _ _ (by omega)) (Eq.trans (up2_ne _ _ (by omega)) (by first | assumption | exact up2_same _ _ _ _)))) | exact (Eq.trans (up2_ne _ _ (by omega)) (Eq.trans (up2_ne _ _ (by omega)) (Eq.trans (up2_ne _ _ (by omega)) (Eq.trans (up2_ne _ _ (by omega)) (by first | assumption | exact up2_same _ _ _ _))))) | rfl) ?_
  refine r_icmpN_lt 13 dX1_removeAt_9 (by decide) (by omega) (by omega) (fun h9 => ?_) (fun h9 => ?_)
  · refine r_iload_n 1 dX1_removeAt_13 rfl rfl ?_
    refine r_iconst (v := nI 1) dX1_removeAt_14 (by decide) ?_
    refine r_iaddN dX1_removeAt_15 ?_
    refine r_istore_n 2 (ls2 := [_, _, _]) dX1_removeAt_16 rfl (by decide) (Nat.le_of_ble_eq_true rfl) rfl ?_
    exact H (l.length - (k + 1)) (k + 1) mi (by omega) (by omega) Oth.rf (fun r q _ _ => by rw [if_neg (by omega)])
  · omega
theorem c_knRemN (hL : LKn sh mr a) : Mi mX1_removeAt 1 [.ref a, .int (-6)] z sh mi mr (fun v mi' => v = none ∧ mi' = mi) := by
  obtain ⟨l0, l1, l2, l3, l4, l5, l6⟩ := id hL
  refine Mv.of pnX1_removeAt (Nat.le_of_ble_eq_true rfl) rfl ?_
  refine r_iload_n 1 dX1_removeAt_0 rfl rfl ?_
  refine r_if_lt 12 dX1_removeAt_1 (by decide) (fun h1 => ?_) (fun h1 => ?_)
  · refine r_vret dX1_removeAt_12 rfl (Nat.le_of_ble_eq_true rfl) (Nat.le_of_ble_eq_true rfl) ?_
    exact ⟨rfl, rfl, rfl, rfl, rfl⟩
  · exact absurd (by decide) h1
theorem c_dropOld (hL : LKn sh mr a) {l : Kn} (hC : KnC mi a l) (hl : l.length ≤ 16) {now w : Nat} (hnow : now < 2 ^ 30) (hw : w ≤ 60) (ht : ∀ q ∈ l, q.2.2 ≤ now) : Mi mX1_dropOld 1 [.ref a, .int (nI now), .int (nI w)] z sh mi mr (fun v mi' => v = none ∧ KnC mi' a (knOld l now w) ∧ Oth mi mi' a (a + 4)) := by
  obtain ⟨l0, l1, l2, l3, l4, l5, l6⟩ := id hL
  obtain ⟨p1, p2⟩ := id hC
  have H : ∀ t i c : Nat, ∀ m : MI, i + t = l.length → c = (knOld (l.take i) now w).length → Oth mi m (a + 1) (a + 4) → (∀ j q, (knOld (l.take i) now w)[j]? = some q → KnE m a j q) → (∀ r q, 1 ≤ r → r ≤ 3 → i ≤ q → m (a + r) q = mi (a + r) q) → Wp yX1_dropOld cX1_dropOld 5 none (EI 1 z sh mr (fun v mi' => v = none ∧ KnC mi' a (knOld l now w) ∧ Oth mi mi' a (a + 4))) 0 0 5 [.ref a, .int (nI now), .int (nI w), .int (nI c), .int (nI i)] [] z sh m mr := by
    intro t
    induction t with
    | zero =>
      intro i c m hi hc ho hf hm
      have hsz : m a 3 = nI l.length := by rw [ho a (by omega)]; exact p1
      rw [List.take_of_length_le (by omega)] at hc hf
      refine r_iload 4 dX1_dropOld_5 rfl ?_
      refine r_aload_n 0 dX1_dropOld_7 rfl rfl ?_
      refine r_getV dX1_dropOld_8 fl_RX1_27 rfl (by assumption) (by first | assumption | exact up2_same _ _ _ _ | exact (Eq.trans (up2_ne _ _ (by omega)) (by first | assumption | exact up2_same _ _ _ _)) | exact (Eq.trans (up2_ne _ _ (by omega)) (Eq.trans (up2_ne _ _ (by omega)) (by first | assumption | exact up2_same _ _ _ _))) | exact (Eq.trans (up2_ne _ _ (by omega)) (Eq.trans (up2_ne _ _ (by omega)) (Eq.trans (up2_ne _ _ (by omega)) (by first | assumption | exact up2_same _ _ _ _)))) | exact (Eq.trans (up2_ne _ _ (by omega)) (Eq.trans (up2_ne _ _ (by omega)) (Eq.trans (up2_ne _ _ (by omega)) (Eq.trans (up2_ne _ _ (by omega)) (by first | assumption | exact up2_same _ _ _ _))))) | rfl) ?_
      refine r_icmpN_ge 43 dX1_dropOld_11 (by decide) (by omega) (by omega) (fun h11 => ?_) (fun h11 => ?_)
      · refine r_aload_n 0 dX1_dropOld_43 rfl rfl ?_
        refine r_iload_n 3 dX1_dropOld_44 rfl rfl ?_
        refine r_putI dX1_dropOld_45 fl_RX1_27 rfl rfl rfl (by assumption) ?_
        refine r_vret dX1_dropOld_48 rfl (Nat.le_of_ble_eq_true rfl) (Nat.le_of_ble_eq_true rfl) ?_
        refine ⟨rfl, rfl, rfl, rfl, ⟨?_, fun i q hq => ?_⟩, (ho.wide (by omega) (by omega)).up (by omega) (by omega)⟩
        · rw [up2_same, hc]
        · rw [up2_row _ _ (by omega), up2_row _ _ (by omega), up2_row _ _ (by omega)]
          exact hf i q hq
      · omega
    | succ t ih =>
      intro i c m hi hc ho hf hm
      have hsz : m a 3 = nI l.length := by rw [ho a (by omega)]; exact p1
      obtain ⟨x, hx⟩ := gl_ex (l := l) (i := i) (by omega)
      obtain ⟨v1, v2, v3⟩ := p2 i x hx
      have hv : m (a + 3) i = nI x.2.2 := by rw [hm 3 i (by omega) (by omega) (by omega)]; exact v3
      have hxt := ht x (gl_mem hx)
      have hci : c ≤ i := by
        rw [hc]; unfold knOld
        exact Nat.le_trans (List.length_filter_le _ _) (by simp; omega)
      have htk : knOld (l.take (i + 1)) now w = knOld (l.take i) now w ++ (if now - x.2.2 ≤ w then [x] else []) := by
        unfold knOld
        rw [List.take_succ, hx, List.filter_append]
        simp only [Option.toList_some, List.filter_cons, List.filter_nil, decide_eq_true_eq]
      have KA : w < now - x.2.2 → Wp yX1_dropOld cX1_dropOld 5 none (EI 1 z sh mr (fun v mi' => v = none ∧ KnC mi' a (knOld l now w) ∧ Oth mi mi' a (a + 4))) 0 0 37 [.ref a, .int (nI now), .int (nI w), .int (nI c), .int (nI i)] [] z sh m mr := by
        intro h24
        refine r_iincN 4 (b := 1) (ls2 := [_, _, _, _, _]) dX1_dropOld_37 rfl (by decide) (by decide) rfl ?_
        refine r_goto 5 dX1_dropOld_40 (by decide) ?_
        refine ih (i + 1) c m (by omega) ?_ ho ?_ (fun r q r1 r3 hq => hm r q r1 r3 (by omega))
        · rw [htk, if_neg (by omega), List.append_nil]; exact hc
        · rw [htk, if_neg (by omega), List.append_nil]; exact hf
      have KB : now - x.2.2 ≤ w → ∀ m2 : MI, Oth m m2 (a + 1) (a + 4) → (∀ r q, 1 ≤ r → r ≤ 3 → m2 (a + r) q = if q = c then m (a + r) i else m (a + r) q) → Wp yX1_dropOld cX1_dropOld 5 none (EI 1 z sh mr (fun v mi' => v = none ∧ KnC mi' a (knOld l now w) ∧ Oth mi mi' a (a + 4))) 0 0 37 [.ref a, .int (nI now), .int (nI w), .int (nI (c + 1)), .int (nI i)] [] z sh m2 mr := by
        intro h24 m2 ho2 hm2
        refine r_iincN 4 (b := 1) (ls2 := [_, _, _, _, _]) dX1_dropOld_37 rfl (by decide) (by decide) rfl ?_
        refine r_goto 5 dX1_dropOld_40 (by decide) ?_
        refine ih (i + 1) (c + 1) m2 (by omega) ?_ (ho.trans ho2) (fun j q hq => ?_) (fun r q r1 r3 hq => ?_)
        · rw [htk, if_pos (by omega), List.length_append, ← hc]; rfl
        · rw [htk, if_pos (by omega)] at hq
          unfold KnE
          rw [hm2 1 j (by omega) (by omega), hm2 2 j (by omega) (by omega), hm2 3 j (by omega) (by omega)]
          by_cases hj : j = c
          · rw [if_pos hj, if_pos hj, if_pos hj, hm 1 i (by omega) (by omega) (by omega), hm 2 i (by omega) (by omega) (by omega), hm 3 i (by omega) (by omega) (by omega)]
            rw [List.getElem?_append_right (by omega), ← hc, hj, Nat.sub_self] at hq
            cases hq
            exact ⟨v1, v2, v3⟩
          · rw [if_neg hj, if_neg hj, if_neg hj]
            have hjl := gl_lt hq
            rw [List.length_append, ← hc] at hjl
            simp at hjl
            rw [List.getElem?_append_left (by omega)] at hq
            exact hf j q hq
        · rw [hm2 r q r1 r3, if_neg (by omega)]
          exact hm r q r1 r3 (by omega)
      refine r_iload 4 dX1_dropOld_5 rfl ?_
      refine r_aload_n 0 dX1_dropOld_7 rfl rfl ?_
      refine r_getV dX1_dropOld_8 fl_RX1_27 rfl (by assumption) (by first | assumption | exact up2_same _ _ _ _ | exact (Eq.trans (up2_ne _ _ (by omega)) (by first | assumption | exact up2_same _ _ _ _)) | exact (Eq.trans (up2_ne _ _ (by omega)) (Eq.trans (up2_ne _ _ (by omega)) (by first | assumption | exact up2_same _ _ _ _))) | exact (Eq.trans (up2_ne _ _ (by omega)) (Eq.trans (up2_ne _ _ (by omega)) (Eq.trans (up2_ne _ _ (by omega)) (by first | assumption | exact up2_same _ _ _ _)))) | exact (Eq.trans (up2_ne _ _ (by omega)) (Eq.trans (up2_ne _ _ (by omega)) (Eq.trans (up2_ne _ _ (by omega)) (Eq.trans (up2_ne _ _ (by omega)) (by first | assumption | exact up2_same _ _ _ _))))) | rfl) ?_
      refine r_icmpN_ge 43 dX1_dropOld_11 (by decide) (by omega) (by omega) (fun h11 => ?_) (fun h11 => ?_)
      · omega
      · refine r_iload_n 1 dX1_dropOld_14 rfl rfl ?_
        refine r_aload_n 0 dX1_dropOld_15 rfl rfl ?_
        refine r_getR dX1_dropOld_16 fl_RX1_18 rfl (by assumption) (by assumption) ?_
        refine r_iload 4 dX1_dropOld_19 rfl ?_
        refine r_ialdV dX1_dropOld_21 (by assumption) (by omega) (by omega) (by first | assumption | exact up2_same _ _ _ _ | exact (Eq.trans (up2_ne _ _ (by omega)) (by first | assumption | exact up2_same _ _ _ _)) | exact (Eq.trans (up2_ne _ _ (by omega)) (Eq.trans (up2_ne _ _ (by omega)) (by first | assumption | exact up2_same _ _ _ _))) | exact (Eq.trans (up2_ne _ _ (by omega)) (Eq.trans (up2_ne _ _ (by omega)) (Eq.trans (up2_ne _ _ (by omega)) (by first | assumption | exact up2_same _ _ _ _)))) | exact (Eq.trans (up2_ne _ _ (by omega)) (Eq.trans (up2_ne _ _ (by omega)) (Eq.trans (up2_ne _ _ (by omega)) (Eq.trans (up2_ne _ _ (by omega)) (by first | assumption | exact up2_same _ _ _ _))))) | rfl) ?_
        refine r_isubN dX1_dropOld_22 (by omega) ?_
        refine r_iload_n 2 dX1_dropOld_23 rfl rfl ?_
        refine r_icmpN_gt 37 dX1_dropOld_24 (by decide) (by omega) (by omega) (fun h24 => ?_) (fun h24 => ?_)
        · first | exact KA h24 | exact KB h24 m2 ho2 hm2
        · refine r_aload_n 0 dX1_dropOld_27 rfl rfl ?_
          refine r_iload 4 dX1_dropOld_28 rfl ?_
          refine r_iload_n 3 dX1_dropOld_30 rfl rfl ?_
          refine r_callVw [_, _] dX1_dropOld_31 ok_RX1_43 ivX1_move (by assumption) ⟨_, _, rfl⟩ rfl rfl (Nat.le_of_ble_eq_true rfl) (by refine ⟨?_, ?_, ?_, ?_⟩ <;> exact Nat.le_of_ble_eq_true rfl) (c_move hL (by omega) (by omega)) ?_
          intro m2 ⟨ho2, hm2⟩
          refine r_iincN 3 (b := 1) (ls2 := [_, _, _, _, _]) dX1_dropOld_34 rfl (by decide) (by decide) rfl ?_
          first | exact KA h24 | exact KB h24 m2 ho2 hm2
  refine Mv.of pnX1_dropOld (Nat.le_of_ble_eq_true rfl) rfl ?_
  refine r_iconst (v := nI 0) dX1_dropOld_0 (by decide) ?_
  refine r_istore_n 3 (ls2 := [_, _, _, _]) dX1_dropOld_1 rfl (by decide) (Nat.le_of_ble_eq_true rfl) rfl ?_
  refine r_iconst (v := nI 0) dX1_dropOld_2 (by decide) ?_
  refine r_istore 4 (ls2 := [_, _, _, _, _]) dX1_dropOld_3 (by decide) (Nat.le_of_ble_eq_true rfl) rfl ?_
  exact H l.length 0 0 mi (by omega) (by simp [knOld]) Oth.rf (fun j q hq => by simp [knOld] at hq) (fun _ _ _ _ _ => rfl)
theorem c_knAdd {b : Nat} (hL : LKn sh mr a) (hB : LPk sh mr b) {l : Kn} (hC : KnC mi a l) (hl : l.length ≤ 16) {p : Pk} (hP : PkC mi b p) {now : Nat} : Mi mX1_add 2 [.ref a, .ref b, .int (nI now)] z sh mi mr (fun v mi' => v = none ∧ KnC mi' a (knAdd l p now) ∧ Oth mi mi' a (a + 4)) := by
  obtain ⟨l0, l1, l2, l3, l4, l5, l6⟩ := id hL
  obtain ⟨k0, k1, k2⟩ := id hB
  obtain ⟨p1, p2⟩ := id hC
  obtain ⟨q1, q2, q3, q4⟩ := id hP
  have n0 : b ≠ a := fun e => by rw [e, l0] at k0; cases k0
  have n1 : b ≠ a + 1 := fun e => by rw [e, l2] at k0; cases k0
  have n2 : b ≠ a + 2 := fun e => by rw [e, l4] at k0; cases k0
  have n3 : b ≠ a + 3 := fun e => by rw [e, l6] at k0; cases k0
  have H : ∀ (m : MI) (l' : Kn), Oth mi m a (a + 4) → KnC m a l' → l'.length < 16 → knAdd l p now = l' ++ [(p.1, p.2.1, now)] → Wp yX1_add cX1_add 3 none (EI 2 z sh mr (fun v mi' => v = none ∧ KnC mi' a (knAdd l p now) ∧ Oth mi mi' a (a + 4))) 0 0 14 [.ref a, .ref b, .int (nI now)] [] z sh m mr := by
    intro m l' ho hC' hl' he
    obtain ⟨r1, r2⟩ := id hC'
    have s2 : m b 2 = nI (en 32 p.1) := by rw [ho b (by omega)]; exact q2
    have s3 : m b 3 = nI (en 32 p.2.1) := by rw [ho b (by omega)]; exact q3
    refine r_aload_n 0 dX1_add_14 rfl rfl ?_
    refine r_getR dX1_add_15 fl_RX1_9 rfl (by assumption) (by assumption) ?_
    refine r_aload_n 0 dX1_add_18 rfl rfl ?_
    refine r_getV dX1_add_19 fl_RX1_27 rfl (by assumption) (by first | assumption | exact up2_same _ _ _ _ | exact (Eq.trans (up2_ne _ _ (by omega)) (by first | assumption | exact up2_same _ _ _ _)) | exact (Eq.trans (up2_ne _ _ (by omega)) (Eq.trans (up2_ne _ _ (by omega)) (by first | assumption | exact up2_same _ _ _ _))) | exact (Eq.trans (up2_ne _ _ (by omega)) (Eq.trans (up2_ne _ _ (by omega)) (Eq.trans (up2_ne _ _ (by omega)) (by first | assumption | exact up2_same _ _ _ _)))) | exact (Eq.trans (up2_ne _ _ (by omega)) (Eq.trans (up2_ne _ _ (by omega)) (Eq.trans (up2_ne _ _ (by omega)) (Eq.trans (up2_ne _ _ (by omega)) (by first | assumption | exact up2_same _ _ _ _))))) | rfl) ?_
    refine r_aload_n 1 dX1_add_22 rfl rfl ?_
    refine r_getV dX1_add_23 fl_RX1_31 rfl (by assumption) (by first | assumption | exact up2_same _ _ _ _ | exact (Eq.trans (up2_ne _ _ (by omega)) (by first | assumption | exact up2_same _ _ _ _)) | exact (Eq.trans (up2_ne _ _ (by omega)) (Eq.trans (up2_ne _ _ (by omega)) (by first | assumption | exact up2_same _ _ _ _))) | exact (Eq.trans (up2_ne _ _ (by omega)) (Eq.trans (up2_ne _ _ (by omega)) (Eq.trans (up2_ne _ _ (by omega)) (by first | assumption | exact up2_same _ _ _ _)))) | exact (Eq.trans (up2_ne _ _ (by omega)) (Eq.trans (up2_ne _ _ (by omega)) (Eq.trans (up2_ne _ _ (by omega)) (Eq.trans (up2_ne _ _ (by omega)) (by first | assumption | exact up2_same _ _ _ _))))) | rfl) ?_
    refine r_iast dX1_add_26 (by assumption) (by omega) (by omega) ?_
    refine r_aload_n 0 dX1_add_27 rfl rfl ?_
    refine r_getR dX1_add_28 fl_RX1_15 rfl (by assumption) (by assumption) ?_
    refine r_aload_n 0 dX1_add_31 rfl rfl ?_
    refine r_getV dX1_add_32 fl_RX1_27 rfl (by assumption) (by first | assumption | exact up2_same _ _ _ _ | exact (Eq.trans (up2_ne _ _ (by omega)) (by first | assumption | exact up2_same _ _ _ _)) | exact (Eq.trans (up2_ne _ _ (by omega)) (Eq.trans (up2_ne _ _ (by omega)) (by first | assumption | exact up2_same _ _ _ _))) | exact (Eq.trans (up2_ne _ _ (by omega)) (Eq.trans (up2_ne _ _ (by omega)) (Eq.trans (up2_ne _ _ (by omega)) (by first | assumption | exact up2_same _ _ _ _)))) | exact (Eq.trans (up2_ne _ _ (by omega)) (Eq.trans (up2_ne _ _ (by omega)) (Eq.trans (up2_ne _ _ (by omega)) (Eq.trans (up2_ne _ _ (by omega)) (by first | assumption | exact up2_same _ _ _ _))))) | rfl) ?_
    refine r_aload_n 1 dX1_add_35 rfl rfl ?_
    refine r_getV dX1_add_36 fl_RX1_36 rfl (by assumption) (by first | assumption | exact up2_same _ _ _ _ | exact (Eq.trans (up2_ne _ _ (by omega)) (by first | assumption | exact up2_same _ _ _ _)) | exact (Eq.trans (up2_ne _ _ (by omega)) (Eq.trans (up2_ne _ _ (by omega)) (by first | assumption | exact up2_same _ _ _ _))) | exact (Eq.trans (up2_ne _ _ (by omega)) (Eq.trans (up2_ne _ _ (by omega)) (Eq.trans (up2_ne _ _ (by omega)) (by first | assumption | exact up2_same _ _ _ _)))) | exact (Eq.trans (up2_ne _ _ (by omega)) (Eq.trans (up2_ne _ _ (by omega)) (Eq.trans (up2_ne _ _ (by omega)) (Eq.trans (up2_ne _ _ (by omega)) (by first | assumption | exact up2_same _ _ _ _))))) | rfl) ?_
    refine r_iast dX1_add_39 (by assumption) (by omega) (by omega) ?_
    refine r_aload_n 0 dX1_add_40 rfl rfl ?_
    refine r_getR dX1_add_41 fl_RX1_18 rfl (by assumption) (by assumption) ?_
    refine r_aload_n 0 dX1_add_44 rfl rfl ?_
    refine r_getV dX1_add_45 fl_RX1_27 rfl (by assumption) (by first | assumption | exact up2_same _ _ _ _ | exact (Eq.trans (up2_ne _ _ (by omega)) (by first | assumption | exact up2_same _ _ _ _)) | exact (Eq.trans (up2_ne _ _ (by omega)) (Eq.trans (up2_ne _ _ (by omega)) (by first | assumption | exact up2_same _ _ _ _))) | exact (Eq.trans (up2_ne _ _ (by omega)) (Eq.trans (up2_ne _ _ (by omega)) (Eq.trans (up2_ne _ _ (by omega)) (by first | assumption | exact up2_same _ _ _ _)))) | exact (Eq.trans (up2_ne _ _ (by omega)) (Eq.trans (up2_ne _ _ (by omega)) (Eq.trans (up2_ne _ _ (by omega)) (Eq.trans (up2_ne _ _ (by omega)) (by first | assumption | exact up2_same _ _ _ _))))) | rfl) ?_
    refine r_iload_n 2 dX1_add_48 rfl rfl ?_
    refine r_iast dX1_add_49 (by assumption) (by omega) (by omega) ?_
    refine r_aload_n 0 dX1_add_50 rfl rfl ?_
    refine r_dup dX1_add_51 rfl ?_
    refine r_getV dX1_add_52 fl_RX1_27 rfl (by assumption) (by first | assumption | exact up2_same _ _ _ _ | exact (Eq.trans (up2_ne _ _ (by omega)) (by first | assumption | exact up2_same _ _ _ _)) | exact (Eq.trans (up2_ne _ _ (by omega)) (Eq.trans (up2_ne _ _ (by omega)) (by first | assumption | exact up2_same _ _ _ _))) | exact (Eq.trans (up2_ne _ _ (by omega)) (Eq.trans (up2_ne _ _ (by omega)) (Eq.trans (up2_ne _ _ (by omega)) (by first | assumption | exact up2_same _ _ _ _)))) | exact (Eq.trans (up2_ne _ _ (by omega)) (Eq.trans (up2_ne _ _ (by omega)) (Eq.trans (up2_ne _ _ (by omega)) (Eq.trans (up2_ne _ _ (by omega)) (by first | assumption | exact up2_same _ _ _ _))))) | rfl) ?_
    refine r_iconst (v := nI 1) dX1_add_55 (by decide) ?_
    refine r_iaddN dX1_add_56 ?_
    refine r_putI dX1_add_57 fl_RX1_27 rfl rfl rfl (by assumption) ?_
    refine r_vret dX1_add_60 rfl (Nat.le_of_ble_eq_true rfl) (Nat.le_of_ble_eq_true rfl) ?_
    refine ⟨rfl, rfl, rfl, rfl, ?_, ((((ho.up (by omega) (by omega)).up (by omega) (by omega)).up (by omega) (by omega)).up (by omega) (by omega))⟩
    rw [he]
    refine ⟨?_, fun i q hq => ?_⟩
    · rw [up2_same, List.length_append]; rfl
    · by_cases hi : i = l'.length
      · subst hi
        rw [List.getElem?_append_right (Nat.le_refl _), Nat.sub_self] at hq
        cases hq
        refine ⟨?_, ?_, ?_⟩ <;> simp [up2]
      · have hil := gl_lt hq
        rw [List.length_append] at hil
        simp at hil
        rw [List.getElem?_append_left (by omega)] at hq
        have := r2 i q hq
        simpa [up2, hi] using this
  refine Mv.of pnX1_add (Nat.le_of_ble_eq_true rfl) rfl ?_
  refine r_aload_n 0 dX1_add_0 rfl rfl ?_
  refine r_getV dX1_add_1 fl_RX1_27 rfl (by assumption) (by first | assumption | exact up2_same _ _ _ _ | exact (Eq.trans (up2_ne _ _ (by omega)) (by first | assumption | exact up2_same _ _ _ _)) | exact (Eq.trans (up2_ne _ _ (by omega)) (Eq.trans (up2_ne _ _ (by omega)) (by first | assumption | exact up2_same _ _ _ _))) | exact (Eq.trans (up2_ne _ _ (by omega)) (Eq.trans (up2_ne _ _ (by omega)) (Eq.trans (up2_ne _ _ (by omega)) (by first | assumption | exact up2_same _ _ _ _)))) | exact (Eq.trans (up2_ne _ _ (by omega)) (Eq.trans (up2_ne _ _ (by omega)) (Eq.trans (up2_ne _ _ (by omega)) (Eq.trans (up2_ne _ _ (by omega)) (by first | assumption | exact up2_same _ _ _ _))))) | rfl) ?_
  refine r_bipush (v := nI 16) dX1_add_4 (by decide) ?_
  refine r_icmpN_lt 14 dX1_add_6 (by decide) (by omega) (by omega) (fun h6 => ?_) (fun h6 => ?_)
  · first | exact H mi l Oth.rf hC (by omega) (by unfold knAdd; rw [if_neg (by omega)]) | exact H m (l.eraseIdx 0) ho hC' (by rw [List.length_eraseIdx_of_lt (by omega)]; omega) (by unfold knAdd; rw [if_pos (by omega)])
  · refine r_aload_n 0 dX1_add_9 rfl rfl ?_
    refine r_iconst (v := nI 0) dX1_add_10 (by decide) ?_
    refine r_callVw [_] dX1_add_11 ok_RX1_39 ivX1_removeAt (by assumption) ⟨_, _, rfl⟩ rfl rfl (Nat.le_of_ble_eq_true rfl) (by refine ⟨?_, ?_, ?_, ?_⟩ <;> exact Nat.le_of_ble_eq_true rfl) (c_knRem hL hC hl (by omega)) ?_
    intro m ⟨hC', ho⟩
    first | exact H mi l Oth.rf hC (by omega) (by unfold knAdd; rw [if_neg (by omega)]) | exact H m (l.eraseIdx 0) ho hC' (by rw [List.length_eraseIdx_of_lt (by omega)]; omega) (by unfold knAdd; rw [if_pos (by omega)])
end KNOWN
end
section
section KEPT
variable {z : Nat} {sh : SH} {mi : MI} {mr : MR} {a : Nat}
theorem PkC.keep {m m' : MI} {x : Nat} {p : Pk} (h : PkC m x p) (h1 : m' x = m x) (h2 : m' (x + 1) = m (x + 1)) : PkC m' x p := by
  unfold PkC at *
  rw [h1, h2]; exact h
theorem PkC.copy {m m' : MI} {x b : Nat} {p : Pk} (h : PkC m b p) (hp : p.2.2.length ≤ 8) (h1 : m' x 1 = m b 1) (h2 : m' x 2 = m b 2) (h3 : m' x 3 = m b 3) (h4 : ∀ j, j < 8 → m' (x + 1) j = m (b + 1) j) : PkC m' x p := by
  refine ⟨by rw [h1]; exact h.1, by rw [h2]; exact h.2.1, by rw [h3]; exact h.2.2.1, fun i w hi => ?_⟩
  rw [h4 i (by have := gl_lt hi; omega)]
  exact h.2.2.2 i w hi
theorem c_kpClear (hL : LKp sh mr a) : Mi mX0_clear 0 [.ref a] z sh mi mr (fun v mi' => v = none ∧ mi' = up2 mi a 2 (nI 0)) := by
  obtain ⟨l0, l1, l2, l3, l4, l5⟩ := id hL
  refine Mv.of pnX0_clear (Nat.le_of_ble_eq_true rfl) rfl ?_
  refine r_aload_n 0 dX0_clear_0 rfl rfl ?_
  refine r_iconst (v := nI 0) dX0_clear_1 (by decide) ?_
  refine r_putI dX0_clear_2 fl_RX0_22 rfl rfl rfl (by assumption) ?_
  refine r_vret dX0_clear_5 rfl (Nat.le_of_ble_eq_true rfl) (Nat.le_of_ble_eq_true rfl) ?_
  exact ⟨rfl, rfl, rfl, rfl, rfl⟩
theorem c_kpFull (hL : LKp sh mr a) {b : Nat} {x : Int32} {n : Nat} (hn : mi a 2 = nI n) (h12 : 12 ≤ n) (hn2 : n < 2 ^ 31) : Mi mX0_add 2 [.ref a, .ref b, .int x] z sh mi mr (fun v mi' => v = some (.int (nI 0)) ∧ mi' = mi) := by
  obtain ⟨l0, l1, l2, l3, l4, l5⟩ := id hL
  refine Mv.of pnX0_add (Nat.le_of_ble_eq_true rfl) rfl ?_
  refine r_aload_n 0 dX0_add_0 rfl rfl ?_
  refine r_getV dX0_add_1 fl_RX0_22 rfl (by assumption) (by first | assumption | exact up2_same _ _ _ _ | exact (Eq.trans (up2_ne _ _ (by omega)) (by first | assumption | exact up2_same _ _ _ _)) | exact (Eq.trans (up2_ne _ _ (by omega)) (Eq.trans (up2_ne _ _ (by omega)) (by first | assumption | exact up2_same _ _ _ _))) | exact (Eq.trans (up2_ne _ _ (by omega)) (Eq.trans (up2_ne _ _ (by omega)) (Eq.trans (up2_ne _ _ (by omega)) (by first | assumption | exact up2_same _ _ _ _)))) | exact (Eq.trans (up2_ne _ _ (by omega)) (Eq.trans (up2_ne _ _ (by omega)) (Eq.trans (up2_ne _ _ (by omega)) (Eq.trans (up2_ne _ _ (by omega)) (by first | assumption | exact up2_same _ _ _ _))))) | rfl) ?_
  refine r_bipush (v := nI 12) dX0_add_4 (by decide) ?_
  refine r_icmpN_lt 11 dX0_add_6 (by decide) (by omega) (by omega) (fun h6 => ?_) (fun h6 => ?_)
  · omega
  · refine r_iconst (v := nI 0) dX0_add_9 (by decide) ?_
    refine r_zret dX0_add_10 rfl (by first | exact b2_nar _ | decide) (Nat.le_of_ble_eq_true rfl) (Nat.le_of_ble_eq_true rfl) ?_
    exact ⟨rfl, rfl, rfl, rfl, rfl⟩
theorem c_kpAdd (hL : LKp sh mr a) {b : Nat} (hB : LPk sh mr b) (hb : b < a ∨ a + 27 ≤ b) {l : Kp} (hC : KpC mi mr a l) (hR : KpR mr a) (hl : l.length < 12) {p : Pk} (hP : PkC mi b p) (hp : p.2.2.length ≤ 8) {dd : Nat} : Mi mX0_add 2 [.ref a, .ref b, .int (nI dd)] z sh mi mr (fun v mi' => v = some (.int (nI 1)) ∧ KpC mi' mr a (l ++ [(p, dd)]) ∧ Oth mi mi' a (a + 27)) := by
  obtain ⟨l0, l1, l2, l3, l4, l5⟩ := id hL
  obtain ⟨k0, k1, k2⟩ := id hB
  obtain ⟨p1, p2⟩ := id hC
  obtain ⟨f, f1, f2⟩ := hR
  obtain ⟨g1, g2⟩ := f1 l.length hl
  have hx := l5 (f l.length) g1
  obtain ⟨x0, x1, x2⟩ := id hx
  refine Mv.of pnX0_add (Nat.le_of_ble_eq_true rfl) rfl ?_
  refine r_aload_n 0 dX0_add_0 rfl rfl ?_
  refine r_getV dX0_add_1 fl_RX0_22 rfl (by assumption) (by first | assumption | exact up2_same _ _ _ _ | exact (Eq.trans (up2_ne _ _ (by omega)) (by first | assumption | exact up2_same _ _ _ _)) | exact (Eq.trans (up2_ne _ _ (by omega)) (Eq.trans (up2_ne _ _ (by omega)) (by first | assumption | exact up2_same _ _ _ _))) | exact (Eq.trans (up2_ne _ _ (by omega)) (Eq.trans (up2_ne _ _ (by omega)) (Eq.trans (up2_ne _ _ (by omega)) (by first | assumption | exact up2_same _ _ _ _)))) | exact (Eq.trans (up2_ne _ _ (by omega)) (Eq.trans (up2_ne _ _ (by omega)) (Eq.trans (up2_ne _ _ (by omega)) (Eq.trans (up2_ne _ _ (by omega)) (by first | assumption | exact up2_same _ _ _ _))))) | rfl) ?_
  refine r_bipush (v := nI 12) dX0_add_4 (by decide) ?_
  refine r_icmpN_lt 11 dX0_add_6 (by decide) (by omega) (by omega) (fun h6 => ?_) (fun h6 => ?_)
  · refine r_aload_n 0 dX0_add_11 rfl rfl ?_
    refine r_getR dX0_add_12 fl_RX0_11 rfl (by assumption) (by assumption) ?_
    refine r_aload_n 0 dX0_add_15 rfl rfl ?_
    refine r_getV dX0_add_16 fl_RX0_22 rfl (by assumption) (by first | assumption | exact up2_same _ _ _ _ | exact (Eq.trans (up2_ne _ _ (by omega)) (by first | assumption | exact up2_same _ _ _ _)) | exact (Eq.trans (up2_ne _ _ (by omega)) (Eq.trans (up2_ne _ _ (by omega)) (by first | assumption | exact up2_same _ _ _ _))) | exact (Eq.trans (up2_ne _ _ (by omega)) (Eq.trans (up2_ne _ _ (by omega)) (Eq.trans (up2_ne _ _ (by omega)) (by first | assumption | exact up2_same _ _ _ _)))) | exact (Eq.trans (up2_ne _ _ (by omega)) (Eq.trans (up2_ne _ _ (by omega)) (Eq.trans (up2_ne _ _ (by omega)) (Eq.trans (up2_ne _ _ (by omega)) (by first | assumption | exact up2_same _ _ _ _))))) | rfl) ?_
    refine r_aald dX0_add_19 (by assumption) (by decide) (by intro _; rfl) (by omega) (by omega) (by assumption) ?_
    refine r_aload_n 1 dX0_add_20 rfl rfl ?_
    refine r_callVw [_] dX0_add_21 ok_RX0_26 ivX4_copyFrom (by assumption) ⟨_, _, rfl⟩ rfl rfl (Nat.le_of_ble_eq_true rfl) (by refine ⟨?_, ?_, ?_, ?_⟩ <;> exact Nat.le_of_ble_eq_true rfl) (c_copyPk hx hB) ?_
    intro m ⟨ho, e1, e2, e3, e4⟩
    have ma : m a 2 = nI l.length := by rw [ho a (by omega) (by omega)]; exact p1
    refine r_aload_n 0 dX0_add_24 rfl rfl ?_
    refine r_getR dX0_add_25 fl_RX0_17 rfl (by assumption) (by assumption) ?_
    refine r_aload_n 0 dX0_add_28 rfl rfl ?_
    refine r_getV dX0_add_29 fl_RX0_22 rfl (by assumption) (by first | assumption | exact up2_same _ _ _ _ | exact (Eq.trans (up2_ne _ _ (by omega)) (by first | assumption | exact up2_same _ _ _ _)) | exact (Eq.trans (up2_ne _ _ (by omega)) (Eq.trans (up2_ne _ _ (by omega)) (by first | assumption | exact up2_same _ _ _ _))) | exact (Eq.trans (up2_ne _ _ (by omega)) (Eq.trans (up2_ne _ _ (by omega)) (Eq.trans (up2_ne _ _ (by omega)) (by first | assumption | exact up2_same _ _ _ _)))) | exact (Eq.trans (up2_ne _ _ (by omega)) (Eq.trans (up2_ne _ _ (by omega)) (Eq.trans (up2_ne _ _ (by omega)) (Eq.trans (up2_ne _ _ (by omega)) (by first | assumption | exact up2_same _ _ _ _))))) | rfl) ?_
    refine r_iload_n 2 dX0_add_32 rfl rfl ?_
    refine r_iast dX0_add_33 (by assumption) (by omega) (by omega) ?_
    refine r_aload_n 0 dX0_add_34 rfl rfl ?_
    refine r_dup dX0_add_35 rfl ?_
    refine r_getV dX0_add_36 fl_RX0_22 rfl (by assumption) (by first | assumption | exact up2_same _ _ _ _ | exact (Eq.trans (up2_ne _ _ (by omega)) (by first | assumption | exact up2_same _ _ _ _)) | exact (Eq.trans (up2_ne _ _ (by omega)) (Eq.trans (up2_ne _ _ (by omega)) (by first | assumption | exact up2_same _ _ _ _))) | exact (Eq.trans (up2_ne _ _ (by omega)) (Eq.trans (up2_ne _ _ (by omega)) (Eq.trans (up2_ne _ _ (by omega)) (by first | assumption | exact up2_same _ _ _ _)))) | exact (Eq.trans (up2_ne _ _ (by omega)) (Eq.trans (up2_ne _ _ (by omega)) (Eq.trans (up2_ne _ _ (by omega)) (Eq.trans (up2_ne _ _ (by omega)) (by first | assumption | exact up2_same _ _ _ _))))) | rfl) ?_
    refine r_iconst (v := nI 1) dX0_add_39 (by decide) ?_
    refine r_iaddN dX0_add_40 ?_
    refine r_putI dX0_add_41 fl_RX0_22 rfl rfl rfl (by assumption) ?_
    refine r_iconst (v := nI 1) dX0_add_44 (by decide) ?_
    refine r_zret dX0_add_45 rfl (by first | exact b2_nar _ | decide) (Nat.le_of_ble_eq_true rfl) (Nat.le_of_ble_eq_true rfl) ?_
    refine ⟨rfl, rfl, rfl, rfl, ⟨?_, fun i q hq => ?_⟩, fun x hx' => ?_⟩
    · rw [up2_same, List.length_append]; rfl
    · by_cases hi : i = l.length
      · subst hi
        rw [List.getElem?_append_right (Nat.le_refl _), Nat.sub_self] at hq
        cases hq
        refine ⟨by rw [up2_row _ _ (by omega), up2_same], _, g2, ?_⟩
        exact (hP.copy hp e1 e2 e3 e4).keep (by rw [up2_row _ _ (by omega), up2_row _ _ (by omega)]) (by rw [up2_row _ _ (by omega), up2_row _ _ (by omega)])
      · have hil := gl_lt hq
        rw [List.length_append] at hil
        simp at hil
        rw [List.getElem?_append_left (by omega)] at hq
        obtain ⟨r1, x, r2, r3⟩ := p2 i q hq
        obtain ⟨s1, s2⟩ := f1 i (by omega)
        have hxe : x = a + 3 + 2 * f i := Option.some.inj (r2.symm.trans s2)
        have hne : f i ≠ f l.length := fun e => hi (f2 i l.length (by omega) (by omega) e)
        refine ⟨by rw [up2_row _ _ (by omega), up2_ne _ _ (Or.inr hi), ho (a + 2) (by omega) (by omega)]; exact r1, x, r2, ?_⟩
        exact r3.keep (by rw [up2_row _ _ (by omega), up2_row _ _ (by omega), ho x (by omega) (by omega)]) (by rw [up2_row _ _ (by omega), up2_row _ _ (by omega), ho (x + 1) (by omega) (by omega)])
    · rw [up2_row _ _ (by omega), up2_row _ _ (by omega), ho x (by omega) (by omega)]
  · omega
theorem c_kpRem (hL : LKp sh mr a) {l : Kp} (hC : KpC mi mr a l) (hR : KpR mr a) (hl : l.length ≤ 12) {k : Nat} (hk : k < l.length) : Mm mX0_removeAt 0 [.ref a, .int (nI k)] z sh mi mr (fun v mi' mr' => v = none ∧ KpC mi' mr' a (l.eraseIdx k) ∧ KpR mr' a ∧ Oth mi mi' a (a + 3) ∧ ∀ x, x ≠ a + 1 → mr' x = mr x) := by
  obtain ⟨l0, l1, l2, l3, l4, l5⟩ := id hL
  obtain ⟨p1, p2⟩ := id hC
  obtain ⟨f, f1, f2⟩ := hR
  obtain ⟨g1, g2⟩ := f1 k (by omega)
  obtain ⟨x0, x1, x2⟩ := l5 (f k) g1
  have H : ∀ t j : Nat, ∀ (m : MI) (r : MR), j + t = l.length → k < j → (∀ x, x ≠ a + 2 → m x = mi x) → (∀ x, x ≠ a + 1 → r x = mr x) → (∀ q, m (a + 2) q = if k ≤ q ∧ q + 1 < j then mi (a + 2) (q + 1) else mi (a + 2) q) → (∀ q, r (a + 1) q = if k ≤ q ∧ q + 1 < j then mr (a + 1) (q + 1) else mr (a + 1) q) → Wp yX0_removeAt cX0_removeAt 4 none (EM 0 z sh (fun v mi' mr' => v = none ∧ KpC mi' mr' a (l.eraseIdx k) ∧ KpR mr' a ∧ Oth mi mi' a (a + 3) ∧ ∀ x, x ≠ a + 1 → mr' x = mr x)) 0 0 24 [.ref a, .int (nI k), .ref (a + 3 + 2 * f k), .int (nI j)] [] z sh m r := by
    intro t
    induction t with
    | zero =>
      intro j m r hj hkj ho hr hm hq
      have hsz : m a 2 = nI l.length := by rw [ho a (by omega)]; exact p1
      have ra : r a 0 = some (a + 1) := by rw [hr a (by omega)]; exact l1
      refine r_iload_n 3 dX0_removeAt_24 rfl rfl ?_
      refine r_aload_n 0 dX0_removeAt_25 rfl rfl ?_
      refine r_getV dX0_removeAt_26 fl_RX0_22 rfl (by assumption) (by first | assumption | exact up2_same _ _ _ _ | exact (Eq.trans (up2_ne _ _ (by omega)) (by first | assumption | exact up2_same _ _ _ _)) | exact (Eq.trans (up2_ne _ _ (by omega)) (Eq.trans (up2_ne _ _ (by omega)) (by first | assumption | exact up2_same _ _ _ _))) | exact (Eq.trans (up2_ne _ _ (by omega)) (Eq.trans (up2_ne _ _ (by omega)) (Eq.trans (up2_ne _ _ (by omega)) (by first | assumption | exact up2_same _ _ _ _)))) | exact (Eq.trans (up2_ne _ _ (by omega)) (Eq.trans (up2_ne _ _ (by omega)) (Eq.trans (up2_ne _ _ (by omega)) (Eq.trans (up2_ne _ _ (by omega)) (by first | assumption | exact up2_same _ _ _ _))))) | rfl) ?_
      refine r_icmpN_ge 66 dX0_removeAt_29 (by decide) (by omega) (by omega) (fun h29 => ?_) (fun h29 => ?_)
      · refine r_aload_n 0 dX0_removeAt_66 rfl rfl ?_
        refine r_dup dX0_removeAt_67 rfl ?_
        refine r_getV dX0_removeAt_68 fl_RX0_22 rfl (by assumption) (by first | assumption | exact up2_same _ _ _ _ | exact (Eq.trans (up2_ne _ _ (by omega)) (by first | assumption | exact up2_same _ _ _ _)) | exact (Eq.trans (up2_ne _ _ (by omega)) (Eq.trans (up2_ne _ _ (by omega)) (by first | assumption | exact up2_same _ _ _ _))) | exact (Eq.trans (up2_ne _ _ (by omega)) (Eq.trans (up2_ne _ _ (by omega)) (Eq.trans (up2_ne _ _ (by omega)) (by first | assumption | exact up2_same _ _ _ _)))) | exact (Eq.trans (up2_ne _ _ (by omega)) (Eq.trans (up2_ne _ _ (by omega)) (Eq.trans (up2_ne _ _ (by omega)) (Eq.trans (up2_ne _ _ (by omega)) (by first | assumption | exact up2_same _ _ _ _))))) | rfl) ?_
        refine r_iconst (v := nI 1) dX0_removeAt_71 (by decide) ?_
        refine r_isubN dX0_removeAt_72 (by omega) ?_
        refine r_putI dX0_removeAt_73 fl_RX0_22 rfl rfl rfl (by assumption) ?_
        refine r_aload_n 0 dX0_removeAt_76 rfl rfl ?_
        refine r_getR dX0_removeAt_77 fl_RX0_11 rfl (by assumption) (by assumption) ?_
        refine r_aload_n 0 dX0_removeAt_80 rfl rfl ?_
        refine r_getV dX0_removeAt_81 fl_RX0_22 rfl (by assumption) (by first | assumption | exact up2_same _ _ _ _ | exact (Eq.trans (up2_ne _ _ (by omega)) (by first | assumption | exact up2_same _ _ _ _)) | exact (Eq.trans (up2_ne _ _ (by omega)) (Eq.trans (up2_ne _ _ (by omega)) (by first | assumption | exact up2_same _ _ _ _))) | exact (Eq.trans (up2_ne _ _ (by omega)) (Eq.trans (up2_ne _ _ (by omega)) (Eq.trans (up2_ne _ _ (by omega)) (by first | assumption | exact up2_same _ _ _ _)))) | exact (Eq.trans (up2_ne _ _ (by omega)) (Eq.trans (up2_ne _ _ (by omega)) (Eq.trans (up2_ne _ _ (by omega)) (Eq.trans (up2_ne _ _ (by omega)) (by first | assumption | exact up2_same _ _ _ _))))) | rfl) ?_
        refine r_aload_n 2 dX0_removeAt_84 rfl rfl ?_
        refine r_aast (r := (RX4, TX4, 4)) dX0_removeAt_85 (by assumption) (by decide) (by intro _; rfl) (by assumption) (by rfl) (by decide) (by omega) (by omega) ?_
        refine r_vret dX0_removeAt_86 rfl (Nat.le_of_ble_eq_true rfl) (Nat.le_of_ble_eq_true rfl) ?_
        refine ⟨rfl, rfl, rfl, ⟨?_, fun i q hq' => ?_⟩, ?_, fun x hx => ?_, fun x hx => ?_⟩
        · rw [up2_same, List.length_eraseIdx_of_lt hk]
        · rw [List.getElem?_eraseIdx] at hq'
          have hi1 : i + 1 < l.length := by by_cases hik : i < k; (omega); (rw [if_neg hik] at hq'; exact gl_lt hq')
          rw [up2_row _ _ (by omega), hm i, up2_ne _ _ (Or.inr (by omega)), hq i]
          by_cases hik : i < k
          · rw [if_pos hik] at hq'
            rw [if_neg (by omega), if_neg (by omega)]
            obtain ⟨s1, x, s2, s3⟩ := p2 i q hq'
            have hxe : x = a + 3 + 2 * f i := Option.some.inj (s2.symm.trans (f1 i (by omega)).2)
            exact ⟨s1, x, s2, s3.keep (by rw [up2_row _ _ (by omega), ho _ (by omega)]) (by rw [up2_row _ _ (by omega), ho _ (by omega)])⟩
          · rw [if_neg hik] at hq'
            rw [if_pos (by omega), if_pos (by omega)]
            obtain ⟨s1, x, s2, s3⟩ := p2 (i + 1) q hq'
            have hxe : x = a + 3 + 2 * f (i + 1) := Option.some.inj (s2.symm.trans (f1 (i + 1) (by omega)).2)
            exact ⟨s1, x, s2, s3.keep (by rw [up2_row _ _ (by omega), ho _ (by omega)]) (by rw [up2_row _ _ (by omega), ho _ (by omega)])⟩
        · refine ⟨fun q => if q = l.length - 1 then f k else if k ≤ q ∧ q + 1 < l.length then f (q + 1) else f q, fun i hi => ?_, fun i i' hi hi' he => ?_⟩
          · dsimp only
            by_cases e1 : i = l.length - 1
            · rw [if_pos e1, e1, up2_same]; exact ⟨g1, rfl⟩
            · rw [if_neg e1, up2_ne _ _ (Or.inr e1), hq i]
              by_cases e2 : k ≤ i ∧ i + 1 < l.length
              · rw [if_pos e2, if_pos (by omega)]; exact f1 (i + 1) (by omega)
              · rw [if_neg e2, if_neg (by omega)]; exact f1 i hi
          · have inj : ∀ u v, u < 12 → v < 12 → f u = f v → u = v := f2
            dsimp only at he
            split at he <;> split at he <;> (try split at he) <;> (try split at he) <;> first | omega | (have := inj _ _ (by omega) (by omega) he; omega)
        · rw [up2_row _ _ (by omega)]; exact ho x (by omega)
        · rw [up2_row _ _ hx]; exact hr x hx
      · omega
    | succ t ih =>
      intro j m r hj hkj ho hr hm hq
      have hsz : m a 2 = nI l.length := by rw [ho a (by omega)]; exact p1
      have ra : r a 0 = some (a + 1) := by rw [hr a (by omega)]; exact l1
      have rd : r a 1 = some (a + 2) := by rw [hr a (by omega)]; exact l3
      obtain ⟨gj1, gj2⟩ := f1 j (by omega)
      obtain ⟨xj0, xj1, xj2⟩ := l5 (f j) gj1
      have rj : r (a + 1) j = some (a + 3 + 2 * f j) := by rw [hq j, if_neg (by omega)]; exact gj2
      have ra' : up2 r (a + 1) (j - 1) (some (a + 3 + 2 * f j)) a 1 = some (a + 2) := by rw [up2_row _ _ (by omega)]; exact rd
      refine r_iload_n 3 dX0_removeAt_24 rfl rfl ?_
      refine r_aload_n 0 dX0_removeAt_25 rfl rfl ?_
      refine r_getV dX0_removeAt_26 fl_RX0_22 rfl (by assumption) (by first | assumption | exact up2_same _ _ _ _ | exact (Eq.trans (up2_ne _ _ (by omega)) (by first | assumption | exact up2_same _ _ _ _)) | exact (Eq.trans (up2_ne _ _ (by omega)) (Eq.trans (up2_ne _ _ (by omega)) (by first | assumption | exact up2_same _ _ _ _))) | exact (Eq.trans (up2_ne _ _ (by omega)) (Eq.trans (up2_ne _ _ (by omega)) (Eq.trans (up2_ne _ _ (by omega)) (by first | assumption | exact up2_same _ _ _ _)))) | exact (Eq.trans (up2_ne _ _ (by omega)) (Eq.trans (up2_ne _ _ (by omega)) (Eq.trans (up2_ne _ _ (by omega)) (Eq.trans (up2_ne _ _ (by omega)) (by first | assumption | exact up2_same _ _ _ _))))) | rfl) ?_
      refine r_icmpN_ge 66 dX0_removeAt_29 (by decide) (by omega) (by omega) (fun h29 => ?_) (fun h29 => ?_)
      · omega
      · refine r_aload_n 0 dX0_removeAt_32 rfl rfl ?_
        refine r_getR dX0_removeAt_33 fl_RX0_11 rfl (by assumption) (by assumption) ?_
        refine r_iload_n 3 dX0_removeAt_36 rfl rfl ?_
        refine r_iconst (v := nI 1) dX0_removeAt_37 (by decide) ?_
        refine r_isubN dX0_removeAt_38 (by omega) ?_
        refine r_aload_n 0 dX0_removeAt_39 rfl rfl ?_
        refine r_getR dX0_removeAt_40 fl_RX0_11 rfl (by assumption) (by assumption) ?_
        refine r_iload_n 3 dX0_removeAt_43 rfl rfl ?_
        refine r_aald dX0_removeAt_44 (by assumption) (by decide) (by intro _; rfl) (by omega) (by omega) (by assumption) ?_
        refine r_aast (r := (RX4, TX4, 4)) dX0_removeAt_45 (by assumption) (by decide) (by intro _; rfl) (by assumption) (by rfl) (by decide) (by omega) (by omega) ?_
        refine r_aload_n 0 dX0_removeAt_46 rfl rfl ?_
        refine r_getR dX0_removeAt_47 fl_RX0_17 rfl (by assumption) (by assumption) ?_
        refine r_iload_n 3 dX0_removeAt_50 rfl rfl ?_
        refine r_iconst (v := nI 1) dX0_removeAt_51 (by decide) ?_
        refine r_isubN dX0_removeAt_52 (by omega) ?_
        refine r_aload_n 0 dX0_removeAt_53 rfl rfl ?_
        refine r_getR dX0_removeAt_54 fl_RX0_17 rfl (by assumption) (by assumption) ?_
        refine r_iload_n 3 dX0_removeAt_57 rfl rfl ?_
        refine r_ialdV dX0_removeAt_58 (by assumption) (by omega) (by omega) (by first | assumption | exact up2_same _ _ _ _ | exact (Eq.trans (up2_ne _ _ (by omega)) (by first | assumption | exact up2_same _ _ _ _)) | exact (Eq.trans (up2_ne _ _ (by omega)) (Eq.trans (up2_ne _ _ (by omega)) (by first | assumption | exact up2_same _ _ _ _))) | exact (Eq.trans (up2_ne _ _ (by omega)) (Eq.trans (up2_ne _ _ (by omega)) (Eq.trans (up2_ne _ _ (by omega)) (by first | assumption | exact up2_same _ _ _ _)))) | exact (Eq.trans (up2_ne _ _ (by omega)) (Eq.trans (up2_ne _ _ (by omega)) (Eq.trans (up2_ne _ _ (by omega)) (Eq.trans (up2_ne _ _ (by omega)) (by first | assumption | exact up2_same _ _ _ _))))) | rfl) ?_
        refine r_iast dX0_removeAt_59 (by assumption) (by omega) (by omega) ?_
        refine r_iincN 3 (b := 1) (ls2 := [_, _, _, _]) dX0_removeAt_60 rfl (by decide) (by decide) rfl ?_
        refine r_goto 24 dX0_removeAt_63 (by decide) ?_
        refine ih (j + 1) _ _ (by omega) (by omega) (fun x hx => by rw [up2_row _ _ hx]; exact ho x hx) (fun x hx => by rw [up2_row _ _ hx]; exact hr x hx) (fun q => ?_) (fun q => ?_)
        · by_cases e : q = j - 1
          · subst e
            rw [up2_same, hm j, if_neg (by omega), if_pos (by omega), show j - 1 + 1 = j by omega]
          · rw [up2_ne _ _ (Or.inr e), hm q]
            by_cases h1 : k ≤ q ∧ q + 1 < j
            · rw [if_pos h1, if_pos (by omega)]
            · rw [if_neg h1, if_neg (by omega)]
        · by_cases e : q = j - 1
          · subst e
            rw [up2_same, if_pos (by omega), show j - 1 + 1 = j by omega]; exact gj2.symm
          · rw [up2_ne _ _ (Or.inr e), hq q]
            by_cases h1 : k ≤ q ∧ q + 1 < j
            · rw [if_pos h1, if_pos (by omega)]
            · rw [if_neg h1, if_neg (by omega)]
  refine Mv.of pnX0_removeAt (Nat.le_of_ble_eq_true rfl) rfl ?_
  refine r_iload_n 1 dX0_removeAt_0 rfl rfl ?_
  refine r_ifN_lt 12 dX0_removeAt_1 (by decide) (by omega) ?_
  refine r_iload_n 1 dX0_removeAt_4 rfl rfl ?_
  refine r_aload_n 0 dX0_removeAt_5 rfl rfl ?_
  refine r_getV dX0_removeAt_6 fl_RX0_22 rfl (by assumption) (by first | assumption | exact up2_same _ _ _ _ | exact (Eq.trans (up2_ne _ _ (by omega)) (by first | assumption | exact up2_same _ _ _ _)) | exact (Eq.trans (up2_ne _ _ (by omega)) (Eq.trans (up2_ne _ _ (by omega)) (by first | assumption | exact up2_same _ _ _ _))) | exact (Eq.trans (up2_ne _ _ (by omega)) (Eq.trans (up2_ne _ _ (by omega)) (Eq.trans (up2_ne _ _ (by omega)) (by first | assumption | exact up2_same _ _ _ _)))) | exact (Eq.trans (up2_ne _ _ (by omega)) (Eq.trans (up2_ne _ _ (by omega)) (Eq.trans (up2_ne _ _ (by omega)) (Eq.trans (up2_ne _ _ (by omega)) (by first | assumption | exact up2_same _ _ _ _))))) | rfl) ?_
  refine r_icmpN_lt 13 dX0_removeAt_9 (by decide) (by omega) (by omega) (fun h9 => ?_) (fun h9 => ?_)
  · refine r_aload_n 0 dX0_removeAt_13 rfl rfl ?_
    refine r_getR dX0_removeAt_14 fl_RX0_11 rfl (by assumption) (by assumption) ?_
    refine r_iload_n 1 dX0_removeAt_17 rfl rfl ?_
    refine r_aald dX0_removeAt_18 (by assumption) (by decide) (by intro _; rfl) (by omega) (by omega) (by assumption) ?_
    refine r_astore_n 2 (ls2 := [_, _, _]) dX0_removeAt_19 rfl (by decide) (Nat.le_of_ble_eq_true rfl) rfl ?_
    refine r_iload_n 1 dX0_removeAt_20 rfl rfl ?_
    refine r_iconst (v := nI 1) dX0_removeAt_21 (by decide) ?_
    refine r_iaddN dX0_removeAt_22 ?_
    refine r_istore_n 3 (ls2 := [_, _, _, _]) dX0_removeAt_23 rfl (by decide) (Nat.le_of_ble_eq_true rfl) rfl ?_
    exact H (l.length - (k + 1)) (k + 1) mi mr (by omega) (by omega) (fun _ _ => rfl) (fun _ _ => rfl) (fun q => by rw [if_neg (by omega)]) (fun q => by rw [if_neg (by omega)])
  · omega
theorem c_takeDue (hL : LKp sh mr a) {b : Nat} (hB : LPk sh mr b) (hb : b + 2 ≤ a ∨ a + 27 ≤ b) {l : Kp} (hC : KpC mi mr a l) (hR : KpR mr a) (hl : l.length ≤ 12) (hok : ∀ q ∈ l, okP q.1 ∧ q.2 < 2 ^ 30) {now : Nat} (hnow : now < 2 ^ 30) (hd : duIx l now < l.length) : Mm mX0_takeDue 2 [.ref a, .int (nI now), .ref b] z sh mi mr (fun v mi' mr' => v = some (.int (nI 1)) ∧ KpC mi' mr' a (l.eraseIdx (duIx l now)) ∧ KpR mr' a ∧ (∀ q, l[duIx l now]? = some q → PkC mi' b q.1) ∧ (∀ x, (x < a ∨ a + 3 ≤ x) → x ≠ b → x ≠ b + 1 → mi' x = mi x) ∧ ∀ x, x ≠ a + 1 → mr' x = mr x) := by
  obtain ⟨l0, l1, l2, l3, l4, l5⟩ := id hL
  obtain ⟨p1, p2⟩ := id hC
  obtain ⟨f, f1, f2⟩ := id hR
  obtain ⟨k0, k1, k2⟩ := id hB
  have H : ∀ t i : Nat, i + t = duIx l now → Wp yX0_takeDue cX0_takeDue 4 (some .boolean) (EM 2 z sh (fun v mi' mr' => v = some (.int (nI 1)) ∧ KpC mi' mr' a (l.eraseIdx (duIx l now)) ∧ KpR mr' a ∧ (∀ q, l[duIx l now]? = some q → PkC mi' b q.1) ∧ (∀ x, (x < a ∨ a + 3 ≤ x) → x ≠ b → x ≠ b + 1 → mi' x = mi x) ∧ ∀ x, x ≠ a + 1 → mr' x = mr x)) 0 0 2 [.ref a, .int (nI now), .ref b, .int (nI i)] [] z sh mi mr := by
    intro t
    induction t with
    | zero =>
      intro i hi
      have hi' : i = duIx l now := by omega
      obtain ⟨q, hq, hqd⟩ := fi_lt hd
      have hqi : l[i]? = some q := by rw [hi']; exact hq
      have hqd' : q.2 ≤ now := by simpa using hqd
      obtain ⟨s1, x, s2, s3⟩ := p2 i q hqi
      have hxe : x = a + 3 + 2 * f i := Option.some.inj (s2.symm.trans (f1 i (by omega)).2)
      have hxL := l5 (f i) (f1 i (by omega)).1
      rw [← hxe] at hxL
      have hqk := hok q (gl_mem hqi)
      refine r_iload_n 3 dX0_takeDue_2 rfl rfl ?_
      refine r_aload_n 0 dX0_takeDue_3 rfl rfl ?_
      refine r_getV dX0_takeDue_4 fl_RX0_22 rfl (by assumption) (by first | assumption | exact up2_same _ _ _ _ | exact (Eq.trans (up2_ne _ _ (by omega)) (by first | assumption | exact up2_same _ _ _ _)) | exact (Eq.trans (up2_ne _ _ (by omega)) (Eq.trans (up2_ne _ _ (by omega)) (by first | assumption | exact up2_same _ _ _ _))) | exact (Eq.trans (up2_ne _ _ (by omega)) (Eq.trans (up2_ne _ _ (by omega)) (Eq.trans (up2_ne _ _ (by omega)) (by first | assumption | exact up2_same _ _ _ _)))) | exact (Eq.trans (up2_ne _ _ (by omega)) (Eq.trans (up2_ne _ _ (by omega)) (Eq.trans (up2_ne _ _ (by omega)) (Eq.trans (up2_ne _ _ (by omega)) (by first | assumption | exact up2_same _ _ _ _))))) | rfl) ?_
      refine r_icmpN_ge 43 dX0_takeDue_7 (by decide) (by omega) (by omega) (fun h7 => ?_) (fun h7 => ?_)
      · omega
      · refine r_aload_n 0 dX0_takeDue_10 rfl rfl ?_
        refine r_getR dX0_takeDue_11 fl_RX0_17 rfl (by assumption) (by assumption) ?_
        refine r_iload_n 3 dX0_takeDue_14 rfl rfl ?_
        refine r_ialdV dX0_takeDue_15 (by assumption) (by omega) (by omega) (by first | assumption | exact up2_same _ _ _ _ | exact (Eq.trans (up2_ne _ _ (by omega)) (by first | assumption | exact up2_same _ _ _ _)) | exact (Eq.trans (up2_ne _ _ (by omega)) (Eq.trans (up2_ne _ _ (by omega)) (by first | assumption | exact up2_same _ _ _ _))) | exact (Eq.trans (up2_ne _ _ (by omega)) (Eq.trans (up2_ne _ _ (by omega)) (Eq.trans (up2_ne _ _ (by omega)) (by first | assumption | exact up2_same _ _ _ _)))) | exact (Eq.trans (up2_ne _ _ (by omega)) (Eq.trans (up2_ne _ _ (by omega)) (Eq.trans (up2_ne _ _ (by omega)) (Eq.trans (up2_ne _ _ (by omega)) (by first | assumption | exact up2_same _ _ _ _))))) | rfl) ?_
        refine r_iload_n 1 dX0_takeDue_16 rfl rfl ?_
        refine r_icmpN_gt 37 dX0_takeDue_17 (by decide) (by omega) (by omega) (fun h17 => ?_) (fun h17 => ?_)
        · omega
        · refine r_aload_n 2 dX0_takeDue_20 rfl rfl ?_
          refine r_aload_n 0 dX0_takeDue_21 rfl rfl ?_
          refine r_getR dX0_takeDue_22 fl_RX0_11 rfl (by assumption) (by assumption) ?_
          refine r_iload_n 3 dX0_takeDue_25 rfl rfl ?_
          refine r_aald dX0_takeDue_26 (by assumption) (by decide) (by intro _; rfl) (by omega) (by omega) (by assumption) ?_
          refine r_callVw [_] dX0_takeDue_27 ok_RX0_26 ivX4_copyFrom (by assumption) ⟨_, _, rfl⟩ rfl rfl (Nat.le_of_ble_eq_true rfl) (by refine ⟨?_, ?_, ?_, ?_⟩ <;> exact Nat.le_of_ble_eq_true rfl) (c_copyPk hB hxL) ?_
          intro m ⟨ho, e1, e2, e3, e4⟩
          have hC2 : KpC m mr a l := ⟨by rw [ho a (by omega) (by omega)]; exact p1, fun i' q' hq' => by
            obtain ⟨t1, x', t2, t3⟩ := p2 i' q' hq'
            have hxe' : x' = a + 3 + 2 * f i' := Option.some.inj (t2.symm.trans (f1 i' (by have := gl_lt hq'; omega)).2)
            have hfi := (f1 i' (by have := gl_lt hq'; omega)).1
            exact ⟨by rw [ho (a + 2) (by omega) (by omega)]; exact t1, x', t2, t3.keep (ho x' (by omega) (by omega)) (ho (x' + 1) (by omega) (by omega))⟩⟩
          refine r_aload_n 0 dX0_takeDue_30 rfl rfl ?_
          refine r_iload_n 3 dX0_takeDue_31 rfl rfl ?_
          refine r_callVmw [_] dX0_takeDue_32 ok_RX0_30 ivX0_removeAt (by assumption) ⟨_, _, rfl⟩ rfl rfl (Nat.le_of_ble_eq_true rfl) (by refine ⟨?_, ?_, ?_, ?_⟩ <;> exact Nat.le_of_ble_eq_true rfl) (c_kpRem hL hC2 hR hl (by omega)) ?_
          intro m2 r2 ⟨h1, h2, h3, h4⟩
          refine r_iconst (v := nI 1) dX0_takeDue_35 (by decide) ?_
          refine r_zret dX0_takeDue_36 rfl (by first | exact b2_nar _ | decide) (Nat.le_of_ble_eq_true rfl) (Nat.le_of_ble_eq_true rfl) ?_
          refine ⟨rfl, rfl, rfl, by rw [← hi']; exact h1, h2, fun q' hq' => ?_, fun x hx n1 n2 => ?_, h4⟩
          · rw [← hi', hqi] at hq'
            cases hq'
            exact (s3.copy hqk.1.2.2.1 e1 e2 e3 e4).keep (h3 b (by omega)) (h3 (b + 1) (by omega))
          · rw [h3 x hx, ho x n1 n2]
    | succ t ih =>
      intro i hi
      obtain ⟨q, hq⟩ := gl_ex (l := l) (i := i) (by omega)
      have hqn := fi_bef (p := fun q => decide (q.2 ≤ now)) (show i < l.findIdx (fun q => decide (q.2 ≤ now)) by show i < duIx l now; omega) hq
      have hqd : now < q.2 := by simpa using hqn
      obtain ⟨s1, x, s2, s3⟩ := p2 i q hq
      have hqk := hok q (gl_mem hq)
      refine r_iload_n 3 dX0_takeDue_2 rfl rfl ?_
      refine r_aload_n 0 dX0_takeDue_3 rfl rfl ?_
      refine r_getV dX0_takeDue_4 fl_RX0_22 rfl (by assumption) (by first | assumption | exact up2_same _ _ _ _ | exact (Eq.trans (up2_ne _ _ (by omega)) (by first | assumption | exact up2_same _ _ _ _)) | exact (Eq.trans (up2_ne _ _ (by omega)) (Eq.trans (up2_ne _ _ (by omega)) (by first | assumption | exact up2_same _ _ _ _))) | exact (Eq.trans (up2_ne _ _ (by omega)) (Eq.trans (up2_ne _ _ (by omega)) (Eq.trans (up2_ne _ _ (by omega)) (by first | assumption | exact up2_same _ _ _ _)))) | exact (Eq.trans (up2_ne _ _ (by omega)) (Eq.trans (up2_ne _ _ (by omega)) (Eq.trans (up2_ne _ _ (by omega)) (Eq.trans (up2_ne _ _ (by omega)) (by first | assumption | exact up2_same _ _ _ _))))) | rfl) ?_
      refine r_icmpN_ge 43 dX0_takeDue_7 (by decide) (by omega) (by omega) (fun h7 => ?_) (fun h7 => ?_)
      · omega
      · refine r_aload_n 0 dX0_takeDue_10 rfl rfl ?_
        refine r_getR dX0_takeDue_11 fl_RX0_17 rfl (by assumption) (by assumption) ?_
        refine r_iload_n 3 dX0_takeDue_14 rfl rfl ?_
        refine r_ialdV dX0_takeDue_15 (by assumption) (by omega) (by omega) (by first | assumption | exact up2_same _ _ _ _ | exact (Eq.trans (up2_ne _ _ (by omega)) (by first | assumption | exact up2_same _ _ _ _)) | exact (Eq.trans (up2_ne _ _ (by omega)) (Eq.trans (up2_ne _ _ (by omega)) (by first | assumption | exact up2_same _ _ _ _))) | exact (Eq.trans (up2_ne _ _ (by omega)) (Eq.trans (up2_ne _ _ (by omega)) (Eq.trans (up2_ne _ _ (by omega)) (by first | assumption | exact up2_same _ _ _ _)))) | exact (Eq.trans (up2_ne _ _ (by omega)) (Eq.trans (up2_ne _ _ (by omega)) (Eq.trans (up2_ne _ _ (by omega)) (Eq.trans (up2_ne _ _ (by omega)) (by first | assumption | exact up2_same _ _ _ _))))) | rfl) ?_
        refine r_iload_n 1 dX0_takeDue_16 rfl rfl ?_
        refine r_icmpN_gt 37 dX0_takeDue_17 (by decide) (by omega) (by omega) (fun h17 => ?_) (fun h17 => ?_)
        · refine r_iincN 3 (b := 1) (ls2 := [_, _, _, _]) dX0_takeDue_37 rfl (by decide) (by decide) rfl ?_
          refine r_goto 2 dX0_takeDue_40 (by decide) ?_
          exact ih (i + 1) (by omega)
        · omega
  refine Mv.of pnX0_takeDue (Nat.le_of_ble_eq_true rfl) rfl ?_
  refine r_iconst (v := nI 0) dX0_takeDue_0 (by decide) ?_
  refine r_istore_n 3 (ls2 := [_, _, _, _]) dX0_takeDue_1 rfl (by decide) (Nat.le_of_ble_eq_true rfl) rfl ?_
  exact H (duIx l now) 0 (by omega)
theorem c_takeNo (hL : LKp sh mr a) {b : Nat} {l : Kp} (hC : KpC mi mr a l) (hl : l.length ≤ 12) (hok : ∀ q ∈ l, q.2 < 2 ^ 30) {now : Nat} (hnow : now < 2 ^ 30) (hd : duIx l now = l.length) : Mp mX0_takeDue 2 [.ref a, .int (nI now), .ref b] z sh mi mr (nI 0) := by
  obtain ⟨l0, l1, l2, l3, l4, l5⟩ := id hL
  obtain ⟨p1, p2⟩ := id hC
  have H : ∀ t i : Nat, i + t = l.length → Wp yX0_takeDue cX0_takeDue 4 (some .boolean) (EP 2 z sh mr mi (nI 0)) 0 0 2 [.ref a, .int (nI now), .ref b, .int (nI i)] [] z sh mi mr := by
    intro t
    induction t with
    | zero =>
      intro i hi
      refine r_iload_n 3 dX0_takeDue_2 rfl rfl ?_
      refine r_aload_n 0 dX0_takeDue_3 rfl rfl ?_
      refine r_getV dX0_takeDue_4 fl_RX0_22 rfl (by assumption) (by first | assumption | exact up2_same _ _ _ _ | exact (Eq.trans (up2_ne _ _ (by omega)) (by first | assumption | exact up2_same _ _ _ _)) | exact (Eq.trans (up2_ne _ _ (by omega)) (Eq.trans (up2_ne _ _ (by omega)) (by first | assumption | exact up2_same _ _ _ _))) | exact (Eq.trans (up2_ne _ _ (by omega)) (Eq.trans (up2_ne _ _ (by omega)) (Eq.trans (up2_ne _ _ (by omega)) (by first | assumption | exact up2_same _ _ _ _)))) | exact (Eq.trans (up2_ne _ _ (by omega)) (Eq.trans (up2_ne _ _ (by omega)) (Eq.trans (up2_ne _ _ (by omega)) (Eq.trans (up2_ne _ _ (by omega)) (by first | assumption | exact up2_same _ _ _ _))))) | rfl) ?_
      refine r_icmpN_ge 43 dX0_takeDue_7 (by decide) (by omega) (by omega) (fun h7 => ?_) (fun h7 => ?_)
      · refine r_iconst (v := nI 0) dX0_takeDue_43 (by decide) ?_
        refine r_zret dX0_takeDue_44 rfl (by first | exact b2_nar _ | decide) (Nat.le_of_ble_eq_true rfl) (Nat.le_of_ble_eq_true rfl) ?_
        exact ⟨rfl, rfl, rfl, rfl, rfl⟩
      · omega
    | succ t ih =>
      intro i hi
      obtain ⟨q, hq⟩ := gl_ex (l := l) (i := i) (by omega)
      have hqn := fi_bef (p := fun q => decide (q.2 ≤ now)) (show i < l.findIdx (fun q => decide (q.2 ≤ now)) by show i < duIx l now; omega) hq
      have hqd : now < q.2 := by simpa using hqn
      obtain ⟨s1, x, s2, s3⟩ := p2 i q hq
      have hqk := hok q (gl_mem hq)
      refine r_iload_n 3 dX0_takeDue_2 rfl rfl ?_
      refine r_aload_n 0 dX0_takeDue_3 rfl rfl ?_
      refine r_getV dX0_takeDue_4 fl_RX0_22 rfl (by assumption) (by first | assumption | exact up2_same _ _ _ _ | exact (Eq.trans (up2_ne _ _ (by omega)) (by first | assumption | exact up2_same _ _ _ _)) | exact (Eq.trans (up2_ne _ _ (by omega)) (Eq.trans (up2_ne _ _ (by omega)) (by first | assumption | exact up2_same _ _ _ _))) | exact (Eq.trans (up2_ne _ _ (by omega)) (Eq.trans (up2_ne _ _ (by omega)) (Eq.trans (up2_ne _ _ (by omega)) (by first | assumption | exact up2_same _ _ _ _)))) | exact (Eq.trans (up2_ne _ _ (by omega)) (Eq.trans (up2_ne _ _ (by omega)) (Eq.trans (up2_ne _ _ (by omega)) (Eq.trans (up2_ne _ _ (by omega)) (by first | assumption | exact up2_same _ _ _ _))))) | rfl) ?_
      refine r_icmpN_ge 43 dX0_takeDue_7 (by decide) (by omega) (by omega) (fun h7 => ?_) (fun h7 => ?_)
      · omega
      · refine r_aload_n 0 dX0_takeDue_10 rfl rfl ?_
        refine r_getR dX0_takeDue_11 fl_RX0_17 rfl (by assumption) (by assumption) ?_
        refine r_iload_n 3 dX0_takeDue_14 rfl rfl ?_
        refine r_ialdV dX0_takeDue_15 (by assumption) (by omega) (by omega) (by first | assumption | exact up2_same _ _ _ _ | exact (Eq.trans (up2_ne _ _ (by omega)) (by first | assumption | exact up2_same _ _ _ _)) | exact (Eq.trans (up2_ne _ _ (by omega)) (Eq.trans (up2_ne _ _ (by omega)) (by first | assumption | exact up2_same _ _ _ _))) | exact (Eq.trans (up2_ne _ _ (by omega)) (Eq.trans (up2_ne _ _ (by omega)) (Eq.trans (up2_ne _ _ (by omega)) (by first | assumption | exact up2_same _ _ _ _)))) | exact (Eq.trans (up2_ne _ _ (by omega)) (Eq.trans (up2_ne _ _ (by omega)) (Eq.trans (up2_ne _ _ (by omega)) (Eq.trans (up2_ne _ _ (by omega)) (by first | assumption | exact up2_same _ _ _ _))))) | rfl) ?_
        refine r_iload_n 1 dX0_takeDue_16 rfl rfl ?_
        refine r_icmpN_gt 37 dX0_takeDue_17 (by decide) (by omega) (by omega) (fun h17 => ?_) (fun h17 => ?_)
        · refine r_iincN 3 (b := 1) (ls2 := [_, _, _, _]) dX0_takeDue_37 rfl (by decide) (by decide) rfl ?_
          refine r_goto 2 dX0_takeDue_40 (by decide) ?_
          exact ih (i + 1) (by omega)
        · omega
  refine Mv.of pnX0_takeDue (Nat.le_of_ble_eq_true rfl) rfl ?_
  refine r_iconst (v := nI 0) dX0_takeDue_0 (by decide) ?_
  refine r_istore_n 3 (ls2 := [_, _, _, _]) dX0_takeDue_1 rfl (by decide) (Nat.le_of_ble_eq_true rfl) rfl ?_
  exact H l.length 0 (by omega)
theorem c_kpCopy {b : Nat} (hL : LKp sh mr a) (hB : LKp sh mr b) (hab : b + 27 ≤ a ∨ a + 27 ≤ b) {l : Kp} (hC : KpC mi mr b l) (hR : KpR mr a) (hRb : KpR mr b) (hl : l.length ≤ 12) (hok : ∀ q ∈ l, okP q.1) : Mi mX0_copyFrom 2 [.ref a, .ref b] z sh mi mr (fun v mi' => v = none ∧ KpC mi' mr a l ∧ Oth mi mi' a (a + 27)) := by
  obtain ⟨l0, l1, l2, l3, l4, l5⟩ := id hL
  obtain ⟨k0, k1, k2, k3, k4, k5⟩ := id hB
  obtain ⟨p1, p2⟩ := id hC
  obtain ⟨f, f1, f2⟩ := hR
  obtain ⟨g, g1, g2⟩ := hRb
  have H : ∀ t i : Nat, ∀ m : MI, i + t = l.length → Oth mi m a (a + 27) → (∀ j q, j < i → l[j]? = some q → m (a + 2) j = nI q.2 ∧ PkC m (a + 3 + 2 * f j) q.1) → Wp yX0_copyFrom cX0_copyFrom 3 none (EI 2 z sh mr (fun v mi' => v = none ∧ KpC mi' mr a l ∧ Oth mi mi' a (a + 27))) 0 0 2 [.ref a, .ref b, .int (nI i)] [] z sh m mr := by
    intro t
    induction t with
    | zero =>
      intro i m hi ho hm
      have hsz : m b 2 = nI l.length := by rw [ho b (by omega)]; exact p1
      refine r_iload_n 2 dX0_copyFrom_2 rfl rfl ?_
      refine r_aload_n 1 dX0_copyFrom_3 rfl rfl ?_
      refine r_getV dX0_copyFrom_4 fl_RX0_22 rfl (by assumption) (by first | assumption | exact up2_same _ _ _ _ | exact (Eq.trans (up2_ne _ _ (by omega)) (by first | assumption | exact up2_same _ _ _ _)) | exact (Eq.trans (up2_ne _ _ (by omega)) (Eq.trans (up2_ne _ _ (by omega)) (by first | assumption | exact up2_same _ _ _ _))) | exact (Eq.trans (up2_ne _ _ (by omega)) (Eq.trans (up2_ne _ _ (by omega)) (Eq.trans (up2_ne _ _ (by omega)) (by first | assumption | exact up2_same _ _ _ _)))) | exact (Eq.trans (up2_ne _ _ (by omega)) (Eq.trans (up2_ne _ _ (by omega)) (Eq.trans (up2_ne _ _ (by omega)) (Eq.trans (up2_ne _ _ (by omega)) (by first | assumption | exact up2_same _ _ _ _))))) | rfl) ?_
      refine r_icmpN_ge 43 dX0_copyFrom_7 (by decide) (by omega) (by omega) (fun h7 => ?_) (fun h7 => ?_)
      · refine r_aload_n 0 dX0_copyFrom_43 rfl rfl ?_
        refine r_aload_n 1 dX0_copyFrom_44 rfl rfl ?_
        refine r_getV dX0_copyFrom_45 fl_RX0_22 rfl (by assumption) (by first | assumption | exact up2_same _ _ _ _ | exact (Eq.trans (up2_ne _ _ (by omega)) (by first | assumption | exact up2_same _ _ _ _)) | exact (Eq.trans (up2_ne _ _ (by omega)) (Eq.trans (up2_ne _ _ (by omega)) (by first | assumption | exact up2_same _ _ _ _))) | exact (Eq.trans (up2_ne _ _ (by omega)) (Eq.trans (up2_ne _ _ (by omega)) (Eq.trans (up2_ne _ _ (by omega)) (by first | assumption | exact up2_same _ _ _ _)))) | exact (Eq.trans (up2_ne _ _ (by omega)) (Eq.trans (up2_ne _ _ (by omega)) (Eq.trans (up2_ne _ _ (by omega)) (Eq.trans (up2_ne _ _ (by omega)) (by first | assumption | exact up2_same _ _ _ _))))) | rfl) ?_
        refine r_putI dX0_copyFrom_48 fl_RX0_22 rfl rfl rfl (by assumption) ?_
        refine r_vret dX0_copyFrom_51 rfl (Nat.le_of_ble_eq_true rfl) (Nat.le_of_ble_eq_true rfl) ?_
        refine ⟨rfl, rfl, rfl, rfl, ⟨up2_same _ _ _ _, fun j q hq => ?_⟩, ho.up (by omega) (by omega)⟩
        have hj := gl_lt hq
        obtain ⟨e1, e2⟩ := hm j q (by omega) hq
        refine ⟨by rw [up2_row _ _ (by omega)]; exact e1, _, (f1 j (by omega)).2, e2.keep (up2_row _ _ (by omega)) (up2_row _ _ (by omega))⟩
      · omega
    | succ t ih =>
      intro i m hi ho hm
      have hsz : m b 2 = nI l.length := by rw [ho b (by omega)]; exact p1
      obtain ⟨q, hq⟩ := gl_ex (l := l) (i := i) (by omega)
      obtain ⟨s1, x, s2, s3⟩ := p2 i q hq
      have hxe : x = b + 3 + 2 * g i := Option.some.inj (s2.symm.trans (g1 i (by omega)).2)
      have hgi := (g1 i (by omega)).1
      have hxL := k5 (g i) hgi
      rw [← hxe] at hxL
      obtain ⟨u1, u2⟩ := f1 i (by omega)
      have hyL := l5 (f i) u1
      obtain ⟨y0, y1, y2⟩ := id hyL
      have hqk := hok q (gl_mem hq)
      have s3m : PkC m x q.1 := s3.keep (ho x (by omega)) (ho (x + 1) (by omega))
      refine r_iload_n 2 dX0_copyFrom_2 rfl rfl ?_
      refine r_aload_n 1 dX0_copyFrom_3 rfl rfl ?_
      refine r_getV dX0_copyFrom_4 fl_RX0_22 rfl (by assumption) (by first | assumption | exact up2_same _ _ _ _ | exact (Eq.trans (up2_ne _ _ (by omega)) (by first | assumption | exact up2_same _ _ _ _)) | exact (Eq.trans (up2_ne _ _ (by omega)) (Eq.trans (up2_ne _ _ (by omega)) (by first | assumption | exact up2_same _ _ _ _))) | exact (Eq.trans (up2_ne _ _ (by omega)) (Eq.trans (up2_ne _ _ (by omega)) (Eq.trans (up2_ne _ _ (by omega)) (by first | assumption | exact up2_same _ _ _ _)))) | exact (Eq.trans (up2_ne _ _ (by omega)) (Eq.trans (up2_ne _ _ (by omega)) (Eq.trans (up2_ne _ _ (by omega)) (Eq.trans (up2_ne _ _ (by omega)) (by first | assumption | exact up2_same _ _ _ _))))) | rfl) ?_
      refine r_icmpN_ge 43 dX0_copyFrom_7 (by decide) (by omega) (by omega) (fun h7 => ?_) (fun h7 => ?_)
      · omega
      · refine r_aload_n 0 dX0_copyFrom_10 rfl rfl ?_
        refine r_getR dX0_copyFrom_11 fl_RX0_11 rfl (by assumption) (by assumption) ?_
        refine r_iload_n 2 dX0_copyFrom_14 rfl rfl ?_
        refine r_aald dX0_copyFrom_15 (by assumption) (by decide) (by intro _; rfl) (by omega) (by omega) (by assumption) ?_
        refine r_aload_n 1 dX0_copyFrom_16 rfl rfl ?_
        refine r_getR dX0_copyFrom_17 fl_RX0_11 rfl (by assumption) (by assumption) ?_
        refine r_iload_n 2 dX0_copyFrom_20 rfl rfl ?_
        refine r_aald dX0_copyFrom_21 (by assumption) (by decide) (by intro _; rfl) (by omega) (by omega) (by assumption) ?_
        refine r_callVw [_] dX0_copyFrom_22 ok_RX0_26 ivX4_copyFrom (by assumption) ⟨_, _, rfl⟩ rfl rfl (Nat.le_of_ble_eq_true rfl) (by refine ⟨?_, ?_, ?_, ?_⟩ <;> exact Nat.le_of_ble_eq_true rfl) (c_copyPk hyL hxL) ?_
        intro m2 ⟨ho2, e1, e2, e3, e4⟩
        have hdu : m2 (b + 2) i = nI q.2 := by rw [ho2 (b + 2) (by omega) (by omega), ho (b + 2) (by omega)]; exact s1
        refine r_aload_n 0 dX0_copyFrom_25 rfl rfl ?_
        refine r_getR dX0_copyFrom_26 fl_RX0_17 rfl (by assumption) (by assumption) ?_
        refine r_iload_n 2 dX0_copyFrom_29 rfl rfl ?_
        refine r_aload_n 1 dX0_copyFrom_30 rfl rfl ?_
        refine r_getR dX0_copyFrom_31 fl_RX0_17 rfl (by assumption) (by assumption) ?_
        refine r_iload_n 2 dX0_copyFrom_34 rfl rfl ?_
        refine r_ialdV dX0_copyFrom_35 (by assumption) (by omega) (by omega) (by first | assumption | exact up2_same _ _ _ _ | exact (Eq.trans (up2_ne _ _ (by omega)) (by first | assumption | exact up2_same _ _ _ _)) | exact (Eq.trans (up2_ne _ _ (by omega)) (Eq.trans (up2_ne _ _ (by omega)) (by first | assumption | exact up2_same _ _ _ _))) | exact (Eq.trans (up2_ne _ _ (by omega)) (Eq.trans (up2_ne _ _ (by omega)) (Eq.trans (up2_ne _ _ (by omega)) (by first | assumption | exact up2_same _ _ _ _)))) | exact (Eq.trans (up2_ne _ _ (by omega)) (Eq.trans (up2_ne _ _ (by omega)) (Eq.trans (up2_ne _ _ (by omega)) (Eq.trans (up2_ne _ _ (by omega)) (by first | assumption | exact up2_same _ _ _ _))))) | rfl) ?_
        refine r_iast dX0_copyFrom_36 (by assumption) (by omega) (by omega) ?_
        refine r_iincN 2 (b := 1) (ls2 := [_, _, _]) dX0_copyFrom_37 rfl (by decide) (by decide) rfl ?_
        refine r_goto 2 dX0_copyFrom_40 (by decide) ?_
        refine ih (i + 1) _ (by omega) (fun x' hx' => by rw [up2_row _ _ (by omega), ho2 x' (by omega) (by omega)]; exact ho x' hx') (fun j q' hj hq' => ?_)
        by_cases hji : j = i
        · subst hji
          rw [hq] at hq'
          cases hq'
          exact ⟨up2_same _ _ _ _, (s3m.copy hqk.2.2.1 e1 e2 e3 e4).keep (up2_row _ _ (by omega)) (up2_row _ _ (by omega))⟩
        · obtain ⟨t1, t2⟩ := hm j q' (by omega) hq'
          have hfj := f1 j (by omega)
          have hne : f j ≠ f i := fun e => hji (f2 j i (by omega) (by omega) e)
          refine ⟨by rw [up2_ne _ _ (Or.inr hji), ho2 (a + 2) (by omega) (by omega)]; exact t1, t2.keep ?_ ?_⟩
          · rw [up2_row _ _ (by omega), ho2 _ (by omega) (by omega)]
          · rw [up2_row _ _ (by omega), ho2 _ (by omega) (by omega)]
  refine Mv.of pnX0_copyFrom (Nat.le_of_ble_eq_true rfl) rfl ?_
  refine r_iconst (v := nI 0) dX0_copyFrom_0 (by decide) ?_
  refine r_istore_n 2 (ls2 := [_, _, _]) dX0_copyFrom_1 rfl (by decide) (Nat.le_of_ble_eq_true rfl) rfl ?_
  exact H l.length 0 mi (by omega) Oth.rf (fun j q hj => by omega)
end KEPT
end
