def lw_okq (q : MethodName × Nat) : Prop := (q.1.cls ≠ "java/lang/invoke/MethodHandle" ∧ q.1.cls ≠ "java/lang/invoke/VarHandle") ∧ Cond.instantiable q.1.cls q.2 ∈ tables_1 ∧ Cond.privateMethod q.1 ∈ tables_1 ∧ Cond.instanceMethod q.1 ∈ tables_1
theorem lw_p0 : lw_okq (⟨"PathWords", "imagesKept", "()I"⟩, 6) := ⟨⟨by decide +kernel, by decide +kernel⟩, List.mem_of_getElem? (i := 16) (by decide +kernel), List.mem_of_getElem? (i := 653) (by decide +kernel), List.mem_of_getElem? (i := 654) (by decide +kernel)⟩
theorem lw_p1 : lw_okq (⟨"PathWordsModel", "readPacket", "()I"⟩, 16) := ⟨⟨by decide +kernel, by decide +kernel⟩, List.mem_of_getElem? (i := 657) (by decide +kernel), List.mem_of_getElem? (i := 728) (by decide +kernel), List.mem_of_getElem? (i := 729) (by decide +kernel)⟩
theorem lw_p2 : lw_okq (⟨"PathWordsModel", "readLetters", "(II)I"⟩, 16) := ⟨⟨by decide +kernel, by decide +kernel⟩, List.mem_of_getElem? (i := 657) (by decide +kernel), List.mem_of_getElem? (i := 732) (by decide +kernel), List.mem_of_getElem? (i := 733) (by decide +kernel)⟩
theorem lw_p3 : lw_okq (⟨"PathWordsModel", "isLetter", "(I)Z"⟩, 16) := ⟨⟨by decide +kernel, by decide +kernel⟩, List.mem_of_getElem? (i := 657) (by decide +kernel), List.mem_of_getElem? (i := 736) (by decide +kernel), List.mem_of_getElem? (i := 737) (by decide +kernel)⟩
theorem lw_p4 : lw_okq (⟨"PathWordsModel", "readSign", "(I)V"⟩, 16) := ⟨⟨by decide +kernel, by decide +kernel⟩, List.mem_of_getElem? (i := 657) (by decide +kernel), List.mem_of_getElem? (i := 740) (by decide +kernel), List.mem_of_getElem? (i := 741) (by decide +kernel)⟩
theorem lw_p5 : lw_okq (⟨"PathWordsModel", "isAt", "(I)Z"⟩, 16) := ⟨⟨by decide +kernel, by decide +kernel⟩, List.mem_of_getElem? (i := 657) (by decide +kernel), List.mem_of_getElem? (i := 744) (by decide +kernel), List.mem_of_getElem? (i := 745) (by decide +kernel)⟩
theorem lw_p6 : lw_okq (⟨"PathWordsModel", "readWord", "()V"⟩, 16) := ⟨⟨by decide +kernel, by decide +kernel⟩, List.mem_of_getElem? (i := 657) (by decide +kernel), List.mem_of_getElem? (i := 748) (by decide +kernel), List.mem_of_getElem? (i := 749) (by decide +kernel)⟩
theorem lw_p7 : lw_okq (⟨"PathWordsModel", "readName", "()I"⟩, 16) := ⟨⟨by decide +kernel, by decide +kernel⟩, List.mem_of_getElem? (i := 657) (by decide +kernel), List.mem_of_getElem? (i := 759) (by decide +kernel), List.mem_of_getElem? (i := 760) (by decide +kernel)⟩
theorem lw_p8 : lw_okq (⟨"PathWordsModel", "call", "(II)I"⟩, 16) := ⟨⟨by decide +kernel, by decide +kernel⟩, List.mem_of_getElem? (i := 657) (by decide +kernel), List.mem_of_getElem? (i := 763) (by decide +kernel), List.mem_of_getElem? (i := 764) (by decide +kernel)⟩
theorem lw_p9 : lw_okq (⟨"PathWordsModel", "more", "(IIII)I"⟩, 16) := ⟨⟨by decide +kernel, by decide +kernel⟩, List.mem_of_getElem? (i := 657) (by decide +kernel), List.mem_of_getElem? (i := 767) (by decide +kernel), List.mem_of_getElem? (i := 768) (by decide +kernel)⟩
theorem lw_p10 : lw_okq (⟨"PathWordsModel", "areNear", "(II)Z"⟩, 16) := ⟨⟨by decide +kernel, by decide +kernel⟩, List.mem_of_getElem? (i := 657) (by decide +kernel), List.mem_of_getElem? (i := 783) (by decide +kernel), List.mem_of_getElem? (i := 784) (by decide +kernel)⟩
theorem lw_p11 : lw_okq (⟨"PathWordsModel", "keep", "(II)Z"⟩, 16) := ⟨⟨by decide +kernel, by decide +kernel⟩, List.mem_of_getElem? (i := 657) (by decide +kernel), List.mem_of_getElem? (i := 791) (by decide +kernel), List.mem_of_getElem? (i := 792) (by decide +kernel)⟩
theorem lw_p12 : lw_okq (⟨"PathWordsModel", "begin", "(I)V"⟩, 16) := ⟨⟨by decide +kernel, by decide +kernel⟩, List.mem_of_getElem? (i := 657) (by decide +kernel), List.mem_of_getElem? (i := 798) (by decide +kernel), List.mem_of_getElem? (i := 799) (by decide +kernel)⟩
theorem lw_p13 : lw_okq (⟨"PathWordsModel", "placeKnown", "(III)I"⟩, 16) := ⟨⟨by decide +kernel, by decide +kernel⟩, List.mem_of_getElem? (i := 657) (by decide +kernel), List.mem_of_getElem? (i := 802) (by decide +kernel), List.mem_of_getElem? (i := 803) (by decide +kernel)⟩
theorem lw_p14 : lw_okq (⟨"PathWordsModel", "unknow", "(II)V"⟩, 16) := ⟨⟨by decide +kernel, by decide +kernel⟩, List.mem_of_getElem? (i := 657) (by decide +kernel), List.mem_of_getElem? (i := 809) (by decide +kernel), List.mem_of_getElem? (i := 810) (by decide +kernel)⟩
theorem lw_p15 : lw_okq (⟨"PathWordsModel", "know", "(III)V"⟩, 16) := ⟨⟨by decide +kernel, by decide +kernel⟩, List.mem_of_getElem? (i := 657) (by decide +kernel), List.mem_of_getElem? (i := 813) (by decide +kernel), List.mem_of_getElem? (i := 814) (by decide +kernel)⟩
def lw_privs_1 : List (MethodName × Nat) := [(⟨"PathWords", "imagesKept", "()I"⟩, 6), (⟨"PathWordsModel", "readPacket", "()I"⟩, 16), (⟨"PathWordsModel", "readLetters", "(II)I"⟩, 16), (⟨"PathWordsModel", "isLetter", "(I)Z"⟩, 16), (⟨"PathWordsModel", "readSign", "(I)V"⟩, 16), (⟨"PathWordsModel", "isAt", "(I)Z"⟩, 16), (⟨"PathWordsModel", "readWord", "()V"⟩, 16), (⟨"PathWordsModel", "readName", "()I"⟩, 16), (⟨"PathWordsModel", "call", "(II)I"⟩, 16), (⟨"PathWordsModel", "more", "(IIII)I"⟩, 16), (⟨"PathWordsModel", "areNear", "(II)Z"⟩, 16), (⟨"PathWordsModel", "keep", "(II)Z"⟩, 16), (⟨"PathWordsModel", "begin", "(I)V"⟩, 16), (⟨"PathWordsModel", "placeKnown", "(III)I"⟩, 16), (⟨"PathWordsModel", "unknow", "(II)V"⟩, 16), (⟨"PathWordsModel", "know", "(III)V"⟩, 16)]
theorem lw_r1 : ∀ q ∈ lw_privs_1, lw_okq q := List.forall_mem_cons.mpr ⟨lw_p0, List.forall_mem_cons.mpr ⟨lw_p1, List.forall_mem_cons.mpr ⟨lw_p2, List.forall_mem_cons.mpr ⟨lw_p3, List.forall_mem_cons.mpr ⟨lw_p4, List.forall_mem_cons.mpr ⟨lw_p5, List.forall_mem_cons.mpr ⟨lw_p6, List.forall_mem_cons.mpr ⟨lw_p7, List.forall_mem_cons.mpr ⟨lw_p8, List.forall_mem_cons.mpr ⟨lw_p9, List.forall_mem_cons.mpr ⟨lw_p10, List.forall_mem_cons.mpr ⟨lw_p11, List.forall_mem_cons.mpr ⟨lw_p12, List.forall_mem_cons.mpr ⟨lw_p13, List.forall_mem_cons.mpr ⟨lw_p14, List.forall_mem_cons.mpr ⟨lw_p15, fun _ h => absurd h List.not_mem_nil⟩⟩⟩⟩⟩⟩⟩⟩⟩⟩⟩⟩⟩⟩⟩⟩
theorem lw_p16 : lw_okq (⟨"PathWordsModel", "tick", "()V"⟩, 16) := ⟨⟨by decide +kernel, by decide +kernel⟩, List.mem_of_getElem? (i := 657) (by decide +kernel), List.mem_of_getElem? (i := 821) (by decide +kernel), List.mem_of_getElem? (i := 822) (by decide +kernel)⟩
theorem lw_p17 : lw_okq (⟨"PathWordsModel", "sendOne", "(I)V"⟩, 16) := ⟨⟨by decide +kernel, by decide +kernel⟩, List.mem_of_getElem? (i := 657) (by decide +kernel), List.mem_of_getElem? (i := 825) (by decide +kernel), List.mem_of_getElem? (i := 826) (by decide +kernel)⟩
theorem lw_p18 : lw_okq (⟨"PathWordsModel", "count", "(II)V"⟩, 16) := ⟨⟨by decide +kernel, by decide +kernel⟩, List.mem_of_getElem? (i := 657) (by decide +kernel), List.mem_of_getElem? (i := 829) (by decide +kernel), List.mem_of_getElem? (i := 830) (by decide +kernel)⟩
theorem lw_p19 : lw_okq (⟨"PathWordsModel", "hearsFrom", "(I)I"⟩, 16) := ⟨⟨by decide +kernel, by decide +kernel⟩, List.mem_of_getElem? (i := 657) (by decide +kernel), List.mem_of_getElem? (i := 833) (by decide +kernel), List.mem_of_getElem? (i := 834) (by decide +kernel)⟩
theorem lw_p20 : lw_okq (⟨"PathWordsModel", "hear", "(II)V"⟩, 16) := ⟨⟨by decide +kernel, by decide +kernel⟩, List.mem_of_getElem? (i := 657) (by decide +kernel), List.mem_of_getElem? (i := 837) (by decide +kernel), List.mem_of_getElem? (i := 838) (by decide +kernel)⟩
theorem lw_p21 : lw_okq (⟨"PathWordsModel", "look", "(I)V"⟩, 16) := ⟨⟨by decide +kernel, by decide +kernel⟩, List.mem_of_getElem? (i := 657) (by decide +kernel), List.mem_of_getElem? (i := 841) (by decide +kernel), List.mem_of_getElem? (i := 842) (by decide +kernel)⟩
theorem lw_p22 : lw_okq (⟨"PathWordsModel", "isOwn", "(I)Z"⟩, 16) := ⟨⟨by decide +kernel, by decide +kernel⟩, List.mem_of_getElem? (i := 657) (by decide +kernel), List.mem_of_getElem? (i := 845) (by decide +kernel), List.mem_of_getElem? (i := 846) (by decide +kernel)⟩
theorem lw_p23 : lw_okq (⟨"PathWordsModel", "isFor", "(II)Z"⟩, 16) := ⟨⟨by decide +kernel, by decide +kernel⟩, List.mem_of_getElem? (i := 657) (by decide +kernel), List.mem_of_getElem? (i := 852) (by decide +kernel), List.mem_of_getElem? (i := 853) (by decide +kernel)⟩
theorem lw_p24 : lw_okq (⟨"PathWordsModel", "isOf", "(IIII)Z"⟩, 16) := ⟨⟨by decide +kernel, by decide +kernel⟩, List.mem_of_getElem? (i := 657) (by decide +kernel), List.mem_of_getElem? (i := 859) (by decide +kernel), List.mem_of_getElem? (i := 860) (by decide +kernel)⟩
theorem lw_p25 : lw_okq (⟨"PathWordsModel", "keptByAll", "()I"⟩, 16) := ⟨⟨by decide +kernel, by decide +kernel⟩, List.mem_of_getElem? (i := 657) (by decide +kernel), List.mem_of_getElem? (i := 863) (by decide +kernel), List.mem_of_getElem? (i := 864) (by decide +kernel)⟩
theorem lw_p26 : lw_okq (⟨"PathWordsModel", "layLine", "(I)V"⟩, 16) := ⟨⟨by decide +kernel, by decide +kernel⟩, List.mem_of_getElem? (i := 657) (by decide +kernel), List.mem_of_getElem? (i := 875) (by decide +kernel), List.mem_of_getElem? (i := 876) (by decide +kernel)⟩
theorem lw_p27 : lw_okq (⟨"PathWordsModel", "putLetters", "(II)V"⟩, 16) := ⟨⟨by decide +kernel, by decide +kernel⟩, List.mem_of_getElem? (i := 657) (by decide +kernel), List.mem_of_getElem? (i := 879) (by decide +kernel), List.mem_of_getElem? (i := 880) (by decide +kernel)⟩
theorem lw_p28 : lw_okq (⟨"PathWordsModel", "put", "(I)V"⟩, 16) := ⟨⟨by decide +kernel, by decide +kernel⟩, List.mem_of_getElem? (i := 657) (by decide +kernel), List.mem_of_getElem? (i := 883) (by decide +kernel), List.mem_of_getElem? (i := 884) (by decide +kernel)⟩
theorem lw_p29 : lw_okq (⟨"PathWordsModel", "words", "(I)I"⟩, 16) := ⟨⟨by decide +kernel, by decide +kernel⟩, List.mem_of_getElem? (i := 657) (by decide +kernel), List.mem_of_getElem? (i := 887) (by decide +kernel), List.mem_of_getElem? (i := 888) (by decide +kernel)⟩
theorem lw_p30 : lw_okq (⟨"PathWordsModel", "word", "(II)I"⟩, 16) := ⟨⟨by decide +kernel, by decide +kernel⟩, List.mem_of_getElem? (i := 657) (by decide +kernel), List.mem_of_getElem? (i := 891) (by decide +kernel), List.mem_of_getElem? (i := 892) (by decide +kernel)⟩
theorem lw_p31 : lw_okq (⟨"PathWordsModel", "spentWords", "(I)I"⟩, 16) := ⟨⟨by decide +kernel, by decide +kernel⟩, List.mem_of_getElem? (i := 657) (by decide +kernel), List.mem_of_getElem? (i := 899) (by decide +kernel), List.mem_of_getElem? (i := 900) (by decide +kernel)⟩
def lw_privs_2 : List (MethodName × Nat) := [(⟨"PathWordsModel", "tick", "()V"⟩, 16), (⟨"PathWordsModel", "sendOne", "(I)V"⟩, 16), (⟨"PathWordsModel", "count", "(II)V"⟩, 16), (⟨"PathWordsModel", "hearsFrom", "(I)I"⟩, 16), (⟨"PathWordsModel", "hear", "(II)V"⟩, 16), (⟨"PathWordsModel", "look", "(I)V"⟩, 16), (⟨"PathWordsModel", "isOwn", "(I)Z"⟩, 16), (⟨"PathWordsModel", "isFor", "(II)Z"⟩, 16), (⟨"PathWordsModel", "isOf", "(IIII)Z"⟩, 16), (⟨"PathWordsModel", "keptByAll", "()I"⟩, 16), (⟨"PathWordsModel", "layLine", "(I)V"⟩, 16), (⟨"PathWordsModel", "putLetters", "(II)V"⟩, 16), (⟨"PathWordsModel", "put", "(I)V"⟩, 16), (⟨"PathWordsModel", "words", "(I)I"⟩, 16), (⟨"PathWordsModel", "word", "(II)I"⟩, 16), (⟨"PathWordsModel", "spentWords", "(I)I"⟩, 16)]
theorem lw_r2 : ∀ q ∈ lw_privs_2, lw_okq q := List.forall_mem_cons.mpr ⟨lw_p16, List.forall_mem_cons.mpr ⟨lw_p17, List.forall_mem_cons.mpr ⟨lw_p18, List.forall_mem_cons.mpr ⟨lw_p19, List.forall_mem_cons.mpr ⟨lw_p20, List.forall_mem_cons.mpr ⟨lw_p21, List.forall_mem_cons.mpr ⟨lw_p22, List.forall_mem_cons.mpr ⟨lw_p23, List.forall_mem_cons.mpr ⟨lw_p24, List.forall_mem_cons.mpr ⟨lw_p25, List.forall_mem_cons.mpr ⟨lw_p26, List.forall_mem_cons.mpr ⟨lw_p27, List.forall_mem_cons.mpr ⟨lw_p28, List.forall_mem_cons.mpr ⟨lw_p29, List.forall_mem_cons.mpr ⟨lw_p30, List.forall_mem_cons.mpr ⟨lw_p31, fun _ h => absurd h List.not_mem_nil⟩⟩⟩⟩⟩⟩⟩⟩⟩⟩⟩⟩⟩⟩⟩⟩
theorem lw_p32 : lw_okq (⟨"PathWordsModel", "firstHops", "(I)I"⟩, 16) := ⟨⟨by decide +kernel, by decide +kernel⟩, List.mem_of_getElem? (i := 657) (by decide +kernel), List.mem_of_getElem? (i := 903) (by decide +kernel), List.mem_of_getElem? (i := 904) (by decide +kernel)⟩
theorem lw_p33 : lw_okq (⟨"PathWordsModel", "stationOf", "(I)I"⟩, 16) := ⟨⟨by decide +kernel, by decide +kernel⟩, List.mem_of_getElem? (i := 657) (by decide +kernel), List.mem_of_getElem? (i := 911) (by decide +kernel), List.mem_of_getElem? (i := 912) (by decide +kernel)⟩
theorem lw_p34 : lw_okq (⟨"PathWordsModel", "reachFrom", "(IIII)I"⟩, 16) := ⟨⟨by decide +kernel, by decide +kernel⟩, List.mem_of_getElem? (i := 657) (by decide +kernel), List.mem_of_getElem? (i := 919) (by decide +kernel), List.mem_of_getElem? (i := 920) (by decide +kernel)⟩
theorem lw_p35 : lw_okq (⟨"PathWordsModel", "save", "(I)V"⟩, 16) := ⟨⟨by decide +kernel, by decide +kernel⟩, List.mem_of_getElem? (i := 657) (by decide +kernel), List.mem_of_getElem? (i := 923) (by decide +kernel), List.mem_of_getElem? (i := 924) (by decide +kernel)⟩
theorem lw_p36 : lw_okq (⟨"PathWordsModel", "sumOf", "(I)I"⟩, 16) := ⟨⟨by decide +kernel, by decide +kernel⟩, List.mem_of_getElem? (i := 657) (by decide +kernel), List.mem_of_getElem? (i := 927) (by decide +kernel), List.mem_of_getElem? (i := 928) (by decide +kernel)⟩
theorem lw_p37 : lw_okq (⟨"PathWordsModel", "load", "(I)V"⟩, 16) := ⟨⟨by decide +kernel, by decide +kernel⟩, List.mem_of_getElem? (i := 657) (by decide +kernel), List.mem_of_getElem? (i := 931) (by decide +kernel), List.mem_of_getElem? (i := 932) (by decide +kernel)⟩
theorem lw_p38 : lw_okq (⟨"PathWordsModel", "latest", "()I"⟩, 16) := ⟨⟨by decide +kernel, by decide +kernel⟩, List.mem_of_getElem? (i := 657) (by decide +kernel), List.mem_of_getElem? (i := 935) (by decide +kernel), List.mem_of_getElem? (i := 936) (by decide +kernel)⟩
theorem lw_p39 : lw_okq (⟨"PathWordsModel", "pairs", "()I"⟩, 16) := ⟨⟨by decide +kernel, by decide +kernel⟩, List.mem_of_getElem? (i := 657) (by decide +kernel), List.mem_of_getElem? (i := 959) (by decide +kernel), List.mem_of_getElem? (i := 960) (by decide +kernel)⟩
def lw_privs_3 : List (MethodName × Nat) := [(⟨"PathWordsModel", "firstHops", "(I)I"⟩, 16), (⟨"PathWordsModel", "stationOf", "(I)I"⟩, 16), (⟨"PathWordsModel", "reachFrom", "(IIII)I"⟩, 16), (⟨"PathWordsModel", "save", "(I)V"⟩, 16), (⟨"PathWordsModel", "sumOf", "(I)I"⟩, 16), (⟨"PathWordsModel", "load", "(I)V"⟩, 16), (⟨"PathWordsModel", "latest", "()I"⟩, 16), (⟨"PathWordsModel", "pairs", "()I"⟩, 16)]
theorem lw_r3 : ∀ q ∈ lw_privs_3, lw_okq q := List.forall_mem_cons.mpr ⟨lw_p32, List.forall_mem_cons.mpr ⟨lw_p33, List.forall_mem_cons.mpr ⟨lw_p34, List.forall_mem_cons.mpr ⟨lw_p35, List.forall_mem_cons.mpr ⟨lw_p36, List.forall_mem_cons.mpr ⟨lw_p37, List.forall_mem_cons.mpr ⟨lw_p38, List.forall_mem_cons.mpr ⟨lw_p39, fun _ h => absurd h List.not_mem_nil⟩⟩⟩⟩⟩⟩⟩⟩
def lw_privs : List (MethodName × Nat) := lw_privs_1 ++ (lw_privs_2 ++ (lw_privs_3))
def lw_tbl : List Cond := k2_sels lw_privs ++ tables_1
theorem lw_privs_ok : ∀ q ∈ lw_privs, lw_okq q := by
  show ∀ q ∈ lw_privs_1 ++ (lw_privs_2 ++ (lw_privs_3)), lw_okq q
  exact List.forall_mem_append.mpr ⟨lw_r1, List.forall_mem_append.mpr ⟨lw_r2, lw_r3⟩⟩
def RX0 : String := "PathWords$Kept"
def TX0 : u_T := fun k => match k with
  | 0 => ("PathWords$Kept", "packets", "[LPathWords$Packet;", true)
  | 1 => ("PathWords$Kept", "dues", "[I", true)
  | _ => ("PathWords$Kept", "size", "I", false)
def tyX0 : Nat → FieldType := fun k => match k with
  | 0 => .array (.object "PathWords$Packet")
  | 1 => .array .int
  | _ => .int
theorem nmX0 : ∀ a, a < 3 → ∀ b, b < 3 → a ≠ b → (TX0 a).2.1 ≠ (TX0 b).2.1 := by decide +kernel
theorem tyX0_ok : ∀ k, k < 3 → parseFieldDescriptor (TX0 k).2.2.1 = some (tyX0 k) := by decide +kernel
abbrev cX0_init : ByteArray := prog_2_method_1_code
def yX0_init : MethodName := ⟨RX0, "<init>", "()V"⟩
abbrev cX0_copyFrom : ByteArray := prog_2_method_2_code
def yX0_copyFrom : MethodName := ⟨RX0, "copyFrom", "(LPathWords$Kept;)V"⟩
abbrev cX0_clear : ByteArray := prog_2_method_3_code
def yX0_clear : MethodName := ⟨RX0, "clear", "()V"⟩
abbrev cX0_add : ByteArray := prog_2_method_4_code
def yX0_add : MethodName := ⟨RX0, "add", "(LPathWords$Packet;I)Z"⟩
abbrev cX0_takeDue : ByteArray := prog_2_method_5_code
def yX0_takeDue : MethodName := ⟨RX0, "takeDue", "(ILPathWords$Packet;)Z"⟩
abbrev cX0_removeAt : ByteArray := prog_2_method_6_code
def yX0_removeAt : MethodName := ⟨RX0, "removeAt", "(I)V"⟩
def RX1 : String := "PathWords$Known"
def TX1 : u_T := fun k => match k with
  | 0 => ("PathWords$Known", "sources", "[I", true)
  | 1 => ("PathWords$Known", "texts", "[I", true)
  | 2 => ("PathWords$Known", "ticks", "[I", true)
  | _ => ("PathWords$Known", "size", "I", false)
def tyX1 : Nat → FieldType := fun k => match k with
  | 0 => .array .int
  | 1 => .array .int
  | 2 => .array .int
  | _ => .int
theorem nmX1 : ∀ a, a < 4 → ∀ b, b < 4 → a ≠ b → (TX1 a).2.1 ≠ (TX1 b).2.1 := by decide +kernel
theorem tyX1_ok : ∀ k, k < 4 → parseFieldDescriptor (TX1 k).2.2.1 = some (tyX1 k) := by decide +kernel
abbrev cX1_init : ByteArray := prog_3_method_1_code
def yX1_init : MethodName := ⟨RX1, "<init>", "()V"⟩
abbrev cX1_copyFrom : ByteArray := prog_3_method_2_code
def yX1_copyFrom : MethodName := ⟨RX1, "copyFrom", "(LPathWords$Known;)V"⟩
abbrev cX1_clear : ByteArray := prog_3_method_3_code
def yX1_clear : MethodName := ⟨RX1, "clear", "()V"⟩
abbrev cX1_placeOf : ByteArray := prog_3_method_4_code
def yX1_placeOf : MethodName := ⟨RX1, "placeOf", "(LPathWords$Packet;)I"⟩
abbrev cX1_add : ByteArray := prog_3_method_5_code
def yX1_add : MethodName := ⟨RX1, "add", "(LPathWords$Packet;I)V"⟩
abbrev cX1_removeAt : ByteArray := prog_3_method_6_code
def yX1_removeAt : MethodName := ⟨RX1, "removeAt", "(I)V"⟩
abbrev cX1_dropOld : ByteArray := prog_3_method_7_code
def yX1_dropOld : MethodName := ⟨RX1, "dropOld", "(II)V"⟩
abbrev cX1_move : ByteArray := prog_3_method_8_code
def yX1_move : MethodName := ⟨RX1, "move", "(II)V"⟩
def RX2 : String := "PathWords$Names"
def TX2 : u_T := fun k => match k with
  | 0 => ("PathWords$Names", "names", "[I", true)
  | _ => ("PathWords$Names", "size", "I", false)
def tyX2 : Nat → FieldType := fun k => match k with
  | 0 => .array .int
  | _ => .int
theorem nmX2 : ∀ a, a < 2 → ∀ b, b < 2 → a ≠ b → (TX2 a).2.1 ≠ (TX2 b).2.1 := by decide +kernel
theorem tyX2_ok : ∀ k, k < 2 → parseFieldDescriptor (TX2 k).2.2.1 = some (tyX2 k) := by decide +kernel
abbrev cX2_init : ByteArray := prog_4_method_1_code
def yX2_init : MethodName := ⟨RX2, "<init>", "()V"⟩
abbrev cX2_copyFrom : ByteArray := prog_4_method_2_code
def yX2_copyFrom : MethodName := ⟨RX2, "copyFrom", "(LPathWords$Names;)V"⟩
abbrev cX2_clear : ByteArray := prog_4_method_3_code
def yX2_clear : MethodName := ⟨RX2, "clear", "()V"⟩
abbrev cX2_add : ByteArray := prog_4_method_4_code
def yX2_add : MethodName := ⟨RX2, "add", "(I)V"⟩
abbrev cX2_has : ByteArray := prog_4_method_5_code
def yX2_has : MethodName := ⟨RX2, "has", "(I)Z"⟩
def RX3 : String := "PathWords$Net"
def TX3 : u_T := fun k => match k with
  | 0 => ("PathWords$Net", "stations", "[LPathWords$Station;", true)
  | 1 => ("PathWords$Net", "nearSets", "[I", true)
  | _ => ("PathWords$Net", "now", "I", false)
def tyX3 : Nat → FieldType := fun k => match k with
  | 0 => .array (.object "PathWords$Station")
  | 1 => .array .int
  | _ => .int
theorem nmX3 : ∀ a, a < 3 → ∀ b, b < 3 → a ≠ b → (TX3 a).2.1 ≠ (TX3 b).2.1 := by decide +kernel
theorem tyX3_ok : ∀ k, k < 3 → parseFieldDescriptor (TX3 k).2.2.1 = some (tyX3 k) := by decide +kernel
abbrev cX3_init : ByteArray := prog_5_method_1_code
def yX3_init : MethodName := ⟨RX3, "<init>", "()V"⟩
abbrev cX3_copyFrom : ByteArray := prog_5_method_2_code
def yX3_copyFrom : MethodName := ⟨RX3, "copyFrom", "(LPathWords$Net;)V"⟩
abbrev cX3_beginLike : ByteArray := prog_5_method_3_code
def yX3_beginLike : MethodName := ⟨RX3, "beginLike", "(LPathWords$Net;)V"⟩
abbrev cX3_join : ByteArray := prog_5_method_4_code
def yX3_join : MethodName := ⟨RX3, "join", "(IIZ)V"⟩
abbrev cX3_isolate : ByteArray := prog_5_method_5_code
def yX3_isolate : MethodName := ⟨RX3, "isolate", "(I)V"⟩
abbrev cX3_passTick : ByteArray := prog_5_method_6_code
def yX3_passTick : MethodName := ⟨RX3, "passTick", "()V"⟩
abbrev cX3_firstIn : ByteArray := prog_5_method_7_code
def yX3_firstIn : MethodName := ⟨RX3, "firstIn", "(I)I"⟩
abbrev cX3_stationCalled : ByteArray := prog_5_method_8_code
def yX3_stationCalled : MethodName := ⟨RX3, "stationCalled", "(I)I"⟩
abbrev cX3_keptByAll : ByteArray := prog_5_method_9_code
def yX3_keptByAll : MethodName := ⟨RX3, "keptByAll", "()I"⟩
abbrev cX3_tallyOfAll : ByteArray := prog_5_method_10_code
def yX3_tallyOfAll : MethodName := ⟨RX3, "tallyOfAll", "(I)I"⟩
abbrev cX3_pairsNear : ByteArray := prog_5_method_11_code
def yX3_pairsNear : MethodName := ⟨RX3, "pairsNear", "()I"⟩
abbrev cX3_hearers : ByteArray := prog_5_method_12_code
def yX3_hearers : MethodName := ⟨RX3, "hearers", "()I"⟩
def RX4 : String := "PathWords$Packet"
def TX4 : u_T := fun k => match k with
  | 0 => ("PathWords$Packet", "words", "[I", true)
  | 1 => ("PathWords$Packet", "size", "I", false)
  | 2 => ("PathWords$Packet", "source", "I", false)
  | _ => ("PathWords$Packet", "text", "I", false)
def tyX4 : Nat → FieldType := fun k => match k with
  | 0 => .array .int
  | 1 => .int
  | 2 => .int
  | _ => .int
theorem nmX4 : ∀ a, a < 4 → ∀ b, b < 4 → a ≠ b → (TX4 a).2.1 ≠ (TX4 b).2.1 := by decide +kernel
theorem tyX4_ok : ∀ k, k < 4 → parseFieldDescriptor (TX4 k).2.2.1 = some (tyX4 k) := by decide +kernel
abbrev cX4_init : ByteArray := prog_6_method_1_code
def yX4_init : MethodName := ⟨RX4, "<init>", "()V"⟩
abbrev cX4_copyFrom : ByteArray := prog_6_method_2_code
def yX4_copyFrom : MethodName := ⟨RX4, "copyFrom", "(LPathWords$Packet;)V"⟩
abbrev cX4_clear : ByteArray := prog_6_method_3_code
def yX4_clear : MethodName := ⟨RX4, "clear", "()V"⟩
abbrev cX4_addWord : ByteArray := prog_6_method_4_code
def yX4_addWord : MethodName := ⟨RX4, "addWord", "(IIZ)V"⟩
abbrev cX4_isPlace : ByteArray := prog_6_method_5_code
def yX4_isPlace : MethodName := ⟨RX4, "isPlace", "(I)Z"⟩
abbrev cX4_nameAt : ByteArray := prog_6_method_6_code
def yX4_nameAt : MethodName := ⟨RX4, "nameAt", "(I)I"⟩
abbrev cX4_hopsAt : ByteArray := prog_6_method_7_code
def yX4_hopsAt : MethodName := ⟨RX4, "hopsAt", "(I)I"⟩
abbrev cX4_isSpentAt : ByteArray := prog_6_method_8_code
def yX4_isSpentAt : MethodName := ⟨RX4, "isSpentAt", "(I)Z"⟩
abbrev cX4_firstUnspent : ByteArray := prog_6_method_9_code
def yX4_firstUnspent : MethodName := ⟨RX4, "firstUnspent", "()I"⟩
abbrev cX4_spentWords : ByteArray := prog_6_method_10_code
def yX4_spentWords : MethodName := ⟨RX4, "spentWords", "()I"⟩
abbrev cX4_placeOfSpent : ByteArray := prog_6_method_11_code
def yX4_placeOfSpent : MethodName := ⟨RX4, "placeOfSpent", "(I)I"⟩
abbrev cX4_wasSentBy : ByteArray := prog_6_method_12_code
def yX4_wasSentBy : MethodName := ⟨RX4, "wasSentBy", "(I)Z"⟩
abbrev cX4_spend : ByteArray := prog_6_method_13_code
def yX4_spend : MethodName := ⟨RX4, "spend", "(II)V"⟩
abbrev cX4_setHops : ByteArray := prog_6_method_14_code
def yX4_setHops : MethodName := ⟨RX4, "setHops", "(II)V"⟩
abbrev cX4_putAhead : ByteArray := prog_6_method_15_code
def yX4_putAhead : MethodName := ⟨RX4, "putAhead", "(II)V"⟩
def RX5 : String := "PathWords$Pad"
def TX5 : u_T := fun k => match k with
  | 0 => ("PathWords$Pad", "signs", "[I", true)
  | 1 => ("PathWords$Pad", "size", "I", false)
  | _ => ("PathWords$Pad", "at", "I", false)
def tyX5 : Nat → FieldType := fun k => match k with
  | 0 => .array .int
  | 1 => .int
  | _ => .int
theorem nmX5 : ∀ a, a < 3 → ∀ b, b < 3 → a ≠ b → (TX5 a).2.1 ≠ (TX5 b).2.1 := by decide +kernel
theorem tyX5_ok : ∀ k, k < 3 → parseFieldDescriptor (TX5 k).2.2.1 = some (tyX5 k) := by decide +kernel
abbrev cX5_init : ByteArray := prog_7_method_1_code
def yX5_init : MethodName := ⟨RX5, "<init>", "()V"⟩
abbrev cX5_add : ByteArray := prog_7_method_2_code
def yX5_add : MethodName := ⟨RX5, "add", "(I)V"⟩
abbrev cX5_clear : ByteArray := prog_7_method_3_code
def yX5_clear : MethodName := ⟨RX5, "clear", "()V"⟩
abbrev cX5_readName : ByteArray := prog_7_method_4_code
def yX5_readName : MethodName := ⟨RX5, "readName", "()I"⟩
abbrev cX5_readPacket : ByteArray := prog_7_method_5_code
def yX5_readPacket : MethodName := ⟨RX5, "readPacket", "(LPathWords$Packet;)I"⟩
abbrev cX5_readWords : ByteArray := prog_7_method_6_code
def yX5_readWords : MethodName := ⟨RX5, "readWords", "(LPathWords$Packet;)Z"⟩
abbrev cX5_readWord : ByteArray := prog_7_method_7_code
def yX5_readWord : MethodName := ⟨RX5, "readWord", "(LPathWords$Packet;)Z"⟩
abbrev cX5_readLetters : ByteArray := prog_7_method_8_code
def yX5_readLetters : MethodName := ⟨RX5, "readLetters", "(II)I"⟩
abbrev cX5_take : ByteArray := prog_7_method_9_code
def yX5_take : MethodName := ⟨RX5, "take", "(I)Z"⟩
abbrev cX5_peek : ByteArray := prog_7_method_10_code
def yX5_peek : MethodName := ⟨RX5, "peek", "()I"⟩
def RX6 : String := "PathWords$Station"
def TX6 : u_T := fun k => match k with
  | 0 => ("PathWords$Station", "call", "I", false)
  | 1 => ("PathWords$Station", "standIns", "LPathWords$Names;", true)
  | 2 => ("PathWords$Station", "floods", "LPathWords$Names;", true)
  | 3 => ("PathWords$Station", "limit", "I", false)
  | 4 => ("PathWords$Station", "delay", "I", false)
  | 5 => ("PathWords$Station", "window", "I", false)
  | 6 => ("PathWords$Station", "tallies", "[I", true)
  | 7 => ("PathWords$Station", "kept", "LPathWords$Kept;", true)
  | 8 => ("PathWords$Station", "known", "LPathWords$Known;", true)
  | 9 => ("PathWords$Station", "latest", "LPathWords$Packet;", true)
  | 10 => ("PathWords$Station", "latestTick", "I", false)
  | 11 => ("PathWords$Station", "air", "LPathWords$Packet;", true)
  | _ => ("PathWords$Station", "changed", "LPathWords$Packet;", true)
def tyX6 : Nat → FieldType := fun k => match k with
  | 0 => .int
  | 1 => .object "PathWords$Names"
  | 2 => .object "PathWords$Names"
  | 3 => .int
  | 4 => .int
  | 5 => .int
  | 6 => .array .int
  | 7 => .object "PathWords$Kept"
  | 8 => .object "PathWords$Known"
  | 9 => .object "PathWords$Packet"
  | 10 => .int
  | 11 => .object "PathWords$Packet"
  | _ => .object "PathWords$Packet"
theorem nmX6 : ∀ a, a < 13 → ∀ b, b < 13 → a ≠ b → (TX6 a).2.1 ≠ (TX6 b).2.1 := by decide +kernel
theorem tyX6_ok : ∀ k, k < 13 → parseFieldDescriptor (TX6 k).2.2.1 = some (tyX6 k) := by decide +kernel
abbrev cX6_init : ByteArray := prog_8_method_1_code
def yX6_init : MethodName := ⟨RX6, "<init>", "(I)V"⟩
abbrev cX6_copyFrom : ByteArray := prog_8_method_2_code
def yX6_copyFrom : MethodName := ⟨RX6, "copyFrom", "(LPathWords$Station;)V"⟩
abbrev cX6_beginLike : ByteArray := prog_8_method_3_code
def yX6_beginLike : MethodName := ⟨RX6, "beginLike", "(LPathWords$Station;)V"⟩
abbrev cX6_copySettings : ByteArray := prog_8_method_4_code
def yX6_copySettings : MethodName := ⟨RX6, "copySettings", "(LPathWords$Station;)V"⟩
abbrev cX6_hasHeard : ByteArray := prog_8_method_5_code
def yX6_hasHeard : MethodName := ⟨RX6, "hasHeard", "()Z"⟩
abbrev cX6_originate : ByteArray := prog_8_method_6_code
def yX6_originate : MethodName := ⟨RX6, "originate", "(LPathWords$Packet;I)V"⟩
abbrev cX6_startSending : ByteArray := prog_8_method_7_code
def yX6_startSending : MethodName := ⟨RX6, "startSending", "(I)Z"⟩
abbrev cX6_hear : ByteArray := prog_8_method_8_code
def yX6_hear : MethodName := ⟨RX6, "hear", "(LPathWords$Packet;I)V"⟩
abbrev cX6_changeIfMeant : ByteArray := prog_8_method_9_code
def yX6_changeIfMeant : MethodName := ⟨RX6, "changeIfMeant", "(LPathWords$Packet;I)Z"⟩
def RX7 : String := "PathWords$Trial"
def TX7 : u_T := fun k => match k with
  | 0 => ("PathWords$Trial", "net", "LPathWords$Net;", true)
  | 1 => ("PathWords$Trial", "packet", "LPathWords$Packet;", true)
  | 2 => ("PathWords$Trial", "reached", "I", false)
  | _ => ("PathWords$Trial", "newest", "I", false)
def tyX7 : Nat → FieldType := fun k => match k with
  | 0 => .object "PathWords$Net"
  | 1 => .object "PathWords$Packet"
  | 2 => .int
  | _ => .int
theorem nmX7 : ∀ a, a < 4 → ∀ b, b < 4 → a ≠ b → (TX7 a).2.1 ≠ (TX7 b).2.1 := by decide +kernel
theorem tyX7_ok : ∀ k, k < 4 → parseFieldDescriptor (TX7 k).2.2.1 = some (tyX7 k) := by decide +kernel
abbrev cX7_init : ByteArray := prog_9_method_1_code
def yX7_init : MethodName := ⟨RX7, "<init>", "()V"⟩
abbrev cX7_prepare : ByteArray := prog_9_method_2_code
def yX7_prepare : MethodName := ⟨RX7, "prepare", "(LPathWords$Net;)V"⟩
abbrev cX7_spread : ByteArray := prog_9_method_3_code
def yX7_spread : MethodName := ⟨RX7, "spread", "(III)V"⟩
def RX8 : String := "PathWords$Writing"
def TX8 : u_T := fun k => match k with
  | 0 => ("PathWords$Writing", "signs", "[I", true)
  | _ => ("PathWords$Writing", "size", "I", false)
def tyX8 : Nat → FieldType := fun k => match k with
  | 0 => .array .int
  | _ => .int
theorem nmX8 : ∀ a, a < 2 → ∀ b, b < 2 → a ≠ b → (TX8 a).2.1 ≠ (TX8 b).2.1 := by decide +kernel
theorem tyX8_ok : ∀ k, k < 2 → parseFieldDescriptor (TX8 k).2.2.1 = some (tyX8 k) := by decide +kernel
abbrev cX8_init : ByteArray := prog_10_method_1_code
def yX8_init : MethodName := ⟨RX8, "<init>", "()V"⟩
abbrev cX8_write : ByteArray := prog_10_method_2_code
def yX8_write : MethodName := ⟨RX8, "write", "(LPathWords$Packet;)V"⟩
abbrev cX8_signAt : ByteArray := prog_10_method_3_code
def yX8_signAt : MethodName := ⟨RX8, "signAt", "(I)I"⟩
abbrev cX8_putWord : ByteArray := prog_10_method_4_code
def yX8_putWord : MethodName := ⟨RX8, "putWord", "(LPathWords$Packet;I)V"⟩
abbrev cX8_putLetters : ByteArray := prog_10_method_5_code
def yX8_putLetters : MethodName := ⟨RX8, "putLetters", "(II)V"⟩
abbrev cX8_put : ByteArray := prog_10_method_6_code
def yX8_put : MethodName := ⟨RX8, "put", "(I)V"⟩
def RX9 : String := "PathWords"
def TX9 : u_T := fun k => match k with
  | 0 => ("PathWords", "pad", "LPathWords$Pad;", true)
  | 1 => ("PathWords", "net", "LPathWords$Net;", true)
  | 2 => ("PathWords", "trial", "LPathWords$Trial;", true)
  | 3 => ("PathWords", "images", "[LPathWords$Net;", true)
  | 4 => ("PathWords", "scratch", "LPathWords$Packet;", true)
  | _ => ("PathWords", "writing", "LPathWords$Writing;", true)
def tyX9 : Nat → FieldType := fun k => match k with
  | 0 => .object "PathWords$Pad"
  | 1 => .object "PathWords$Net"
  | 2 => .object "PathWords$Trial"
  | 3 => .array (.object "PathWords$Net")
  | 4 => .object "PathWords$Packet"
  | _ => .object "PathWords$Writing"
theorem nmX9 : ∀ a, a < 6 → ∀ b, b < 6 → a ≠ b → (TX9 a).2.1 ≠ (TX9 b).2.1 := by decide +kernel
theorem tyX9_ok : ∀ k, k < 6 → parseFieldDescriptor (TX9 k).2.2.1 = some (tyX9 k) := by decide +kernel
abbrev cX9_init : ByteArray := prog_1_method_1_code
def yX9_init : MethodName := ⟨RX9, "<init>", "()V"⟩
abbrev cX9_say : ByteArray := prog_1_method_2_code
def yX9_say : MethodName := ⟨RX9, "say", "(I)I"⟩
abbrev cX9_wipe : ByteArray := prog_1_method_3_code
def yX9_wipe : MethodName := ⟨RX9, "wipe", "()I"⟩
abbrev cX9_fault : ByteArray := prog_1_method_4_code
def yX9_fault : MethodName := ⟨RX9, "fault", "()I"⟩
abbrev cX9_name : ByteArray := prog_1_method_5_code
def yX9_name : MethodName := ⟨RX9, "name", "(II)I"⟩
abbrev cX9_forget : ByteArray := prog_1_method_6_code
def yX9_forget : MethodName := ⟨RX9, "forget", "(II)I"⟩
abbrev cX9_set : ByteArray := prog_1_method_7_code
def yX9_set : MethodName := ⟨RX9, "set", "(III)I"⟩
abbrev cX9_near : ByteArray := prog_1_method_8_code
def yX9_near : MethodName := ⟨RX9, "near", "(III)I"⟩
abbrev cX9_send : ByteArray := prog_1_method_9_code
def yX9_send : MethodName := ⟨RX9, "send", "(I)I"⟩
abbrev cX9_run : ByteArray := prog_1_method_10_code
def yX9_run : MethodName := ⟨RX9, "run", "(I)I"⟩
abbrev cX9_heard : ByteArray := prog_1_method_11_code
def yX9_heard : MethodName := ⟨RX9, "heard", "(II)I"⟩
abbrev cX9_written : ByteArray := prog_1_method_12_code
def yX9_written : MethodName := ⟨RX9, "written", "(II)I"⟩
abbrev cX9_last : ByteArray := prog_1_method_13_code
def yX9_last : MethodName := ⟨RX9, "last", "(II)I"⟩
abbrev cX9_trail : ByteArray := prog_1_method_14_code
def yX9_trail : MethodName := ⟨RX9, "trail", "(II)I"⟩
abbrev cX9_reach : ByteArray := prog_1_method_15_code
def yX9_reach : MethodName := ⟨RX9, "reach", "(III)I"⟩
abbrev cX9_fewest : ByteArray := prog_1_method_16_code
def yX9_fewest : MethodName := ⟨RX9, "fewest", "(II)I"⟩
abbrev cX9_bridges : ByteArray := prog_1_method_17_code
def yX9_bridges : MethodName := ⟨RX9, "bridges", "(III)I"⟩
abbrev cX9_image : ByteArray := prog_1_method_18_code
def yX9_image : MethodName := ⟨RX9, "image", "(I)I"⟩
abbrev cX9_restore : ByteArray := prog_1_method_19_code
def yX9_restore : MethodName := ⟨RX9, "restore", "(I)I"⟩
abbrev cX9_count : ByteArray := prog_1_method_20_code
def yX9_count : MethodName := ⟨RX9, "count", "(I)I"⟩
abbrev cX9_imagesKept : ByteArray := prog_1_method_21_code
def yX9_imagesKept : MethodName := ⟨RX9, "imagesKept", "()I"⟩
abbrev cX9_isStation : ByteArray := prog_1_method_22_code
def yX9_isStation : MethodName := ⟨RX9, "isStation", "(I)Z"⟩
abbrev cX9_isHops : ByteArray := prog_1_method_23_code
def yX9_isHops : MethodName := ⟨RX9, "isHops", "(I)Z"⟩
abbrev cX9_isIn : ByteArray := prog_1_method_24_code
def yX9_isIn : MethodName := ⟨RX9, "isIn", "(II)Z"⟩
abbrev cX9_isSetting : ByteArray := prog_1_method_25_code
def yX9_isSetting : MethodName := ⟨RX9, "isSetting", "(II)Z"⟩
def RX10 : String := "PathWordsModel"
def TX10 : u_T := fun k => match k with
  | 0 => ("PathWordsModel", "state", "[I", true)
  | 1 => ("PathWordsModel", "images", "[I", true)
  | 2 => ("PathWordsModel", "isKept", "[Z", true)
  | 3 => ("PathWordsModel", "pad", "[I", true)
  | 4 => ("PathWordsModel", "said", "I", false)
  | 5 => ("PathWordsModel", "own", "[I", true)
  | 6 => ("PathWordsModel", "at", "I", false)
  | 7 => ("PathWordsModel", "isBad", "Z", false)
  | 8 => ("PathWordsModel", "air", "[I", true)
  | 9 => ("PathWordsModel", "sends", "[Z", true)
  | 10 => ("PathWordsModel", "from", "[I", true)
  | 11 => ("PathWordsModel", "firstAt", "[I", true)
  | 12 => ("PathWordsModel", "line", "[I", true)
  | 13 => ("PathWordsModel", "lineLong", "I", false)
  | 14 => ("PathWordsModel", "triedSent", "I", false)
  | _ => ("PathWordsModel", "triedCrashes", "I", false)
def tyX10 : Nat → FieldType := fun k => match k with
  | 0 => .array .int
  | 1 => .array .int
  | 2 => .array .boolean
  | 3 => .array .int
  | 4 => .int
  | 5 => .array .int
  | 6 => .int
  | 7 => .boolean
  | 8 => .array .int
  | 9 => .array .boolean
  | 10 => .array .int
  | 11 => .array .int
  | 12 => .array .int
  | 13 => .int
  | 14 => .int
  | _ => .int
theorem nmX10 : ∀ a, a < 16 → ∀ b, b < 16 → a ≠ b → (TX10 a).2.1 ≠ (TX10 b).2.1 := by decide +kernel
theorem tyX10_ok : ∀ k, k < 16 → parseFieldDescriptor (TX10 k).2.2.1 = some (tyX10 k) := by decide +kernel
abbrev cX10_init : ByteArray := prog_12_method_1_code
def yX10_init : MethodName := ⟨RX10, "<init>", "()V"⟩
abbrev cX10_in : ByteArray := prog_12_method_2_code
def yX10_in : MethodName := ⟨RX10, "in", "(III)Z"⟩
abbrev cX10_isStation : ByteArray := prog_12_method_3_code
def yX10_isStation : MethodName := ⟨RX10, "isStation", "(I)Z"⟩
abbrev cX10_say : ByteArray := prog_12_method_4_code
def yX10_say : MethodName := ⟨RX10, "say", "(I)I"⟩
abbrev cX10_wipe : ByteArray := prog_12_method_5_code
def yX10_wipe : MethodName := ⟨RX10, "wipe", "()I"⟩
abbrev cX10_isAt : ByteArray := prog_12_method_6_code
def yX10_isAt : MethodName := ⟨RX10, "isAt", "(I)Z"⟩
abbrev cX10_isLetter : ByteArray := prog_12_method_7_code
def yX10_isLetter : MethodName := ⟨RX10, "isLetter", "(I)Z"⟩
abbrev cX10_readLetters : ByteArray := prog_12_method_8_code
def yX10_readLetters : MethodName := ⟨RX10, "readLetters", "(II)I"⟩
abbrev cX10_readSign : ByteArray := prog_12_method_9_code
def yX10_readSign : MethodName := ⟨RX10, "readSign", "(I)V"⟩
abbrev cX10_readWord : ByteArray := prog_12_method_10_code
def yX10_readWord : MethodName := ⟨RX10, "readWord", "()V"⟩
abbrev cX10_readPacket : ByteArray := prog_12_method_11_code
def yX10_readPacket : MethodName := ⟨RX10, "readPacket", "()I"⟩
abbrev cX10_fault : ByteArray := prog_12_method_12_code
def yX10_fault : MethodName := ⟨RX10, "fault", "()I"⟩
abbrev cX10_readName : ByteArray := prog_12_method_13_code
def yX10_readName : MethodName := ⟨RX10, "readName", "()I"⟩
abbrev cX10_name : ByteArray := prog_12_method_14_code
def yX10_name : MethodName := ⟨RX10, "name", "(II)I"⟩
abbrev cX10_call : ByteArray := prog_12_method_15_code
def yX10_call : MethodName := ⟨RX10, "call", "(II)I"⟩
abbrev cX10_more : ByteArray := prog_12_method_16_code
def yX10_more : MethodName := ⟨RX10, "more", "(IIII)I"⟩
abbrev cX10_forget : ByteArray := prog_12_method_17_code
def yX10_forget : MethodName := ⟨RX10, "forget", "(II)I"⟩
abbrev cX10_set : ByteArray := prog_12_method_18_code
def yX10_set : MethodName := ⟨RX10, "set", "(III)I"⟩
abbrev cX10_areNear : ByteArray := prog_12_method_19_code
def yX10_areNear : MethodName := ⟨RX10, "areNear", "(II)Z"⟩
abbrev cX10_near : ByteArray := prog_12_method_20_code
def yX10_near : MethodName := ⟨RX10, "near", "(III)I"⟩
abbrev cX10_slot : ByteArray := prog_12_method_21_code
def yX10_slot : MethodName := ⟨RX10, "slot", "(II)I"⟩
abbrev cX10_known : ByteArray := prog_12_method_22_code
def yX10_known : MethodName := ⟨RX10, "known", "(II)I"⟩
abbrev cX10_keep : ByteArray := prog_12_method_23_code
def yX10_keep : MethodName := ⟨RX10, "keep", "(II)Z"⟩
abbrev cX10_placeKnown : ByteArray := prog_12_method_24_code
def yX10_placeKnown : MethodName := ⟨RX10, "placeKnown", "(III)I"⟩
abbrev cX10_unknow : ByteArray := prog_12_method_25_code
def yX10_unknow : MethodName := ⟨RX10, "unknow", "(II)V"⟩
abbrev cX10_know : ByteArray := prog_12_method_26_code
def yX10_know : MethodName := ⟨RX10, "know", "(III)V"⟩
abbrev cX10_begin : ByteArray := prog_12_method_27_code
def yX10_begin : MethodName := ⟨RX10, "begin", "(I)V"⟩
abbrev cX10_send : ByteArray := prog_12_method_28_code
def yX10_send : MethodName := ⟨RX10, "send", "(I)I"⟩
abbrev cX10_count : ByteArray := prog_12_method_29_code
def yX10_count : MethodName := ⟨RX10, "count", "(II)V"⟩
abbrev cX10_sendOne : ByteArray := prog_12_method_30_code
def yX10_sendOne : MethodName := ⟨RX10, "sendOne", "(I)V"⟩
abbrev cX10_hearsFrom : ByteArray := prog_12_method_31_code
def yX10_hearsFrom : MethodName := ⟨RX10, "hearsFrom", "(I)I"⟩
abbrev cX10_tick : ByteArray := prog_12_method_32_code
def yX10_tick : MethodName := ⟨RX10, "tick", "()V"⟩
abbrev cX10_hear : ByteArray := prog_12_method_33_code
def yX10_hear : MethodName := ⟨RX10, "hear", "(II)V"⟩
abbrev cX10_isSpent : ByteArray := prog_12_method_34_code
def yX10_isSpent : MethodName := ⟨RX10, "isSpent", "(I)Z"⟩
abbrev cX10_hopsOf : ByteArray := prog_12_method_35_code
def yX10_hopsOf : MethodName := ⟨RX10, "hopsOf", "(I)I"⟩
abbrev cX10_isOwn : ByteArray := prog_12_method_36_code
def yX10_isOwn : MethodName := ⟨RX10, "isOwn", "(I)Z"⟩
abbrev cX10_look : ByteArray := prog_12_method_37_code
def yX10_look : MethodName := ⟨RX10, "look", "(I)V"⟩
abbrev cX10_isOf : ByteArray := prog_12_method_38_code
def yX10_isOf : MethodName := ⟨RX10, "isOf", "(IIII)Z"⟩
abbrev cX10_isFor : ByteArray := prog_12_method_39_code
def yX10_isFor : MethodName := ⟨RX10, "isFor", "(II)Z"⟩
abbrev cX10_keptByAll : ByteArray := prog_12_method_40_code
def yX10_keptByAll : MethodName := ⟨RX10, "keptByAll", "()I"⟩
abbrev cX10_run : ByteArray := prog_12_method_41_code
def yX10_run : MethodName := ⟨RX10, "run", "(I)I"⟩
abbrev cX10_heard : ByteArray := prog_12_method_42_code
def yX10_heard : MethodName := ⟨RX10, "heard", "(II)I"⟩
abbrev cX10_put : ByteArray := prog_12_method_43_code
def yX10_put : MethodName := ⟨RX10, "put", "(I)V"⟩
abbrev cX10_putLetters : ByteArray := prog_12_method_44_code
def yX10_putLetters : MethodName := ⟨RX10, "putLetters", "(II)V"⟩
abbrev cX10_word : ByteArray := prog_12_method_45_code
def yX10_word : MethodName := ⟨RX10, "word", "(II)I"⟩
abbrev cX10_words : ByteArray := prog_12_method_46_code
def yX10_words : MethodName := ⟨RX10, "words", "(I)I"⟩
abbrev cX10_layLine : ByteArray := prog_12_method_47_code
def yX10_layLine : MethodName := ⟨RX10, "layLine", "(I)V"⟩
abbrev cX10_written : ByteArray := prog_12_method_48_code
def yX10_written : MethodName := ⟨RX10, "written", "(II)I"⟩
abbrev cX10_spentWords : ByteArray := prog_12_method_49_code
def yX10_spentWords : MethodName := ⟨RX10, "spentWords", "(I)I"⟩
abbrev cX10_firstHops : ByteArray := prog_12_method_50_code
def yX10_firstHops : MethodName := ⟨RX10, "firstHops", "(I)I"⟩
abbrev cX10_last : ByteArray := prog_12_method_51_code
def yX10_last : MethodName := ⟨RX10, "last", "(II)I"⟩
abbrev cX10_stationOf : ByteArray := prog_12_method_52_code
def yX10_stationOf : MethodName := ⟨RX10, "stationOf", "(I)I"⟩
abbrev cX10_trail : ByteArray := prog_12_method_53_code
def yX10_trail : MethodName := ⟨RX10, "trail", "(II)I"⟩
abbrev cX10_save : ByteArray := prog_12_method_54_code
def yX10_save : MethodName := ⟨RX10, "save", "(I)V"⟩
abbrev cX10_load : ByteArray := prog_12_method_55_code
def yX10_load : MethodName := ⟨RX10, "load", "(I)V"⟩
abbrev cX10_reachFrom : ByteArray := prog_12_method_56_code
def yX10_reachFrom : MethodName := ⟨RX10, "reachFrom", "(IIII)I"⟩
abbrev cX10_sumOf : ByteArray := prog_12_method_57_code
def yX10_sumOf : MethodName := ⟨RX10, "sumOf", "(I)I"⟩
abbrev cX10_latest : ByteArray := prog_12_method_58_code
def yX10_latest : MethodName := ⟨RX10, "latest", "()I"⟩
abbrev cX10_reach : ByteArray := prog_12_method_59_code
def yX10_reach : MethodName := ⟨RX10, "reach", "(III)I"⟩
abbrev cX10_fewest : ByteArray := prog_12_method_60_code
def yX10_fewest : MethodName := ⟨RX10, "fewest", "(II)I"⟩
abbrev cX10_bridges : ByteArray := prog_12_method_61_code
def yX10_bridges : MethodName := ⟨RX10, "bridges", "(III)I"⟩
abbrev cX10_image : ByteArray := prog_12_method_62_code
def yX10_image : MethodName := ⟨RX10, "image", "(I)I"⟩
abbrev cX10_restore : ByteArray := prog_12_method_63_code
def yX10_restore : MethodName := ⟨RX10, "restore", "(I)I"⟩
abbrev cX10_pairs : ByteArray := prog_12_method_64_code
def yX10_pairs : MethodName := ⟨RX10, "pairs", "()I"⟩
abbrev cX10_count_ : ByteArray := prog_12_method_65_code
def yX10_count_ : MethodName := ⟨RX10, "count", "(I)I"⟩
def RJ6 : String := "java/lang/Integer"
def TJ6 : u_T := fun k => match k with
  | _ => ("", "", "", false)
def tyJ6 : Nat → FieldType := fun k => match k with
  | _ => .int
theorem nmJ6 : ∀ a, a < 0 → ∀ b, b < 0 → a ≠ b → (TJ6 a).2.1 ≠ (TJ6 b).2.1 := by decide +kernel
theorem tyJ6_ok : ∀ k, k < 0 → parseFieldDescriptor (TJ6 k).2.2.1 = some (tyJ6 k) := by decide +kernel
abbrev cJ6_bitCount_0f7a4 : ByteArray := prog_13_method_49_code
def yJ6_bitCount_0f7a4 : MethodName := ⟨RJ6, "bitCount", "(I)I"⟩
def RJ9 : String := "java/lang/Math"
def TJ9 : u_T := fun k => match k with
  | _ => ("", "", "", false)
def tyJ9 : Nat → FieldType := fun k => match k with
  | _ => .int
theorem nmJ9 : ∀ a, a < 0 → ∀ b, b < 0 → a ≠ b → (TJ9 a).2.1 ≠ (TJ9 b).2.1 := by decide +kernel
theorem tyJ9_ok : ∀ k, k < 0 → parseFieldDescriptor (TJ9 k).2.2.1 = some (tyJ9 k) := by decide +kernel
abbrev cJ9_min_7cf53 : ByteArray := prog_14_method_69_code
def yJ9_min_7cf53 : MethodName := ⟨RJ9, "min", "(II)I"⟩
def RJ10 : String := "java/lang/System"
def TJ10 : u_T := fun k => match k with
  | _ => ("", "", "", false)
def tyJ10 : Nat → FieldType := fun k => match k with
  | _ => .int
theorem nmJ10 : ∀ a, a < 0 → ∀ b, b < 0 → a ≠ b → (TJ10 a).2.1 ≠ (TJ10 b).2.1 := by decide +kernel
theorem tyJ10_ok : ∀ k, k < 0 → parseFieldDescriptor (TJ10 k).2.2.1 = some (tyJ10 k) := by decide +kernel
def RL : String := "PathWordsLaw"
abbrev cL_law : ByteArray := code
def yL_law : MethodName := ⟨RL, "law", "([I)Z"⟩
abbrev vwCl : List vw_C := [(RX0, TX0, 3), (RX1, TX1, 4), (RX2, TX2, 2), (RX3, TX3, 3), (RX4, TX4, 4), (RX5, TX5, 3), (RX6, TX6, 13), (RX7, TX7, 4), (RX8, TX8, 2), (RX9, TX9, 6), (RX10, TX10, 16)]
