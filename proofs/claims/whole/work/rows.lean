section
-- ===== PART A: goes FIRST, ahead of the names: the tables' words, and 'selects' of the private methods out of them =====
/-- a private method of a class that the tables say can be made, by its rows of tables_1 -/
def lw_okq (q : MethodName × Nat) : Prop := (q.1.cls ≠ "java/lang/invoke/MethodHandle" ∧ q.1.cls ≠ "java/lang/invoke/VarHandle") ∧ Cond.instantiable q.1.cls q.2 ∈ tables_1 ∧ Cond.privateMethod q.1 ∈ tables_1 ∧ Cond.instanceMethod q.1 ∈ tables_1
theorem lw_p0 : lw_okq (⟨"PubQuizzes$State", "withJoker", "(III)I"⟩, 12) := ⟨⟨by decide +kernel, by decide +kernel⟩, List.mem_of_getElem? (i := 20) (by decide +kernel), List.mem_of_getElem? (i := 311) (by decide +kernel), List.mem_of_getElem? (i := 312) (by decide +kernel)⟩
theorem lw_p1 : lw_okq (⟨"PubQuizzes$State", "isAhead", "(II)Z"⟩, 12) := ⟨⟨by decide +kernel, by decide +kernel⟩, List.mem_of_getElem? (i := 20) (by decide +kernel), List.mem_of_getElem? (i := 319) (by decide +kernel), List.mem_of_getElem? (i := 320) (by decide +kernel)⟩
theorem lw_p2 : lw_okq (⟨"PubQuizzes$State", "distanceOf", "(I)I"⟩, 12) := ⟨⟨by decide +kernel, by decide +kernel⟩, List.mem_of_getElem? (i := 20) (by decide +kernel), List.mem_of_getElem? (i := 324) (by decide +kernel), List.mem_of_getElem? (i := 325) (by decide +kernel)⟩
theorem lw_p3 : lw_okq (⟨"PubQuizzes$State", "prizeOfPlace", "(I)I"⟩, 12) := ⟨⟨by decide +kernel, by decide +kernel⟩, List.mem_of_getElem? (i := 20) (by decide +kernel), List.mem_of_getElem? (i := 341) (by decide +kernel), List.mem_of_getElem? (i := 342) (by decide +kernel)⟩
theorem lw_p4 : lw_okq (⟨"PubQuizzes$State", "isFirstWithItsScore", "(I)Z"⟩, 12) := ⟨⟨by decide +kernel, by decide +kernel⟩, List.mem_of_getElem? (i := 20) (by decide +kernel), List.mem_of_getElem? (i := 422) (by decide +kernel), List.mem_of_getElem? (i := 423) (by decide +kernel)⟩
theorem lw_p5 : lw_okq (⟨"PubQuizzes$State", "greatestMark", "(II)I"⟩, 12) := ⟨⟨by decide +kernel, by decide +kernel⟩, List.mem_of_getElem? (i := 20) (by decide +kernel), List.mem_of_getElem? (i := 455) (by decide +kernel), List.mem_of_getElem? (i := 456) (by decide +kernel)⟩
theorem lw_p6 : lw_okq (⟨"PubQuizzes$State", "canHandIn", "(II)Z"⟩, 12) := ⟨⟨by decide +kernel, by decide +kernel⟩, List.mem_of_getElem? (i := 20) (by decide +kernel), List.mem_of_getElem? (i := 459) (by decide +kernel), List.mem_of_getElem? (i := 460) (by decide +kernel)⟩
theorem lw_p7 : lw_okq (⟨"PubQuizzes$State", "wrongMarksToldBy", "(I)I"⟩, 12) := ⟨⟨by decide +kernel, by decide +kernel⟩, List.mem_of_getElem? (i := 20) (by decide +kernel), List.mem_of_getElem? (i := 480) (by decide +kernel), List.mem_of_getElem? (i := 481) (by decide +kernel)⟩
theorem lw_p8 : lw_okq (⟨"PubQuizzesModel", "record", "()V"⟩, 7) := ⟨⟨by decide +kernel, by decide +kernel⟩, List.mem_of_getElem? (i := 530) (by decide +kernel), List.mem_of_getElem? (i := 566) (by decide +kernel), List.mem_of_getElem? (i := 567) (by decide +kernel)⟩
theorem lw_p9 : lw_okq (⟨"PubQuizzesModel", "openRounds", "()I"⟩, 7) := ⟨⟨by decide +kernel, by decide +kernel⟩, List.mem_of_getElem? (i := 530) (by decide +kernel), List.mem_of_getElem? (i := 574) (by decide +kernel), List.mem_of_getElem? (i := 575) (by decide +kernel)⟩
theorem lw_p10 : lw_okq (⟨"PubQuizzesModel", "isOpen", "(I)Z"⟩, 7) := ⟨⟨by decide +kernel, by decide +kernel⟩, List.mem_of_getElem? (i := 530) (by decide +kernel), List.mem_of_getElem? (i := 578) (by decide +kernel), List.mem_of_getElem? (i := 579) (by decide +kernel)⟩
theorem lw_p11 : lw_okq (⟨"PubQuizzesModel", "isTeam", "(I)Z"⟩, 7) := ⟨⟨by decide +kernel, by decide +kernel⟩, List.mem_of_getElem? (i := 530) (by decide +kernel), List.mem_of_getElem? (i := 592) (by decide +kernel), List.mem_of_getElem? (i := 593) (by decide +kernel)⟩
theorem lw_p12 : lw_okq (⟨"PubQuizzesModel", "tellsTen", "(Z)Z"⟩, 7) := ⟨⟨by decide +kernel, by decide +kernel⟩, List.mem_of_getElem? (i := 530) (by decide +kernel), List.mem_of_getElem? (i := 599) (by decide +kernel), List.mem_of_getElem? (i := 600) (by decide +kernel)⟩
theorem lw_p13 : lw_okq (⟨"PubQuizzesModel", "teamsOf", "(II)I"⟩, 7) := ⟨⟨by decide +kernel, by decide +kernel⟩, List.mem_of_getElem? (i := 530) (by decide +kernel), List.mem_of_getElem? (i := 610) (by decide +kernel), List.mem_of_getElem? (i := 611) (by decide +kernel)⟩
theorem lw_p14 : lw_okq (⟨"PubQuizzesModel", "trueMark", "(II)I"⟩, 7) := ⟨⟨by decide +kernel, by decide +kernel⟩, List.mem_of_getElem? (i := 530) (by decide +kernel), List.mem_of_getElem? (i := 629) (by decide +kernel), List.mem_of_getElem? (i := 630) (by decide +kernel)⟩
theorem lw_p15 : lw_okq (⟨"PubQuizzesModel", "score", "(I)I"⟩, 7) := ⟨⟨by decide +kernel, by decide +kernel⟩, List.mem_of_getElem? (i := 530) (by decide +kernel), List.mem_of_getElem? (i := 645) (by decide +kernel), List.mem_of_getElem? (i := 646) (by decide +kernel)⟩
def lw_privs_1 : List (MethodName × Nat) := [(⟨"PubQuizzes$State", "withJoker", "(III)I"⟩, 12), (⟨"PubQuizzes$State", "isAhead", "(II)Z"⟩, 12), (⟨"PubQuizzes$State", "distanceOf", "(I)I"⟩, 12), (⟨"PubQuizzes$State", "prizeOfPlace", "(I)I"⟩, 12), (⟨"PubQuizzes$State", "isFirstWithItsScore", "(I)Z"⟩, 12), (⟨"PubQuizzes$State", "greatestMark", "(II)I"⟩, 12), (⟨"PubQuizzes$State", "canHandIn", "(II)Z"⟩, 12), (⟨"PubQuizzes$State", "wrongMarksToldBy", "(I)I"⟩, 12), (⟨"PubQuizzesModel", "record", "()V"⟩, 7), (⟨"PubQuizzesModel", "openRounds", "()I"⟩, 7), (⟨"PubQuizzesModel", "isOpen", "(I)Z"⟩, 7), (⟨"PubQuizzesModel", "isTeam", "(I)Z"⟩, 7), (⟨"PubQuizzesModel", "tellsTen", "(Z)Z"⟩, 7), (⟨"PubQuizzesModel", "teamsOf", "(II)I"⟩, 7), (⟨"PubQuizzesModel", "trueMark", "(II)I"⟩, 7), (⟨"PubQuizzesModel", "score", "(I)I"⟩, 7)]
theorem lw_r1 : ∀ q ∈ lw_privs_1, lw_okq q := List.forall_mem_cons.mpr ⟨lw_p0, List.forall_mem_cons.mpr ⟨lw_p1, List.forall_mem_cons.mpr ⟨lw_p2, List.forall_mem_cons.mpr ⟨lw_p3, List.forall_mem_cons.mpr ⟨lw_p4, List.forall_mem_cons.mpr ⟨lw_p5, List.forall_mem_cons.mpr ⟨lw_p6, List.forall_mem_cons.mpr ⟨lw_p7, List.forall_mem_cons.mpr ⟨lw_p8, List.forall_mem_cons.mpr ⟨lw_p9, List.forall_mem_cons.mpr ⟨lw_p10, List.forall_mem_cons.mpr ⟨lw_p11, List.forall_mem_cons.mpr ⟨lw_p12, List.forall_mem_cons.mpr ⟨lw_p13, List.forall_mem_cons.mpr ⟨lw_p14, List.forall_mem_cons.mpr ⟨lw_p15, fun _ h => absurd h List.not_mem_nil⟩⟩⟩⟩⟩⟩⟩⟩⟩⟩⟩⟩⟩⟩⟩⟩
theorem lw_p16 : lw_okq (⟨"PubQuizzesModel", "points", "(II)I"⟩, 7) := ⟨⟨by decide +kernel, by decide +kernel⟩, List.mem_of_getElem? (i := 530) (by decide +kernel), List.mem_of_getElem? (i := 649) (by decide +kernel), List.mem_of_getElem? (i := 650) (by decide +kernel)⟩
theorem lw_p17 : lw_okq (⟨"PubQuizzesModel", "markOf", "(II)I"⟩, 7) := ⟨⟨by decide +kernel, by decide +kernel⟩, List.mem_of_getElem? (i := 530) (by decide +kernel), List.mem_of_getElem? (i := 653) (by decide +kernel), List.mem_of_getElem? (i := 654) (by decide +kernel)⟩
theorem lw_p18 : lw_okq (⟨"PubQuizzesModel", "rank", "(I)I"⟩, 7) := ⟨⟨by decide +kernel, by decide +kernel⟩, List.mem_of_getElem? (i := 530) (by decide +kernel), List.mem_of_getElem? (i := 657) (by decide +kernel), List.mem_of_getElem? (i := 658) (by decide +kernel)⟩
theorem lw_p19 : lw_okq (⟨"PubQuizzesModel", "isAhead", "(II)Z"⟩, 7) := ⟨⟨by decide +kernel, by decide +kernel⟩, List.mem_of_getElem? (i := 530) (by decide +kernel), List.mem_of_getElem? (i := 661) (by decide +kernel), List.mem_of_getElem? (i := 662) (by decide +kernel)⟩
theorem lw_p20 : lw_okq (⟨"PubQuizzesModel", "far", "(I)I"⟩, 7) := ⟨⟨by decide +kernel, by decide +kernel⟩, List.mem_of_getElem? (i := 530) (by decide +kernel), List.mem_of_getElem? (i := 665) (by decide +kernel), List.mem_of_getElem? (i := 666) (by decide +kernel)⟩
theorem lw_p21 : lw_okq (⟨"PubQuizzesModel", "prize", "(I)I"⟩, 7) := ⟨⟨by decide +kernel, by decide +kernel⟩, List.mem_of_getElem? (i := 530) (by decide +kernel), List.mem_of_getElem? (i := 670) (by decide +kernel), List.mem_of_getElem? (i := 671) (by decide +kernel)⟩
theorem lw_p22 : lw_okq (⟨"PubQuizzesModel", "tied", "(I)I"⟩, 7) := ⟨⟨by decide +kernel, by decide +kernel⟩, List.mem_of_getElem? (i := 530) (by decide +kernel), List.mem_of_getElem? (i := 674) (by decide +kernel), List.mem_of_getElem? (i := 675) (by decide +kernel)⟩
theorem lw_p23 : lw_okq (⟨"PubQuizzesModel", "placeGets", "(I)I"⟩, 7) := ⟨⟨by decide +kernel, by decide +kernel⟩, List.mem_of_getElem? (i := 530) (by decide +kernel), List.mem_of_getElem? (i := 678) (by decide +kernel), List.mem_of_getElem? (i := 679) (by decide +kernel)⟩
theorem lw_p24 : lw_okq (⟨"PubQuizzesModel", "entries", "()I"⟩, 7) := ⟨⟨by decide +kernel, by decide +kernel⟩, List.mem_of_getElem? (i := 530) (by decide +kernel), List.mem_of_getElem? (i := 682) (by decide +kernel), List.mem_of_getElem? (i := 683) (by decide +kernel)⟩
theorem lw_p25 : lw_okq (⟨"PubQuizzesModel", "kept", "()I"⟩, 7) := ⟨⟨by decide +kernel, by decide +kernel⟩, List.mem_of_getElem? (i := 530) (by decide +kernel), List.mem_of_getElem? (i := 686) (by decide +kernel), List.mem_of_getElem? (i := 687) (by decide +kernel)⟩
theorem lw_p26 : lw_okq (⟨"PubQuizzesModel", "roundsOf", "(II)I"⟩, 7) := ⟨⟨by decide +kernel, by decide +kernel⟩, List.mem_of_getElem? (i := 530) (by decide +kernel), List.mem_of_getElem? (i := 690) (by decide +kernel), List.mem_of_getElem? (i := 691) (by decide +kernel)⟩
theorem lw_p27 : lw_okq (⟨"PubQuizzesModel", "greatest", "(I)I"⟩, 7) := ⟨⟨by decide +kernel, by decide +kernel⟩, List.mem_of_getElem? (i := 530) (by decide +kernel), List.mem_of_getElem? (i := 698) (by decide +kernel), List.mem_of_getElem? (i := 699) (by decide +kernel)⟩
theorem lw_p28 : lw_okq (⟨"PubQuizzesModel", "isSheet", "(II)Z"⟩, 7) := ⟨⟨by decide +kernel, by decide +kernel⟩, List.mem_of_getElem? (i := 530) (by decide +kernel), List.mem_of_getElem? (i := 706) (by decide +kernel), List.mem_of_getElem? (i := 707) (by decide +kernel)⟩
theorem lw_p29 : lw_okq (⟨"PubQuizzesModel", "answered", "(I)I"⟩, 7) := ⟨⟨by decide +kernel, by decide +kernel⟩, List.mem_of_getElem? (i := 530) (by decide +kernel), List.mem_of_getElem? (i := 710) (by decide +kernel), List.mem_of_getElem? (i := 711) (by decide +kernel)⟩
theorem lw_p30 : lw_okq (⟨"PubQuizzesModel", "fines", "()I"⟩, 7) := ⟨⟨by decide +kernel, by decide +kernel⟩, List.mem_of_getElem? (i := 530) (by decide +kernel), List.mem_of_getElem? (i := 726) (by decide +kernel), List.mem_of_getElem? (i := 727) (by decide +kernel)⟩
theorem lw_p31 : lw_okq (⟨"PubQuizzesModel", "unlike", "()I"⟩, 7) := ⟨⟨by decide +kernel, by decide +kernel⟩, List.mem_of_getElem? (i := 530) (by decide +kernel), List.mem_of_getElem? (i := 730) (by decide +kernel), List.mem_of_getElem? (i := 731) (by decide +kernel)⟩
def lw_privs_2 : List (MethodName × Nat) := [(⟨"PubQuizzesModel", "points", "(II)I"⟩, 7), (⟨"PubQuizzesModel", "markOf", "(II)I"⟩, 7), (⟨"PubQuizzesModel", "rank", "(I)I"⟩, 7), (⟨"PubQuizzesModel", "isAhead", "(II)Z"⟩, 7), (⟨"PubQuizzesModel", "far", "(I)I"⟩, 7), (⟨"PubQuizzesModel", "prize", "(I)I"⟩, 7), (⟨"PubQuizzesModel", "tied", "(I)I"⟩, 7), (⟨"PubQuizzesModel", "placeGets", "(I)I"⟩, 7), (⟨"PubQuizzesModel", "entries", "()I"⟩, 7), (⟨"PubQuizzesModel", "kept", "()I"⟩, 7), (⟨"PubQuizzesModel", "roundsOf", "(II)I"⟩, 7), (⟨"PubQuizzesModel", "greatest", "(I)I"⟩, 7), (⟨"PubQuizzesModel", "isSheet", "(II)Z"⟩, 7), (⟨"PubQuizzesModel", "answered", "(I)I"⟩, 7), (⟨"PubQuizzesModel", "fines", "()I"⟩, 7), (⟨"PubQuizzesModel", "unlike", "()I"⟩, 7)]
theorem lw_r2 : ∀ q ∈ lw_privs_2, lw_okq q := List.forall_mem_cons.mpr ⟨lw_p16, List.forall_mem_cons.mpr ⟨lw_p17, List.forall_mem_cons.mpr ⟨lw_p18, List.forall_mem_cons.mpr ⟨lw_p19, List.forall_mem_cons.mpr ⟨lw_p20, List.forall_mem_cons.mpr ⟨lw_p21, List.forall_mem_cons.mpr ⟨lw_p22, List.forall_mem_cons.mpr ⟨lw_p23, List.forall_mem_cons.mpr ⟨lw_p24, List.forall_mem_cons.mpr ⟨lw_p25, List.forall_mem_cons.mpr ⟨lw_p26, List.forall_mem_cons.mpr ⟨lw_p27, List.forall_mem_cons.mpr ⟨lw_p28, List.forall_mem_cons.mpr ⟨lw_p29, List.forall_mem_cons.mpr ⟨lw_p30, List.forall_mem_cons.mpr ⟨lw_p31, fun _ h => absurd h List.not_mem_nil⟩⟩⟩⟩⟩⟩⟩⟩⟩⟩⟩⟩⟩⟩⟩⟩
theorem lw_p32 : lw_okq (⟨"PubQuizzesModel", "reaches", "(I)I"⟩, 7) := ⟨⟨by decide +kernel, by decide +kernel⟩, List.mem_of_getElem? (i := 530) (by decide +kernel), List.mem_of_getElem? (i := 743) (by decide +kernel), List.mem_of_getElem? (i := 744) (by decide +kernel)⟩
theorem lw_p33 : lw_okq (⟨"PubQuizzesModel", "isWrong", "(II)Z"⟩, 7) := ⟨⟨by decide +kernel, by decide +kernel⟩, List.mem_of_getElem? (i := 530) (by decide +kernel), List.mem_of_getElem? (i := 755) (by decide +kernel), List.mem_of_getElem? (i := 756) (by decide +kernel)⟩
def lw_privs_3 : List (MethodName × Nat) := [(⟨"PubQuizzesModel", "reaches", "(I)I"⟩, 7), (⟨"PubQuizzesModel", "isWrong", "(II)Z"⟩, 7)]
theorem lw_r3 : ∀ q ∈ lw_privs_3, lw_okq q := List.forall_mem_cons.mpr ⟨lw_p32, List.forall_mem_cons.mpr ⟨lw_p33, fun _ h => absurd h List.not_mem_nil⟩⟩
def lw_privs : List (MethodName × Nat) := lw_privs_1 ++ (lw_privs_2 ++ (lw_privs_3))
def lw_tbl : List Cond := k2_sels lw_privs ++ tables_1
theorem lw_privs_ok : ∀ q ∈ lw_privs, lw_okq q := by
  show ∀ q ∈ lw_privs_1 ++ (lw_privs_2 ++ (lw_privs_3)), lw_okq q
  exact List.forall_mem_append.mpr ⟨lw_r1, List.forall_mem_append.mpr ⟨lw_r2, lw_r3⟩⟩
-- ===== end of PART A; then your names; then what follows =====
end
section
/-! ===== BEGIN words of one list among another's, by their places ===== -/
theorem goodIn_r {big : List Cond} (ws : List Cond) (ps : List Nat) (hp : ws = ps.filterMap (fun i => big[i]?)) (h : ws.all goodWord = true) : GoodIn big ws := by
  intro w hw
  have h1 := List.all_eq_true.mp h w hw
  rw [hp] at hw
  obtain ⟨i, -, hi⟩ := List.mem_filterMap.mp hw
  have hm : w ∈ big := by first | exact List.mem_of_getElem? hi | exact List.getElem?_mem hi
  exact ⟨hm, good_of_word h1⟩
theorem goodIn_app {big a b : List Cond} (ha : GoodIn big a) (hb : GoodIn big b) : GoodIn big (a ++ b) := fun w h => (List.mem_append.mp h).elim (ha w) (hb w)
theorem goodIn_ca {big a b : List Cond} {c : Cond} (ha : GoodIn big (c :: a)) (hb : GoodIn big b) : GoodIn big (c :: (a ++ b)) := fun w h => (List.mem_cons.mp h).elim (fun e => ha w (List.mem_cons.mpr (Or.inl e))) (fun h => (List.mem_append.mp h).elim (fun h => ha w (List.mem_cons.mpr (Or.inr h))) (hb w))
theorem goodIn_sub {big ws : List Cond} (hm : ∀ w ∈ ws, w ∈ big) (h : ws.all goodWord = true) : GoodIn big ws := fun w hw => ⟨hm w hw, good_of_word (List.all_eq_true.mp h w hw)⟩
/-! ===== END ===== -/

/-! ===== BEGIN printed: names, fields, word lists, decode rows ===== -/
def RX0 : String := "PubQuizzes$History"
def TX0 : u_T := fun k => match k with
  | 0 => ("PubQuizzes$History", "states", "[LPubQuizzes$State;", true)
  | 1 => ("PubQuizzes$History", "next", "I", false)
  | _ => ("PubQuizzes$History", "length", "I", false)
def tyX0 : Nat → FieldType := fun k => match k with
  | 0 => .array (.object "PubQuizzes$State")
  | 1 => .int
  | _ => .int
abbrev wsX00 : List Cond := u_ws RX0 TX0 3
theorem nmX0 : ∀ a, a < 3 → ∀ b, b < 3 → a ≠ b → (TX0 a).2.1 ≠ (TX0 b).2.1 := by decide +kernel
theorem tyX0_ok : ∀ k, k < 3 → parseFieldDescriptor (TX0 k).2.2.1 = some (tyX0 k) := by decide +kernel
abbrev cX0_init : ByteArray := prog_2_method_1_code
def yX0_init : MethodName := ⟨RX0, "<init>", "()V"⟩
abbrev cX0_length : ByteArray := prog_2_method_2_code
def yX0_length : MethodName := ⟨RX0, "length", "()I"⟩
abbrev cX0_record : ByteArray := prog_2_method_3_code
def yX0_record : MethodName := ⟨RX0, "record", "(LPubQuizzes$State;)V"⟩
abbrev cX0_takeBack : ByteArray := prog_2_method_4_code
def yX0_takeBack : MethodName := ⟨RX0, "takeBack", "(LPubQuizzes$State;)V"⟩
def RX1 : String := "PubQuizzes$Pad"
def TX1 : u_T := fun k => match k with
  | 0 => ("PubQuizzes$Pad", "codes", "[I", true)
  | _ => ("PubQuizzes$Pad", "length", "I", false)
def tyX1 : Nat → FieldType := fun k => match k with
  | 0 => .array .int
  | _ => .int
abbrev wsX10 : List Cond := u_ws RX1 TX1 2
theorem nmX1 : ∀ a, a < 2 → ∀ b, b < 2 → a ≠ b → (TX1 a).2.1 ≠ (TX1 b).2.1 := by decide +kernel
theorem tyX1_ok : ∀ k, k < 2 → parseFieldDescriptor (TX1 k).2.2.1 = some (tyX1 k) := by decide +kernel
abbrev cX1_init : ByteArray := prog_3_method_1_code
def yX1_init : MethodName := ⟨RX1, "<init>", "()V"⟩
abbrev cX1_charactersIn : ByteArray := prog_3_method_2_code
def yX1_charactersIn : MethodName := ⟨RX1, "charactersIn", "(J)I"⟩
abbrev cX1_length : ByteArray := prog_3_method_3_code
def yX1_length : MethodName := ⟨RX1, "length", "()I"⟩
abbrev cX1_clear : ByteArray := prog_3_method_4_code
def yX1_clear : MethodName := ⟨RX1, "clear", "()V"⟩
abbrev cX1_append : ByteArray := prog_3_method_5_code
def yX1_append : MethodName := ⟨RX1, "append", "(JI)Z"⟩
abbrev cX1_faultIndex : ByteArray := prog_3_method_6_code
def yX1_faultIndex : MethodName := ⟨RX1, "faultIndex", "()I"⟩
abbrev cX1_tellsSheet : ByteArray := prog_3_method_7_code
def yX1_tellsSheet : MethodName := ⟨RX1, "tellsSheet", "()Z"⟩
abbrev cX1_tellsKey : ByteArray := prog_3_method_8_code
def yX1_tellsKey : MethodName := ⟨RX1, "tellsKey", "()Z"⟩
abbrev cX1_signs : ByteArray := prog_3_method_9_code
def yX1_signs : MethodName := ⟨RX1, "signs", "()J"⟩
abbrev cX1_isSign : ByteArray := prog_3_method_10_code
def yX1_isSign : MethodName := ⟨RX1, "isSign", "(I)Z"⟩
abbrev cX1_isDigit : ByteArray := prog_3_method_11_code
def yX1_isDigit : MethodName := ⟨RX1, "isDigit", "(I)Z"⟩
def RX2 : String := "PubQuizzes$Signs"
def TX2 : u_T := fun k => match k with
  | _ => ("", "", "", false)
def tyX2 : Nat → FieldType := fun k => match k with
  | _ => .int
abbrev wsX20 : List Cond := u_ws RX2 TX2 0
theorem nmX2 : ∀ a, a < 0 → ∀ b, b < 0 → a ≠ b → (TX2 a).2.1 ≠ (TX2 b).2.1 := by decide +kernel
theorem tyX2_ok : ∀ k, k < 0 → parseFieldDescriptor (TX2 k).2.2.1 = some (tyX2 k) := by decide +kernel
abbrev cX2_signAt : ByteArray := prog_4_method_2_code
def yX2_signAt : MethodName := ⟨RX2, "signAt", "(JI)I"⟩
abbrev cX2_withSign : ByteArray := prog_4_method_3_code
def yX2_withSign : MethodName := ⟨RX2, "withSign", "(JII)J"⟩
def RX3 : String := "PubQuizzes$State"
def TX3 : u_T := fun k => match k with
  | 0 => ("PubQuizzes$State", "settings", "[I", true)
  | 1 => ("PubQuizzes$State", "paid", "[I", true)
  | 2 => ("PubQuizzes$State", "jokers", "[I", true)
  | 3 => ("PubQuizzes$State", "fines", "[I", true)
  | 4 => ("PubQuizzes$State", "guesses", "[I", true)
  | 5 => ("PubQuizzes$State", "keys", "[J", true)
  | 6 => ("PubQuizzes$State", "sheets", "[J", true)
  | 7 => ("PubQuizzes$State", "marks", "[I", true)
  | 8 => ("PubQuizzes$State", "markers", "[I", true)
  | 9 => ("PubQuizzes$State", "looked", "[I", true)
  | 10 => ("PubQuizzes$State", "teams", "I", false)
  | _ => ("PubQuizzes$State", "truth", "I", false)
def tyX3 : Nat → FieldType := fun k => match k with
  | 0 => .array .int
  | 1 => .array .int
  | 2 => .array .int
  | 3 => .array .int
  | 4 => .array .int
  | 5 => .array .long
  | 6 => .array .long
  | 7 => .array .int
  | 8 => .array .int
  | 9 => .array .int
  | 10 => .int
  | _ => .int
abbrev wsX30 : List Cond := u_ws RX3 TX3 12
theorem nmX3 : ∀ a, a < 12 → ∀ b, b < 12 → a ≠ b → (TX3 a).2.1 ≠ (TX3 b).2.1 := by decide +kernel
theorem tyX3_ok : ∀ k, k < 12 → parseFieldDescriptor (TX3 k).2.2.1 = some (tyX3 k) := by decide +kernel
abbrev cX3_init : ByteArray := prog_5_method_1_code
def yX3_init : MethodName := ⟨RX3, "<init>", "()V"⟩
abbrev cX3_copy : ByteArray := prog_5_method_2_code
def yX3_copy : MethodName := ⟨RX3, "copy", "(LPubQuizzes$State;LPubQuizzes$State;)V"⟩
abbrev cX3_isTeam : ByteArray := prog_5_method_3_code
def yX3_isTeam : MethodName := ⟨RX3, "isTeam", "(I)Z"⟩
abbrev cX3_isOpen : ByteArray := prog_5_method_4_code
def yX3_isOpen : MethodName := ⟨RX3, "isOpen", "(I)Z"⟩
abbrev cX3_hasSheet : ByteArray := prog_5_method_5_code
def yX3_hasSheet : MethodName := ⟨RX3, "hasSheet", "(II)Z"⟩
abbrev cX3_isTold : ByteArray := prog_5_method_6_code
def yX3_isTold : MethodName := ⟨RX3, "isTold", "(II)Z"⟩
abbrev cX3_isLooked : ByteArray := prog_5_method_7_code
def yX3_isLooked : MethodName := ⟨RX3, "isLooked", "(II)Z"⟩
abbrev cX3_markerOf : ByteArray := prog_5_method_8_code
def yX3_markerOf : MethodName := ⟨RX3, "markerOf", "(II)I"⟩
abbrev cX3_markOf : ByteArray := prog_5_method_9_code
def yX3_markOf : MethodName := ⟨RX3, "markOf", "(II)I"⟩
abbrev cX3_isWrong : ByteArray := prog_5_method_10_code
def yX3_isWrong : MethodName := ⟨RX3, "isWrong", "(II)Z"⟩
abbrev cX3_trueMark : ByteArray := prog_5_method_11_code
def yX3_trueMark : MethodName := ⟨RX3, "trueMark", "(II)I"⟩
abbrev cX3_answered : ByteArray := prog_5_method_12_code
def yX3_answered : MethodName := ⟨RX3, "answered", "(II)I"⟩
abbrev cX3_addFine : ByteArray := prog_5_method_13_code
def yX3_addFine : MethodName := ⟨RX3, "addFine", "(I)V"⟩
abbrev cX3_openRounds : ByteArray := prog_5_method_14_code
def yX3_openRounds : MethodName := ⟨RX3, "openRounds", "()I"⟩
abbrev cX3_roundsWithSheet : ByteArray := prog_5_method_15_code
def yX3_roundsWithSheet : MethodName := ⟨RX3, "roundsWithSheet", "(I)I"⟩
abbrev cX3_roundsTold : ByteArray := prog_5_method_16_code
def yX3_roundsTold : MethodName := ⟨RX3, "roundsTold", "(I)I"⟩
abbrev cX3_teamsWithSheet : ByteArray := prog_5_method_17_code
def yX3_teamsWithSheet : MethodName := ⟨RX3, "teamsWithSheet", "(I)I"⟩
abbrev cX3_teamsWithJoker : ByteArray := prog_5_method_18_code
def yX3_teamsWithJoker : MethodName := ⟨RX3, "teamsWithJoker", "(I)I"⟩
abbrev cX3_teamsTold : ByteArray := prog_5_method_19_code
def yX3_teamsTold : MethodName := ⟨RX3, "teamsTold", "(I)I"⟩
abbrev cX3_withJoker : ByteArray := prog_5_method_20_code
def yX3_withJoker : MethodName := ⟨RX3, "withJoker", "(III)I"⟩
abbrev cX3_pointsOf : ByteArray := prog_5_method_21_code
def yX3_pointsOf : MethodName := ⟨RX3, "pointsOf", "(II)I"⟩
abbrev cX3_greatestPoints : ByteArray := prog_5_method_22_code
def yX3_greatestPoints : MethodName := ⟨RX3, "greatestPoints", "(I)I"⟩
abbrev cX3_scoreOf : ByteArray := prog_5_method_23_code
def yX3_scoreOf : MethodName := ⟨RX3, "scoreOf", "(I)I"⟩
abbrev cX3_unlikeScores : ByteArray := prog_5_method_24_code
def yX3_unlikeScores : MethodName := ⟨RX3, "unlikeScores", "()I"⟩
abbrev cX3_isFirstWithItsScore : ByteArray := prog_5_method_25_code
def yX3_isFirstWithItsScore : MethodName := ⟨RX3, "isFirstWithItsScore", "(I)Z"⟩
abbrev cX3_allFines : ByteArray := prog_5_method_26_code
def yX3_allFines : MethodName := ⟨RX3, "allFines", "()I"⟩
abbrev cX3_allLooks : ByteArray := prog_5_method_27_code
def yX3_allLooks : MethodName := ⟨RX3, "allLooks", "()I"⟩
abbrev cX3_guessers : ByteArray := prog_5_method_28_code
def yX3_guessers : MethodName := ⟨RX3, "guessers", "()I"⟩
abbrev cX3_distanceOf : ByteArray := prog_5_method_29_code
def yX3_distanceOf : MethodName := ⟨RX3, "distanceOf", "(I)I"⟩
abbrev cX3_isAhead : ByteArray := prog_5_method_30_code
def yX3_isAhead : MethodName := ⟨RX3, "isAhead", "(II)Z"⟩
abbrev cX3_rankOf : ByteArray := prog_5_method_31_code
def yX3_rankOf : MethodName := ⟨RX3, "rankOf", "(I)I"⟩
abbrev cX3_tiedWith : ByteArray := prog_5_method_32_code
def yX3_tiedWith : MethodName := ⟨RX3, "tiedWith", "(I)I"⟩
abbrev cX3_lowerIn : ByteArray := prog_5_method_33_code
def yX3_lowerIn : MethodName := ⟨RX3, "lowerIn", "(II)I"⟩
abbrev cX3_placeOf : ByteArray := prog_5_method_34_code
def yX3_placeOf : MethodName := ⟨RX3, "placeOf", "(I)I"⟩
abbrev cX3_entries : ByteArray := prog_5_method_35_code
def yX3_entries : MethodName := ⟨RX3, "entries", "()I"⟩
abbrev cX3_ofTheHouse : ByteArray := prog_5_method_36_code
def yX3_ofTheHouse : MethodName := ⟨RX3, "ofTheHouse", "()I"⟩
abbrev cX3_pot : ByteArray := prog_5_method_37_code
def yX3_pot : MethodName := ⟨RX3, "pot", "()I"⟩
abbrev cX3_prizeOfPlace : ByteArray := prog_5_method_38_code
def yX3_prizeOfPlace : MethodName := ⟨RX3, "prizeOfPlace", "(I)I"⟩
abbrev cX3_prizeOf : ByteArray := prog_5_method_39_code
def yX3_prizeOf : MethodName := ⟨RX3, "prizeOf", "(I)I"⟩
abbrev cX3_scoreWithJokerOn : ByteArray := prog_5_method_40_code
def yX3_scoreWithJokerOn : MethodName := ⟨RX3, "scoreWithJokerOn", "(II)I"⟩
abbrev cX3_bestRound : ByteArray := prog_5_method_41_code
def yX3_bestRound : MethodName := ⟨RX3, "bestRound", "(I)I"⟩
abbrev cX3_canHandIn : ByteArray := prog_5_method_42_code
def yX3_canHandIn : MethodName := ⟨RX3, "canHandIn", "(II)Z"⟩
abbrev cX3_greatestMark : ByteArray := prog_5_method_43_code
def yX3_greatestMark : MethodName := ⟨RX3, "greatestMark", "(II)I"⟩
abbrev cX3_greatestScore : ByteArray := prog_5_method_44_code
def yX3_greatestScore : MethodName := ⟨RX3, "greatestScore", "(I)I"⟩
abbrev cX3_canReachOthers : ByteArray := prog_5_method_45_code
def yX3_canReachOthers : MethodName := ⟨RX3, "canReachOthers", "(I)Z"⟩
abbrev cX3_scoreIfLooked : ByteArray := prog_5_method_46_code
def yX3_scoreIfLooked : MethodName := ⟨RX3, "scoreIfLooked", "(I)I"⟩
abbrev cX3_wrongMarksToldBy : ByteArray := prog_5_method_47_code
def yX3_wrongMarksToldBy : MethodName := ⟨RX3, "wrongMarksToldBy", "(I)I"⟩
def RX4 : String := "PubQuizzes"
def TX4 : u_T := fun k => match k with
  | 0 => ("PubQuizzes", "now", "LPubQuizzes$State;", true)
  | 1 => ("PubQuizzes", "history", "LPubQuizzes$History;", true)
  | 2 => ("PubQuizzes", "pad", "LPubQuizzes$Pad;", true)
  | 3 => ("PubQuizzes", "slots", "[LPubQuizzes$State;", true)
  | _ => ("PubQuizzes", "saved", "[Z", true)
def tyX4 : Nat → FieldType := fun k => match k with
  | 0 => .object "PubQuizzes$State"
  | 1 => .object "PubQuizzes$History"
  | 2 => .object "PubQuizzes$Pad"
  | 3 => .array (.object "PubQuizzes$State")
  | _ => .array .boolean
abbrev wsX40 : List Cond := u_ws RX4 TX4 5
theorem nmX4 : ∀ a, a < 5 → ∀ b, b < 5 → a ≠ b → (TX4 a).2.1 ≠ (TX4 b).2.1 := by decide +kernel
theorem tyX4_ok : ∀ k, k < 5 → parseFieldDescriptor (TX4 k).2.2.1 = some (tyX4 k) := by decide +kernel
abbrev cX4_init : ByteArray := prog_1_method_1_code
def yX4_init : MethodName := ⟨RX4, "<init>", "()V"⟩
abbrev cX4_set : ByteArray := prog_1_method_2_code
def yX4_set : MethodName := ⟨RX4, "set", "(II)I"⟩
abbrev cX4_team : ByteArray := prog_1_method_3_code
def yX4_team : MethodName := ⟨RX4, "team", "()I"⟩
abbrev cX4_hand : ByteArray := prog_1_method_4_code
def yX4_hand : MethodName := ⟨RX4, "hand", "(II)I"⟩
abbrev cX4_joker : ByteArray := prog_1_method_5_code
def yX4_joker : MethodName := ⟨RX4, "joker", "(II)I"⟩
abbrev cX4_key : ByteArray := prog_1_method_6_code
def yX4_key : MethodName := ⟨RX4, "key", "(I)I"⟩
abbrev cX4_mark : ByteArray := prog_1_method_7_code
def yX4_mark : MethodName := ⟨RX4, "mark", "(IIII)I"⟩
abbrev cX4_look : ByteArray := prog_1_method_8_code
def yX4_look : MethodName := ⟨RX4, "look", "(II)I"⟩
abbrev cX4_guess : ByteArray := prog_1_method_9_code
def yX4_guess : MethodName := ⟨RX4, "guess", "(II)I"⟩
abbrev cX4_truth : ByteArray := prog_1_method_10_code
def yX4_truth : MethodName := ⟨RX4, "truth", "(I)I"⟩
abbrev cX4_ofTeam : ByteArray := prog_1_method_11_code
def yX4_ofTeam : MethodName := ⟨RX4, "ofTeam", "(II)I"⟩
abbrev cX4_ofRound : ByteArray := prog_1_method_12_code
def yX4_ofRound : MethodName := ⟨RX4, "ofRound", "(II)I"⟩
abbrev cX4_sheet : ByteArray := prog_1_method_13_code
def yX4_sheet : MethodName := ⟨RX4, "sheet", "(III)I"⟩
abbrev cX4_answer : ByteArray := prog_1_method_14_code
def yX4_answer : MethodName := ⟨RX4, "answer", "(III)I"⟩
abbrev cX4_at : ByteArray := prog_1_method_15_code
def yX4_at : MethodName := ⟨RX4, "at", "(I)I"⟩
abbrev cX4_count : ByteArray := prog_1_method_16_code
def yX4_count : MethodName := ⟨RX4, "count", "(I)I"⟩
abbrev cX4_bestJoker : ByteArray := prog_1_method_17_code
def yX4_bestJoker : MethodName := ⟨RX4, "bestJoker", "(II)I"⟩
abbrev cX4_most : ByteArray := prog_1_method_18_code
def yX4_most : MethodName := ⟨RX4, "most", "(I)I"⟩
abbrev cX4_canWin : ByteArray := prog_1_method_19_code
def yX4_canWin : MethodName := ⟨RX4, "canWin", "()I"⟩
abbrev cX4_ifLooked : ByteArray := prog_1_method_20_code
def yX4_ifLooked : MethodName := ⟨RX4, "ifLooked", "(I)I"⟩
abbrev cX4_wrongMarks : ByteArray := prog_1_method_21_code
def yX4_wrongMarks : MethodName := ⟨RX4, "wrongMarks", "()I"⟩
abbrev cX4_put : ByteArray := prog_1_method_22_code
def yX4_put : MethodName := ⟨RX4, "put", "(J)I"⟩
abbrev cX4_wipe : ByteArray := prog_1_method_23_code
def yX4_wipe : MethodName := ⟨RX4, "wipe", "()I"⟩
abbrev cX4_fault : ByteArray := prog_1_method_24_code
def yX4_fault : MethodName := ⟨RX4, "fault", "()I"⟩
abbrev cX4_undo : ByteArray := prog_1_method_25_code
def yX4_undo : MethodName := ⟨RX4, "undo", "()I"⟩
abbrev cX4_save : ByteArray := prog_1_method_26_code
def yX4_save : MethodName := ⟨RX4, "save", "(I)I"⟩
abbrev cX4_restore : ByteArray := prog_1_method_27_code
def yX4_restore : MethodName := ⟨RX4, "restore", "(I)I"⟩
abbrev cX4_isRound : ByteArray := prog_1_method_28_code
def yX4_isRound : MethodName := ⟨RX4, "isRound", "(I)Z"⟩
abbrev cX4_isSlot : ByteArray := prog_1_method_29_code
def yX4_isSlot : MethodName := ⟨RX4, "isSlot", "(I)Z"⟩
abbrev cX4_indexOf : ByteArray := prog_1_method_30_code
def yX4_indexOf : MethodName := ⟨RX4, "indexOf", "(II)I"⟩
def RX5 : String := "PubQuizzesModel"
def TX5 : u_T := fun k => match k with
  | 0 => ("PubQuizzesModel", "s", "[I", true)
  | 1 => ("PubQuizzesModel", "before", "[I", true)
  | 2 => ("PubQuizzesModel", "saved", "[I", true)
  | 3 => ("PubQuizzesModel", "isSaved", "[Z", true)
  | 4 => ("PubQuizzesModel", "pad", "[C", true)
  | 5 => ("PubQuizzesModel", "length", "I", false)
  | _ => ("PubQuizzesModel", "states", "I", false)
def tyX5 : Nat → FieldType := fun k => match k with
  | 0 => .array .int
  | 1 => .array .int
  | 2 => .array .int
  | 3 => .array .boolean
  | 4 => .array .char
  | 5 => .int
  | _ => .int
abbrev wsX50 : List Cond := u_ws RX5 TX5 7
theorem nmX5 : ∀ a, a < 7 → ∀ b, b < 7 → a ≠ b → (TX5 a).2.1 ≠ (TX5 b).2.1 := by decide +kernel
theorem tyX5_ok : ∀ k, k < 7 → parseFieldDescriptor (TX5 k).2.2.1 = some (tyX5 k) := by decide +kernel
abbrev cX5_init : ByteArray := prog_7_method_1_code
def yX5_init : MethodName := ⟨RX5, "<init>", "()V"⟩
abbrev cX5_in : ByteArray := prog_7_method_2_code
def yX5_in : MethodName := ⟨RX5, "in", "(III)Z"⟩
abbrev cX5_r : ByteArray := prog_7_method_3_code
def yX5_r : MethodName := ⟨RX5, "r", "(I)I"⟩
abbrev cX5_t : ByteArray := prog_7_method_4_code
def yX5_t : MethodName := ⟨RX5, "t", "(I)I"⟩
abbrev cX5_h : ByteArray := prog_7_method_5_code
def yX5_h : MethodName := ⟨RX5, "h", "(II)I"⟩
abbrev cX5_isTeam : ByteArray := prog_7_method_6_code
def yX5_isTeam : MethodName := ⟨RX5, "isTeam", "(I)Z"⟩
abbrev cX5_isRound : ByteArray := prog_7_method_7_code
def yX5_isRound : MethodName := ⟨RX5, "isRound", "(I)Z"⟩
abbrev cX5_isOpen : ByteArray := prog_7_method_8_code
def yX5_isOpen : MethodName := ⟨RX5, "isOpen", "(I)Z"⟩
abbrev cX5_record : ByteArray := prog_7_method_9_code
def yX5_record : MethodName := ⟨RX5, "record", "()V"⟩
abbrev cX5_trueMark : ByteArray := prog_7_method_10_code
def yX5_trueMark : MethodName := ⟨RX5, "trueMark", "(II)I"⟩
abbrev cX5_markOf : ByteArray := prog_7_method_11_code
def yX5_markOf : MethodName := ⟨RX5, "markOf", "(II)I"⟩
abbrev cX5_points : ByteArray := prog_7_method_12_code
def yX5_points : MethodName := ⟨RX5, "points", "(II)I"⟩
abbrev cX5_score : ByteArray := prog_7_method_13_code
def yX5_score : MethodName := ⟨RX5, "score", "(I)I"⟩
abbrev cX5_far : ByteArray := prog_7_method_14_code
def yX5_far : MethodName := ⟨RX5, "far", "(I)I"⟩
abbrev cX5_isAhead : ByteArray := prog_7_method_15_code
def yX5_isAhead : MethodName := ⟨RX5, "isAhead", "(II)Z"⟩
abbrev cX5_rank : ByteArray := prog_7_method_16_code
def yX5_rank : MethodName := ⟨RX5, "rank", "(I)I"⟩
abbrev cX5_tied : ByteArray := prog_7_method_17_code
def yX5_tied : MethodName := ⟨RX5, "tied", "(I)I"⟩
abbrev cX5_entries : ByteArray := prog_7_method_18_code
def yX5_entries : MethodName := ⟨RX5, "entries", "()I"⟩
abbrev cX5_kept : ByteArray := prog_7_method_19_code
def yX5_kept : MethodName := ⟨RX5, "kept", "()I"⟩
abbrev cX5_placeGets : ByteArray := prog_7_method_20_code
def yX5_placeGets : MethodName := ⟨RX5, "placeGets", "(I)I"⟩
abbrev cX5_bits : ByteArray := prog_7_method_21_code
def yX5_bits : MethodName := ⟨RX5, "bits", "(I)I"⟩
abbrev cX5_prize : ByteArray := prog_7_method_22_code
def yX5_prize : MethodName := ⟨RX5, "prize", "(I)I"⟩
abbrev cX5_set : ByteArray := prog_7_method_23_code
def yX5_set : MethodName := ⟨RX5, "set", "(II)I"⟩
abbrev cX5_openRounds : ByteArray := prog_7_method_24_code
def yX5_openRounds : MethodName := ⟨RX5, "openRounds", "()I"⟩
abbrev cX5_team : ByteArray := prog_7_method_25_code
def yX5_team : MethodName := ⟨RX5, "team", "()I"⟩
abbrev cX5_tellsTen : ByteArray := prog_7_method_26_code
def yX5_tellsTen : MethodName := ⟨RX5, "tellsTen", "(Z)Z"⟩
abbrev cX5_hand : ByteArray := prog_7_method_27_code
def yX5_hand : MethodName := ⟨RX5, "hand", "(II)I"⟩
abbrev cX5_teamsOf : ByteArray := prog_7_method_28_code
def yX5_teamsOf : MethodName := ⟨RX5, "teamsOf", "(II)I"⟩
abbrev cX5_joker : ByteArray := prog_7_method_29_code
def yX5_joker : MethodName := ⟨RX5, "joker", "(II)I"⟩
abbrev cX5_key : ByteArray := prog_7_method_30_code
def yX5_key : MethodName := ⟨RX5, "key", "(I)I"⟩
abbrev cX5_mark : ByteArray := prog_7_method_31_code
def yX5_mark : MethodName := ⟨RX5, "mark", "(IIII)I"⟩
abbrev cX5_look : ByteArray := prog_7_method_32_code
def yX5_look : MethodName := ⟨RX5, "look", "(II)I"⟩
abbrev cX5_guess : ByteArray := prog_7_method_33_code
def yX5_guess : MethodName := ⟨RX5, "guess", "(II)I"⟩
abbrev cX5_truth : ByteArray := prog_7_method_34_code
def yX5_truth : MethodName := ⟨RX5, "truth", "(I)I"⟩
abbrev cX5_roundsOf : ByteArray := prog_7_method_35_code
def yX5_roundsOf : MethodName := ⟨RX5, "roundsOf", "(II)I"⟩
abbrev cX5_ofTeam : ByteArray := prog_7_method_36_code
def yX5_ofTeam : MethodName := ⟨RX5, "ofTeam", "(II)I"⟩
abbrev cX5_greatest : ByteArray := prog_7_method_37_code
def yX5_greatest : MethodName := ⟨RX5, "greatest", "(I)I"⟩
abbrev cX5_ofRound : ByteArray := prog_7_method_38_code
def yX5_ofRound : MethodName := ⟨RX5, "ofRound", "(II)I"⟩
abbrev cX5_isSheet : ByteArray := prog_7_method_39_code
def yX5_isSheet : MethodName := ⟨RX5, "isSheet", "(II)Z"⟩
abbrev cX5_answered : ByteArray := prog_7_method_40_code
def yX5_answered : MethodName := ⟨RX5, "answered", "(I)I"⟩
abbrev cX5_sheet : ByteArray := prog_7_method_41_code
def yX5_sheet : MethodName := ⟨RX5, "sheet", "(III)I"⟩
abbrev cX5_answer : ByteArray := prog_7_method_42_code
def yX5_answer : MethodName := ⟨RX5, "answer", "(III)I"⟩
abbrev cX5_at : ByteArray := prog_7_method_43_code
def yX5_at : MethodName := ⟨RX5, "at", "(I)I"⟩
abbrev cX5_fines : ByteArray := prog_7_method_44_code
def yX5_fines : MethodName := ⟨RX5, "fines", "()I"⟩
abbrev cX5_unlike : ByteArray := prog_7_method_45_code
def yX5_unlike : MethodName := ⟨RX5, "unlike", "()I"⟩
abbrev cX5_count : ByteArray := prog_7_method_46_code
def yX5_count : MethodName := ⟨RX5, "count", "(I)I"⟩
abbrev cX5_bestJoker : ByteArray := prog_7_method_47_code
def yX5_bestJoker : MethodName := ⟨RX5, "bestJoker", "(II)I"⟩
abbrev cX5_reaches : ByteArray := prog_7_method_48_code
def yX5_reaches : MethodName := ⟨RX5, "reaches", "(I)I"⟩
abbrev cX5_most : ByteArray := prog_7_method_49_code
def yX5_most : MethodName := ⟨RX5, "most", "(I)I"⟩
abbrev cX5_canWin : ByteArray := prog_7_method_50_code
def yX5_canWin : MethodName := ⟨RX5, "canWin", "()I"⟩
abbrev cX5_isWrong : ByteArray := prog_7_method_51_code
def yX5_isWrong : MethodName := ⟨RX5, "isWrong", "(II)Z"⟩
abbrev cX5_ifLooked : ByteArray := prog_7_method_52_code
def yX5_ifLooked : MethodName := ⟨RX5, "ifLooked", "(I)I"⟩
abbrev cX5_wrongMarks : ByteArray := prog_7_method_53_code
def yX5_wrongMarks : MethodName := ⟨RX5, "wrongMarks", "()I"⟩
abbrev cX5_put : ByteArray := prog_7_method_54_code
def yX5_put : MethodName := ⟨RX5, "put", "(J)I"⟩
abbrev cX5_wipe : ByteArray := prog_7_method_55_code
def yX5_wipe : MethodName := ⟨RX5, "wipe", "()I"⟩
abbrev cX5_fault : ByteArray := prog_7_method_56_code
def yX5_fault : MethodName := ⟨RX5, "fault", "()I"⟩
abbrev cX5_undo : ByteArray := prog_7_method_57_code
def yX5_undo : MethodName := ⟨RX5, "undo", "()I"⟩
abbrev cX5_save : ByteArray := prog_7_method_58_code
def yX5_save : MethodName := ⟨RX5, "save", "(I)I"⟩
abbrev cX5_restore : ByteArray := prog_7_method_59_code
def yX5_restore : MethodName := ⟨RX5, "restore", "(I)I"⟩
def RJ6 : String := "java/lang/Integer"
def TJ6 : u_T := fun k => match k with
  | _ => ("", "", "", false)
def tyJ6 : Nat → FieldType := fun k => match k with
  | _ => .int
abbrev wsJ60 : List Cond := u_ws RJ6 TJ6 0
theorem nmJ6 : ∀ a, a < 0 → ∀ b, b < 0 → a ≠ b → (TJ6 a).2.1 ≠ (TJ6 b).2.1 := by decide +kernel
theorem tyJ6_ok : ∀ k, k < 0 → parseFieldDescriptor (TJ6 k).2.2.1 = some (tyJ6 k) := by decide +kernel
abbrev cJ6_bitCount_0f7a4 : ByteArray := prog_8_method_49_code
def yJ6_bitCount_0f7a4 : MethodName := ⟨RJ6, "bitCount", "(I)I"⟩
def RJ9 : String := "java/lang/Math"
def TJ9 : u_T := fun k => match k with
  | _ => ("", "", "", false)
def tyJ9 : Nat → FieldType := fun k => match k with
  | _ => .int
abbrev wsJ90 : List Cond := u_ws RJ9 TJ9 0
theorem nmJ9 : ∀ a, a < 0 → ∀ b, b < 0 → a ≠ b → (TJ9 a).2.1 ≠ (TJ9 b).2.1 := by decide +kernel
theorem tyJ9_ok : ∀ k, k < 0 → parseFieldDescriptor (TJ9 k).2.2.1 = some (tyJ9 k) := by decide +kernel
abbrev cJ9_abs_0f7a4 : ByteArray := prog_9_method_59_code
def yJ9_abs_0f7a4 : MethodName := ⟨RJ9, "abs", "(I)I"⟩
abbrev cJ9_max_7cf53 : ByteArray := prog_9_method_65_code
def yJ9_max_7cf53 : MethodName := ⟨RJ9, "max", "(II)I"⟩
abbrev cJ9_min_7cf53 : ByteArray := prog_9_method_69_code
def yJ9_min_7cf53 : MethodName := ⟨RJ9, "min", "(II)I"⟩
def RJ10 : String := "java/lang/System"
def TJ10 : u_T := fun k => match k with
  | _ => ("", "", "", false)
def tyJ10 : Nat → FieldType := fun k => match k with
  | _ => .int
abbrev wsJ100 : List Cond := u_ws RJ10 TJ10 0
theorem nmJ10 : ∀ a, a < 0 → ∀ b, b < 0 → a ≠ b → (TJ10 a).2.1 ≠ (TJ10 b).2.1 := by decide +kernel
theorem tyJ10_ok : ∀ k, k < 0 → parseFieldDescriptor (TJ10 k).2.2.1 = some (tyJ10 k) := by decide +kernel
def RJ7 : String := "java/util/Arrays"
def TJ7 : u_T := fun k => match k with
  | _ => ("", "", "", false)
def tyJ7 : Nat → FieldType := fun k => match k with
  | _ => .int
abbrev wsJ70 : List Cond := u_ws RJ7 TJ7 0
theorem nmJ7 : ∀ a, a < 0 → ∀ b, b < 0 → a ≠ b → (TJ7 a).2.1 ≠ (TJ7 b).2.1 := by decide +kernel
theorem tyJ7_ok : ∀ k, k < 0 → parseFieldDescriptor (TJ7 k).2.2.1 = some (tyJ7 k) := by decide +kernel
abbrev cJ7_fill_d0a16 : ByteArray := prog_11_method_101_code
def yJ7_fill_d0a16 : MethodName := ⟨RJ7, "fill", "([JJ)V"⟩
abbrev cJ7_fill_53178 : ByteArray := prog_11_method_103_code
def yJ7_fill_53178 : MethodName := ⟨RJ7, "fill", "([II)V"⟩
def RL : String := "PubQuizzesLaw"
abbrev cL_law : ByteArray := code
def yL_law : MethodName := ⟨RL, "law", "([I)Z"⟩
def wsJ7_fill_53178 : List Cond := .code yJ7_fill_53178 cJ7_fill_53178 4 none :: ([])
def wsJ7_fill_d0a16 : List Cond := .code yJ7_fill_d0a16 cJ7_fill_d0a16 5 none :: ([])
def wsX3_init : List Cond := .code yX3_init cX3_init 1 none :: ([.methodLink RX3 3 objectInit, .instanceMethod objectInit, .code objectInit ⟨#[0xb1]⟩ 1 none, .arrayClass .int, .fieldLink RX3 9 "PubQuizzes$State" "settings" "[I", .fieldLink RX3 15 "PubQuizzes$State" "paid" "[I", .fieldLink RX3 18 "PubQuizzes$State" "jokers" "[I", .fieldLink RX3 21 "PubQuizzes$State" "fines" "[I", .fieldLink RX3 24 "PubQuizzes$State" "guesses" "[I", .arrayClass .long, .fieldLink RX3 27 "PubQuizzes$State" "keys" "[J", .fieldLink RX3 31 "PubQuizzes$State" "sheets" "[J", .fieldLink RX3 34 "PubQuizzes$State" "marks" "[I", .fieldLink RX3 37 "PubQuizzes$State" "markers" "[I", .fieldLink RX3 40 "PubQuizzes$State" "looked" "[I", .fieldLink RX3 43 "PubQuizzes$State" "truth" "I", .constantLong RX3 55 (-1), .methodLink RX3 47 yJ7_fill_53178, .static yJ7_fill_53178, .initialized RJ7, .code yJ7_fill_53178 cJ7_fill_53178 4 none, .methodLink RX3 57 yJ7_fill_d0a16, .static yJ7_fill_d0a16, .code yJ7_fill_d0a16 cJ7_fill_d0a16 5 none] ++ wsX30)
def wsX0_init_r1 : List Cond := [Cond.methodLink RX0 1 objectInit, Cond.instanceMethod objectInit, Cond.code objectInit ⟨#[0xb1]⟩ 1 none, Cond.classLink RX0 9 RX3, Cond.fieldLink RX0 11 "PubQuizzes$History" "states" "[LPubQuizzes$State;", Cond.instantiable RX3 12, Cond.initialized RX3, Cond.methodLink RX0 15 yX3_init, Cond.instanceMethod yX3_init, Cond.code yX3_init cX3_init 1 none, Cond.methodLink RX3 3 objectInit, Cond.arrayClass .int, Cond.fieldLink RX3 9 "PubQuizzes$State" "settings" "[I", Cond.fieldLink RX3 15 "PubQuizzes$State" "paid" "[I", Cond.fieldLink RX3 18 "PubQuizzes$State" "jokers" "[I", Cond.fieldLink RX3 21 "PubQuizzes$State" "fines" "[I", Cond.fieldLink RX3 24 "PubQuizzes$State" "guesses" "[I", Cond.arrayClass .long, Cond.fieldLink RX3 27 "PubQuizzes$State" "keys" "[J", Cond.fieldLink RX3 31 "PubQuizzes$State" "sheets" "[J", Cond.fieldLink RX3 34 "PubQuizzes$State" "marks" "[I", Cond.fieldLink RX3 37 "PubQuizzes$State" "markers" "[I", Cond.fieldLink RX3 40 "PubQuizzes$State" "looked" "[I", Cond.fieldLink RX3 43 "PubQuizzes$State" "truth" "I"]
def wsX0_init_r2 : List Cond := [Cond.constantLong RX3 55 (-1), Cond.methodLink RX3 47 yJ7_fill_53178, Cond.static yJ7_fill_53178, Cond.initialized RJ7, Cond.code yJ7_fill_53178 cJ7_fill_53178 4 none, Cond.methodLink RX3 57 yJ7_fill_d0a16, Cond.static yJ7_fill_d0a16, Cond.code yJ7_fill_d0a16 cJ7_fill_d0a16 5 none]
def wsX0_init : List Cond := .code yX0_init cX0_init 2 none :: ((wsX0_init_r1 ++ wsX0_init_r2) ++ wsX00 ++ wsX30)
def wsX0_length : List Cond := .code yX0_length cX0_length 1 (some .int) :: ([.fieldLink RX0 16 "PubQuizzes$History" "length" "I"] ++ wsX00)
def wsX3_copy : List Cond := .code yX3_copy cX3_copy 2 none :: ([.fieldLink RX3 9 "PubQuizzes$State" "settings" "[I", .methodLink RX3 60 arraycopyName, .native arraycopyName, .static arraycopyName, .initialized "java/lang/System", .fieldLink RX3 15 "PubQuizzes$State" "paid" "[I", .fieldLink RX3 18 "PubQuizzes$State" "jokers" "[I", .fieldLink RX3 21 "PubQuizzes$State" "fines" "[I", .fieldLink RX3 24 "PubQuizzes$State" "guesses" "[I", .fieldLink RX3 27 "PubQuizzes$State" "keys" "[J", .fieldLink RX3 31 "PubQuizzes$State" "sheets" "[J", .fieldLink RX3 34 "PubQuizzes$State" "marks" "[I", .fieldLink RX3 37 "PubQuizzes$State" "markers" "[I", .fieldLink RX3 40 "PubQuizzes$State" "looked" "[I", .fieldLink RX3 66 "PubQuizzes$State" "teams" "I", .fieldLink RX3 43 "PubQuizzes$State" "truth" "I"] ++ wsX30)
def wsX0_record_r1 : List Cond := [Cond.fieldLink RX0 20 "PubQuizzes$History" "next" "I", Cond.fieldLink RX0 11 "PubQuizzes$History" "states" "[LPubQuizzes$State;", Cond.fieldLink RX0 16 "PubQuizzes$History" "length" "I", Cond.methodLink RX0 27 Lib.Math.min.name, Cond.static Lib.Math.min.name, Cond.initialized "java/lang/Math", Cond.code Lib.Math.min.name Lib.Math.min.code 2 (some .int), Cond.methodLink RX0 23 yX3_copy, Cond.static yX3_copy, Cond.initialized RX3, Cond.code yX3_copy cX3_copy 2 none, Cond.fieldLink RX3 9 "PubQuizzes$State" "settings" "[I", Cond.methodLink RX3 60 arraycopyName, Cond.native arraycopyName, Cond.static arraycopyName, Cond.initialized "java/lang/System", Cond.fieldLink RX3 15 "PubQuizzes$State" "paid" "[I", Cond.fieldLink RX3 18 "PubQuizzes$State" "jokers" "[I", Cond.fieldLink RX3 21 "PubQuizzes$State" "fines" "[I", Cond.fieldLink RX3 24 "PubQuizzes$State" "guesses" "[I", Cond.fieldLink RX3 27 "PubQuizzes$State" "keys" "[J", Cond.fieldLink RX3 31 "PubQuizzes$State" "sheets" "[J", Cond.fieldLink RX3 34 "PubQuizzes$State" "marks" "[I", Cond.fieldLink RX3 37 "PubQuizzes$State" "markers" "[I"]
def wsX0_record_r2 : List Cond := [Cond.fieldLink RX3 40 "PubQuizzes$State" "looked" "[I", Cond.fieldLink RX3 66 "PubQuizzes$State" "teams" "I", Cond.fieldLink RX3 43 "PubQuizzes$State" "truth" "I"]
def wsX0_record : List Cond := .code yX0_record cX0_record 2 none :: ((wsX0_record_r1 ++ wsX0_record_r2) ++ wsX00 ++ wsX30)
def wsX0_takeBack : List Cond := .code yX0_takeBack cX0_takeBack 3 none :: ([.fieldLink RX0 20 "PubQuizzes$History" "next" "I", .fieldLink RX0 16 "PubQuizzes$History" "length" "I", .fieldLink RX0 11 "PubQuizzes$History" "states" "[LPubQuizzes$State;", .methodLink RX0 23 yX3_copy, .static yX3_copy, .initialized RX3, .code yX3_copy cX3_copy 2 none, .fieldLink RX3 9 "PubQuizzes$State" "settings" "[I", .methodLink RX3 60 arraycopyName, .native arraycopyName, .static arraycopyName, .initialized "java/lang/System", .fieldLink RX3 15 "PubQuizzes$State" "paid" "[I", .fieldLink RX3 18 "PubQuizzes$State" "jokers" "[I", .fieldLink RX3 21 "PubQuizzes$State" "fines" "[I", .fieldLink RX3 24 "PubQuizzes$State" "guesses" "[I", .fieldLink RX3 27 "PubQuizzes$State" "keys" "[J", .fieldLink RX3 31 "PubQuizzes$State" "sheets" "[J", .fieldLink RX3 34 "PubQuizzes$State" "marks" "[I", .fieldLink RX3 37 "PubQuizzes$State" "markers" "[I", .fieldLink RX3 40 "PubQuizzes$State" "looked" "[I", .fieldLink RX3 66 "PubQuizzes$State" "teams" "I", .fieldLink RX3 43 "PubQuizzes$State" "truth" "I"] ++ wsX00 ++ wsX30)
def wsX1_init : List Cond := .code yX1_init cX1_init 1 none :: ([.methodLink RX1 3 objectInit, .instanceMethod objectInit, .code objectInit ⟨#[0xb1]⟩ 1 none, .arrayClass .int, .fieldLink RX1 11 "PubQuizzes$Pad" "codes" "[I"] ++ wsX10)
def wsX1_charactersIn : List Cond := .code yX1_charactersIn cX1_charactersIn 6 (some .int) :: ([.constantLong RX1 15 (255)])
def wsX1_length : List Cond := .code yX1_length cX1_length 1 (some .int) :: ([.fieldLink RX1 17 "PubQuizzes$Pad" "length" "I"] ++ wsX10)
def wsX1_clear : List Cond := .code yX1_clear cX1_clear 1 none :: ([.fieldLink RX1 17 "PubQuizzes$Pad" "length" "I"] ++ wsX10)
def wsX1_append : List Cond := .code yX1_append cX1_append 8 (some .boolean) :: ([.fieldLink RX1 17 "PubQuizzes$Pad" "length" "I", .fieldLink RX1 11 "PubQuizzes$Pad" "codes" "[I", .constantLong RX1 15 (255)] ++ wsX10)
def wsX1_isDigit : List Cond := .code yX1_isDigit cX1_isDigit 1 (some .boolean) :: ([])
def wsX1_isSign : List Cond := .code yX1_isSign cX1_isSign 1 (some .boolean) :: ([.methodLink RX1 33 yX1_isDigit, .static yX1_isDigit, .initialized RX1, .code yX1_isDigit cX1_isDigit 1 (some .boolean)])
def wsX1_faultIndex : List Cond := .code yX1_faultIndex cX1_faultIndex 2 (some .int) :: ([.fieldLink RX1 17 "PubQuizzes$Pad" "length" "I", .fieldLink RX1 11 "PubQuizzes$Pad" "codes" "[I", .methodLink RX1 21 yX1_isSign, .static yX1_isSign, .initialized RX1, .code yX1_isSign cX1_isSign 1 (some .boolean), .methodLink RX1 33 yX1_isDigit, .static yX1_isDigit, .code yX1_isDigit cX1_isDigit 1 (some .boolean)] ++ wsX10)
def wsX1_tellsSheet : List Cond := .code yX1_tellsSheet cX1_tellsSheet 1 (some .boolean) :: ([.methodLink RX1 25 yX1_faultIndex, .instanceMethod yX1_faultIndex, .selects RX1 yX1_faultIndex yX1_faultIndex, .initialized RX1, .code yX1_faultIndex cX1_faultIndex 2 (some .int), .fieldLink RX1 17 "PubQuizzes$Pad" "length" "I", .fieldLink RX1 11 "PubQuizzes$Pad" "codes" "[I", .methodLink RX1 21 yX1_isSign, .static yX1_isSign, .code yX1_isSign cX1_isSign 1 (some .boolean), .methodLink RX1 33 yX1_isDigit, .static yX1_isDigit, .code yX1_isDigit cX1_isDigit 1 (some .boolean)] ++ wsX10)
def wsX1_tellsKey : List Cond := .code yX1_tellsKey cX1_tellsKey 2 (some .boolean) :: ([.fieldLink RX1 11 "PubQuizzes$Pad" "codes" "[I", .methodLink RX1 29 yX1_tellsSheet, .instanceMethod yX1_tellsSheet, .selects RX1 yX1_tellsSheet yX1_tellsSheet, .initialized RX1, .code yX1_tellsSheet cX1_tellsSheet 1 (some .boolean), .methodLink RX1 25 yX1_faultIndex, .instanceMethod yX1_faultIndex, .selects RX1 yX1_faultIndex yX1_faultIndex, .code yX1_faultIndex cX1_faultIndex 2 (some .int), .fieldLink RX1 17 "PubQuizzes$Pad" "length" "I", .methodLink RX1 21 yX1_isSign, .static yX1_isSign, .code yX1_isSign cX1_isSign 1 (some .boolean), .methodLink RX1 33 yX1_isDigit, .static yX1_isDigit, .code yX1_isDigit cX1_isDigit 1 (some .boolean)] ++ wsX10)
def wsX2_withSign : List Cond := .code yX2_withSign cX2_withSign 4 (some .long) :: ([])
def wsX1_signs : List Cond := .code yX1_signs cX1_signs 5 (some .long) :: ([.fieldLink RX1 11 "PubQuizzes$Pad" "codes" "[I", .methodLink RX1 33 yX1_isDigit, .static yX1_isDigit, .initialized RX1, .code yX1_isDigit cX1_isDigit 1 (some .boolean), .methodLink RX1 38 yX2_withSign, .static yX2_withSign, .initialized RX2, .code yX2_withSign cX2_withSign 4 (some .long)] ++ wsX10)
def wsX2_signAt : List Cond := .code yX2_signAt cX2_signAt 3 (some .int) :: ([])
def wsX3_isTeam : List Cond := .code yX3_isTeam cX3_isTeam 2 (some .boolean) :: ([.fieldLink RX3 66 "PubQuizzes$State" "teams" "I"] ++ wsX30)
def wsX3_isOpen : List Cond := .code yX3_isOpen cX3_isOpen 2 (some .boolean) :: ([.fieldLink RX3 27 "PubQuizzes$State" "keys" "[J", .constantLong RX3 55 (-1)] ++ wsX30)
def wsX4_indexOf : List Cond := .code yX4_indexOf cX4_indexOf 2 (some .int) :: ([])
def wsX3_hasSheet : List Cond := .code yX3_hasSheet cX3_hasSheet 3 (some .boolean) :: ([.fieldLink RX3 31 "PubQuizzes$State" "sheets" "[J", .constantLong RX3 55 (-1), .static yX4_indexOf, .initialized RX4, .code yX4_indexOf cX4_indexOf 2 (some .int)] ++ wsX30)
def wsX3_markerOf : List Cond := .code yX3_markerOf cX3_markerOf 3 (some .int) :: ([.fieldLink RX3 37 "PubQuizzes$State" "markers" "[I", .static yX4_indexOf, .initialized RX4, .code yX4_indexOf cX4_indexOf 2 (some .int)] ++ wsX30)
def wsX3_isTold : List Cond := .code yX3_isTold cX3_isTold 3 (some .boolean) :: ([.methodLink RX3 73 yX3_markerOf, .instanceMethod yX3_markerOf, .selects RX3 yX3_markerOf yX3_markerOf, .initialized RX3, .code yX3_markerOf cX3_markerOf 3 (some .int), .fieldLink RX3 37 "PubQuizzes$State" "markers" "[I", .static yX4_indexOf, .initialized RX4, .code yX4_indexOf cX4_indexOf 2 (some .int)] ++ wsX30)
def wsX3_isLooked : List Cond := .code yX3_isLooked cX3_isLooked 3 (some .boolean) :: ([.fieldLink RX3 40 "PubQuizzes$State" "looked" "[I"] ++ wsX30)
def wsX3_markOf : List Cond := .code yX3_markOf cX3_markOf 3 (some .int) :: ([.fieldLink RX3 34 "PubQuizzes$State" "marks" "[I", .static yX4_indexOf, .initialized RX4, .code yX4_indexOf cX4_indexOf 2 (some .int)] ++ wsX30)
def wsX3_trueMark : List Cond := .code yX3_trueMark cX3_trueMark 10 (some .int) :: ([.fieldLink RX3 31 "PubQuizzes$State" "sheets" "[J", .fieldLink RX3 27 "PubQuizzes$State" "keys" "[J", .fieldLink RX3 9 "PubQuizzes$State" "settings" "[I", .static yX4_indexOf, .initialized RX4, .code yX4_indexOf cX4_indexOf 2 (some .int), .methodLink RX3 89 yX2_signAt, .static yX2_signAt, .initialized RX2, .code yX2_signAt cX2_signAt 3 (some .int)] ++ wsX30)
def wsX3_isWrong_r1 : List Cond := [Cond.methodLink RX3 76 yX3_isTold, Cond.instanceMethod yX3_isTold, Cond.selects RX3 yX3_isTold yX3_isTold, Cond.initialized RX3, Cond.code yX3_isTold cX3_isTold 3 (some .boolean), Cond.methodLink RX3 73 yX3_markerOf, Cond.instanceMethod yX3_markerOf, Cond.selects RX3 yX3_markerOf yX3_markerOf, Cond.code yX3_markerOf cX3_markerOf 3 (some .int), Cond.fieldLink RX3 37 "PubQuizzes$State" "markers" "[I", Cond.static yX4_indexOf, Cond.initialized RX4, Cond.code yX4_indexOf cX4_indexOf 2 (some .int), Cond.methodLink RX3 80 yX3_isLooked, Cond.instanceMethod yX3_isLooked, Cond.selects RX3 yX3_isLooked yX3_isLooked, Cond.code yX3_isLooked cX3_isLooked 3 (some .boolean), Cond.fieldLink RX3 40 "PubQuizzes$State" "looked" "[I", Cond.methodLink RX3 83 yX3_markOf, Cond.instanceMethod yX3_markOf, Cond.selects RX3 yX3_markOf yX3_markOf, Cond.code yX3_markOf cX3_markOf 3 (some .int), Cond.fieldLink RX3 34 "PubQuizzes$State" "marks" "[I", Cond.methodLink RX3 86 yX3_trueMark]
def wsX3_isWrong_r2 : List Cond := [Cond.instanceMethod yX3_trueMark, Cond.selects RX3 yX3_trueMark yX3_trueMark, Cond.code yX3_trueMark cX3_trueMark 10 (some .int), Cond.fieldLink RX3 31 "PubQuizzes$State" "sheets" "[J", Cond.fieldLink RX3 27 "PubQuizzes$State" "keys" "[J", Cond.fieldLink RX3 9 "PubQuizzes$State" "settings" "[I", Cond.methodLink RX3 89 yX2_signAt, Cond.static yX2_signAt, Cond.initialized RX2, Cond.code yX2_signAt cX2_signAt 3 (some .int)]
def wsX3_isWrong : List Cond := .code yX3_isWrong cX3_isWrong 3 (some .boolean) :: ((wsX3_isWrong_r1 ++ wsX3_isWrong_r2) ++ wsX30)
def wsX3_answered : List Cond := .code yX3_answered cX3_answered 7 (some .int) :: ([.fieldLink RX3 31 "PubQuizzes$State" "sheets" "[J", .static yX4_indexOf, .initialized RX4, .code yX4_indexOf cX4_indexOf 2 (some .int), .methodLink RX3 89 yX2_signAt, .static yX2_signAt, .initialized RX2, .code yX2_signAt cX2_signAt 3 (some .int)] ++ wsX30)
def wsX3_addFine : List Cond := .code yX3_addFine cX3_addFine 2 none :: ([.fieldLink RX3 21 "PubQuizzes$State" "fines" "[I", .methodLink RX3 93 yX3_isTeam, .instanceMethod yX3_isTeam, .selects RX3 yX3_isTeam yX3_isTeam, .initialized RX3, .code yX3_isTeam cX3_isTeam 2 (some .boolean), .fieldLink RX3 66 "PubQuizzes$State" "teams" "I"] ++ wsX30)
def wsX3_openRounds : List Cond := .code yX3_openRounds cX3_openRounds 3 (some .int) :: ([.methodLink RX3 97 yX3_isOpen, .instanceMethod yX3_isOpen, .selects RX3 yX3_isOpen yX3_isOpen, .initialized RX3, .code yX3_isOpen cX3_isOpen 2 (some .boolean), .fieldLink RX3 27 "PubQuizzes$State" "keys" "[J", .constantLong RX3 55 (-1)] ++ wsX30)
def wsX3_roundsWithSheet : List Cond := .code yX3_roundsWithSheet cX3_roundsWithSheet 4 (some .int) :: ([.methodLink RX3 100 yX3_hasSheet, .instanceMethod yX3_hasSheet, .selects RX3 yX3_hasSheet yX3_hasSheet, .initialized RX3, .code yX3_hasSheet cX3_hasSheet 3 (some .boolean), .fieldLink RX3 31 "PubQuizzes$State" "sheets" "[J", .constantLong RX3 55 (-1), .static yX4_indexOf, .initialized RX4, .code yX4_indexOf cX4_indexOf 2 (some .int)] ++ wsX30)
def wsX3_roundsTold : List Cond := .code yX3_roundsTold cX3_roundsTold 4 (some .int) :: ([.methodLink RX3 76 yX3_isTold, .instanceMethod yX3_isTold, .selects RX3 yX3_isTold yX3_isTold, .initialized RX3, .code yX3_isTold cX3_isTold 3 (some .boolean), .methodLink RX3 73 yX3_markerOf, .instanceMethod yX3_markerOf, .selects RX3 yX3_markerOf yX3_markerOf, .code yX3_markerOf cX3_markerOf 3 (some .int), .fieldLink RX3 37 "PubQuizzes$State" "markers" "[I", .static yX4_indexOf, .initialized RX4, .code yX4_indexOf cX4_indexOf 2 (some .int)] ++ wsX30)
def wsX3_teamsWithSheet : List Cond := .code yX3_teamsWithSheet cX3_teamsWithSheet 4 (some .int) :: ([.fieldLink RX3 66 "PubQuizzes$State" "teams" "I", .methodLink RX3 100 yX3_hasSheet, .instanceMethod yX3_hasSheet, .selects RX3 yX3_hasSheet yX3_hasSheet, .initialized RX3, .code yX3_hasSheet cX3_hasSheet 3 (some .boolean), .fieldLink RX3 31 "PubQuizzes$State" "sheets" "[J", .constantLong RX3 55 (-1), .static yX4_indexOf, .initialized RX4, .code yX4_indexOf cX4_indexOf 2 (some .int)] ++ wsX30)
def wsX3_teamsWithJoker : List Cond := .code yX3_teamsWithJoker cX3_teamsWithJoker 4 (some .int) :: ([.fieldLink RX3 66 "PubQuizzes$State" "teams" "I", .fieldLink RX3 18 "PubQuizzes$State" "jokers" "[I"] ++ wsX30)
def wsX3_teamsTold : List Cond := .code yX3_teamsTold cX3_teamsTold 4 (some .int) :: ([.fieldLink RX3 66 "PubQuizzes$State" "teams" "I", .methodLink RX3 76 yX3_isTold, .instanceMethod yX3_isTold, .selects RX3 yX3_isTold yX3_isTold, .initialized RX3, .code yX3_isTold cX3_isTold 3 (some .boolean), .methodLink RX3 73 yX3_markerOf, .instanceMethod yX3_markerOf, .selects RX3 yX3_markerOf yX3_markerOf, .code yX3_markerOf cX3_markerOf 3 (some .int), .fieldLink RX3 37 "PubQuizzes$State" "markers" "[I", .static yX4_indexOf, .initialized RX4, .code yX4_indexOf cX4_indexOf 2 (some .int)] ++ wsX30)
def wsX3_withJoker : List Cond := .code yX3_withJoker cX3_withJoker 4 (some .int) :: ([.fieldLink RX3 18 "PubQuizzes$State" "jokers" "[I"] ++ wsX30)
def wsX3_pointsOf : List Cond := .code yX3_pointsOf cX3_pointsOf 4 (some .int) :: ([.fieldLink RX3 37 "PubQuizzes$State" "markers" "[I", .fieldLink RX3 34 "PubQuizzes$State" "marks" "[I", .static yX4_indexOf, .initialized RX4, .code yX4_indexOf cX4_indexOf 2 (some .int), .methodLink RX3 103 yX3_withJoker, .instanceMethod yX3_withJoker, .selects RX3 yX3_withJoker yX3_withJoker, .initialized RX3, .code yX3_withJoker cX3_withJoker 4 (some .int), .fieldLink RX3 18 "PubQuizzes$State" "jokers" "[I"] ++ wsX30)
def wsX3_greatestPoints : List Cond := .code yX3_greatestPoints cX3_greatestPoints 4 (some .int) :: ([.fieldLink RX3 66 "PubQuizzes$State" "teams" "I", .methodLink RX3 110 Lib.Math.max.name, .static Lib.Math.max.name, .initialized "java/lang/Math", .code Lib.Math.max.name Lib.Math.max.code 2 (some .int), .methodLink RX3 107 yX3_pointsOf, .instanceMethod yX3_pointsOf, .selects RX3 yX3_pointsOf yX3_pointsOf, .initialized RX3, .code yX3_pointsOf cX3_pointsOf 4 (some .int), .fieldLink RX3 37 "PubQuizzes$State" "markers" "[I", .fieldLink RX3 34 "PubQuizzes$State" "marks" "[I", .static yX4_indexOf, .initialized RX4, .code yX4_indexOf cX4_indexOf 2 (some .int), .methodLink RX3 103 yX3_withJoker, .instanceMethod yX3_withJoker, .selects RX3 yX3_withJoker yX3_withJoker, .code yX3_withJoker cX3_withJoker 4 (some .int), .fieldLink RX3 18 "PubQuizzes$State" "jokers" "[I"] ++ wsX30)
def wsX3_scoreOf : List Cond := .code yX3_scoreOf cX3_scoreOf 4 (some .int) :: ([.fieldLink RX3 9 "PubQuizzes$State" "settings" "[I", .fieldLink RX3 21 "PubQuizzes$State" "fines" "[I", .methodLink RX3 107 yX3_pointsOf, .instanceMethod yX3_pointsOf, .selects RX3 yX3_pointsOf yX3_pointsOf, .initialized RX3, .code yX3_pointsOf cX3_pointsOf 4 (some .int), .fieldLink RX3 37 "PubQuizzes$State" "markers" "[I", .fieldLink RX3 34 "PubQuizzes$State" "marks" "[I", .static yX4_indexOf, .initialized RX4, .code yX4_indexOf cX4_indexOf 2 (some .int), .methodLink RX3 103 yX3_withJoker, .instanceMethod yX3_withJoker, .selects RX3 yX3_withJoker yX3_withJoker, .code yX3_withJoker cX3_withJoker 4 (some .int), .fieldLink RX3 18 "PubQuizzes$State" "jokers" "[I"] ++ wsX30)
def wsX3_isFirstWithItsScore : List Cond := .code yX3_isFirstWithItsScore cX3_isFirstWithItsScore 4 (some .boolean) :: ([.methodLink RX3 118 yX3_scoreOf, .instanceMethod yX3_scoreOf, .selects RX3 yX3_scoreOf yX3_scoreOf, .initialized RX3, .code yX3_scoreOf cX3_scoreOf 4 (some .int), .fieldLink RX3 9 "PubQuizzes$State" "settings" "[I", .fieldLink RX3 21 "PubQuizzes$State" "fines" "[I", .methodLink RX3 107 yX3_pointsOf, .instanceMethod yX3_pointsOf, .selects RX3 yX3_pointsOf yX3_pointsOf, .code yX3_pointsOf cX3_pointsOf 4 (some .int), .fieldLink RX3 37 "PubQuizzes$State" "markers" "[I", .fieldLink RX3 34 "PubQuizzes$State" "marks" "[I", .static yX4_indexOf, .initialized RX4, .code yX4_indexOf cX4_indexOf 2 (some .int), .methodLink RX3 103 yX3_withJoker, .instanceMethod yX3_withJoker, .selects RX3 yX3_withJoker yX3_withJoker, .code yX3_withJoker cX3_withJoker 4 (some .int), .fieldLink RX3 18 "PubQuizzes$State" "jokers" "[I"] ++ wsX30)
def wsX3_unlikeScores_r1 : List Cond := [Cond.fieldLink RX3 66 "PubQuizzes$State" "teams" "I", Cond.methodLink RX3 115 yX3_isFirstWithItsScore, Cond.instanceMethod yX3_isFirstWithItsScore, Cond.selects RX3 yX3_isFirstWithItsScore yX3_isFirstWithItsScore, Cond.initialized RX3, Cond.code yX3_isFirstWithItsScore cX3_isFirstWithItsScore 4 (some .boolean), Cond.methodLink RX3 118 yX3_scoreOf, Cond.instanceMethod yX3_scoreOf, Cond.selects RX3 yX3_scoreOf yX3_scoreOf, Cond.code yX3_scoreOf cX3_scoreOf 4 (some .int), Cond.fieldLink RX3 9 "PubQuizzes$State" "settings" "[I", Cond.fieldLink RX3 21 "PubQuizzes$State" "fines" "[I", Cond.methodLink RX3 107 yX3_pointsOf, Cond.instanceMethod yX3_pointsOf, Cond.selects RX3 yX3_pointsOf yX3_pointsOf, Cond.code yX3_pointsOf cX3_pointsOf 4 (some .int), Cond.fieldLink RX3 37 "PubQuizzes$State" "markers" "[I", Cond.fieldLink RX3 34 "PubQuizzes$State" "marks" "[I", Cond.static yX4_indexOf, Cond.initialized RX4, Cond.code yX4_indexOf cX4_indexOf 2 (some .int), Cond.methodLink RX3 103 yX3_withJoker, Cond.instanceMethod yX3_withJoker, Cond.selects RX3 yX3_withJoker yX3_withJoker]
def wsX3_unlikeScores_r2 : List Cond := [Cond.code yX3_withJoker cX3_withJoker 4 (some .int), Cond.fieldLink RX3 18 "PubQuizzes$State" "jokers" "[I"]
def wsX3_unlikeScores : List Cond := .code yX3_unlikeScores cX3_unlikeScores 3 (some .int) :: ((wsX3_unlikeScores_r1 ++ wsX3_unlikeScores_r2) ++ wsX30)
def wsX3_allFines : List Cond := .code yX3_allFines cX3_allFines 3 (some .int) :: ([.fieldLink RX3 66 "PubQuizzes$State" "teams" "I", .fieldLink RX3 21 "PubQuizzes$State" "fines" "[I"] ++ wsX30)
def wsJ6_bitCount_0f7a4 : List Cond := .code yJ6_bitCount_0f7a4 cJ6_bitCount_0f7a4 1 (some .int) :: ([.constant RJ6 265 (1431655765), .constant RJ6 266 (858993459), .constant RJ6 267 (252645135)])
def wsX3_allLooks : List Cond := .code yX3_allLooks cX3_allLooks 3 (some .int) :: ([.fieldLink RX3 40 "PubQuizzes$State" "looked" "[I", .methodLink RX3 122 yJ6_bitCount_0f7a4, .static yJ6_bitCount_0f7a4, .initialized RJ6, .code yJ6_bitCount_0f7a4 cJ6_bitCount_0f7a4 1 (some .int), .constant RJ6 265 (1431655765), .constant RJ6 266 (858993459), .constant RJ6 267 (252645135)] ++ wsX30)
def wsX3_guessers : List Cond := .code yX3_guessers cX3_guessers 3 (some .int) :: ([.fieldLink RX3 66 "PubQuizzes$State" "teams" "I", .fieldLink RX3 24 "PubQuizzes$State" "guesses" "[I"] ++ wsX30)
def wsX3_distanceOf : List Cond := .code yX3_distanceOf cX3_distanceOf 2 (some .int) :: ([.fieldLink RX3 43 "PubQuizzes$State" "truth" "I", .fieldLink RX3 24 "PubQuizzes$State" "guesses" "[I", .methodLink RX3 127 Lib.Math.abs.name, .static Lib.Math.abs.name, .initialized "java/lang/Math", .code Lib.Math.abs.name Lib.Math.abs.code 1 (some .int)] ++ wsX30)
def wsX3_isAhead_r1 : List Cond := [Cond.methodLink RX3 118 yX3_scoreOf, Cond.instanceMethod yX3_scoreOf, Cond.selects RX3 yX3_scoreOf yX3_scoreOf, Cond.initialized RX3, Cond.code yX3_scoreOf cX3_scoreOf 4 (some .int), Cond.fieldLink RX3 9 "PubQuizzes$State" "settings" "[I", Cond.fieldLink RX3 21 "PubQuizzes$State" "fines" "[I", Cond.methodLink RX3 107 yX3_pointsOf, Cond.instanceMethod yX3_pointsOf, Cond.selects RX3 yX3_pointsOf yX3_pointsOf, Cond.code yX3_pointsOf cX3_pointsOf 4 (some .int), Cond.fieldLink RX3 37 "PubQuizzes$State" "markers" "[I", Cond.fieldLink RX3 34 "PubQuizzes$State" "marks" "[I", Cond.static yX4_indexOf, Cond.initialized RX4, Cond.code yX4_indexOf cX4_indexOf 2 (some .int), Cond.methodLink RX3 103 yX3_withJoker, Cond.instanceMethod yX3_withJoker, Cond.selects RX3 yX3_withJoker yX3_withJoker, Cond.code yX3_withJoker cX3_withJoker 4 (some .int), Cond.fieldLink RX3 18 "PubQuizzes$State" "jokers" "[I", Cond.methodLink RX3 130 yX3_distanceOf, Cond.instanceMethod yX3_distanceOf, Cond.selects RX3 yX3_distanceOf yX3_distanceOf]
def wsX3_isAhead_r2 : List Cond := [Cond.code yX3_distanceOf cX3_distanceOf 2 (some .int), Cond.fieldLink RX3 43 "PubQuizzes$State" "truth" "I", Cond.fieldLink RX3 24 "PubQuizzes$State" "guesses" "[I", Cond.methodLink RX3 127 Lib.Math.abs.name, Cond.static Lib.Math.abs.name, Cond.initialized "java/lang/Math", Cond.code Lib.Math.abs.name Lib.Math.abs.code 1 (some .int)]
def wsX3_isAhead : List Cond := .code yX3_isAhead cX3_isAhead 4 (some .boolean) :: ((wsX3_isAhead_r1 ++ wsX3_isAhead_r2) ++ wsX30)
def wsX3_rankOf_r1 : List Cond := [Cond.fieldLink RX3 66 "PubQuizzes$State" "teams" "I", Cond.methodLink RX3 133 yX3_isAhead, Cond.instanceMethod yX3_isAhead, Cond.selects RX3 yX3_isAhead yX3_isAhead, Cond.initialized RX3, Cond.code yX3_isAhead cX3_isAhead 4 (some .boolean), Cond.methodLink RX3 118 yX3_scoreOf, Cond.instanceMethod yX3_scoreOf, Cond.selects RX3 yX3_scoreOf yX3_scoreOf, Cond.code yX3_scoreOf cX3_scoreOf 4 (some .int), Cond.fieldLink RX3 9 "PubQuizzes$State" "settings" "[I", Cond.fieldLink RX3 21 "PubQuizzes$State" "fines" "[I", Cond.methodLink RX3 107 yX3_pointsOf, Cond.instanceMethod yX3_pointsOf, Cond.selects RX3 yX3_pointsOf yX3_pointsOf, Cond.code yX3_pointsOf cX3_pointsOf 4 (some .int), Cond.fieldLink RX3 37 "PubQuizzes$State" "markers" "[I", Cond.fieldLink RX3 34 "PubQuizzes$State" "marks" "[I", Cond.static yX4_indexOf, Cond.initialized RX4, Cond.code yX4_indexOf cX4_indexOf 2 (some .int), Cond.methodLink RX3 103 yX3_withJoker, Cond.instanceMethod yX3_withJoker, Cond.selects RX3 yX3_withJoker yX3_withJoker]
def wsX3_rankOf_r2 : List Cond := [Cond.code yX3_withJoker cX3_withJoker 4 (some .int), Cond.fieldLink RX3 18 "PubQuizzes$State" "jokers" "[I", Cond.methodLink RX3 130 yX3_distanceOf, Cond.instanceMethod yX3_distanceOf, Cond.selects RX3 yX3_distanceOf yX3_distanceOf, Cond.code yX3_distanceOf cX3_distanceOf 2 (some .int), Cond.fieldLink RX3 43 "PubQuizzes$State" "truth" "I", Cond.fieldLink RX3 24 "PubQuizzes$State" "guesses" "[I", Cond.methodLink RX3 127 Lib.Math.abs.name, Cond.static Lib.Math.abs.name, Cond.initialized "java/lang/Math", Cond.code Lib.Math.abs.name Lib.Math.abs.code 1 (some .int)]
def wsX3_rankOf : List Cond := .code yX3_rankOf cX3_rankOf 4 (some .int) :: ((wsX3_rankOf_r1 ++ wsX3_rankOf_r2) ++ wsX30)
def wsX3_tiedWith_r1 : List Cond := [Cond.fieldLink RX3 66 "PubQuizzes$State" "teams" "I", Cond.methodLink RX3 133 yX3_isAhead, Cond.instanceMethod yX3_isAhead, Cond.selects RX3 yX3_isAhead yX3_isAhead, Cond.initialized RX3, Cond.code yX3_isAhead cX3_isAhead 4 (some .boolean), Cond.methodLink RX3 118 yX3_scoreOf, Cond.instanceMethod yX3_scoreOf, Cond.selects RX3 yX3_scoreOf yX3_scoreOf, Cond.code yX3_scoreOf cX3_scoreOf 4 (some .int), Cond.fieldLink RX3 9 "PubQuizzes$State" "settings" "[I", Cond.fieldLink RX3 21 "PubQuizzes$State" "fines" "[I", Cond.methodLink RX3 107 yX3_pointsOf, Cond.instanceMethod yX3_pointsOf, Cond.selects RX3 yX3_pointsOf yX3_pointsOf, Cond.code yX3_pointsOf cX3_pointsOf 4 (some .int), Cond.fieldLink RX3 37 "PubQuizzes$State" "markers" "[I", Cond.fieldLink RX3 34 "PubQuizzes$State" "marks" "[I", Cond.static yX4_indexOf, Cond.initialized RX4, Cond.code yX4_indexOf cX4_indexOf 2 (some .int), Cond.methodLink RX3 103 yX3_withJoker, Cond.instanceMethod yX3_withJoker, Cond.selects RX3 yX3_withJoker yX3_withJoker]
def wsX3_tiedWith_r2 : List Cond := [Cond.code yX3_withJoker cX3_withJoker 4 (some .int), Cond.fieldLink RX3 18 "PubQuizzes$State" "jokers" "[I", Cond.methodLink RX3 130 yX3_distanceOf, Cond.instanceMethod yX3_distanceOf, Cond.selects RX3 yX3_distanceOf yX3_distanceOf, Cond.code yX3_distanceOf cX3_distanceOf 2 (some .int), Cond.fieldLink RX3 43 "PubQuizzes$State" "truth" "I", Cond.fieldLink RX3 24 "PubQuizzes$State" "guesses" "[I", Cond.methodLink RX3 127 Lib.Math.abs.name, Cond.static Lib.Math.abs.name, Cond.initialized "java/lang/Math", Cond.code Lib.Math.abs.name Lib.Math.abs.code 1 (some .int)]
def wsX3_tiedWith : List Cond := .code yX3_tiedWith cX3_tiedWith 4 (some .int) :: ((wsX3_tiedWith_r1 ++ wsX3_tiedWith_r2) ++ wsX30)
def wsX3_lowerIn : List Cond := .code yX3_lowerIn cX3_lowerIn 2 (some .int) :: ([.methodLink RX3 122 yJ6_bitCount_0f7a4, .static yJ6_bitCount_0f7a4, .initialized RJ6, .code yJ6_bitCount_0f7a4 cJ6_bitCount_0f7a4 1 (some .int), .constant RJ6 265 (1431655765), .constant RJ6 266 (858993459), .constant RJ6 267 (252645135)])
def wsX3_placeOf_r1 : List Cond := [Cond.methodLink RX3 136 yX3_rankOf, Cond.instanceMethod yX3_rankOf, Cond.selects RX3 yX3_rankOf yX3_rankOf, Cond.initialized RX3, Cond.code yX3_rankOf cX3_rankOf 4 (some .int), Cond.fieldLink RX3 66 "PubQuizzes$State" "teams" "I", Cond.methodLink RX3 133 yX3_isAhead, Cond.instanceMethod yX3_isAhead, Cond.selects RX3 yX3_isAhead yX3_isAhead, Cond.code yX3_isAhead cX3_isAhead 4 (some .boolean), Cond.methodLink RX3 118 yX3_scoreOf, Cond.instanceMethod yX3_scoreOf, Cond.selects RX3 yX3_scoreOf yX3_scoreOf, Cond.code yX3_scoreOf cX3_scoreOf 4 (some .int), Cond.fieldLink RX3 9 "PubQuizzes$State" "settings" "[I", Cond.fieldLink RX3 21 "PubQuizzes$State" "fines" "[I", Cond.methodLink RX3 107 yX3_pointsOf, Cond.instanceMethod yX3_pointsOf, Cond.selects RX3 yX3_pointsOf yX3_pointsOf, Cond.code yX3_pointsOf cX3_pointsOf 4 (some .int), Cond.fieldLink RX3 37 "PubQuizzes$State" "markers" "[I", Cond.fieldLink RX3 34 "PubQuizzes$State" "marks" "[I", Cond.static yX4_indexOf, Cond.initialized RX4]
def wsX3_placeOf_r2 : List Cond := [Cond.code yX4_indexOf cX4_indexOf 2 (some .int), Cond.methodLink RX3 103 yX3_withJoker, Cond.instanceMethod yX3_withJoker, Cond.selects RX3 yX3_withJoker yX3_withJoker, Cond.code yX3_withJoker cX3_withJoker 4 (some .int), Cond.fieldLink RX3 18 "PubQuizzes$State" "jokers" "[I", Cond.methodLink RX3 130 yX3_distanceOf, Cond.instanceMethod yX3_distanceOf, Cond.selects RX3 yX3_distanceOf yX3_distanceOf, Cond.code yX3_distanceOf cX3_distanceOf 2 (some .int), Cond.fieldLink RX3 43 "PubQuizzes$State" "truth" "I", Cond.fieldLink RX3 24 "PubQuizzes$State" "guesses" "[I", Cond.methodLink RX3 127 Lib.Math.abs.name, Cond.static Lib.Math.abs.name, Cond.initialized "java/lang/Math", Cond.code Lib.Math.abs.name Lib.Math.abs.code 1 (some .int), Cond.methodLink RX3 139 yX3_tiedWith, Cond.instanceMethod yX3_tiedWith, Cond.selects RX3 yX3_tiedWith yX3_tiedWith, Cond.code yX3_tiedWith cX3_tiedWith 4 (some .int), Cond.methodLink RX3 142 yX3_lowerIn, Cond.static yX3_lowerIn, Cond.code yX3_lowerIn cX3_lowerIn 2 (some .int), Cond.methodLink RX3 122 yJ6_bitCount_0f7a4]
def wsX3_placeOf_r3 : List Cond := [Cond.static yJ6_bitCount_0f7a4, Cond.initialized RJ6, Cond.code yJ6_bitCount_0f7a4 cJ6_bitCount_0f7a4 1 (some .int), Cond.constant RJ6 265 (1431655765), Cond.constant RJ6 266 (858993459), Cond.constant RJ6 267 (252645135)]
def wsX3_placeOf : List Cond := .code yX3_placeOf cX3_placeOf 2 (some .int) :: ((wsX3_placeOf_r1 ++ (wsX3_placeOf_r2 ++ wsX3_placeOf_r3)) ++ wsX30)
def wsX3_entries : List Cond := .code yX3_entries cX3_entries 3 (some .int) :: ([.fieldLink RX3 66 "PubQuizzes$State" "teams" "I", .fieldLink RX3 15 "PubQuizzes$State" "paid" "[I"] ++ wsX30)
def wsX3_ofTheHouse : List Cond := .code yX3_ofTheHouse cX3_ofTheHouse 1 (some .int) :: ([.fieldLink RX3 9 "PubQuizzes$State" "settings" "[I", .methodLink RX3 145 yX3_entries, .instanceMethod yX3_entries, .selects RX3 yX3_entries yX3_entries, .initialized RX3, .code yX3_entries cX3_entries 3 (some .int), .fieldLink RX3 66 "PubQuizzes$State" "teams" "I", .fieldLink RX3 15 "PubQuizzes$State" "paid" "[I"] ++ wsX30)
def wsX3_pot : List Cond := .code yX3_pot cX3_pot 1 (some .int) :: ([.methodLink RX3 145 yX3_entries, .instanceMethod yX3_entries, .selects RX3 yX3_entries yX3_entries, .initialized RX3, .code yX3_entries cX3_entries 3 (some .int), .fieldLink RX3 66 "PubQuizzes$State" "teams" "I", .fieldLink RX3 15 "PubQuizzes$State" "paid" "[I", .methodLink RX3 149 yX3_ofTheHouse, .instanceMethod yX3_ofTheHouse, .selects RX3 yX3_ofTheHouse yX3_ofTheHouse, .code yX3_ofTheHouse cX3_ofTheHouse 1 (some .int), .fieldLink RX3 9 "PubQuizzes$State" "settings" "[I"] ++ wsX30)
def wsX3_prizeOfPlace : List Cond := .code yX3_prizeOfPlace cX3_prizeOfPlace 5 (some .int) :: ([.fieldLink RX3 66 "PubQuizzes$State" "teams" "I", .methodLink RX3 152 yX3_pot, .instanceMethod yX3_pot, .selects RX3 yX3_pot yX3_pot, .initialized RX3, .code yX3_pot cX3_pot 1 (some .int), .methodLink RX3 145 yX3_entries, .instanceMethod yX3_entries, .selects RX3 yX3_entries yX3_entries, .code yX3_entries cX3_entries 3 (some .int), .fieldLink RX3 15 "PubQuizzes$State" "paid" "[I", .methodLink RX3 149 yX3_ofTheHouse, .instanceMethod yX3_ofTheHouse, .selects RX3 yX3_ofTheHouse yX3_ofTheHouse, .code yX3_ofTheHouse cX3_ofTheHouse 1 (some .int), .fieldLink RX3 9 "PubQuizzes$State" "settings" "[I"] ++ wsX30)
def wsX3_prizeOf_r1 : List Cond := [Cond.methodLink RX3 136 yX3_rankOf, Cond.instanceMethod yX3_rankOf, Cond.selects RX3 yX3_rankOf yX3_rankOf, Cond.initialized RX3, Cond.code yX3_rankOf cX3_rankOf 4 (some .int), Cond.fieldLink RX3 66 "PubQuizzes$State" "teams" "I", Cond.methodLink RX3 133 yX3_isAhead, Cond.instanceMethod yX3_isAhead, Cond.selects RX3 yX3_isAhead yX3_isAhead, Cond.code yX3_isAhead cX3_isAhead 4 (some .boolean), Cond.methodLink RX3 118 yX3_scoreOf, Cond.instanceMethod yX3_scoreOf, Cond.selects RX3 yX3_scoreOf yX3_scoreOf, Cond.code yX3_scoreOf cX3_scoreOf 4 (some .int), Cond.fieldLink RX3 9 "PubQuizzes$State" "settings" "[I", Cond.fieldLink RX3 21 "PubQuizzes$State" "fines" "[I", Cond.methodLink RX3 107 yX3_pointsOf, Cond.instanceMethod yX3_pointsOf, Cond.selects RX3 yX3_pointsOf yX3_pointsOf, Cond.code yX3_pointsOf cX3_pointsOf 4 (some .int), Cond.fieldLink RX3 37 "PubQuizzes$State" "markers" "[I", Cond.fieldLink RX3 34 "PubQuizzes$State" "marks" "[I", Cond.static yX4_indexOf, Cond.initialized RX4]
def wsX3_prizeOf_r2 : List Cond := [Cond.code yX4_indexOf cX4_indexOf 2 (some .int), Cond.methodLink RX3 103 yX3_withJoker, Cond.instanceMethod yX3_withJoker, Cond.selects RX3 yX3_withJoker yX3_withJoker, Cond.code yX3_withJoker cX3_withJoker 4 (some .int), Cond.fieldLink RX3 18 "PubQuizzes$State" "jokers" "[I", Cond.methodLink RX3 130 yX3_distanceOf, Cond.instanceMethod yX3_distanceOf, Cond.selects RX3 yX3_distanceOf yX3_distanceOf, Cond.code yX3_distanceOf cX3_distanceOf 2 (some .int), Cond.fieldLink RX3 43 "PubQuizzes$State" "truth" "I", Cond.fieldLink RX3 24 "PubQuizzes$State" "guesses" "[I", Cond.methodLink RX3 127 Lib.Math.abs.name, Cond.static Lib.Math.abs.name, Cond.initialized "java/lang/Math", Cond.code Lib.Math.abs.name Lib.Math.abs.code 1 (some .int), Cond.methodLink RX3 139 yX3_tiedWith, Cond.instanceMethod yX3_tiedWith, Cond.selects RX3 yX3_tiedWith yX3_tiedWith, Cond.code yX3_tiedWith cX3_tiedWith 4 (some .int), Cond.methodLink RX3 122 yJ6_bitCount_0f7a4, Cond.static yJ6_bitCount_0f7a4, Cond.initialized RJ6, Cond.code yJ6_bitCount_0f7a4 cJ6_bitCount_0f7a4 1 (some .int)]
def wsX3_prizeOf_r3 : List Cond := [Cond.constant RJ6 265 (1431655765), Cond.constant RJ6 266 (858993459), Cond.constant RJ6 267 (252645135), Cond.methodLink RX3 155 yX3_prizeOfPlace, Cond.instanceMethod yX3_prizeOfPlace, Cond.selects RX3 yX3_prizeOfPlace yX3_prizeOfPlace, Cond.code yX3_prizeOfPlace cX3_prizeOfPlace 5 (some .int), Cond.methodLink RX3 152 yX3_pot, Cond.instanceMethod yX3_pot, Cond.selects RX3 yX3_pot yX3_pot, Cond.code yX3_pot cX3_pot 1 (some .int), Cond.methodLink RX3 145 yX3_entries, Cond.instanceMethod yX3_entries, Cond.selects RX3 yX3_entries yX3_entries, Cond.code yX3_entries cX3_entries 3 (some .int), Cond.fieldLink RX3 15 "PubQuizzes$State" "paid" "[I", Cond.methodLink RX3 149 yX3_ofTheHouse, Cond.instanceMethod yX3_ofTheHouse, Cond.selects RX3 yX3_ofTheHouse yX3_ofTheHouse, Cond.code yX3_ofTheHouse cX3_ofTheHouse 1 (some .int), Cond.methodLink RX3 142 yX3_lowerIn, Cond.static yX3_lowerIn, Cond.code yX3_lowerIn cX3_lowerIn 2 (some .int)]
def wsX3_prizeOf : List Cond := .code yX3_prizeOf cX3_prizeOf 7 (some .int) :: ((wsX3_prizeOf_r1 ++ (wsX3_prizeOf_r2 ++ wsX3_prizeOf_r3)) ++ wsX30)
def wsX3_scoreWithJokerOn : List Cond := .code yX3_scoreWithJokerOn cX3_scoreWithJokerOn 6 (some .int) :: ([.fieldLink RX3 9 "PubQuizzes$State" "settings" "[I", .fieldLink RX3 21 "PubQuizzes$State" "fines" "[I", .methodLink RX3 76 yX3_isTold, .instanceMethod yX3_isTold, .selects RX3 yX3_isTold yX3_isTold, .initialized RX3, .code yX3_isTold cX3_isTold 3 (some .boolean), .methodLink RX3 73 yX3_markerOf, .instanceMethod yX3_markerOf, .selects RX3 yX3_markerOf yX3_markerOf, .code yX3_markerOf cX3_markerOf 3 (some .int), .fieldLink RX3 37 "PubQuizzes$State" "markers" "[I", .static yX4_indexOf, .initialized RX4, .code yX4_indexOf cX4_indexOf 2 (some .int), .methodLink RX3 83 yX3_markOf, .instanceMethod yX3_markOf, .selects RX3 yX3_markOf yX3_markOf, .code yX3_markOf cX3_markOf 3 (some .int), .fieldLink RX3 34 "PubQuizzes$State" "marks" "[I"] ++ wsX30)
def wsX3_bestRound : List Cond := .code yX3_bestRound cX3_bestRound 4 (some .int) :: ([.methodLink RX3 158 yX3_scoreWithJokerOn, .instanceMethod yX3_scoreWithJokerOn, .selects RX3 yX3_scoreWithJokerOn yX3_scoreWithJokerOn, .initialized RX3, .code yX3_scoreWithJokerOn cX3_scoreWithJokerOn 6 (some .int), .fieldLink RX3 9 "PubQuizzes$State" "settings" "[I", .fieldLink RX3 21 "PubQuizzes$State" "fines" "[I", .methodLink RX3 76 yX3_isTold, .instanceMethod yX3_isTold, .selects RX3 yX3_isTold yX3_isTold, .code yX3_isTold cX3_isTold 3 (some .boolean), .methodLink RX3 73 yX3_markerOf, .instanceMethod yX3_markerOf, .selects RX3 yX3_markerOf yX3_markerOf, .code yX3_markerOf cX3_markerOf 3 (some .int), .fieldLink RX3 37 "PubQuizzes$State" "markers" "[I", .static yX4_indexOf, .initialized RX4, .code yX4_indexOf cX4_indexOf 2 (some .int), .methodLink RX3 83 yX3_markOf, .instanceMethod yX3_markOf, .selects RX3 yX3_markOf yX3_markOf, .code yX3_markOf cX3_markOf 3 (some .int), .fieldLink RX3 34 "PubQuizzes$State" "marks" "[I"] ++ wsX30)
def wsX3_canHandIn : List Cond := .code yX3_canHandIn cX3_canHandIn 3 (some .boolean) :: ([.methodLink RX3 97 yX3_isOpen, .instanceMethod yX3_isOpen, .selects RX3 yX3_isOpen yX3_isOpen, .initialized RX3, .code yX3_isOpen cX3_isOpen 2 (some .boolean), .fieldLink RX3 27 "PubQuizzes$State" "keys" "[J", .constantLong RX3 55 (-1), .methodLink RX3 100 yX3_hasSheet, .instanceMethod yX3_hasSheet, .selects RX3 yX3_hasSheet yX3_hasSheet, .code yX3_hasSheet cX3_hasSheet 3 (some .boolean), .fieldLink RX3 31 "PubQuizzes$State" "sheets" "[J", .static yX4_indexOf, .initialized RX4, .code yX4_indexOf cX4_indexOf 2 (some .int)] ++ wsX30)
def wsX3_greatestMark_r1 : List Cond := [Cond.methodLink RX3 76 yX3_isTold, Cond.instanceMethod yX3_isTold, Cond.selects RX3 yX3_isTold yX3_isTold, Cond.initialized RX3, Cond.code yX3_isTold cX3_isTold 3 (some .boolean), Cond.methodLink RX3 73 yX3_markerOf, Cond.instanceMethod yX3_markerOf, Cond.selects RX3 yX3_markerOf yX3_markerOf, Cond.code yX3_markerOf cX3_markerOf 3 (some .int), Cond.fieldLink RX3 37 "PubQuizzes$State" "markers" "[I", Cond.static yX4_indexOf, Cond.initialized RX4, Cond.code yX4_indexOf cX4_indexOf 2 (some .int), Cond.methodLink RX3 83 yX3_markOf, Cond.instanceMethod yX3_markOf, Cond.selects RX3 yX3_markOf yX3_markOf, Cond.code yX3_markOf cX3_markOf 3 (some .int), Cond.fieldLink RX3 34 "PubQuizzes$State" "marks" "[I", Cond.methodLink RX3 100 yX3_hasSheet, Cond.instanceMethod yX3_hasSheet, Cond.selects RX3 yX3_hasSheet yX3_hasSheet, Cond.code yX3_hasSheet cX3_hasSheet 3 (some .boolean), Cond.fieldLink RX3 31 "PubQuizzes$State" "sheets" "[J", Cond.constantLong RX3 55 (-1)]
def wsX3_greatestMark_r2 : List Cond := [Cond.methodLink RX3 97 yX3_isOpen, Cond.instanceMethod yX3_isOpen, Cond.selects RX3 yX3_isOpen yX3_isOpen, Cond.code yX3_isOpen cX3_isOpen 2 (some .boolean), Cond.fieldLink RX3 27 "PubQuizzes$State" "keys" "[J"]
def wsX3_greatestMark : List Cond := .code yX3_greatestMark cX3_greatestMark 3 (some .int) :: ((wsX3_greatestMark_r1 ++ wsX3_greatestMark_r2) ++ wsX30)
def wsX3_greatestScore_r1 : List Cond := [Cond.fieldLink RX3 9 "PubQuizzes$State" "settings" "[I", Cond.fieldLink RX3 21 "PubQuizzes$State" "fines" "[I", Cond.fieldLink RX3 18 "PubQuizzes$State" "jokers" "[I", Cond.methodLink RX3 161 yX3_greatestMark, Cond.instanceMethod yX3_greatestMark, Cond.selects RX3 yX3_greatestMark yX3_greatestMark, Cond.initialized RX3, Cond.code yX3_greatestMark cX3_greatestMark 3 (some .int), Cond.methodLink RX3 76 yX3_isTold, Cond.instanceMethod yX3_isTold, Cond.selects RX3 yX3_isTold yX3_isTold, Cond.code yX3_isTold cX3_isTold 3 (some .boolean), Cond.methodLink RX3 73 yX3_markerOf, Cond.instanceMethod yX3_markerOf, Cond.selects RX3 yX3_markerOf yX3_markerOf, Cond.code yX3_markerOf cX3_markerOf 3 (some .int), Cond.fieldLink RX3 37 "PubQuizzes$State" "markers" "[I", Cond.static yX4_indexOf, Cond.initialized RX4, Cond.code yX4_indexOf cX4_indexOf 2 (some .int), Cond.methodLink RX3 83 yX3_markOf, Cond.instanceMethod yX3_markOf, Cond.selects RX3 yX3_markOf yX3_markOf, Cond.code yX3_markOf cX3_markOf 3 (some .int)]
def wsX3_greatestScore_r2 : List Cond := [Cond.fieldLink RX3 34 "PubQuizzes$State" "marks" "[I", Cond.methodLink RX3 100 yX3_hasSheet, Cond.instanceMethod yX3_hasSheet, Cond.selects RX3 yX3_hasSheet yX3_hasSheet, Cond.code yX3_hasSheet cX3_hasSheet 3 (some .boolean), Cond.fieldLink RX3 31 "PubQuizzes$State" "sheets" "[J", Cond.constantLong RX3 55 (-1), Cond.methodLink RX3 97 yX3_isOpen, Cond.instanceMethod yX3_isOpen, Cond.selects RX3 yX3_isOpen yX3_isOpen, Cond.code yX3_isOpen cX3_isOpen 2 (some .boolean), Cond.fieldLink RX3 27 "PubQuizzes$State" "keys" "[J", Cond.methodLink RX3 103 yX3_withJoker, Cond.instanceMethod yX3_withJoker, Cond.selects RX3 yX3_withJoker yX3_withJoker, Cond.code yX3_withJoker cX3_withJoker 4 (some .int), Cond.methodLink RX3 164 yX3_canHandIn, Cond.instanceMethod yX3_canHandIn, Cond.selects RX3 yX3_canHandIn yX3_canHandIn, Cond.code yX3_canHandIn cX3_canHandIn 3 (some .boolean)]
def wsX3_greatestScore : List Cond := .code yX3_greatestScore cX3_greatestScore 5 (some .int) :: ((wsX3_greatestScore_r1 ++ wsX3_greatestScore_r2) ++ wsX30)
def wsX3_canReachOthers_r1 : List Cond := [Cond.fieldLink RX3 66 "PubQuizzes$State" "teams" "I", Cond.methodLink RX3 167 yX3_greatestScore, Cond.instanceMethod yX3_greatestScore, Cond.selects RX3 yX3_greatestScore yX3_greatestScore, Cond.initialized RX3, Cond.code yX3_greatestScore cX3_greatestScore 5 (some .int), Cond.fieldLink RX3 9 "PubQuizzes$State" "settings" "[I", Cond.fieldLink RX3 21 "PubQuizzes$State" "fines" "[I", Cond.fieldLink RX3 18 "PubQuizzes$State" "jokers" "[I", Cond.methodLink RX3 161 yX3_greatestMark, Cond.instanceMethod yX3_greatestMark, Cond.selects RX3 yX3_greatestMark yX3_greatestMark, Cond.code yX3_greatestMark cX3_greatestMark 3 (some .int), Cond.methodLink RX3 76 yX3_isTold, Cond.instanceMethod yX3_isTold, Cond.selects RX3 yX3_isTold yX3_isTold, Cond.code yX3_isTold cX3_isTold 3 (some .boolean), Cond.methodLink RX3 73 yX3_markerOf, Cond.instanceMethod yX3_markerOf, Cond.selects RX3 yX3_markerOf yX3_markerOf, Cond.code yX3_markerOf cX3_markerOf 3 (some .int), Cond.fieldLink RX3 37 "PubQuizzes$State" "markers" "[I", Cond.static yX4_indexOf, Cond.initialized RX4]
def wsX3_canReachOthers_r2 : List Cond := [Cond.code yX4_indexOf cX4_indexOf 2 (some .int), Cond.methodLink RX3 83 yX3_markOf, Cond.instanceMethod yX3_markOf, Cond.selects RX3 yX3_markOf yX3_markOf, Cond.code yX3_markOf cX3_markOf 3 (some .int), Cond.fieldLink RX3 34 "PubQuizzes$State" "marks" "[I", Cond.methodLink RX3 100 yX3_hasSheet, Cond.instanceMethod yX3_hasSheet, Cond.selects RX3 yX3_hasSheet yX3_hasSheet, Cond.code yX3_hasSheet cX3_hasSheet 3 (some .boolean), Cond.fieldLink RX3 31 "PubQuizzes$State" "sheets" "[J", Cond.constantLong RX3 55 (-1), Cond.methodLink RX3 97 yX3_isOpen, Cond.instanceMethod yX3_isOpen, Cond.selects RX3 yX3_isOpen yX3_isOpen, Cond.code yX3_isOpen cX3_isOpen 2 (some .boolean), Cond.fieldLink RX3 27 "PubQuizzes$State" "keys" "[J", Cond.methodLink RX3 103 yX3_withJoker, Cond.instanceMethod yX3_withJoker, Cond.selects RX3 yX3_withJoker yX3_withJoker, Cond.code yX3_withJoker cX3_withJoker 4 (some .int), Cond.methodLink RX3 164 yX3_canHandIn, Cond.instanceMethod yX3_canHandIn, Cond.selects RX3 yX3_canHandIn yX3_canHandIn]
def wsX3_canReachOthers_r3 : List Cond := [Cond.code yX3_canHandIn cX3_canHandIn 3 (some .boolean), Cond.methodLink RX3 118 yX3_scoreOf, Cond.instanceMethod yX3_scoreOf, Cond.selects RX3 yX3_scoreOf yX3_scoreOf, Cond.code yX3_scoreOf cX3_scoreOf 4 (some .int), Cond.methodLink RX3 107 yX3_pointsOf, Cond.instanceMethod yX3_pointsOf, Cond.selects RX3 yX3_pointsOf yX3_pointsOf, Cond.code yX3_pointsOf cX3_pointsOf 4 (some .int)]
def wsX3_canReachOthers : List Cond := .code yX3_canReachOthers cX3_canReachOthers 4 (some .boolean) :: ((wsX3_canReachOthers_r1 ++ (wsX3_canReachOthers_r2 ++ wsX3_canReachOthers_r3)) ++ wsX30)
def wsX3_wrongMarksToldBy_r1 : List Cond := [Cond.fieldLink RX3 66 "PubQuizzes$State" "teams" "I", Cond.methodLink RX3 73 yX3_markerOf, Cond.instanceMethod yX3_markerOf, Cond.selects RX3 yX3_markerOf yX3_markerOf, Cond.initialized RX3, Cond.code yX3_markerOf cX3_markerOf 3 (some .int), Cond.fieldLink RX3 37 "PubQuizzes$State" "markers" "[I", Cond.static yX4_indexOf, Cond.initialized RX4, Cond.code yX4_indexOf cX4_indexOf 2 (some .int), Cond.methodLink RX3 173 yX3_isWrong, Cond.instanceMethod yX3_isWrong, Cond.selects RX3 yX3_isWrong yX3_isWrong, Cond.code yX3_isWrong cX3_isWrong 3 (some .boolean), Cond.methodLink RX3 76 yX3_isTold, Cond.instanceMethod yX3_isTold, Cond.selects RX3 yX3_isTold yX3_isTold, Cond.code yX3_isTold cX3_isTold 3 (some .boolean), Cond.methodLink RX3 80 yX3_isLooked, Cond.instanceMethod yX3_isLooked, Cond.selects RX3 yX3_isLooked yX3_isLooked, Cond.code yX3_isLooked cX3_isLooked 3 (some .boolean), Cond.fieldLink RX3 40 "PubQuizzes$State" "looked" "[I", Cond.methodLink RX3 83 yX3_markOf]
def wsX3_wrongMarksToldBy_r2 : List Cond := [Cond.instanceMethod yX3_markOf, Cond.selects RX3 yX3_markOf yX3_markOf, Cond.code yX3_markOf cX3_markOf 3 (some .int), Cond.fieldLink RX3 34 "PubQuizzes$State" "marks" "[I", Cond.methodLink RX3 86 yX3_trueMark, Cond.instanceMethod yX3_trueMark, Cond.selects RX3 yX3_trueMark yX3_trueMark, Cond.code yX3_trueMark cX3_trueMark 10 (some .int), Cond.fieldLink RX3 31 "PubQuizzes$State" "sheets" "[J", Cond.fieldLink RX3 27 "PubQuizzes$State" "keys" "[J", Cond.fieldLink RX3 9 "PubQuizzes$State" "settings" "[I", Cond.methodLink RX3 89 yX2_signAt, Cond.static yX2_signAt, Cond.initialized RX2, Cond.code yX2_signAt cX2_signAt 3 (some .int)]
def wsX3_wrongMarksToldBy : List Cond := .code yX3_wrongMarksToldBy cX3_wrongMarksToldBy 5 (some .int) :: ((wsX3_wrongMarksToldBy_r1 ++ wsX3_wrongMarksToldBy_r2) ++ wsX30)
def wsX3_scoreIfLooked_r1 : List Cond := [Cond.fieldLink RX3 9 "PubQuizzes$State" "settings" "[I", Cond.methodLink RX3 118 yX3_scoreOf, Cond.instanceMethod yX3_scoreOf, Cond.selects RX3 yX3_scoreOf yX3_scoreOf, Cond.initialized RX3, Cond.code yX3_scoreOf cX3_scoreOf 4 (some .int), Cond.fieldLink RX3 21 "PubQuizzes$State" "fines" "[I", Cond.methodLink RX3 107 yX3_pointsOf, Cond.instanceMethod yX3_pointsOf, Cond.selects RX3 yX3_pointsOf yX3_pointsOf, Cond.code yX3_pointsOf cX3_pointsOf 4 (some .int), Cond.fieldLink RX3 37 "PubQuizzes$State" "markers" "[I", Cond.fieldLink RX3 34 "PubQuizzes$State" "marks" "[I", Cond.static yX4_indexOf, Cond.initialized RX4, Cond.code yX4_indexOf cX4_indexOf 2 (some .int), Cond.methodLink RX3 103 yX3_withJoker, Cond.instanceMethod yX3_withJoker, Cond.selects RX3 yX3_withJoker yX3_withJoker, Cond.code yX3_withJoker cX3_withJoker 4 (some .int), Cond.fieldLink RX3 18 "PubQuizzes$State" "jokers" "[I", Cond.methodLink RX3 170 yX3_wrongMarksToldBy, Cond.instanceMethod yX3_wrongMarksToldBy, Cond.selects RX3 yX3_wrongMarksToldBy yX3_wrongMarksToldBy]
def wsX3_scoreIfLooked_r2 : List Cond := [Cond.code yX3_wrongMarksToldBy cX3_wrongMarksToldBy 5 (some .int), Cond.fieldLink RX3 66 "PubQuizzes$State" "teams" "I", Cond.methodLink RX3 73 yX3_markerOf, Cond.instanceMethod yX3_markerOf, Cond.selects RX3 yX3_markerOf yX3_markerOf, Cond.code yX3_markerOf cX3_markerOf 3 (some .int), Cond.methodLink RX3 173 yX3_isWrong, Cond.instanceMethod yX3_isWrong, Cond.selects RX3 yX3_isWrong yX3_isWrong, Cond.code yX3_isWrong cX3_isWrong 3 (some .boolean), Cond.methodLink RX3 76 yX3_isTold, Cond.instanceMethod yX3_isTold, Cond.selects RX3 yX3_isTold yX3_isTold, Cond.code yX3_isTold cX3_isTold 3 (some .boolean), Cond.methodLink RX3 80 yX3_isLooked, Cond.instanceMethod yX3_isLooked, Cond.selects RX3 yX3_isLooked yX3_isLooked, Cond.code yX3_isLooked cX3_isLooked 3 (some .boolean), Cond.fieldLink RX3 40 "PubQuizzes$State" "looked" "[I", Cond.methodLink RX3 83 yX3_markOf, Cond.instanceMethod yX3_markOf, Cond.selects RX3 yX3_markOf yX3_markOf, Cond.code yX3_markOf cX3_markOf 3 (some .int), Cond.methodLink RX3 86 yX3_trueMark]
def wsX3_scoreIfLooked_r3 : List Cond := [Cond.instanceMethod yX3_trueMark, Cond.selects RX3 yX3_trueMark yX3_trueMark, Cond.code yX3_trueMark cX3_trueMark 10 (some .int), Cond.fieldLink RX3 31 "PubQuizzes$State" "sheets" "[J", Cond.fieldLink RX3 27 "PubQuizzes$State" "keys" "[J", Cond.methodLink RX3 89 yX2_signAt, Cond.static yX2_signAt, Cond.initialized RX2, Cond.code yX2_signAt cX2_signAt 3 (some .int)]
def wsX3_scoreIfLooked : List Cond := .code yX3_scoreIfLooked cX3_scoreIfLooked 5 (some .int) :: ((wsX3_scoreIfLooked_r1 ++ (wsX3_scoreIfLooked_r2 ++ wsX3_scoreIfLooked_r3)) ++ wsX30)
def wsX4_init_r1 : List Cond := [Cond.methodLink RX4 3 objectInit, Cond.instanceMethod objectInit, Cond.code objectInit ⟨#[0xb1]⟩ 1 none, Cond.classLink RX4 9 RX3, Cond.instantiable RX3 12, Cond.initialized RX3, Cond.fieldLink RX4 12 "PubQuizzes" "now" "LPubQuizzes$State;", Cond.classLink RX4 16 RX0, Cond.instantiable RX0 3, Cond.initialized RX0, Cond.fieldLink RX4 19 "PubQuizzes" "history" "LPubQuizzes$History;", Cond.classLink RX4 23 RX1, Cond.instantiable RX1 2, Cond.initialized RX1, Cond.fieldLink RX4 26 "PubQuizzes" "pad" "LPubQuizzes$Pad;", Cond.fieldLink RX4 30 "PubQuizzes" "slots" "[LPubQuizzes$State;", Cond.arrayClass .boolean, Cond.fieldLink RX4 34 "PubQuizzes" "saved" "[Z", Cond.methodLink RX4 11 yX3_init, Cond.instanceMethod yX3_init, Cond.code yX3_init cX3_init 1 none, Cond.methodLink RX3 3 objectInit, Cond.arrayClass .int, Cond.fieldLink RX3 9 "PubQuizzes$State" "settings" "[I"]
def wsX4_init_r2 : List Cond := [Cond.fieldLink RX3 15 "PubQuizzes$State" "paid" "[I", Cond.fieldLink RX3 18 "PubQuizzes$State" "jokers" "[I", Cond.fieldLink RX3 21 "PubQuizzes$State" "fines" "[I", Cond.fieldLink RX3 24 "PubQuizzes$State" "guesses" "[I", Cond.arrayClass .long, Cond.fieldLink RX3 27 "PubQuizzes$State" "keys" "[J", Cond.fieldLink RX3 31 "PubQuizzes$State" "sheets" "[J", Cond.fieldLink RX3 34 "PubQuizzes$State" "marks" "[I", Cond.fieldLink RX3 37 "PubQuizzes$State" "markers" "[I", Cond.fieldLink RX3 40 "PubQuizzes$State" "looked" "[I", Cond.fieldLink RX3 43 "PubQuizzes$State" "truth" "I", Cond.constantLong RX3 55 (-1), Cond.methodLink RX3 47 yJ7_fill_53178, Cond.static yJ7_fill_53178, Cond.initialized RJ7, Cond.code yJ7_fill_53178 cJ7_fill_53178 4 none, Cond.methodLink RX3 57 yJ7_fill_d0a16, Cond.static yJ7_fill_d0a16, Cond.code yJ7_fill_d0a16 cJ7_fill_d0a16 5 none, Cond.methodLink RX4 18 yX0_init, Cond.instanceMethod yX0_init, Cond.code yX0_init cX0_init 2 none, Cond.methodLink RX0 1 objectInit, Cond.classLink RX0 9 RX3]
def wsX4_init_r3 : List Cond := [Cond.fieldLink RX0 11 "PubQuizzes$History" "states" "[LPubQuizzes$State;", Cond.methodLink RX0 15 yX3_init, Cond.instanceMethod yX1_init, Cond.code yX1_init cX1_init 1 none, Cond.methodLink RX1 3 objectInit, Cond.fieldLink RX1 11 "PubQuizzes$Pad" "codes" "[I"]
def wsX4_init : List Cond := .code yX4_init cX4_init 2 none :: ((wsX4_init_r1 ++ (wsX4_init_r2 ++ wsX4_init_r3)) ++ wsX30 ++ wsX40 ++ wsX00 ++ wsX10)
def wsX4_set_r1 : List Cond := [Cond.fieldLink RX4 38 "PubQuizzes" "LEAST" "[I", Cond.fieldLink RX4 42 "PubQuizzes" "GREATEST" "[I", Cond.fieldLink RX4 19 "PubQuizzes" "history" "LPubQuizzes$History;", Cond.fieldLink RX4 12 "PubQuizzes" "now" "LPubQuizzes$State;", Cond.fieldLink RX4 49 "PubQuizzes$State" "settings" "[I", Cond.methodLink RX4 45 yX0_record, Cond.instanceMethod yX0_record, Cond.selects RX0 yX0_record yX0_record, Cond.initialized RX0, Cond.code yX0_record cX0_record 2 none, Cond.fieldLink RX0 20 "PubQuizzes$History" "next" "I", Cond.fieldLink RX0 11 "PubQuizzes$History" "states" "[LPubQuizzes$State;", Cond.fieldLink RX0 16 "PubQuizzes$History" "length" "I", Cond.methodLink RX0 27 Lib.Math.min.name, Cond.static Lib.Math.min.name, Cond.initialized "java/lang/Math", Cond.code Lib.Math.min.name Lib.Math.min.code 2 (some .int), Cond.methodLink RX0 23 yX3_copy, Cond.static yX3_copy, Cond.initialized RX3, Cond.code yX3_copy cX3_copy 2 none, Cond.fieldLink RX3 9 "PubQuizzes$State" "settings" "[I", Cond.methodLink RX3 60 arraycopyName, Cond.native arraycopyName]
def wsX4_set_r2 : List Cond := [Cond.static arraycopyName, Cond.initialized "java/lang/System", Cond.fieldLink RX3 15 "PubQuizzes$State" "paid" "[I", Cond.fieldLink RX3 18 "PubQuizzes$State" "jokers" "[I", Cond.fieldLink RX3 21 "PubQuizzes$State" "fines" "[I", Cond.fieldLink RX3 24 "PubQuizzes$State" "guesses" "[I", Cond.fieldLink RX3 27 "PubQuizzes$State" "keys" "[J", Cond.fieldLink RX3 31 "PubQuizzes$State" "sheets" "[J", Cond.fieldLink RX3 34 "PubQuizzes$State" "marks" "[I", Cond.fieldLink RX3 37 "PubQuizzes$State" "markers" "[I", Cond.fieldLink RX3 40 "PubQuizzes$State" "looked" "[I", Cond.fieldLink RX3 66 "PubQuizzes$State" "teams" "I", Cond.fieldLink RX3 43 "PubQuizzes$State" "truth" "I"]
def wsX4_set : List Cond := .code yX4_set cX4_set 4 (some .int) :: ((wsX4_set_r1 ++ wsX4_set_r2) ++ wsX40 ++ wsX30 ++ wsX00)
def wsX4_team_r1 : List Cond := [Cond.fieldLink RX4 12 "PubQuizzes" "now" "LPubQuizzes$State;", Cond.fieldLink RX4 52 "PubQuizzes$State" "teams" "I", Cond.fieldLink RX4 19 "PubQuizzes" "history" "LPubQuizzes$History;", Cond.fieldLink RX4 60 "PubQuizzes$State" "paid" "[I", Cond.fieldLink RX4 49 "PubQuizzes$State" "settings" "[I", Cond.methodLink RX4 56 yX3_openRounds, Cond.instanceMethod yX3_openRounds, Cond.selects RX3 yX3_openRounds yX3_openRounds, Cond.initialized RX3, Cond.code yX3_openRounds cX3_openRounds 3 (some .int), Cond.methodLink RX3 97 yX3_isOpen, Cond.instanceMethod yX3_isOpen, Cond.selects RX3 yX3_isOpen yX3_isOpen, Cond.code yX3_isOpen cX3_isOpen 2 (some .boolean), Cond.fieldLink RX3 27 "PubQuizzes$State" "keys" "[J", Cond.constantLong RX3 55 (-1), Cond.methodLink RX4 45 yX0_record, Cond.instanceMethod yX0_record, Cond.selects RX0 yX0_record yX0_record, Cond.initialized RX0, Cond.code yX0_record cX0_record 2 none, Cond.fieldLink RX0 20 "PubQuizzes$History" "next" "I", Cond.fieldLink RX0 11 "PubQuizzes$History" "states" "[LPubQuizzes$State;", Cond.fieldLink RX0 16 "PubQuizzes$History" "length" "I"]
def wsX4_team_r2 : List Cond := [Cond.methodLink RX0 27 Lib.Math.min.name, Cond.static Lib.Math.min.name, Cond.initialized "java/lang/Math", Cond.code Lib.Math.min.name Lib.Math.min.code 2 (some .int), Cond.methodLink RX0 23 yX3_copy, Cond.static yX3_copy, Cond.code yX3_copy cX3_copy 2 none, Cond.fieldLink RX3 9 "PubQuizzes$State" "settings" "[I", Cond.methodLink RX3 60 arraycopyName, Cond.native arraycopyName, Cond.static arraycopyName, Cond.initialized "java/lang/System", Cond.fieldLink RX3 15 "PubQuizzes$State" "paid" "[I", Cond.fieldLink RX3 18 "PubQuizzes$State" "jokers" "[I", Cond.fieldLink RX3 21 "PubQuizzes$State" "fines" "[I", Cond.fieldLink RX3 24 "PubQuizzes$State" "guesses" "[I", Cond.fieldLink RX3 31 "PubQuizzes$State" "sheets" "[J", Cond.fieldLink RX3 34 "PubQuizzes$State" "marks" "[I", Cond.fieldLink RX3 37 "PubQuizzes$State" "markers" "[I", Cond.fieldLink RX3 40 "PubQuizzes$State" "looked" "[I", Cond.fieldLink RX3 66 "PubQuizzes$State" "teams" "I", Cond.fieldLink RX3 43 "PubQuizzes$State" "truth" "I"]
def wsX4_team : List Cond := .code yX4_team cX4_team 2 (some .int) :: ((wsX4_team_r1 ++ wsX4_team_r2) ++ wsX40 ++ wsX30 ++ wsX00)
def wsX4_isRound : List Cond := .code yX4_isRound cX4_isRound 1 (some .boolean) :: ([])
def wsX4_hand_r1 : List Cond := [Cond.fieldLink RX4 12 "PubQuizzes" "now" "LPubQuizzes$State;", Cond.fieldLink RX4 26 "PubQuizzes" "pad" "LPubQuizzes$Pad;", Cond.fieldLink RX4 19 "PubQuizzes" "history" "LPubQuizzes$History;", Cond.fieldLink RX4 81 "PubQuizzes$State" "sheets" "[J", Cond.methodLink RX4 63 yX3_isTeam, Cond.instanceMethod yX3_isTeam, Cond.selects RX3 yX3_isTeam yX3_isTeam, Cond.initialized RX3, Cond.code yX3_isTeam cX3_isTeam 2 (some .boolean), Cond.fieldLink RX3 66 "PubQuizzes$State" "teams" "I", Cond.methodLink RX4 67 yX4_isRound, Cond.static yX4_isRound, Cond.initialized RX4, Cond.code yX4_isRound cX4_isRound 1 (some .boolean), Cond.methodLink RX4 70 yX1_tellsSheet, Cond.instanceMethod yX1_tellsSheet, Cond.selects RX1 yX1_tellsSheet yX1_tellsSheet, Cond.initialized RX1, Cond.code yX1_tellsSheet cX1_tellsSheet 1 (some .boolean), Cond.methodLink RX1 25 yX1_faultIndex, Cond.instanceMethod yX1_faultIndex, Cond.selects RX1 yX1_faultIndex yX1_faultIndex, Cond.code yX1_faultIndex cX1_faultIndex 2 (some .int), Cond.fieldLink RX1 17 "PubQuizzes$Pad" "length" "I"]
def wsX4_hand_r2 : List Cond := [Cond.fieldLink RX1 11 "PubQuizzes$Pad" "codes" "[I", Cond.methodLink RX1 21 yX1_isSign, Cond.static yX1_isSign, Cond.code yX1_isSign cX1_isSign 1 (some .boolean), Cond.methodLink RX1 33 yX1_isDigit, Cond.static yX1_isDigit, Cond.code yX1_isDigit cX1_isDigit 1 (some .boolean), Cond.methodLink RX4 74 yX3_isOpen, Cond.instanceMethod yX3_isOpen, Cond.selects RX3 yX3_isOpen yX3_isOpen, Cond.code yX3_isOpen cX3_isOpen 2 (some .boolean), Cond.fieldLink RX3 27 "PubQuizzes$State" "keys" "[J", Cond.constantLong RX3 55 (-1), Cond.methodLink RX4 77 yX3_hasSheet, Cond.instanceMethod yX3_hasSheet, Cond.selects RX3 yX3_hasSheet yX3_hasSheet, Cond.code yX3_hasSheet cX3_hasSheet 3 (some .boolean), Cond.fieldLink RX3 31 "PubQuizzes$State" "sheets" "[J", Cond.static yX4_indexOf, Cond.code yX4_indexOf cX4_indexOf 2 (some .int), Cond.methodLink RX4 45 yX0_record, Cond.instanceMethod yX0_record, Cond.selects RX0 yX0_record yX0_record, Cond.initialized RX0]
def wsX4_hand_r3 : List Cond := [Cond.code yX0_record cX0_record 2 none, Cond.fieldLink RX0 20 "PubQuizzes$History" "next" "I", Cond.fieldLink RX0 11 "PubQuizzes$History" "states" "[LPubQuizzes$State;", Cond.fieldLink RX0 16 "PubQuizzes$History" "length" "I", Cond.methodLink RX0 27 Lib.Math.min.name, Cond.static Lib.Math.min.name, Cond.initialized "java/lang/Math", Cond.code Lib.Math.min.name Lib.Math.min.code 2 (some .int), Cond.methodLink RX0 23 yX3_copy, Cond.static yX3_copy, Cond.code yX3_copy cX3_copy 2 none, Cond.fieldLink RX3 9 "PubQuizzes$State" "settings" "[I", Cond.methodLink RX3 60 arraycopyName, Cond.native arraycopyName, Cond.static arraycopyName, Cond.initialized "java/lang/System", Cond.fieldLink RX3 15 "PubQuizzes$State" "paid" "[I", Cond.fieldLink RX3 18 "PubQuizzes$State" "jokers" "[I", Cond.fieldLink RX3 21 "PubQuizzes$State" "fines" "[I", Cond.fieldLink RX3 24 "PubQuizzes$State" "guesses" "[I", Cond.fieldLink RX3 34 "PubQuizzes$State" "marks" "[I", Cond.fieldLink RX3 37 "PubQuizzes$State" "markers" "[I", Cond.fieldLink RX3 40 "PubQuizzes$State" "looked" "[I", Cond.fieldLink RX3 43 "PubQuizzes$State" "truth" "I"]
def wsX4_hand_r4 : List Cond := [Cond.methodLink RX4 85 yX4_indexOf, Cond.methodLink RX4 89 yX1_signs, Cond.instanceMethod yX1_signs, Cond.selects RX1 yX1_signs yX1_signs, Cond.code yX1_signs cX1_signs 5 (some .long), Cond.methodLink RX1 38 yX2_withSign, Cond.static yX2_withSign, Cond.initialized RX2, Cond.code yX2_withSign cX2_withSign 4 (some .long), Cond.methodLink RX4 93 yX1_clear, Cond.instanceMethod yX1_clear, Cond.selects RX1 yX1_clear yX1_clear, Cond.code yX1_clear cX1_clear 1 none, Cond.methodLink RX4 96 yX3_answered, Cond.instanceMethod yX3_answered, Cond.selects RX3 yX3_answered yX3_answered, Cond.code yX3_answered cX3_answered 7 (some .int), Cond.methodLink RX3 89 yX2_signAt, Cond.static yX2_signAt, Cond.code yX2_signAt cX2_signAt 3 (some .int)]
def wsX4_hand : List Cond := .code yX4_hand cX4_hand 3 (some .int) :: ((wsX4_hand_r1 ++ (wsX4_hand_r2 ++ (wsX4_hand_r3 ++ wsX4_hand_r4))) ++ wsX40 ++ wsX30 ++ wsX10 ++ wsX00)
def wsX4_joker_r1 : List Cond := [Cond.fieldLink RX4 12 "PubQuizzes" "now" "LPubQuizzes$State;", Cond.fieldLink RX4 99 "PubQuizzes$State" "jokers" "[I", Cond.fieldLink RX4 19 "PubQuizzes" "history" "LPubQuizzes$History;", Cond.methodLink RX4 63 yX3_isTeam, Cond.instanceMethod yX3_isTeam, Cond.selects RX3 yX3_isTeam yX3_isTeam, Cond.initialized RX3, Cond.code yX3_isTeam cX3_isTeam 2 (some .boolean), Cond.fieldLink RX3 66 "PubQuizzes$State" "teams" "I", Cond.methodLink RX4 67 yX4_isRound, Cond.static yX4_isRound, Cond.initialized RX4, Cond.code yX4_isRound cX4_isRound 1 (some .boolean), Cond.methodLink RX4 74 yX3_isOpen, Cond.instanceMethod yX3_isOpen, Cond.selects RX3 yX3_isOpen yX3_isOpen, Cond.code yX3_isOpen cX3_isOpen 2 (some .boolean), Cond.fieldLink RX3 27 "PubQuizzes$State" "keys" "[J", Cond.constantLong RX3 55 (-1), Cond.methodLink RX4 77 yX3_hasSheet, Cond.instanceMethod yX3_hasSheet, Cond.selects RX3 yX3_hasSheet yX3_hasSheet, Cond.code yX3_hasSheet cX3_hasSheet 3 (some .boolean), Cond.fieldLink RX3 31 "PubQuizzes$State" "sheets" "[J"]
def wsX4_joker_r2 : List Cond := [Cond.static yX4_indexOf, Cond.code yX4_indexOf cX4_indexOf 2 (some .int), Cond.methodLink RX4 45 yX0_record, Cond.instanceMethod yX0_record, Cond.selects RX0 yX0_record yX0_record, Cond.initialized RX0, Cond.code yX0_record cX0_record 2 none, Cond.fieldLink RX0 20 "PubQuizzes$History" "next" "I", Cond.fieldLink RX0 11 "PubQuizzes$History" "states" "[LPubQuizzes$State;", Cond.fieldLink RX0 16 "PubQuizzes$History" "length" "I", Cond.methodLink RX0 27 Lib.Math.min.name, Cond.static Lib.Math.min.name, Cond.initialized "java/lang/Math", Cond.code Lib.Math.min.name Lib.Math.min.code 2 (some .int), Cond.methodLink RX0 23 yX3_copy, Cond.static yX3_copy, Cond.code yX3_copy cX3_copy 2 none, Cond.fieldLink RX3 9 "PubQuizzes$State" "settings" "[I", Cond.methodLink RX3 60 arraycopyName, Cond.native arraycopyName, Cond.static arraycopyName, Cond.initialized "java/lang/System", Cond.fieldLink RX3 15 "PubQuizzes$State" "paid" "[I", Cond.fieldLink RX3 18 "PubQuizzes$State" "jokers" "[I"]
def wsX4_joker_r3 : List Cond := [Cond.fieldLink RX3 21 "PubQuizzes$State" "fines" "[I", Cond.fieldLink RX3 24 "PubQuizzes$State" "guesses" "[I", Cond.fieldLink RX3 34 "PubQuizzes$State" "marks" "[I", Cond.fieldLink RX3 37 "PubQuizzes$State" "markers" "[I", Cond.fieldLink RX3 40 "PubQuizzes$State" "looked" "[I", Cond.fieldLink RX3 43 "PubQuizzes$State" "truth" "I", Cond.methodLink RX4 102 yX3_teamsWithJoker, Cond.instanceMethod yX3_teamsWithJoker, Cond.selects RX3 yX3_teamsWithJoker yX3_teamsWithJoker, Cond.code yX3_teamsWithJoker cX3_teamsWithJoker 4 (some .int), Cond.methodLink RX4 106 yJ6_bitCount_0f7a4, Cond.static yJ6_bitCount_0f7a4, Cond.initialized RJ6, Cond.code yJ6_bitCount_0f7a4 cJ6_bitCount_0f7a4 1 (some .int), Cond.constant RJ6 265 (1431655765), Cond.constant RJ6 266 (858993459), Cond.constant RJ6 267 (252645135)]
def wsX4_joker : List Cond := .code yX4_joker cX4_joker 3 (some .int) :: ((wsX4_joker_r1 ++ (wsX4_joker_r2 ++ wsX4_joker_r3)) ++ wsX40 ++ wsX30 ++ wsX00)
def wsX4_key_r1 : List Cond := [Cond.fieldLink RX4 26 "PubQuizzes" "pad" "LPubQuizzes$Pad;", Cond.fieldLink RX4 12 "PubQuizzes" "now" "LPubQuizzes$State;", Cond.fieldLink RX4 19 "PubQuizzes" "history" "LPubQuizzes$History;", Cond.fieldLink RX4 114 "PubQuizzes$State" "keys" "[J", Cond.methodLink RX4 67 yX4_isRound, Cond.static yX4_isRound, Cond.initialized RX4, Cond.code yX4_isRound cX4_isRound 1 (some .boolean), Cond.methodLink RX4 111 yX1_tellsKey, Cond.instanceMethod yX1_tellsKey, Cond.selects RX1 yX1_tellsKey yX1_tellsKey, Cond.initialized RX1, Cond.code yX1_tellsKey cX1_tellsKey 2 (some .boolean), Cond.fieldLink RX1 11 "PubQuizzes$Pad" "codes" "[I", Cond.methodLink RX1 29 yX1_tellsSheet, Cond.instanceMethod yX1_tellsSheet, Cond.selects RX1 yX1_tellsSheet yX1_tellsSheet, Cond.code yX1_tellsSheet cX1_tellsSheet 1 (some .boolean), Cond.methodLink RX1 25 yX1_faultIndex, Cond.instanceMethod yX1_faultIndex, Cond.selects RX1 yX1_faultIndex yX1_faultIndex, Cond.code yX1_faultIndex cX1_faultIndex 2 (some .int), Cond.fieldLink RX1 17 "PubQuizzes$Pad" "length" "I", Cond.methodLink RX1 21 yX1_isSign]
def wsX4_key_r2 : List Cond := [Cond.static yX1_isSign, Cond.code yX1_isSign cX1_isSign 1 (some .boolean), Cond.methodLink RX1 33 yX1_isDigit, Cond.static yX1_isDigit, Cond.code yX1_isDigit cX1_isDigit 1 (some .boolean), Cond.methodLink RX4 74 yX3_isOpen, Cond.instanceMethod yX3_isOpen, Cond.selects RX3 yX3_isOpen yX3_isOpen, Cond.initialized RX3, Cond.code yX3_isOpen cX3_isOpen 2 (some .boolean), Cond.fieldLink RX3 27 "PubQuizzes$State" "keys" "[J", Cond.constantLong RX3 55 (-1), Cond.methodLink RX4 45 yX0_record, Cond.instanceMethod yX0_record, Cond.selects RX0 yX0_record yX0_record, Cond.initialized RX0, Cond.code yX0_record cX0_record 2 none, Cond.fieldLink RX0 20 "PubQuizzes$History" "next" "I", Cond.fieldLink RX0 11 "PubQuizzes$History" "states" "[LPubQuizzes$State;", Cond.fieldLink RX0 16 "PubQuizzes$History" "length" "I", Cond.methodLink RX0 27 Lib.Math.min.name, Cond.static Lib.Math.min.name, Cond.initialized "java/lang/Math", Cond.code Lib.Math.min.name Lib.Math.min.code 2 (some .int)]
def wsX4_key_r3 : List Cond := [Cond.methodLink RX0 23 yX3_copy, Cond.static yX3_copy, Cond.code yX3_copy cX3_copy 2 none, Cond.fieldLink RX3 9 "PubQuizzes$State" "settings" "[I", Cond.methodLink RX3 60 arraycopyName, Cond.native arraycopyName, Cond.static arraycopyName, Cond.initialized "java/lang/System", Cond.fieldLink RX3 15 "PubQuizzes$State" "paid" "[I", Cond.fieldLink RX3 18 "PubQuizzes$State" "jokers" "[I", Cond.fieldLink RX3 21 "PubQuizzes$State" "fines" "[I", Cond.fieldLink RX3 24 "PubQuizzes$State" "guesses" "[I", Cond.fieldLink RX3 31 "PubQuizzes$State" "sheets" "[J", Cond.fieldLink RX3 34 "PubQuizzes$State" "marks" "[I", Cond.fieldLink RX3 37 "PubQuizzes$State" "markers" "[I", Cond.fieldLink RX3 40 "PubQuizzes$State" "looked" "[I", Cond.fieldLink RX3 66 "PubQuizzes$State" "teams" "I", Cond.fieldLink RX3 43 "PubQuizzes$State" "truth" "I", Cond.methodLink RX4 89 yX1_signs, Cond.instanceMethod yX1_signs, Cond.selects RX1 yX1_signs yX1_signs, Cond.code yX1_signs cX1_signs 5 (some .long), Cond.methodLink RX1 38 yX2_withSign, Cond.static yX2_withSign]
def wsX4_key_r4 : List Cond := [Cond.initialized RX2, Cond.code yX2_withSign cX2_withSign 4 (some .long), Cond.methodLink RX4 93 yX1_clear, Cond.instanceMethod yX1_clear, Cond.selects RX1 yX1_clear yX1_clear, Cond.code yX1_clear cX1_clear 1 none, Cond.methodLink RX4 117 yX3_teamsWithSheet, Cond.instanceMethod yX3_teamsWithSheet, Cond.selects RX3 yX3_teamsWithSheet yX3_teamsWithSheet, Cond.code yX3_teamsWithSheet cX3_teamsWithSheet 4 (some .int), Cond.methodLink RX3 100 yX3_hasSheet, Cond.instanceMethod yX3_hasSheet, Cond.selects RX3 yX3_hasSheet yX3_hasSheet, Cond.code yX3_hasSheet cX3_hasSheet 3 (some .boolean), Cond.static yX4_indexOf, Cond.code yX4_indexOf cX4_indexOf 2 (some .int), Cond.methodLink RX4 106 yJ6_bitCount_0f7a4, Cond.static yJ6_bitCount_0f7a4, Cond.initialized RJ6, Cond.code yJ6_bitCount_0f7a4 cJ6_bitCount_0f7a4 1 (some .int), Cond.constant RJ6 265 (1431655765), Cond.constant RJ6 266 (858993459), Cond.constant RJ6 267 (252645135)]
def wsX4_key : List Cond := .code yX4_key cX4_key 2 (some .int) :: ((wsX4_key_r1 ++ (wsX4_key_r2 ++ (wsX4_key_r3 ++ wsX4_key_r4))) ++ wsX40 ++ wsX30 ++ wsX10 ++ wsX00)
def wsX4_mark_r1 : List Cond := [Cond.fieldLink RX4 12 "PubQuizzes" "now" "LPubQuizzes$State;", Cond.fieldLink RX4 19 "PubQuizzes" "history" "LPubQuizzes$History;", Cond.fieldLink RX4 123 "PubQuizzes$State" "marks" "[I", Cond.fieldLink RX4 126 "PubQuizzes$State" "markers" "[I", Cond.methodLink RX4 63 yX3_isTeam, Cond.instanceMethod yX3_isTeam, Cond.selects RX3 yX3_isTeam yX3_isTeam, Cond.initialized RX3, Cond.code yX3_isTeam cX3_isTeam 2 (some .boolean), Cond.fieldLink RX3 66 "PubQuizzes$State" "teams" "I", Cond.methodLink RX4 67 yX4_isRound, Cond.static yX4_isRound, Cond.initialized RX4, Cond.code yX4_isRound cX4_isRound 1 (some .boolean), Cond.methodLink RX4 74 yX3_isOpen, Cond.instanceMethod yX3_isOpen, Cond.selects RX3 yX3_isOpen yX3_isOpen, Cond.code yX3_isOpen cX3_isOpen 2 (some .boolean), Cond.fieldLink RX3 27 "PubQuizzes$State" "keys" "[J", Cond.constantLong RX3 55 (-1), Cond.methodLink RX4 77 yX3_hasSheet, Cond.instanceMethod yX3_hasSheet, Cond.selects RX3 yX3_hasSheet yX3_hasSheet, Cond.code yX3_hasSheet cX3_hasSheet 3 (some .boolean)]
def wsX4_mark_r2 : List Cond := [Cond.fieldLink RX3 31 "PubQuizzes$State" "sheets" "[J", Cond.static yX4_indexOf, Cond.code yX4_indexOf cX4_indexOf 2 (some .int), Cond.methodLink RX4 120 yX3_isTold, Cond.instanceMethod yX3_isTold, Cond.selects RX3 yX3_isTold yX3_isTold, Cond.code yX3_isTold cX3_isTold 3 (some .boolean), Cond.methodLink RX3 73 yX3_markerOf, Cond.instanceMethod yX3_markerOf, Cond.selects RX3 yX3_markerOf yX3_markerOf, Cond.code yX3_markerOf cX3_markerOf 3 (some .int), Cond.fieldLink RX3 37 "PubQuizzes$State" "markers" "[I", Cond.methodLink RX4 45 yX0_record, Cond.instanceMethod yX0_record, Cond.selects RX0 yX0_record yX0_record, Cond.initialized RX0, Cond.code yX0_record cX0_record 2 none, Cond.fieldLink RX0 20 "PubQuizzes$History" "next" "I", Cond.fieldLink RX0 11 "PubQuizzes$History" "states" "[LPubQuizzes$State;", Cond.fieldLink RX0 16 "PubQuizzes$History" "length" "I", Cond.methodLink RX0 27 Lib.Math.min.name, Cond.static Lib.Math.min.name, Cond.initialized "java/lang/Math", Cond.code Lib.Math.min.name Lib.Math.min.code 2 (some .int)]
def wsX4_mark_r3 : List Cond := [Cond.methodLink RX0 23 yX3_copy, Cond.static yX3_copy, Cond.code yX3_copy cX3_copy 2 none, Cond.fieldLink RX3 9 "PubQuizzes$State" "settings" "[I", Cond.methodLink RX3 60 arraycopyName, Cond.native arraycopyName, Cond.static arraycopyName, Cond.initialized "java/lang/System", Cond.fieldLink RX3 15 "PubQuizzes$State" "paid" "[I", Cond.fieldLink RX3 18 "PubQuizzes$State" "jokers" "[I", Cond.fieldLink RX3 21 "PubQuizzes$State" "fines" "[I", Cond.fieldLink RX3 24 "PubQuizzes$State" "guesses" "[I", Cond.fieldLink RX3 34 "PubQuizzes$State" "marks" "[I", Cond.fieldLink RX3 40 "PubQuizzes$State" "looked" "[I", Cond.fieldLink RX3 43 "PubQuizzes$State" "truth" "I", Cond.methodLink RX4 85 yX4_indexOf]
def wsX4_mark : List Cond := .code yX4_mark cX4_mark 5 (some .int) :: ((wsX4_mark_r1 ++ (wsX4_mark_r2 ++ wsX4_mark_r3)) ++ wsX40 ++ wsX30 ++ wsX00)
def wsX4_look_r1 : List Cond := [Cond.fieldLink RX4 12 "PubQuizzes" "now" "LPubQuizzes$State;", Cond.fieldLink RX4 19 "PubQuizzes" "history" "LPubQuizzes$History;", Cond.fieldLink RX4 123 "PubQuizzes$State" "marks" "[I", Cond.fieldLink RX4 145 "PubQuizzes$State" "looked" "[I", Cond.methodLink RX4 63 yX3_isTeam, Cond.instanceMethod yX3_isTeam, Cond.selects RX3 yX3_isTeam yX3_isTeam, Cond.initialized RX3, Cond.code yX3_isTeam cX3_isTeam 2 (some .boolean), Cond.fieldLink RX3 66 "PubQuizzes$State" "teams" "I", Cond.methodLink RX4 67 yX4_isRound, Cond.static yX4_isRound, Cond.initialized RX4, Cond.code yX4_isRound cX4_isRound 1 (some .boolean), Cond.methodLink RX4 120 yX3_isTold, Cond.instanceMethod yX3_isTold, Cond.selects RX3 yX3_isTold yX3_isTold, Cond.code yX3_isTold cX3_isTold 3 (some .boolean), Cond.methodLink RX3 73 yX3_markerOf, Cond.instanceMethod yX3_markerOf, Cond.selects RX3 yX3_markerOf yX3_markerOf, Cond.code yX3_markerOf cX3_markerOf 3 (some .int), Cond.fieldLink RX3 37 "PubQuizzes$State" "markers" "[I", Cond.static yX4_indexOf]
def wsX4_look_r2 : List Cond := [Cond.code yX4_indexOf cX4_indexOf 2 (some .int), Cond.methodLink RX4 129 yX3_isLooked, Cond.instanceMethod yX3_isLooked, Cond.selects RX3 yX3_isLooked yX3_isLooked, Cond.code yX3_isLooked cX3_isLooked 3 (some .boolean), Cond.fieldLink RX3 40 "PubQuizzes$State" "looked" "[I", Cond.methodLink RX4 45 yX0_record, Cond.instanceMethod yX0_record, Cond.selects RX0 yX0_record yX0_record, Cond.initialized RX0, Cond.code yX0_record cX0_record 2 none, Cond.fieldLink RX0 20 "PubQuizzes$History" "next" "I", Cond.fieldLink RX0 11 "PubQuizzes$History" "states" "[LPubQuizzes$State;", Cond.fieldLink RX0 16 "PubQuizzes$History" "length" "I", Cond.methodLink RX0 27 Lib.Math.min.name, Cond.static Lib.Math.min.name, Cond.initialized "java/lang/Math", Cond.code Lib.Math.min.name Lib.Math.min.code 2 (some .int), Cond.methodLink RX0 23 yX3_copy, Cond.static yX3_copy, Cond.code yX3_copy cX3_copy 2 none, Cond.fieldLink RX3 9 "PubQuizzes$State" "settings" "[I", Cond.methodLink RX3 60 arraycopyName, Cond.native arraycopyName]
def wsX4_look_r3 : List Cond := [Cond.static arraycopyName, Cond.initialized "java/lang/System", Cond.fieldLink RX3 15 "PubQuizzes$State" "paid" "[I", Cond.fieldLink RX3 18 "PubQuizzes$State" "jokers" "[I", Cond.fieldLink RX3 21 "PubQuizzes$State" "fines" "[I", Cond.fieldLink RX3 24 "PubQuizzes$State" "guesses" "[I", Cond.fieldLink RX3 27 "PubQuizzes$State" "keys" "[J", Cond.fieldLink RX3 31 "PubQuizzes$State" "sheets" "[J", Cond.fieldLink RX3 34 "PubQuizzes$State" "marks" "[I", Cond.fieldLink RX3 43 "PubQuizzes$State" "truth" "I", Cond.methodLink RX4 132 yX3_isWrong, Cond.instanceMethod yX3_isWrong, Cond.selects RX3 yX3_isWrong yX3_isWrong, Cond.code yX3_isWrong cX3_isWrong 3 (some .boolean), Cond.methodLink RX3 76 yX3_isTold, Cond.methodLink RX3 80 yX3_isLooked, Cond.methodLink RX3 83 yX3_markOf, Cond.instanceMethod yX3_markOf, Cond.selects RX3 yX3_markOf yX3_markOf, Cond.code yX3_markOf cX3_markOf 3 (some .int), Cond.methodLink RX3 86 yX3_trueMark, Cond.instanceMethod yX3_trueMark, Cond.selects RX3 yX3_trueMark yX3_trueMark, Cond.code yX3_trueMark cX3_trueMark 10 (some .int)]
def wsX4_look_r4 : List Cond := [Cond.methodLink RX3 89 yX2_signAt, Cond.static yX2_signAt, Cond.initialized RX2, Cond.code yX2_signAt cX2_signAt 3 (some .int), Cond.methodLink RX4 135 yX3_markerOf, Cond.methodLink RX4 138 yX3_addFine, Cond.instanceMethod yX3_addFine, Cond.selects RX3 yX3_addFine yX3_addFine, Cond.code yX3_addFine cX3_addFine 2 none, Cond.methodLink RX3 93 yX3_isTeam, Cond.methodLink RX4 85 yX4_indexOf, Cond.methodLink RX4 142 yX3_trueMark]
def wsX4_look : List Cond := .code yX4_look cX4_look 4 (some .int) :: ((wsX4_look_r1 ++ (wsX4_look_r2 ++ (wsX4_look_r3 ++ wsX4_look_r4))) ++ wsX40 ++ wsX30 ++ wsX00)
def wsX4_guess_r1 : List Cond := [Cond.fieldLink RX4 12 "PubQuizzes" "now" "LPubQuizzes$State;", Cond.fieldLink RX4 148 "PubQuizzes$State" "truth" "I", Cond.fieldLink RX4 19 "PubQuizzes" "history" "LPubQuizzes$History;", Cond.fieldLink RX4 151 "PubQuizzes$State" "guesses" "[I", Cond.methodLink RX4 63 yX3_isTeam, Cond.instanceMethod yX3_isTeam, Cond.selects RX3 yX3_isTeam yX3_isTeam, Cond.initialized RX3, Cond.code yX3_isTeam cX3_isTeam 2 (some .boolean), Cond.fieldLink RX3 66 "PubQuizzes$State" "teams" "I", Cond.methodLink RX4 45 yX0_record, Cond.instanceMethod yX0_record, Cond.selects RX0 yX0_record yX0_record, Cond.initialized RX0, Cond.code yX0_record cX0_record 2 none, Cond.fieldLink RX0 20 "PubQuizzes$History" "next" "I", Cond.fieldLink RX0 11 "PubQuizzes$History" "states" "[LPubQuizzes$State;", Cond.fieldLink RX0 16 "PubQuizzes$History" "length" "I", Cond.methodLink RX0 27 Lib.Math.min.name, Cond.static Lib.Math.min.name, Cond.initialized "java/lang/Math", Cond.code Lib.Math.min.name Lib.Math.min.code 2 (some .int), Cond.methodLink RX0 23 yX3_copy, Cond.static yX3_copy]
def wsX4_guess_r2 : List Cond := [Cond.code yX3_copy cX3_copy 2 none, Cond.fieldLink RX3 9 "PubQuizzes$State" "settings" "[I", Cond.methodLink RX3 60 arraycopyName, Cond.native arraycopyName, Cond.static arraycopyName, Cond.initialized "java/lang/System", Cond.fieldLink RX3 15 "PubQuizzes$State" "paid" "[I", Cond.fieldLink RX3 18 "PubQuizzes$State" "jokers" "[I", Cond.fieldLink RX3 21 "PubQuizzes$State" "fines" "[I", Cond.fieldLink RX3 24 "PubQuizzes$State" "guesses" "[I", Cond.fieldLink RX3 27 "PubQuizzes$State" "keys" "[J", Cond.fieldLink RX3 31 "PubQuizzes$State" "sheets" "[J", Cond.fieldLink RX3 34 "PubQuizzes$State" "marks" "[I", Cond.fieldLink RX3 37 "PubQuizzes$State" "markers" "[I", Cond.fieldLink RX3 40 "PubQuizzes$State" "looked" "[I", Cond.fieldLink RX3 43 "PubQuizzes$State" "truth" "I"]
def wsX4_guess : List Cond := .code yX4_guess cX4_guess 4 (some .int) :: ((wsX4_guess_r1 ++ wsX4_guess_r2) ++ wsX40 ++ wsX30 ++ wsX00)
def wsX4_truth_r1 : List Cond := [Cond.fieldLink RX4 12 "PubQuizzes" "now" "LPubQuizzes$State;", Cond.fieldLink RX4 148 "PubQuizzes$State" "truth" "I", Cond.fieldLink RX4 19 "PubQuizzes" "history" "LPubQuizzes$History;", Cond.methodLink RX4 45 yX0_record, Cond.instanceMethod yX0_record, Cond.selects RX0 yX0_record yX0_record, Cond.initialized RX0, Cond.code yX0_record cX0_record 2 none, Cond.fieldLink RX0 20 "PubQuizzes$History" "next" "I", Cond.fieldLink RX0 11 "PubQuizzes$History" "states" "[LPubQuizzes$State;", Cond.fieldLink RX0 16 "PubQuizzes$History" "length" "I", Cond.methodLink RX0 27 Lib.Math.min.name, Cond.static Lib.Math.min.name, Cond.initialized "java/lang/Math", Cond.code Lib.Math.min.name Lib.Math.min.code 2 (some .int), Cond.methodLink RX0 23 yX3_copy, Cond.static yX3_copy, Cond.initialized RX3, Cond.code yX3_copy cX3_copy 2 none, Cond.fieldLink RX3 9 "PubQuizzes$State" "settings" "[I", Cond.methodLink RX3 60 arraycopyName, Cond.native arraycopyName, Cond.static arraycopyName, Cond.initialized "java/lang/System"]
def wsX4_truth_r2 : List Cond := [Cond.fieldLink RX3 15 "PubQuizzes$State" "paid" "[I", Cond.fieldLink RX3 18 "PubQuizzes$State" "jokers" "[I", Cond.fieldLink RX3 21 "PubQuizzes$State" "fines" "[I", Cond.fieldLink RX3 24 "PubQuizzes$State" "guesses" "[I", Cond.fieldLink RX3 27 "PubQuizzes$State" "keys" "[J", Cond.fieldLink RX3 31 "PubQuizzes$State" "sheets" "[J", Cond.fieldLink RX3 34 "PubQuizzes$State" "marks" "[I", Cond.fieldLink RX3 37 "PubQuizzes$State" "markers" "[I", Cond.fieldLink RX3 40 "PubQuizzes$State" "looked" "[I", Cond.fieldLink RX3 66 "PubQuizzes$State" "teams" "I", Cond.fieldLink RX3 43 "PubQuizzes$State" "truth" "I", Cond.methodLink RX4 154 yX3_guessers, Cond.instanceMethod yX3_guessers, Cond.selects RX3 yX3_guessers yX3_guessers, Cond.code yX3_guessers cX3_guessers 3 (some .int)]
def wsX4_truth : List Cond := .code yX4_truth cX4_truth 2 (some .int) :: ((wsX4_truth_r1 ++ wsX4_truth_r2) ++ wsX40 ++ wsX30 ++ wsX00)
def wsX4_ofTeam_r1 : List Cond := [Cond.fieldLink RX4 12 "PubQuizzes" "now" "LPubQuizzes$State;", Cond.fieldLink RX4 99 "PubQuizzes$State" "jokers" "[I", Cond.fieldLink RX4 166 "PubQuizzes$State" "fines" "[I", Cond.fieldLink RX4 151 "PubQuizzes$State" "guesses" "[I", Cond.fieldLink RX4 60 "PubQuizzes$State" "paid" "[I", Cond.methodLink RX4 63 yX3_isTeam, Cond.instanceMethod yX3_isTeam, Cond.selects RX3 yX3_isTeam yX3_isTeam, Cond.initialized RX3, Cond.code yX3_isTeam cX3_isTeam 2 (some .boolean), Cond.fieldLink RX3 66 "PubQuizzes$State" "teams" "I", Cond.methodLink RX4 157 yX3_scoreOf, Cond.instanceMethod yX3_scoreOf, Cond.selects RX3 yX3_scoreOf yX3_scoreOf, Cond.code yX3_scoreOf cX3_scoreOf 4 (some .int), Cond.fieldLink RX3 9 "PubQuizzes$State" "settings" "[I", Cond.fieldLink RX3 21 "PubQuizzes$State" "fines" "[I", Cond.methodLink RX3 107 yX3_pointsOf, Cond.instanceMethod yX3_pointsOf, Cond.selects RX3 yX3_pointsOf yX3_pointsOf, Cond.code yX3_pointsOf cX3_pointsOf 4 (some .int), Cond.fieldLink RX3 37 "PubQuizzes$State" "markers" "[I", Cond.fieldLink RX3 34 "PubQuizzes$State" "marks" "[I", Cond.static yX4_indexOf]
def wsX4_ofTeam_r2 : List Cond := [Cond.initialized RX4, Cond.code yX4_indexOf cX4_indexOf 2 (some .int), Cond.methodLink RX3 103 yX3_withJoker, Cond.instanceMethod yX3_withJoker, Cond.selects RX3 yX3_withJoker yX3_withJoker, Cond.code yX3_withJoker cX3_withJoker 4 (some .int), Cond.fieldLink RX3 18 "PubQuizzes$State" "jokers" "[I", Cond.methodLink RX4 160 yX3_rankOf, Cond.instanceMethod yX3_rankOf, Cond.selects RX3 yX3_rankOf yX3_rankOf, Cond.code yX3_rankOf cX3_rankOf 4 (some .int), Cond.methodLink RX3 133 yX3_isAhead, Cond.instanceMethod yX3_isAhead, Cond.selects RX3 yX3_isAhead yX3_isAhead, Cond.code yX3_isAhead cX3_isAhead 4 (some .boolean), Cond.methodLink RX3 118 yX3_scoreOf, Cond.methodLink RX3 130 yX3_distanceOf, Cond.instanceMethod yX3_distanceOf, Cond.selects RX3 yX3_distanceOf yX3_distanceOf, Cond.code yX3_distanceOf cX3_distanceOf 2 (some .int), Cond.fieldLink RX3 43 "PubQuizzes$State" "truth" "I", Cond.fieldLink RX3 24 "PubQuizzes$State" "guesses" "[I", Cond.methodLink RX3 127 Lib.Math.abs.name, Cond.static Lib.Math.abs.name]
def wsX4_ofTeam_r3 : List Cond := [Cond.initialized "java/lang/Math", Cond.code Lib.Math.abs.name Lib.Math.abs.code 1 (some .int), Cond.methodLink RX4 163 yX3_prizeOf, Cond.instanceMethod yX3_prizeOf, Cond.selects RX3 yX3_prizeOf yX3_prizeOf, Cond.code yX3_prizeOf cX3_prizeOf 7 (some .int), Cond.methodLink RX3 136 yX3_rankOf, Cond.methodLink RX3 139 yX3_tiedWith, Cond.instanceMethod yX3_tiedWith, Cond.selects RX3 yX3_tiedWith yX3_tiedWith, Cond.code yX3_tiedWith cX3_tiedWith 4 (some .int), Cond.methodLink RX3 122 yJ6_bitCount_0f7a4, Cond.static yJ6_bitCount_0f7a4, Cond.initialized RJ6, Cond.code yJ6_bitCount_0f7a4 cJ6_bitCount_0f7a4 1 (some .int), Cond.constant RJ6 265 (1431655765), Cond.constant RJ6 266 (858993459), Cond.constant RJ6 267 (252645135), Cond.methodLink RX3 155 yX3_prizeOfPlace, Cond.instanceMethod yX3_prizeOfPlace, Cond.selects RX3 yX3_prizeOfPlace yX3_prizeOfPlace, Cond.code yX3_prizeOfPlace cX3_prizeOfPlace 5 (some .int), Cond.methodLink RX3 152 yX3_pot, Cond.instanceMethod yX3_pot]
def wsX4_ofTeam_r4 : List Cond := [Cond.selects RX3 yX3_pot yX3_pot, Cond.code yX3_pot cX3_pot 1 (some .int), Cond.methodLink RX3 145 yX3_entries, Cond.instanceMethod yX3_entries, Cond.selects RX3 yX3_entries yX3_entries, Cond.code yX3_entries cX3_entries 3 (some .int), Cond.fieldLink RX3 15 "PubQuizzes$State" "paid" "[I", Cond.methodLink RX3 149 yX3_ofTheHouse, Cond.instanceMethod yX3_ofTheHouse, Cond.selects RX3 yX3_ofTheHouse yX3_ofTheHouse, Cond.code yX3_ofTheHouse cX3_ofTheHouse 1 (some .int), Cond.methodLink RX3 142 yX3_lowerIn, Cond.static yX3_lowerIn, Cond.code yX3_lowerIn cX3_lowerIn 2 (some .int), Cond.methodLink RX4 169 yX3_roundsWithSheet, Cond.instanceMethod yX3_roundsWithSheet, Cond.selects RX3 yX3_roundsWithSheet yX3_roundsWithSheet, Cond.code yX3_roundsWithSheet cX3_roundsWithSheet 4 (some .int), Cond.methodLink RX3 100 yX3_hasSheet, Cond.instanceMethod yX3_hasSheet, Cond.selects RX3 yX3_hasSheet yX3_hasSheet, Cond.code yX3_hasSheet cX3_hasSheet 3 (some .boolean), Cond.fieldLink RX3 31 "PubQuizzes$State" "sheets" "[J", Cond.constantLong RX3 55 (-1)]
def wsX4_ofTeam_r5 : List Cond := [Cond.methodLink RX4 172 yX3_roundsTold, Cond.instanceMethod yX3_roundsTold, Cond.selects RX3 yX3_roundsTold yX3_roundsTold, Cond.code yX3_roundsTold cX3_roundsTold 4 (some .int), Cond.methodLink RX3 76 yX3_isTold, Cond.instanceMethod yX3_isTold, Cond.selects RX3 yX3_isTold yX3_isTold, Cond.code yX3_isTold cX3_isTold 3 (some .boolean), Cond.methodLink RX3 73 yX3_markerOf, Cond.instanceMethod yX3_markerOf, Cond.selects RX3 yX3_markerOf yX3_markerOf, Cond.code yX3_markerOf cX3_markerOf 3 (some .int), Cond.methodLink RX4 175 yX3_tiedWith]
def wsX4_ofTeam : List Cond := .code yX4_ofTeam cX4_ofTeam 3 (some .int) :: ((wsX4_ofTeam_r1 ++ (wsX4_ofTeam_r2 ++ (wsX4_ofTeam_r3 ++ (wsX4_ofTeam_r4 ++ wsX4_ofTeam_r5)))) ++ wsX40 ++ wsX30)
def wsX4_ofRound_r1 : List Cond := [Cond.fieldLink RX4 12 "PubQuizzes" "now" "LPubQuizzes$State;", Cond.fieldLink RX4 145 "PubQuizzes$State" "looked" "[I", Cond.fieldLink RX4 52 "PubQuizzes$State" "teams" "I", Cond.methodLink RX4 67 yX4_isRound, Cond.static yX4_isRound, Cond.initialized RX4, Cond.code yX4_isRound cX4_isRound 1 (some .boolean), Cond.methodLink RX4 74 yX3_isOpen, Cond.instanceMethod yX3_isOpen, Cond.selects RX3 yX3_isOpen yX3_isOpen, Cond.initialized RX3, Cond.code yX3_isOpen cX3_isOpen 2 (some .boolean), Cond.fieldLink RX3 27 "PubQuizzes$State" "keys" "[J", Cond.constantLong RX3 55 (-1), Cond.methodLink RX4 117 yX3_teamsWithSheet, Cond.instanceMethod yX3_teamsWithSheet, Cond.selects RX3 yX3_teamsWithSheet yX3_teamsWithSheet, Cond.code yX3_teamsWithSheet cX3_teamsWithSheet 4 (some .int), Cond.fieldLink RX3 66 "PubQuizzes$State" "teams" "I", Cond.methodLink RX3 100 yX3_hasSheet, Cond.instanceMethod yX3_hasSheet, Cond.selects RX3 yX3_hasSheet yX3_hasSheet, Cond.code yX3_hasSheet cX3_hasSheet 3 (some .boolean), Cond.fieldLink RX3 31 "PubQuizzes$State" "sheets" "[J"]
def wsX4_ofRound_r2 : List Cond := [Cond.static yX4_indexOf, Cond.code yX4_indexOf cX4_indexOf 2 (some .int), Cond.methodLink RX4 102 yX3_teamsWithJoker, Cond.instanceMethod yX3_teamsWithJoker, Cond.selects RX3 yX3_teamsWithJoker yX3_teamsWithJoker, Cond.code yX3_teamsWithJoker cX3_teamsWithJoker 4 (some .int), Cond.fieldLink RX3 18 "PubQuizzes$State" "jokers" "[I", Cond.methodLink RX4 178 yX3_teamsTold, Cond.instanceMethod yX3_teamsTold, Cond.selects RX3 yX3_teamsTold yX3_teamsTold, Cond.code yX3_teamsTold cX3_teamsTold 4 (some .int), Cond.methodLink RX3 76 yX3_isTold, Cond.instanceMethod yX3_isTold, Cond.selects RX3 yX3_isTold yX3_isTold, Cond.code yX3_isTold cX3_isTold 3 (some .boolean), Cond.methodLink RX3 73 yX3_markerOf, Cond.instanceMethod yX3_markerOf, Cond.selects RX3 yX3_markerOf yX3_markerOf, Cond.code yX3_markerOf cX3_markerOf 3 (some .int), Cond.fieldLink RX3 37 "PubQuizzes$State" "markers" "[I", Cond.methodLink RX4 181 yX3_greatestPoints, Cond.instanceMethod yX3_greatestPoints, Cond.selects RX3 yX3_greatestPoints yX3_greatestPoints, Cond.code yX3_greatestPoints cX3_greatestPoints 4 (some .int)]
def wsX4_ofRound_r3 : List Cond := [Cond.methodLink RX3 110 Lib.Math.max.name, Cond.static Lib.Math.max.name, Cond.initialized "java/lang/Math", Cond.code Lib.Math.max.name Lib.Math.max.code 2 (some .int), Cond.methodLink RX3 107 yX3_pointsOf, Cond.instanceMethod yX3_pointsOf, Cond.selects RX3 yX3_pointsOf yX3_pointsOf, Cond.code yX3_pointsOf cX3_pointsOf 4 (some .int), Cond.fieldLink RX3 34 "PubQuizzes$State" "marks" "[I", Cond.methodLink RX3 103 yX3_withJoker, Cond.instanceMethod yX3_withJoker, Cond.selects RX3 yX3_withJoker yX3_withJoker, Cond.code yX3_withJoker cX3_withJoker 4 (some .int)]
def wsX4_ofRound : List Cond := .code yX4_ofRound cX4_ofRound 3 (some .int) :: ((wsX4_ofRound_r1 ++ (wsX4_ofRound_r2 ++ wsX4_ofRound_r3)) ++ wsX40 ++ wsX30)
def wsX4_sheet_r1 : List Cond := [Cond.fieldLink RX4 12 "PubQuizzes" "now" "LPubQuizzes$State;", Cond.methodLink RX4 63 yX3_isTeam, Cond.instanceMethod yX3_isTeam, Cond.selects RX3 yX3_isTeam yX3_isTeam, Cond.initialized RX3, Cond.code yX3_isTeam cX3_isTeam 2 (some .boolean), Cond.fieldLink RX3 66 "PubQuizzes$State" "teams" "I", Cond.methodLink RX4 67 yX4_isRound, Cond.static yX4_isRound, Cond.initialized RX4, Cond.code yX4_isRound cX4_isRound 1 (some .boolean), Cond.methodLink RX4 77 yX3_hasSheet, Cond.instanceMethod yX3_hasSheet, Cond.selects RX3 yX3_hasSheet yX3_hasSheet, Cond.code yX3_hasSheet cX3_hasSheet 3 (some .boolean), Cond.fieldLink RX3 31 "PubQuizzes$State" "sheets" "[J", Cond.constantLong RX3 55 (-1), Cond.static yX4_indexOf, Cond.code yX4_indexOf cX4_indexOf 2 (some .int), Cond.methodLink RX4 120 yX3_isTold, Cond.instanceMethod yX3_isTold, Cond.selects RX3 yX3_isTold yX3_isTold, Cond.code yX3_isTold cX3_isTold 3 (some .boolean), Cond.methodLink RX3 73 yX3_markerOf]
def wsX4_sheet_r2 : List Cond := [Cond.instanceMethod yX3_markerOf, Cond.selects RX3 yX3_markerOf yX3_markerOf, Cond.code yX3_markerOf cX3_markerOf 3 (some .int), Cond.fieldLink RX3 37 "PubQuizzes$State" "markers" "[I", Cond.methodLink RX4 184 yX3_markOf, Cond.instanceMethod yX3_markOf, Cond.selects RX3 yX3_markOf yX3_markOf, Cond.code yX3_markOf cX3_markOf 3 (some .int), Cond.fieldLink RX3 34 "PubQuizzes$State" "marks" "[I", Cond.methodLink RX4 135 yX3_markerOf, Cond.methodLink RX4 187 yX3_pointsOf, Cond.instanceMethod yX3_pointsOf, Cond.selects RX3 yX3_pointsOf yX3_pointsOf, Cond.code yX3_pointsOf cX3_pointsOf 4 (some .int), Cond.methodLink RX3 103 yX3_withJoker, Cond.instanceMethod yX3_withJoker, Cond.selects RX3 yX3_withJoker yX3_withJoker, Cond.code yX3_withJoker cX3_withJoker 4 (some .int), Cond.fieldLink RX3 18 "PubQuizzes$State" "jokers" "[I", Cond.methodLink RX4 74 yX3_isOpen, Cond.instanceMethod yX3_isOpen, Cond.selects RX3 yX3_isOpen yX3_isOpen, Cond.code yX3_isOpen cX3_isOpen 2 (some .boolean), Cond.fieldLink RX3 27 "PubQuizzes$State" "keys" "[J"]
def wsX4_sheet_r3 : List Cond := [Cond.methodLink RX4 142 yX3_trueMark, Cond.instanceMethod yX3_trueMark, Cond.selects RX3 yX3_trueMark yX3_trueMark, Cond.code yX3_trueMark cX3_trueMark 10 (some .int), Cond.fieldLink RX3 9 "PubQuizzes$State" "settings" "[I", Cond.methodLink RX3 89 yX2_signAt, Cond.static yX2_signAt, Cond.initialized RX2, Cond.code yX2_signAt cX2_signAt 3 (some .int), Cond.methodLink RX4 96 yX3_answered, Cond.instanceMethod yX3_answered, Cond.selects RX3 yX3_answered yX3_answered, Cond.code yX3_answered cX3_answered 7 (some .int)]
def wsX4_sheet : List Cond := .code yX4_sheet cX4_sheet 4 (some .int) :: ((wsX4_sheet_r1 ++ (wsX4_sheet_r2 ++ wsX4_sheet_r3)) ++ wsX40 ++ wsX30)
def wsX4_answer_r1 : List Cond := [Cond.fieldLink RX4 12 "PubQuizzes" "now" "LPubQuizzes$State;", Cond.fieldLink RX4 114 "PubQuizzes$State" "keys" "[J", Cond.fieldLink RX4 81 "PubQuizzes$State" "sheets" "[J", Cond.methodLink RX4 63 yX3_isTeam, Cond.instanceMethod yX3_isTeam, Cond.selects RX3 yX3_isTeam yX3_isTeam, Cond.initialized RX3, Cond.code yX3_isTeam cX3_isTeam 2 (some .boolean), Cond.fieldLink RX3 66 "PubQuizzes$State" "teams" "I", Cond.methodLink RX4 67 yX4_isRound, Cond.static yX4_isRound, Cond.initialized RX4, Cond.code yX4_isRound cX4_isRound 1 (some .boolean), Cond.methodLink RX4 74 yX3_isOpen, Cond.instanceMethod yX3_isOpen, Cond.selects RX3 yX3_isOpen yX3_isOpen, Cond.code yX3_isOpen cX3_isOpen 2 (some .boolean), Cond.fieldLink RX3 27 "PubQuizzes$State" "keys" "[J", Cond.constantLong RX3 55 (-1), Cond.methodLink RX4 77 yX3_hasSheet, Cond.instanceMethod yX3_hasSheet, Cond.selects RX3 yX3_hasSheet yX3_hasSheet, Cond.code yX3_hasSheet cX3_hasSheet 3 (some .boolean), Cond.fieldLink RX3 31 "PubQuizzes$State" "sheets" "[J"]
def wsX4_answer_r2 : List Cond := [Cond.static yX4_indexOf, Cond.code yX4_indexOf cX4_indexOf 2 (some .int), Cond.methodLink RX4 85 yX4_indexOf, Cond.methodLink RX4 190 yX2_signAt, Cond.static yX2_signAt, Cond.initialized RX2, Cond.code yX2_signAt cX2_signAt 3 (some .int)]
def wsX4_answer : List Cond := .code yX4_answer cX4_answer 8 (some .int) :: ((wsX4_answer_r1 ++ wsX4_answer_r2) ++ wsX40 ++ wsX30)
def wsX4_at_r1 : List Cond := [Cond.fieldLink RX4 12 "PubQuizzes" "now" "LPubQuizzes$State;", Cond.fieldLink RX4 52 "PubQuizzes$State" "teams" "I", Cond.methodLink RX4 196 yX3_placeOf, Cond.instanceMethod yX3_placeOf, Cond.selects RX3 yX3_placeOf yX3_placeOf, Cond.initialized RX3, Cond.code yX3_placeOf cX3_placeOf 2 (some .int), Cond.methodLink RX3 136 yX3_rankOf, Cond.instanceMethod yX3_rankOf, Cond.selects RX3 yX3_rankOf yX3_rankOf, Cond.code yX3_rankOf cX3_rankOf 4 (some .int), Cond.fieldLink RX3 66 "PubQuizzes$State" "teams" "I", Cond.methodLink RX3 133 yX3_isAhead, Cond.instanceMethod yX3_isAhead, Cond.selects RX3 yX3_isAhead yX3_isAhead, Cond.code yX3_isAhead cX3_isAhead 4 (some .boolean), Cond.methodLink RX3 118 yX3_scoreOf, Cond.instanceMethod yX3_scoreOf, Cond.selects RX3 yX3_scoreOf yX3_scoreOf, Cond.code yX3_scoreOf cX3_scoreOf 4 (some .int), Cond.fieldLink RX3 9 "PubQuizzes$State" "settings" "[I", Cond.fieldLink RX3 21 "PubQuizzes$State" "fines" "[I", Cond.methodLink RX3 107 yX3_pointsOf, Cond.instanceMethod yX3_pointsOf]
def wsX4_at_r2 : List Cond := [Cond.selects RX3 yX3_pointsOf yX3_pointsOf, Cond.code yX3_pointsOf cX3_pointsOf 4 (some .int), Cond.fieldLink RX3 37 "PubQuizzes$State" "markers" "[I", Cond.fieldLink RX3 34 "PubQuizzes$State" "marks" "[I", Cond.static yX4_indexOf, Cond.initialized RX4, Cond.code yX4_indexOf cX4_indexOf 2 (some .int), Cond.methodLink RX3 103 yX3_withJoker, Cond.instanceMethod yX3_withJoker, Cond.selects RX3 yX3_withJoker yX3_withJoker, Cond.code yX3_withJoker cX3_withJoker 4 (some .int), Cond.fieldLink RX3 18 "PubQuizzes$State" "jokers" "[I", Cond.methodLink RX3 130 yX3_distanceOf, Cond.instanceMethod yX3_distanceOf, Cond.selects RX3 yX3_distanceOf yX3_distanceOf, Cond.code yX3_distanceOf cX3_distanceOf 2 (some .int), Cond.fieldLink RX3 43 "PubQuizzes$State" "truth" "I", Cond.fieldLink RX3 24 "PubQuizzes$State" "guesses" "[I", Cond.methodLink RX3 127 Lib.Math.abs.name, Cond.static Lib.Math.abs.name, Cond.initialized "java/lang/Math", Cond.code Lib.Math.abs.name Lib.Math.abs.code 1 (some .int), Cond.methodLink RX3 139 yX3_tiedWith, Cond.instanceMethod yX3_tiedWith]
def wsX4_at_r3 : List Cond := [Cond.selects RX3 yX3_tiedWith yX3_tiedWith, Cond.code yX3_tiedWith cX3_tiedWith 4 (some .int), Cond.methodLink RX3 142 yX3_lowerIn, Cond.static yX3_lowerIn, Cond.code yX3_lowerIn cX3_lowerIn 2 (some .int), Cond.methodLink RX3 122 yJ6_bitCount_0f7a4, Cond.static yJ6_bitCount_0f7a4, Cond.initialized RJ6, Cond.code yJ6_bitCount_0f7a4 cJ6_bitCount_0f7a4 1 (some .int), Cond.constant RJ6 265 (1431655765), Cond.constant RJ6 266 (858993459), Cond.constant RJ6 267 (252645135)]
def wsX4_at : List Cond := .code yX4_at cX4_at 3 (some .int) :: ((wsX4_at_r1 ++ (wsX4_at_r2 ++ wsX4_at_r3)) ++ wsX40 ++ wsX30)
def wsX4_count_r1 : List Cond := [Cond.fieldLink RX4 12 "PubQuizzes" "now" "LPubQuizzes$State;", Cond.fieldLink RX4 52 "PubQuizzes$State" "teams" "I", Cond.fieldLink RX4 148 "PubQuizzes$State" "truth" "I", Cond.fieldLink RX4 49 "PubQuizzes$State" "settings" "[I", Cond.fieldLink RX4 26 "PubQuizzes" "pad" "LPubQuizzes$Pad;", Cond.fieldLink RX4 19 "PubQuizzes" "history" "LPubQuizzes$History;", Cond.methodLink RX4 199 yX3_entries, Cond.instanceMethod yX3_entries, Cond.selects RX3 yX3_entries yX3_entries, Cond.initialized RX3, Cond.code yX3_entries cX3_entries 3 (some .int), Cond.fieldLink RX3 66 "PubQuizzes$State" "teams" "I", Cond.fieldLink RX3 15 "PubQuizzes$State" "paid" "[I", Cond.methodLink RX4 202 yX3_ofTheHouse, Cond.instanceMethod yX3_ofTheHouse, Cond.selects RX3 yX3_ofTheHouse yX3_ofTheHouse, Cond.code yX3_ofTheHouse cX3_ofTheHouse 1 (some .int), Cond.fieldLink RX3 9 "PubQuizzes$State" "settings" "[I", Cond.methodLink RX3 145 yX3_entries, Cond.methodLink RX4 205 yX3_pot, Cond.instanceMethod yX3_pot, Cond.selects RX3 yX3_pot yX3_pot, Cond.code yX3_pot cX3_pot 1 (some .int), Cond.methodLink RX3 149 yX3_ofTheHouse]
def wsX4_count_r2 : List Cond := [Cond.methodLink RX4 56 yX3_openRounds, Cond.instanceMethod yX3_openRounds, Cond.selects RX3 yX3_openRounds yX3_openRounds, Cond.code yX3_openRounds cX3_openRounds 3 (some .int), Cond.methodLink RX3 97 yX3_isOpen, Cond.instanceMethod yX3_isOpen, Cond.selects RX3 yX3_isOpen yX3_isOpen, Cond.code yX3_isOpen cX3_isOpen 2 (some .boolean), Cond.fieldLink RX3 27 "PubQuizzes$State" "keys" "[J", Cond.constantLong RX3 55 (-1), Cond.methodLink RX4 208 yX3_allFines, Cond.instanceMethod yX3_allFines, Cond.selects RX3 yX3_allFines yX3_allFines, Cond.code yX3_allFines cX3_allFines 3 (some .int), Cond.fieldLink RX3 21 "PubQuizzes$State" "fines" "[I", Cond.methodLink RX4 211 yX3_allLooks, Cond.instanceMethod yX3_allLooks, Cond.selects RX3 yX3_allLooks yX3_allLooks, Cond.code yX3_allLooks cX3_allLooks 3 (some .int), Cond.fieldLink RX3 40 "PubQuizzes$State" "looked" "[I", Cond.methodLink RX3 122 yJ6_bitCount_0f7a4, Cond.static yJ6_bitCount_0f7a4, Cond.initialized RJ6, Cond.code yJ6_bitCount_0f7a4 cJ6_bitCount_0f7a4 1 (some .int)]
def wsX4_count_r3 : List Cond := [Cond.constant RJ6 265 (1431655765), Cond.constant RJ6 266 (858993459), Cond.constant RJ6 267 (252645135), Cond.methodLink RX4 214 yX3_unlikeScores, Cond.instanceMethod yX3_unlikeScores, Cond.selects RX3 yX3_unlikeScores yX3_unlikeScores, Cond.code yX3_unlikeScores cX3_unlikeScores 3 (some .int), Cond.methodLink RX3 115 yX3_isFirstWithItsScore, Cond.instanceMethod yX3_isFirstWithItsScore, Cond.selects RX3 yX3_isFirstWithItsScore yX3_isFirstWithItsScore, Cond.code yX3_isFirstWithItsScore cX3_isFirstWithItsScore 4 (some .boolean), Cond.methodLink RX3 118 yX3_scoreOf, Cond.instanceMethod yX3_scoreOf, Cond.selects RX3 yX3_scoreOf yX3_scoreOf, Cond.code yX3_scoreOf cX3_scoreOf 4 (some .int), Cond.methodLink RX3 107 yX3_pointsOf, Cond.instanceMethod yX3_pointsOf, Cond.selects RX3 yX3_pointsOf yX3_pointsOf, Cond.code yX3_pointsOf cX3_pointsOf 4 (some .int), Cond.fieldLink RX3 37 "PubQuizzes$State" "markers" "[I", Cond.fieldLink RX3 34 "PubQuizzes$State" "marks" "[I", Cond.static yX4_indexOf, Cond.initialized RX4, Cond.code yX4_indexOf cX4_indexOf 2 (some .int)]
def wsX4_count_r4 : List Cond := [Cond.methodLink RX3 103 yX3_withJoker, Cond.instanceMethod yX3_withJoker, Cond.selects RX3 yX3_withJoker yX3_withJoker, Cond.code yX3_withJoker cX3_withJoker 4 (some .int), Cond.fieldLink RX3 18 "PubQuizzes$State" "jokers" "[I", Cond.methodLink RX4 217 yX1_length, Cond.instanceMethod yX1_length, Cond.selects RX1 yX1_length yX1_length, Cond.initialized RX1, Cond.code yX1_length cX1_length 1 (some .int), Cond.fieldLink RX1 17 "PubQuizzes$Pad" "length" "I", Cond.methodLink RX4 220 yX0_length, Cond.instanceMethod yX0_length, Cond.selects RX0 yX0_length yX0_length, Cond.initialized RX0, Cond.code yX0_length cX0_length 1 (some .int), Cond.fieldLink RX0 16 "PubQuizzes$History" "length" "I"]
def wsX4_count : List Cond := .code yX4_count cX4_count 2 (some .int) :: ((wsX4_count_r1 ++ (wsX4_count_r2 ++ (wsX4_count_r3 ++ wsX4_count_r4))) ++ wsX40 ++ wsX30 ++ wsX10 ++ wsX00)
def wsX4_bestJoker_r1 : List Cond := [Cond.fieldLink RX4 12 "PubQuizzes" "now" "LPubQuizzes$State;", Cond.methodLink RX4 63 yX3_isTeam, Cond.instanceMethod yX3_isTeam, Cond.selects RX3 yX3_isTeam yX3_isTeam, Cond.initialized RX3, Cond.code yX3_isTeam cX3_isTeam 2 (some .boolean), Cond.fieldLink RX3 66 "PubQuizzes$State" "teams" "I", Cond.methodLink RX4 221 yX3_bestRound, Cond.instanceMethod yX3_bestRound, Cond.selects RX3 yX3_bestRound yX3_bestRound, Cond.code yX3_bestRound cX3_bestRound 4 (some .int), Cond.methodLink RX3 158 yX3_scoreWithJokerOn, Cond.instanceMethod yX3_scoreWithJokerOn, Cond.selects RX3 yX3_scoreWithJokerOn yX3_scoreWithJokerOn, Cond.code yX3_scoreWithJokerOn cX3_scoreWithJokerOn 6 (some .int), Cond.fieldLink RX3 9 "PubQuizzes$State" "settings" "[I", Cond.fieldLink RX3 21 "PubQuizzes$State" "fines" "[I", Cond.methodLink RX3 76 yX3_isTold, Cond.instanceMethod yX3_isTold, Cond.selects RX3 yX3_isTold yX3_isTold, Cond.code yX3_isTold cX3_isTold 3 (some .boolean), Cond.methodLink RX3 73 yX3_markerOf, Cond.instanceMethod yX3_markerOf, Cond.selects RX3 yX3_markerOf yX3_markerOf]
def wsX4_bestJoker_r2 : List Cond := [Cond.code yX3_markerOf cX3_markerOf 3 (some .int), Cond.fieldLink RX3 37 "PubQuizzes$State" "markers" "[I", Cond.static yX4_indexOf, Cond.initialized RX4, Cond.code yX4_indexOf cX4_indexOf 2 (some .int), Cond.methodLink RX3 83 yX3_markOf, Cond.instanceMethod yX3_markOf, Cond.selects RX3 yX3_markOf yX3_markOf, Cond.code yX3_markOf cX3_markOf 3 (some .int), Cond.fieldLink RX3 34 "PubQuizzes$State" "marks" "[I", Cond.methodLink RX4 224 yX3_scoreWithJokerOn]
def wsX4_bestJoker : List Cond := .code yX4_bestJoker cX4_bestJoker 4 (some .int) :: ((wsX4_bestJoker_r1 ++ wsX4_bestJoker_r2) ++ wsX40 ++ wsX30)
def wsX4_most_r1 : List Cond := [Cond.fieldLink RX4 12 "PubQuizzes" "now" "LPubQuizzes$State;", Cond.methodLink RX4 63 yX3_isTeam, Cond.instanceMethod yX3_isTeam, Cond.selects RX3 yX3_isTeam yX3_isTeam, Cond.initialized RX3, Cond.code yX3_isTeam cX3_isTeam 2 (some .boolean), Cond.fieldLink RX3 66 "PubQuizzes$State" "teams" "I", Cond.methodLink RX4 227 yX3_greatestScore, Cond.instanceMethod yX3_greatestScore, Cond.selects RX3 yX3_greatestScore yX3_greatestScore, Cond.code yX3_greatestScore cX3_greatestScore 5 (some .int), Cond.fieldLink RX3 9 "PubQuizzes$State" "settings" "[I", Cond.fieldLink RX3 21 "PubQuizzes$State" "fines" "[I", Cond.fieldLink RX3 18 "PubQuizzes$State" "jokers" "[I", Cond.methodLink RX3 161 yX3_greatestMark, Cond.instanceMethod yX3_greatestMark, Cond.selects RX3 yX3_greatestMark yX3_greatestMark, Cond.code yX3_greatestMark cX3_greatestMark 3 (some .int), Cond.methodLink RX3 76 yX3_isTold, Cond.instanceMethod yX3_isTold, Cond.selects RX3 yX3_isTold yX3_isTold, Cond.code yX3_isTold cX3_isTold 3 (some .boolean), Cond.methodLink RX3 73 yX3_markerOf, Cond.instanceMethod yX3_markerOf]
def wsX4_most_r2 : List Cond := [Cond.selects RX3 yX3_markerOf yX3_markerOf, Cond.code yX3_markerOf cX3_markerOf 3 (some .int), Cond.fieldLink RX3 37 "PubQuizzes$State" "markers" "[I", Cond.static yX4_indexOf, Cond.initialized RX4, Cond.code yX4_indexOf cX4_indexOf 2 (some .int), Cond.methodLink RX3 83 yX3_markOf, Cond.instanceMethod yX3_markOf, Cond.selects RX3 yX3_markOf yX3_markOf, Cond.code yX3_markOf cX3_markOf 3 (some .int), Cond.fieldLink RX3 34 "PubQuizzes$State" "marks" "[I", Cond.methodLink RX3 100 yX3_hasSheet, Cond.instanceMethod yX3_hasSheet, Cond.selects RX3 yX3_hasSheet yX3_hasSheet, Cond.code yX3_hasSheet cX3_hasSheet 3 (some .boolean), Cond.fieldLink RX3 31 "PubQuizzes$State" "sheets" "[J", Cond.constantLong RX3 55 (-1), Cond.methodLink RX3 97 yX3_isOpen, Cond.instanceMethod yX3_isOpen, Cond.selects RX3 yX3_isOpen yX3_isOpen, Cond.code yX3_isOpen cX3_isOpen 2 (some .boolean), Cond.fieldLink RX3 27 "PubQuizzes$State" "keys" "[J", Cond.methodLink RX3 103 yX3_withJoker, Cond.instanceMethod yX3_withJoker]
def wsX4_most_r3 : List Cond := [Cond.selects RX3 yX3_withJoker yX3_withJoker, Cond.code yX3_withJoker cX3_withJoker 4 (some .int), Cond.methodLink RX3 164 yX3_canHandIn, Cond.instanceMethod yX3_canHandIn, Cond.selects RX3 yX3_canHandIn yX3_canHandIn, Cond.code yX3_canHandIn cX3_canHandIn 3 (some .boolean)]
def wsX4_most : List Cond := .code yX4_most cX4_most 2 (some .int) :: ((wsX4_most_r1 ++ (wsX4_most_r2 ++ wsX4_most_r3)) ++ wsX40 ++ wsX30)
def wsX4_canWin_r1 : List Cond := [Cond.fieldLink RX4 12 "PubQuizzes" "now" "LPubQuizzes$State;", Cond.fieldLink RX4 52 "PubQuizzes$State" "teams" "I", Cond.methodLink RX4 230 yX3_canReachOthers, Cond.instanceMethod yX3_canReachOthers, Cond.selects RX3 yX3_canReachOthers yX3_canReachOthers, Cond.initialized RX3, Cond.code yX3_canReachOthers cX3_canReachOthers 4 (some .boolean), Cond.fieldLink RX3 66 "PubQuizzes$State" "teams" "I", Cond.methodLink RX3 167 yX3_greatestScore, Cond.instanceMethod yX3_greatestScore, Cond.selects RX3 yX3_greatestScore yX3_greatestScore, Cond.code yX3_greatestScore cX3_greatestScore 5 (some .int), Cond.fieldLink RX3 9 "PubQuizzes$State" "settings" "[I", Cond.fieldLink RX3 21 "PubQuizzes$State" "fines" "[I", Cond.fieldLink RX3 18 "PubQuizzes$State" "jokers" "[I", Cond.methodLink RX3 161 yX3_greatestMark, Cond.instanceMethod yX3_greatestMark, Cond.selects RX3 yX3_greatestMark yX3_greatestMark, Cond.code yX3_greatestMark cX3_greatestMark 3 (some .int), Cond.methodLink RX3 76 yX3_isTold, Cond.instanceMethod yX3_isTold, Cond.selects RX3 yX3_isTold yX3_isTold, Cond.code yX3_isTold cX3_isTold 3 (some .boolean), Cond.methodLink RX3 73 yX3_markerOf]
def wsX4_canWin_r2 : List Cond := [Cond.instanceMethod yX3_markerOf, Cond.selects RX3 yX3_markerOf yX3_markerOf, Cond.code yX3_markerOf cX3_markerOf 3 (some .int), Cond.fieldLink RX3 37 "PubQuizzes$State" "markers" "[I", Cond.static yX4_indexOf, Cond.initialized RX4, Cond.code yX4_indexOf cX4_indexOf 2 (some .int), Cond.methodLink RX3 83 yX3_markOf, Cond.instanceMethod yX3_markOf, Cond.selects RX3 yX3_markOf yX3_markOf, Cond.code yX3_markOf cX3_markOf 3 (some .int), Cond.fieldLink RX3 34 "PubQuizzes$State" "marks" "[I", Cond.methodLink RX3 100 yX3_hasSheet, Cond.instanceMethod yX3_hasSheet, Cond.selects RX3 yX3_hasSheet yX3_hasSheet, Cond.code yX3_hasSheet cX3_hasSheet 3 (some .boolean), Cond.fieldLink RX3 31 "PubQuizzes$State" "sheets" "[J", Cond.constantLong RX3 55 (-1), Cond.methodLink RX3 97 yX3_isOpen, Cond.instanceMethod yX3_isOpen, Cond.selects RX3 yX3_isOpen yX3_isOpen, Cond.code yX3_isOpen cX3_isOpen 2 (some .boolean), Cond.fieldLink RX3 27 "PubQuizzes$State" "keys" "[J", Cond.methodLink RX3 103 yX3_withJoker]
def wsX4_canWin_r3 : List Cond := [Cond.instanceMethod yX3_withJoker, Cond.selects RX3 yX3_withJoker yX3_withJoker, Cond.code yX3_withJoker cX3_withJoker 4 (some .int), Cond.methodLink RX3 164 yX3_canHandIn, Cond.instanceMethod yX3_canHandIn, Cond.selects RX3 yX3_canHandIn yX3_canHandIn, Cond.code yX3_canHandIn cX3_canHandIn 3 (some .boolean), Cond.methodLink RX3 118 yX3_scoreOf, Cond.instanceMethod yX3_scoreOf, Cond.selects RX3 yX3_scoreOf yX3_scoreOf, Cond.code yX3_scoreOf cX3_scoreOf 4 (some .int), Cond.methodLink RX3 107 yX3_pointsOf, Cond.instanceMethod yX3_pointsOf, Cond.selects RX3 yX3_pointsOf yX3_pointsOf, Cond.code yX3_pointsOf cX3_pointsOf 4 (some .int)]
def wsX4_canWin : List Cond := .code yX4_canWin cX4_canWin 3 (some .int) :: ((wsX4_canWin_r1 ++ (wsX4_canWin_r2 ++ wsX4_canWin_r3)) ++ wsX40 ++ wsX30)
def wsX4_ifLooked_r1 : List Cond := [Cond.fieldLink RX4 12 "PubQuizzes" "now" "LPubQuizzes$State;", Cond.methodLink RX4 63 yX3_isTeam, Cond.instanceMethod yX3_isTeam, Cond.selects RX3 yX3_isTeam yX3_isTeam, Cond.initialized RX3, Cond.code yX3_isTeam cX3_isTeam 2 (some .boolean), Cond.fieldLink RX3 66 "PubQuizzes$State" "teams" "I", Cond.methodLink RX4 233 yX3_scoreIfLooked, Cond.instanceMethod yX3_scoreIfLooked, Cond.selects RX3 yX3_scoreIfLooked yX3_scoreIfLooked, Cond.code yX3_scoreIfLooked cX3_scoreIfLooked 5 (some .int), Cond.fieldLink RX3 9 "PubQuizzes$State" "settings" "[I", Cond.methodLink RX3 118 yX3_scoreOf, Cond.instanceMethod yX3_scoreOf, Cond.selects RX3 yX3_scoreOf yX3_scoreOf, Cond.code yX3_scoreOf cX3_scoreOf 4 (some .int), Cond.fieldLink RX3 21 "PubQuizzes$State" "fines" "[I", Cond.methodLink RX3 107 yX3_pointsOf, Cond.instanceMethod yX3_pointsOf, Cond.selects RX3 yX3_pointsOf yX3_pointsOf, Cond.code yX3_pointsOf cX3_pointsOf 4 (some .int), Cond.fieldLink RX3 37 "PubQuizzes$State" "markers" "[I", Cond.fieldLink RX3 34 "PubQuizzes$State" "marks" "[I", Cond.static yX4_indexOf]
def wsX4_ifLooked_r2 : List Cond := [Cond.initialized RX4, Cond.code yX4_indexOf cX4_indexOf 2 (some .int), Cond.methodLink RX3 103 yX3_withJoker, Cond.instanceMethod yX3_withJoker, Cond.selects RX3 yX3_withJoker yX3_withJoker, Cond.code yX3_withJoker cX3_withJoker 4 (some .int), Cond.fieldLink RX3 18 "PubQuizzes$State" "jokers" "[I", Cond.methodLink RX3 170 yX3_wrongMarksToldBy, Cond.instanceMethod yX3_wrongMarksToldBy, Cond.selects RX3 yX3_wrongMarksToldBy yX3_wrongMarksToldBy, Cond.code yX3_wrongMarksToldBy cX3_wrongMarksToldBy 5 (some .int), Cond.methodLink RX3 73 yX3_markerOf, Cond.instanceMethod yX3_markerOf, Cond.selects RX3 yX3_markerOf yX3_markerOf, Cond.code yX3_markerOf cX3_markerOf 3 (some .int), Cond.methodLink RX3 173 yX3_isWrong, Cond.instanceMethod yX3_isWrong, Cond.selects RX3 yX3_isWrong yX3_isWrong, Cond.code yX3_isWrong cX3_isWrong 3 (some .boolean), Cond.methodLink RX3 76 yX3_isTold, Cond.instanceMethod yX3_isTold, Cond.selects RX3 yX3_isTold yX3_isTold, Cond.code yX3_isTold cX3_isTold 3 (some .boolean), Cond.methodLink RX3 80 yX3_isLooked]
def wsX4_ifLooked_r3 : List Cond := [Cond.instanceMethod yX3_isLooked, Cond.selects RX3 yX3_isLooked yX3_isLooked, Cond.code yX3_isLooked cX3_isLooked 3 (some .boolean), Cond.fieldLink RX3 40 "PubQuizzes$State" "looked" "[I", Cond.methodLink RX3 83 yX3_markOf, Cond.instanceMethod yX3_markOf, Cond.selects RX3 yX3_markOf yX3_markOf, Cond.code yX3_markOf cX3_markOf 3 (some .int), Cond.methodLink RX3 86 yX3_trueMark, Cond.instanceMethod yX3_trueMark, Cond.selects RX3 yX3_trueMark yX3_trueMark, Cond.code yX3_trueMark cX3_trueMark 10 (some .int), Cond.fieldLink RX3 31 "PubQuizzes$State" "sheets" "[J", Cond.fieldLink RX3 27 "PubQuizzes$State" "keys" "[J", Cond.methodLink RX3 89 yX2_signAt, Cond.static yX2_signAt, Cond.initialized RX2, Cond.code yX2_signAt cX2_signAt 3 (some .int)]
def wsX4_ifLooked : List Cond := .code yX4_ifLooked cX4_ifLooked 2 (some .int) :: ((wsX4_ifLooked_r1 ++ (wsX4_ifLooked_r2 ++ wsX4_ifLooked_r3)) ++ wsX40 ++ wsX30)
def wsX4_wrongMarks_r1 : List Cond := [Cond.fieldLink RX4 12 "PubQuizzes" "now" "LPubQuizzes$State;", Cond.fieldLink RX4 52 "PubQuizzes$State" "teams" "I", Cond.methodLink RX4 132 yX3_isWrong, Cond.instanceMethod yX3_isWrong, Cond.selects RX3 yX3_isWrong yX3_isWrong, Cond.initialized RX3, Cond.code yX3_isWrong cX3_isWrong 3 (some .boolean), Cond.methodLink RX3 76 yX3_isTold, Cond.instanceMethod yX3_isTold, Cond.selects RX3 yX3_isTold yX3_isTold, Cond.code yX3_isTold cX3_isTold 3 (some .boolean), Cond.methodLink RX3 73 yX3_markerOf, Cond.instanceMethod yX3_markerOf, Cond.selects RX3 yX3_markerOf yX3_markerOf, Cond.code yX3_markerOf cX3_markerOf 3 (some .int), Cond.fieldLink RX3 37 "PubQuizzes$State" "markers" "[I", Cond.static yX4_indexOf, Cond.initialized RX4, Cond.code yX4_indexOf cX4_indexOf 2 (some .int), Cond.methodLink RX3 80 yX3_isLooked, Cond.instanceMethod yX3_isLooked, Cond.selects RX3 yX3_isLooked yX3_isLooked, Cond.code yX3_isLooked cX3_isLooked 3 (some .boolean), Cond.fieldLink RX3 40 "PubQuizzes$State" "looked" "[I"]
def wsX4_wrongMarks_r2 : List Cond := [Cond.methodLink RX3 83 yX3_markOf, Cond.instanceMethod yX3_markOf, Cond.selects RX3 yX3_markOf yX3_markOf, Cond.code yX3_markOf cX3_markOf 3 (some .int), Cond.fieldLink RX3 34 "PubQuizzes$State" "marks" "[I", Cond.methodLink RX3 86 yX3_trueMark, Cond.instanceMethod yX3_trueMark, Cond.selects RX3 yX3_trueMark yX3_trueMark, Cond.code yX3_trueMark cX3_trueMark 10 (some .int), Cond.fieldLink RX3 31 "PubQuizzes$State" "sheets" "[J", Cond.fieldLink RX3 27 "PubQuizzes$State" "keys" "[J", Cond.fieldLink RX3 9 "PubQuizzes$State" "settings" "[I", Cond.methodLink RX3 89 yX2_signAt, Cond.static yX2_signAt, Cond.initialized RX2, Cond.code yX2_signAt cX2_signAt 3 (some .int)]
def wsX4_wrongMarks : List Cond := .code yX4_wrongMarks cX4_wrongMarks 4 (some .int) :: ((wsX4_wrongMarks_r1 ++ wsX4_wrongMarks_r2) ++ wsX40 ++ wsX30)
def wsX4_put : List Cond := .code yX4_put cX4_put 4 (some .int) :: ([.fieldLink RX4 26 "PubQuizzes" "pad" "LPubQuizzes$Pad;", .methodLink RX4 236 yX1_charactersIn, .static yX1_charactersIn, .initialized RX1, .code yX1_charactersIn cX1_charactersIn 6 (some .int), .constantLong RX1 15 (255), .methodLink RX4 240 yX1_append, .instanceMethod yX1_append, .selects RX1 yX1_append yX1_append, .code yX1_append cX1_append 8 (some .boolean), .fieldLink RX1 17 "PubQuizzes$Pad" "length" "I", .fieldLink RX1 11 "PubQuizzes$Pad" "codes" "[I", .methodLink RX4 217 yX1_length, .instanceMethod yX1_length, .selects RX1 yX1_length yX1_length, .code yX1_length cX1_length 1 (some .int)] ++ wsX40 ++ wsX10)
def wsX4_wipe : List Cond := .code yX4_wipe cX4_wipe 2 (some .int) :: ([.fieldLink RX4 26 "PubQuizzes" "pad" "LPubQuizzes$Pad;", .methodLink RX4 217 yX1_length, .instanceMethod yX1_length, .selects RX1 yX1_length yX1_length, .initialized RX1, .code yX1_length cX1_length 1 (some .int), .fieldLink RX1 17 "PubQuizzes$Pad" "length" "I", .methodLink RX4 93 yX1_clear, .instanceMethod yX1_clear, .selects RX1 yX1_clear yX1_clear, .code yX1_clear cX1_clear 1 none] ++ wsX40 ++ wsX10)
def wsX4_fault : List Cond := .code yX4_fault cX4_fault 1 (some .int) :: ([.fieldLink RX4 26 "PubQuizzes" "pad" "LPubQuizzes$Pad;", .methodLink RX4 244 yX1_faultIndex, .instanceMethod yX1_faultIndex, .selects RX1 yX1_faultIndex yX1_faultIndex, .initialized RX1, .code yX1_faultIndex cX1_faultIndex 2 (some .int), .fieldLink RX1 17 "PubQuizzes$Pad" "length" "I", .fieldLink RX1 11 "PubQuizzes$Pad" "codes" "[I", .methodLink RX1 21 yX1_isSign, .static yX1_isSign, .code yX1_isSign cX1_isSign 1 (some .boolean), .methodLink RX1 33 yX1_isDigit, .static yX1_isDigit, .code yX1_isDigit cX1_isDigit 1 (some .boolean)] ++ wsX40 ++ wsX10)
def wsX4_undo_r1 : List Cond := [Cond.fieldLink RX4 19 "PubQuizzes" "history" "LPubQuizzes$History;", Cond.fieldLink RX4 12 "PubQuizzes" "now" "LPubQuizzes$State;", Cond.methodLink RX4 220 yX0_length, Cond.instanceMethod yX0_length, Cond.selects RX0 yX0_length yX0_length, Cond.initialized RX0, Cond.code yX0_length cX0_length 1 (some .int), Cond.fieldLink RX0 16 "PubQuizzes$History" "length" "I", Cond.methodLink RX4 247 yX0_takeBack, Cond.instanceMethod yX0_takeBack, Cond.selects RX0 yX0_takeBack yX0_takeBack, Cond.code yX0_takeBack cX0_takeBack 3 none, Cond.fieldLink RX0 20 "PubQuizzes$History" "next" "I", Cond.fieldLink RX0 11 "PubQuizzes$History" "states" "[LPubQuizzes$State;", Cond.methodLink RX0 23 yX3_copy, Cond.static yX3_copy, Cond.initialized RX3, Cond.code yX3_copy cX3_copy 2 none, Cond.fieldLink RX3 9 "PubQuizzes$State" "settings" "[I", Cond.methodLink RX3 60 arraycopyName, Cond.native arraycopyName, Cond.static arraycopyName, Cond.initialized "java/lang/System", Cond.fieldLink RX3 15 "PubQuizzes$State" "paid" "[I"]
def wsX4_undo_r2 : List Cond := [Cond.fieldLink RX3 18 "PubQuizzes$State" "jokers" "[I", Cond.fieldLink RX3 21 "PubQuizzes$State" "fines" "[I", Cond.fieldLink RX3 24 "PubQuizzes$State" "guesses" "[I", Cond.fieldLink RX3 27 "PubQuizzes$State" "keys" "[J", Cond.fieldLink RX3 31 "PubQuizzes$State" "sheets" "[J", Cond.fieldLink RX3 34 "PubQuizzes$State" "marks" "[I", Cond.fieldLink RX3 37 "PubQuizzes$State" "markers" "[I", Cond.fieldLink RX3 40 "PubQuizzes$State" "looked" "[I", Cond.fieldLink RX3 66 "PubQuizzes$State" "teams" "I", Cond.fieldLink RX3 43 "PubQuizzes$State" "truth" "I"]
def wsX4_undo : List Cond := .code yX4_undo cX4_undo 1 (some .int) :: ((wsX4_undo_r1 ++ wsX4_undo_r2) ++ wsX40 ++ wsX00 ++ wsX30)
def wsX4_isSlot : List Cond := .code yX4_isSlot cX4_isSlot 1 (some .boolean) :: ([])
def wsX4_save_r1 : List Cond := [Cond.fieldLink RX4 12 "PubQuizzes" "now" "LPubQuizzes$State;", Cond.fieldLink RX4 30 "PubQuizzes" "slots" "[LPubQuizzes$State;", Cond.fieldLink RX4 34 "PubQuizzes" "saved" "[Z", Cond.fieldLink RX4 52 "PubQuizzes$State" "teams" "I", Cond.methodLink RX4 250 yX4_isSlot, Cond.static yX4_isSlot, Cond.initialized RX4, Cond.code yX4_isSlot cX4_isSlot 1 (some .boolean), Cond.methodLink RX4 253 yX3_copy, Cond.static yX3_copy, Cond.initialized RX3, Cond.code yX3_copy cX3_copy 2 none, Cond.fieldLink RX3 9 "PubQuizzes$State" "settings" "[I", Cond.methodLink RX3 60 arraycopyName, Cond.native arraycopyName, Cond.static arraycopyName, Cond.initialized "java/lang/System", Cond.fieldLink RX3 15 "PubQuizzes$State" "paid" "[I", Cond.fieldLink RX3 18 "PubQuizzes$State" "jokers" "[I", Cond.fieldLink RX3 21 "PubQuizzes$State" "fines" "[I", Cond.fieldLink RX3 24 "PubQuizzes$State" "guesses" "[I", Cond.fieldLink RX3 27 "PubQuizzes$State" "keys" "[J", Cond.fieldLink RX3 31 "PubQuizzes$State" "sheets" "[J", Cond.fieldLink RX3 34 "PubQuizzes$State" "marks" "[I"]
def wsX4_save_r2 : List Cond := [Cond.fieldLink RX3 37 "PubQuizzes$State" "markers" "[I", Cond.fieldLink RX3 40 "PubQuizzes$State" "looked" "[I", Cond.fieldLink RX3 66 "PubQuizzes$State" "teams" "I", Cond.fieldLink RX3 43 "PubQuizzes$State" "truth" "I"]
def wsX4_save : List Cond := .code yX4_save cX4_save 2 (some .int) :: ((wsX4_save_r1 ++ wsX4_save_r2) ++ wsX40 ++ wsX30)
def wsX4_restore_r1 : List Cond := [Cond.fieldLink RX4 34 "PubQuizzes" "saved" "[Z", Cond.fieldLink RX4 19 "PubQuizzes" "history" "LPubQuizzes$History;", Cond.fieldLink RX4 12 "PubQuizzes" "now" "LPubQuizzes$State;", Cond.fieldLink RX4 30 "PubQuizzes" "slots" "[LPubQuizzes$State;", Cond.fieldLink RX4 52 "PubQuizzes$State" "teams" "I", Cond.methodLink RX4 250 yX4_isSlot, Cond.static yX4_isSlot, Cond.initialized RX4, Cond.code yX4_isSlot cX4_isSlot 1 (some .boolean), Cond.methodLink RX4 45 yX0_record, Cond.instanceMethod yX0_record, Cond.selects RX0 yX0_record yX0_record, Cond.initialized RX0, Cond.code yX0_record cX0_record 2 none, Cond.fieldLink RX0 20 "PubQuizzes$History" "next" "I", Cond.fieldLink RX0 11 "PubQuizzes$History" "states" "[LPubQuizzes$State;", Cond.fieldLink RX0 16 "PubQuizzes$History" "length" "I", Cond.methodLink RX0 27 Lib.Math.min.name, Cond.static Lib.Math.min.name, Cond.initialized "java/lang/Math", Cond.code Lib.Math.min.name Lib.Math.min.code 2 (some .int), Cond.methodLink RX0 23 yX3_copy, Cond.static yX3_copy, Cond.initialized RX3]
def wsX4_restore_r2 : List Cond := [Cond.code yX3_copy cX3_copy 2 none, Cond.fieldLink RX3 9 "PubQuizzes$State" "settings" "[I", Cond.methodLink RX3 60 arraycopyName, Cond.native arraycopyName, Cond.static arraycopyName, Cond.initialized "java/lang/System", Cond.fieldLink RX3 15 "PubQuizzes$State" "paid" "[I", Cond.fieldLink RX3 18 "PubQuizzes$State" "jokers" "[I", Cond.fieldLink RX3 21 "PubQuizzes$State" "fines" "[I", Cond.fieldLink RX3 24 "PubQuizzes$State" "guesses" "[I", Cond.fieldLink RX3 27 "PubQuizzes$State" "keys" "[J", Cond.fieldLink RX3 31 "PubQuizzes$State" "sheets" "[J", Cond.fieldLink RX3 34 "PubQuizzes$State" "marks" "[I", Cond.fieldLink RX3 37 "PubQuizzes$State" "markers" "[I", Cond.fieldLink RX3 40 "PubQuizzes$State" "looked" "[I", Cond.fieldLink RX3 66 "PubQuizzes$State" "teams" "I", Cond.fieldLink RX3 43 "PubQuizzes$State" "truth" "I", Cond.methodLink RX4 253 yX3_copy]
def wsX4_restore : List Cond := .code yX4_restore cX4_restore 2 (some .int) :: ((wsX4_restore_r1 ++ wsX4_restore_r2) ++ wsX40 ++ wsX30 ++ wsX00)
def wsX5_init : List Cond := .code yX5_init cX5_init 1 none :: ([.methodLink RX5 1 objectInit, .instanceMethod objectInit, .code objectInit ⟨#[0xb1]⟩ 1 none, .arrayClass .int, .fieldLink RX5 7 "PubQuizzesModel" "s" "[I", .fieldLink RX5 13 "PubQuizzesModel" "before" "[I", .fieldLink RX5 16 "PubQuizzesModel" "saved" "[I", .arrayClass .boolean, .fieldLink RX5 19 "PubQuizzesModel" "isSaved" "[Z", .arrayClass .char, .fieldLink RX5 23 "PubQuizzesModel" "pad" "[C"] ++ wsX50)
def wsX5_in : List Cond := .code yX5_in cX5_in 3 (some .boolean) :: ([])
def wsX5_r : List Cond := .code yX5_r cX5_r 1 (some .int) :: ([])
def wsX5_t : List Cond := .code yX5_t cX5_t 1 (some .int) :: ([])
def wsX5_h : List Cond := .code yX5_h cX5_h 2 (some .int) :: ([])
def wsX5_isTeam : List Cond := .code yX5_isTeam cX5_isTeam 2 (some .boolean) :: ([.fieldLink RX5 7 "PubQuizzesModel" "s" "[I", .methodLink RX5 27 yX5_in, .static yX5_in, .initialized RX5, .code yX5_in cX5_in 3 (some .boolean)] ++ wsX50)
def wsX5_isRound : List Cond := .code yX5_isRound cX5_isRound 1 (some .boolean) :: ([.methodLink RX5 27 yX5_in, .static yX5_in, .initialized RX5, .code yX5_in cX5_in 3 (some .boolean)])
def wsX5_isOpen : List Cond := .code yX5_isOpen cX5_isOpen 2 (some .boolean) :: ([.fieldLink RX5 7 "PubQuizzesModel" "s" "[I", .methodLink RX5 31 yX5_r, .static yX5_r, .initialized RX5, .code yX5_r cX5_r 1 (some .int)] ++ wsX50)
def wsX5_record : List Cond := .code yX5_record cX5_record 2 none :: ([.fieldLink RX5 35 "PubQuizzesModel" "states" "I", .fieldLink RX5 13 "PubQuizzesModel" "before" "[I", .fieldLink RX5 7 "PubQuizzesModel" "s" "[I"] ++ wsX50)
def wsX5_trueMark : List Cond := .code yX5_trueMark cX5_trueMark 6 (some .int) :: ([.fieldLink RX5 7 "PubQuizzesModel" "s" "[I", .methodLink RX5 39 yX5_h, .static yX5_h, .initialized RX5, .code yX5_h cX5_h 2 (some .int), .methodLink RX5 31 yX5_r, .static yX5_r, .code yX5_r cX5_r 1 (some .int)] ++ wsX50)
def wsX5_markOf : List Cond := .code yX5_markOf cX5_markOf 4 (some .int) :: ([.fieldLink RX5 7 "PubQuizzesModel" "s" "[I", .methodLink RX5 39 yX5_h, .static yX5_h, .initialized RX5, .code yX5_h cX5_h 2 (some .int)] ++ wsX50)
def wsX5_points : List Cond := .code yX5_points cX5_points 3 (some .int) :: ([.fieldLink RX5 7 "PubQuizzesModel" "s" "[I", .methodLink RX5 43 yX5_markOf, .instanceMethod yX5_markOf, .selects RX5 yX5_markOf yX5_markOf, .initialized RX5, .code yX5_markOf cX5_markOf 4 (some .int), .methodLink RX5 39 yX5_h, .static yX5_h, .code yX5_h cX5_h 2 (some .int), .methodLink RX5 46 yX5_t, .static yX5_t, .code yX5_t cX5_t 1 (some .int)] ++ wsX50)
def wsX5_score : List Cond := .code yX5_score cX5_score 4 (some .int) :: ([.fieldLink RX5 7 "PubQuizzesModel" "s" "[I", .methodLink RX5 46 yX5_t, .static yX5_t, .initialized RX5, .code yX5_t cX5_t 1 (some .int), .methodLink RX5 49 yX5_points, .instanceMethod yX5_points, .selects RX5 yX5_points yX5_points, .code yX5_points cX5_points 3 (some .int), .methodLink RX5 43 yX5_markOf, .instanceMethod yX5_markOf, .selects RX5 yX5_markOf yX5_markOf, .code yX5_markOf cX5_markOf 4 (some .int), .methodLink RX5 39 yX5_h, .static yX5_h, .code yX5_h cX5_h 2 (some .int)] ++ wsX50)
def wsX5_far : List Cond := .code yX5_far cX5_far 3 (some .int) :: ([.fieldLink RX5 7 "PubQuizzesModel" "s" "[I", .constant RX5 52 (100000), .methodLink RX5 46 yX5_t, .static yX5_t, .initialized RX5, .code yX5_t cX5_t 1 (some .int)] ++ wsX50)
def wsX5_isAhead_r1 : List Cond := [Cond.fieldLink RX5 7 "PubQuizzesModel" "s" "[I", Cond.methodLink RX5 53 yX5_score, Cond.instanceMethod yX5_score, Cond.selects RX5 yX5_score yX5_score, Cond.initialized RX5, Cond.code yX5_score cX5_score 4 (some .int), Cond.methodLink RX5 46 yX5_t, Cond.static yX5_t, Cond.code yX5_t cX5_t 1 (some .int), Cond.methodLink RX5 49 yX5_points, Cond.instanceMethod yX5_points, Cond.selects RX5 yX5_points yX5_points, Cond.code yX5_points cX5_points 3 (some .int), Cond.methodLink RX5 43 yX5_markOf, Cond.instanceMethod yX5_markOf, Cond.selects RX5 yX5_markOf yX5_markOf, Cond.code yX5_markOf cX5_markOf 4 (some .int), Cond.methodLink RX5 39 yX5_h, Cond.static yX5_h, Cond.code yX5_h cX5_h 2 (some .int), Cond.methodLink RX5 56 yX5_far, Cond.instanceMethod yX5_far, Cond.selects RX5 yX5_far yX5_far, Cond.code yX5_far cX5_far 3 (some .int)]
def wsX5_isAhead_r2 : List Cond := [Cond.constant RX5 52 (100000)]
def wsX5_isAhead : List Cond := .code yX5_isAhead cX5_isAhead 5 (some .boolean) :: ((wsX5_isAhead_r1 ++ wsX5_isAhead_r2) ++ wsX50)
def wsX5_rank_r1 : List Cond := [Cond.fieldLink RX5 7 "PubQuizzesModel" "s" "[I", Cond.methodLink RX5 59 yX5_isAhead, Cond.instanceMethod yX5_isAhead, Cond.selects RX5 yX5_isAhead yX5_isAhead, Cond.initialized RX5, Cond.code yX5_isAhead cX5_isAhead 5 (some .boolean), Cond.methodLink RX5 53 yX5_score, Cond.instanceMethod yX5_score, Cond.selects RX5 yX5_score yX5_score, Cond.code yX5_score cX5_score 4 (some .int), Cond.methodLink RX5 46 yX5_t, Cond.static yX5_t, Cond.code yX5_t cX5_t 1 (some .int), Cond.methodLink RX5 49 yX5_points, Cond.instanceMethod yX5_points, Cond.selects RX5 yX5_points yX5_points, Cond.code yX5_points cX5_points 3 (some .int), Cond.methodLink RX5 43 yX5_markOf, Cond.instanceMethod yX5_markOf, Cond.selects RX5 yX5_markOf yX5_markOf, Cond.code yX5_markOf cX5_markOf 4 (some .int), Cond.methodLink RX5 39 yX5_h, Cond.static yX5_h, Cond.code yX5_h cX5_h 2 (some .int)]
def wsX5_rank_r2 : List Cond := [Cond.methodLink RX5 56 yX5_far, Cond.instanceMethod yX5_far, Cond.selects RX5 yX5_far yX5_far, Cond.code yX5_far cX5_far 3 (some .int), Cond.constant RX5 52 (100000)]
def wsX5_rank : List Cond := .code yX5_rank cX5_rank 4 (some .int) :: ((wsX5_rank_r1 ++ wsX5_rank_r2) ++ wsX50)
def wsX5_tied_r1 : List Cond := [Cond.fieldLink RX5 7 "PubQuizzesModel" "s" "[I", Cond.methodLink RX5 59 yX5_isAhead, Cond.instanceMethod yX5_isAhead, Cond.selects RX5 yX5_isAhead yX5_isAhead, Cond.initialized RX5, Cond.code yX5_isAhead cX5_isAhead 5 (some .boolean), Cond.methodLink RX5 53 yX5_score, Cond.instanceMethod yX5_score, Cond.selects RX5 yX5_score yX5_score, Cond.code yX5_score cX5_score 4 (some .int), Cond.methodLink RX5 46 yX5_t, Cond.static yX5_t, Cond.code yX5_t cX5_t 1 (some .int), Cond.methodLink RX5 49 yX5_points, Cond.instanceMethod yX5_points, Cond.selects RX5 yX5_points yX5_points, Cond.code yX5_points cX5_points 3 (some .int), Cond.methodLink RX5 43 yX5_markOf, Cond.instanceMethod yX5_markOf, Cond.selects RX5 yX5_markOf yX5_markOf, Cond.code yX5_markOf cX5_markOf 4 (some .int), Cond.methodLink RX5 39 yX5_h, Cond.static yX5_h, Cond.code yX5_h cX5_h 2 (some .int)]
def wsX5_tied_r2 : List Cond := [Cond.methodLink RX5 56 yX5_far, Cond.instanceMethod yX5_far, Cond.selects RX5 yX5_far yX5_far, Cond.code yX5_far cX5_far 3 (some .int), Cond.constant RX5 52 (100000)]
def wsX5_tied : List Cond := .code yX5_tied cX5_tied 5 (some .int) :: ((wsX5_tied_r1 ++ wsX5_tied_r2) ++ wsX50)
def wsX5_entries : List Cond := .code yX5_entries cX5_entries 3 (some .int) :: ([.fieldLink RX5 7 "PubQuizzesModel" "s" "[I", .methodLink RX5 46 yX5_t, .static yX5_t, .initialized RX5, .code yX5_t cX5_t 1 (some .int)] ++ wsX50)
def wsX5_kept : List Cond := .code yX5_kept cX5_kept 1 (some .int) :: ([.fieldLink RX5 7 "PubQuizzesModel" "s" "[I", .methodLink RX5 63 yX5_entries, .instanceMethod yX5_entries, .selects RX5 yX5_entries yX5_entries, .initialized RX5, .code yX5_entries cX5_entries 3 (some .int), .methodLink RX5 46 yX5_t, .static yX5_t, .code yX5_t cX5_t 1 (some .int)] ++ wsX50)
def wsX5_placeGets : List Cond := .code yX5_placeGets cX5_placeGets 5 (some .int) :: ([.fieldLink RX5 7 "PubQuizzesModel" "s" "[I", .methodLink RX5 63 yX5_entries, .instanceMethod yX5_entries, .selects RX5 yX5_entries yX5_entries, .initialized RX5, .code yX5_entries cX5_entries 3 (some .int), .methodLink RX5 46 yX5_t, .static yX5_t, .code yX5_t cX5_t 1 (some .int), .methodLink RX5 67 yX5_kept, .instanceMethod yX5_kept, .selects RX5 yX5_kept yX5_kept, .code yX5_kept cX5_kept 1 (some .int)] ++ wsX50)
def wsX5_bits : List Cond := .code yX5_bits cX5_bits 3 (some .int) :: ([])
def wsX5_prize_r1 : List Cond := [Cond.methodLink RX5 70 yX5_tied, Cond.instanceMethod yX5_tied, Cond.selects RX5 yX5_tied yX5_tied, Cond.initialized RX5, Cond.code yX5_tied cX5_tied 5 (some .int), Cond.fieldLink RX5 7 "PubQuizzesModel" "s" "[I", Cond.methodLink RX5 59 yX5_isAhead, Cond.instanceMethod yX5_isAhead, Cond.selects RX5 yX5_isAhead yX5_isAhead, Cond.code yX5_isAhead cX5_isAhead 5 (some .boolean), Cond.methodLink RX5 53 yX5_score, Cond.instanceMethod yX5_score, Cond.selects RX5 yX5_score yX5_score, Cond.code yX5_score cX5_score 4 (some .int), Cond.methodLink RX5 46 yX5_t, Cond.static yX5_t, Cond.code yX5_t cX5_t 1 (some .int), Cond.methodLink RX5 49 yX5_points, Cond.instanceMethod yX5_points, Cond.selects RX5 yX5_points yX5_points, Cond.code yX5_points cX5_points 3 (some .int), Cond.methodLink RX5 43 yX5_markOf, Cond.instanceMethod yX5_markOf, Cond.selects RX5 yX5_markOf yX5_markOf]
def wsX5_prize_r2 : List Cond := [Cond.code yX5_markOf cX5_markOf 4 (some .int), Cond.methodLink RX5 39 yX5_h, Cond.static yX5_h, Cond.code yX5_h cX5_h 2 (some .int), Cond.methodLink RX5 56 yX5_far, Cond.instanceMethod yX5_far, Cond.selects RX5 yX5_far yX5_far, Cond.code yX5_far cX5_far 3 (some .int), Cond.constant RX5 52 (100000), Cond.methodLink RX5 73 yX5_bits, Cond.static yX5_bits, Cond.code yX5_bits cX5_bits 3 (some .int), Cond.methodLink RX5 76 yX5_rank, Cond.instanceMethod yX5_rank, Cond.selects RX5 yX5_rank yX5_rank, Cond.code yX5_rank cX5_rank 4 (some .int), Cond.methodLink RX5 79 yX5_placeGets, Cond.instanceMethod yX5_placeGets, Cond.selects RX5 yX5_placeGets yX5_placeGets, Cond.code yX5_placeGets cX5_placeGets 5 (some .int), Cond.methodLink RX5 63 yX5_entries, Cond.instanceMethod yX5_entries, Cond.selects RX5 yX5_entries yX5_entries, Cond.code yX5_entries cX5_entries 3 (some .int)]
def wsX5_prize_r3 : List Cond := [Cond.methodLink RX5 67 yX5_kept, Cond.instanceMethod yX5_kept, Cond.selects RX5 yX5_kept yX5_kept, Cond.code yX5_kept cX5_kept 1 (some .int)]
def wsX5_prize : List Cond := .code yX5_prize cX5_prize 7 (some .int) :: ((wsX5_prize_r1 ++ (wsX5_prize_r2 ++ wsX5_prize_r3)) ++ wsX50)
def wsX5_set : List Cond := .code yX5_set cX5_set 5 (some .int) :: ([.fieldLink RX5 7 "PubQuizzesModel" "s" "[I", .methodLink RX5 27 yX5_in, .static yX5_in, .initialized RX5, .code yX5_in cX5_in 3 (some .boolean), .methodLink RX5 82 yX5_record, .instanceMethod yX5_record, .selects RX5 yX5_record yX5_record, .code yX5_record cX5_record 2 none, .fieldLink RX5 35 "PubQuizzesModel" "states" "I", .fieldLink RX5 13 "PubQuizzesModel" "before" "[I"] ++ wsX50)
def wsX5_openRounds : List Cond := .code yX5_openRounds cX5_openRounds 3 (some .int) :: ([.methodLink RX5 85 yX5_isOpen, .instanceMethod yX5_isOpen, .selects RX5 yX5_isOpen yX5_isOpen, .initialized RX5, .code yX5_isOpen cX5_isOpen 2 (some .boolean), .fieldLink RX5 7 "PubQuizzesModel" "s" "[I", .methodLink RX5 31 yX5_r, .static yX5_r, .code yX5_r cX5_r 1 (some .int)] ++ wsX50)
def wsX5_team : List Cond := .code yX5_team cX5_team 2 (some .int) :: ([.fieldLink RX5 7 "PubQuizzesModel" "s" "[I", .methodLink RX5 89 yX5_openRounds, .instanceMethod yX5_openRounds, .selects RX5 yX5_openRounds yX5_openRounds, .initialized RX5, .code yX5_openRounds cX5_openRounds 3 (some .int), .methodLink RX5 85 yX5_isOpen, .instanceMethod yX5_isOpen, .selects RX5 yX5_isOpen yX5_isOpen, .code yX5_isOpen cX5_isOpen 2 (some .boolean), .methodLink RX5 31 yX5_r, .static yX5_r, .code yX5_r cX5_r 1 (some .int), .methodLink RX5 82 yX5_record, .instanceMethod yX5_record, .selects RX5 yX5_record yX5_record, .code yX5_record cX5_record 2 none, .fieldLink RX5 35 "PubQuizzesModel" "states" "I", .fieldLink RX5 13 "PubQuizzesModel" "before" "[I", .methodLink RX5 46 yX5_t, .static yX5_t, .code yX5_t cX5_t 1 (some .int)] ++ wsX50)
def wsX5_tellsTen : List Cond := .code yX5_tellsTen cX5_tellsTen 4 (some .boolean) :: ([.fieldLink RX5 92 "PubQuizzesModel" "length" "I", .fieldLink RX5 23 "PubQuizzesModel" "pad" "[C"] ++ wsX50)
def wsX5_hand_r1 : List Cond := [Cond.fieldLink RX5 7 "PubQuizzesModel" "s" "[I", Cond.fieldLink RX5 23 "PubQuizzesModel" "pad" "[C", Cond.fieldLink RX5 92 "PubQuizzesModel" "length" "I", Cond.methodLink RX5 95 yX5_isTeam, Cond.instanceMethod yX5_isTeam, Cond.selects RX5 yX5_isTeam yX5_isTeam, Cond.initialized RX5, Cond.code yX5_isTeam cX5_isTeam 2 (some .boolean), Cond.methodLink RX5 27 yX5_in, Cond.static yX5_in, Cond.code yX5_in cX5_in 3 (some .boolean), Cond.methodLink RX5 98 yX5_isRound, Cond.static yX5_isRound, Cond.code yX5_isRound cX5_isRound 1 (some .boolean), Cond.methodLink RX5 101 yX5_tellsTen, Cond.instanceMethod yX5_tellsTen, Cond.selects RX5 yX5_tellsTen yX5_tellsTen, Cond.code yX5_tellsTen cX5_tellsTen 4 (some .boolean), Cond.methodLink RX5 39 yX5_h, Cond.static yX5_h, Cond.code yX5_h cX5_h 2 (some .int), Cond.methodLink RX5 85 yX5_isOpen, Cond.instanceMethod yX5_isOpen, Cond.selects RX5 yX5_isOpen yX5_isOpen]
def wsX5_hand_r2 : List Cond := [Cond.code yX5_isOpen cX5_isOpen 2 (some .boolean), Cond.methodLink RX5 31 yX5_r, Cond.static yX5_r, Cond.code yX5_r cX5_r 1 (some .int), Cond.methodLink RX5 82 yX5_record, Cond.instanceMethod yX5_record, Cond.selects RX5 yX5_record yX5_record, Cond.code yX5_record cX5_record 2 none, Cond.fieldLink RX5 35 "PubQuizzesModel" "states" "I", Cond.fieldLink RX5 13 "PubQuizzesModel" "before" "[I"]
def wsX5_hand : List Cond := .code yX5_hand cX5_hand 6 (some .int) :: ((wsX5_hand_r1 ++ wsX5_hand_r2) ++ wsX50)
def wsX5_teamsOf : List Cond := .code yX5_teamsOf cX5_teamsOf 7 (some .int) :: ([.fieldLink RX5 7 "PubQuizzesModel" "s" "[I", .methodLink RX5 39 yX5_h, .static yX5_h, .initialized RX5, .code yX5_h cX5_h 2 (some .int), .methodLink RX5 46 yX5_t, .static yX5_t, .code yX5_t cX5_t 1 (some .int)] ++ wsX50)
def wsX5_joker_r1 : List Cond := [Cond.fieldLink RX5 7 "PubQuizzesModel" "s" "[I", Cond.methodLink RX5 95 yX5_isTeam, Cond.instanceMethod yX5_isTeam, Cond.selects RX5 yX5_isTeam yX5_isTeam, Cond.initialized RX5, Cond.code yX5_isTeam cX5_isTeam 2 (some .boolean), Cond.methodLink RX5 27 yX5_in, Cond.static yX5_in, Cond.code yX5_in cX5_in 3 (some .boolean), Cond.methodLink RX5 98 yX5_isRound, Cond.static yX5_isRound, Cond.code yX5_isRound cX5_isRound 1 (some .boolean), Cond.methodLink RX5 46 yX5_t, Cond.static yX5_t, Cond.code yX5_t cX5_t 1 (some .int), Cond.methodLink RX5 85 yX5_isOpen, Cond.instanceMethod yX5_isOpen, Cond.selects RX5 yX5_isOpen yX5_isOpen, Cond.code yX5_isOpen cX5_isOpen 2 (some .boolean), Cond.methodLink RX5 31 yX5_r, Cond.static yX5_r, Cond.code yX5_r cX5_r 1 (some .int), Cond.methodLink RX5 39 yX5_h, Cond.static yX5_h]
def wsX5_joker_r2 : List Cond := [Cond.code yX5_h cX5_h 2 (some .int), Cond.methodLink RX5 82 yX5_record, Cond.instanceMethod yX5_record, Cond.selects RX5 yX5_record yX5_record, Cond.code yX5_record cX5_record 2 none, Cond.fieldLink RX5 35 "PubQuizzesModel" "states" "I", Cond.fieldLink RX5 13 "PubQuizzesModel" "before" "[I", Cond.methodLink RX5 105 yX5_teamsOf, Cond.instanceMethod yX5_teamsOf, Cond.selects RX5 yX5_teamsOf yX5_teamsOf, Cond.code yX5_teamsOf cX5_teamsOf 7 (some .int), Cond.methodLink RX5 73 yX5_bits, Cond.static yX5_bits, Cond.code yX5_bits cX5_bits 3 (some .int)]
def wsX5_joker : List Cond := .code yX5_joker cX5_joker 3 (some .int) :: ((wsX5_joker_r1 ++ wsX5_joker_r2) ++ wsX50)
def wsX5_key_r1 : List Cond := [Cond.fieldLink RX5 7 "PubQuizzesModel" "s" "[I", Cond.fieldLink RX5 23 "PubQuizzesModel" "pad" "[C", Cond.fieldLink RX5 92 "PubQuizzesModel" "length" "I", Cond.methodLink RX5 98 yX5_isRound, Cond.static yX5_isRound, Cond.initialized RX5, Cond.code yX5_isRound cX5_isRound 1 (some .boolean), Cond.methodLink RX5 27 yX5_in, Cond.static yX5_in, Cond.code yX5_in cX5_in 3 (some .boolean), Cond.methodLink RX5 101 yX5_tellsTen, Cond.instanceMethod yX5_tellsTen, Cond.selects RX5 yX5_tellsTen yX5_tellsTen, Cond.code yX5_tellsTen cX5_tellsTen 4 (some .boolean), Cond.methodLink RX5 85 yX5_isOpen, Cond.instanceMethod yX5_isOpen, Cond.selects RX5 yX5_isOpen yX5_isOpen, Cond.code yX5_isOpen cX5_isOpen 2 (some .boolean), Cond.methodLink RX5 31 yX5_r, Cond.static yX5_r, Cond.code yX5_r cX5_r 1 (some .int), Cond.methodLink RX5 82 yX5_record, Cond.instanceMethod yX5_record, Cond.selects RX5 yX5_record yX5_record]
def wsX5_key_r2 : List Cond := [Cond.code yX5_record cX5_record 2 none, Cond.fieldLink RX5 35 "PubQuizzesModel" "states" "I", Cond.fieldLink RX5 13 "PubQuizzesModel" "before" "[I", Cond.methodLink RX5 105 yX5_teamsOf, Cond.instanceMethod yX5_teamsOf, Cond.selects RX5 yX5_teamsOf yX5_teamsOf, Cond.code yX5_teamsOf cX5_teamsOf 7 (some .int), Cond.methodLink RX5 39 yX5_h, Cond.static yX5_h, Cond.code yX5_h cX5_h 2 (some .int), Cond.methodLink RX5 46 yX5_t, Cond.static yX5_t, Cond.code yX5_t cX5_t 1 (some .int), Cond.methodLink RX5 73 yX5_bits, Cond.static yX5_bits, Cond.code yX5_bits cX5_bits 3 (some .int)]
def wsX5_key : List Cond := .code yX5_key cX5_key 3 (some .int) :: ((wsX5_key_r1 ++ wsX5_key_r2) ++ wsX50)
def wsX5_mark_r1 : List Cond := [Cond.fieldLink RX5 7 "PubQuizzesModel" "s" "[I", Cond.methodLink RX5 95 yX5_isTeam, Cond.instanceMethod yX5_isTeam, Cond.selects RX5 yX5_isTeam yX5_isTeam, Cond.initialized RX5, Cond.code yX5_isTeam cX5_isTeam 2 (some .boolean), Cond.methodLink RX5 27 yX5_in, Cond.static yX5_in, Cond.code yX5_in cX5_in 3 (some .boolean), Cond.methodLink RX5 98 yX5_isRound, Cond.static yX5_isRound, Cond.code yX5_isRound cX5_isRound 1 (some .boolean), Cond.methodLink RX5 39 yX5_h, Cond.static yX5_h, Cond.code yX5_h cX5_h 2 (some .int), Cond.methodLink RX5 85 yX5_isOpen, Cond.instanceMethod yX5_isOpen, Cond.selects RX5 yX5_isOpen yX5_isOpen, Cond.code yX5_isOpen cX5_isOpen 2 (some .boolean), Cond.methodLink RX5 31 yX5_r, Cond.static yX5_r, Cond.code yX5_r cX5_r 1 (some .int), Cond.methodLink RX5 82 yX5_record, Cond.instanceMethod yX5_record]
def wsX5_mark_r2 : List Cond := [Cond.selects RX5 yX5_record yX5_record, Cond.code yX5_record cX5_record 2 none, Cond.fieldLink RX5 35 "PubQuizzesModel" "states" "I", Cond.fieldLink RX5 13 "PubQuizzesModel" "before" "[I"]
def wsX5_mark : List Cond := .code yX5_mark cX5_mark 6 (some .int) :: ((wsX5_mark_r1 ++ wsX5_mark_r2) ++ wsX50)
def wsX5_look_r1 : List Cond := [Cond.fieldLink RX5 7 "PubQuizzesModel" "s" "[I", Cond.methodLink RX5 95 yX5_isTeam, Cond.instanceMethod yX5_isTeam, Cond.selects RX5 yX5_isTeam yX5_isTeam, Cond.initialized RX5, Cond.code yX5_isTeam cX5_isTeam 2 (some .boolean), Cond.methodLink RX5 27 yX5_in, Cond.static yX5_in, Cond.code yX5_in cX5_in 3 (some .boolean), Cond.methodLink RX5 98 yX5_isRound, Cond.static yX5_isRound, Cond.code yX5_isRound cX5_isRound 1 (some .boolean), Cond.methodLink RX5 39 yX5_h, Cond.static yX5_h, Cond.code yX5_h cX5_h 2 (some .int), Cond.methodLink RX5 82 yX5_record, Cond.instanceMethod yX5_record, Cond.selects RX5 yX5_record yX5_record, Cond.code yX5_record cX5_record 2 none, Cond.fieldLink RX5 35 "PubQuizzesModel" "states" "I", Cond.fieldLink RX5 13 "PubQuizzesModel" "before" "[I", Cond.methodLink RX5 108 yX5_trueMark, Cond.instanceMethod yX5_trueMark, Cond.selects RX5 yX5_trueMark yX5_trueMark]
def wsX5_look_r2 : List Cond := [Cond.code yX5_trueMark cX5_trueMark 6 (some .int), Cond.methodLink RX5 31 yX5_r, Cond.static yX5_r, Cond.code yX5_r cX5_r 1 (some .int), Cond.methodLink RX5 46 yX5_t, Cond.static yX5_t, Cond.code yX5_t cX5_t 1 (some .int)]
def wsX5_look : List Cond := .code yX5_look cX5_look 5 (some .int) :: ((wsX5_look_r1 ++ wsX5_look_r2) ++ wsX50)
def wsX5_guess : List Cond := .code yX5_guess cX5_guess 4 (some .int) :: ([.fieldLink RX5 7 "PubQuizzesModel" "s" "[I", .methodLink RX5 95 yX5_isTeam, .instanceMethod yX5_isTeam, .selects RX5 yX5_isTeam yX5_isTeam, .initialized RX5, .code yX5_isTeam cX5_isTeam 2 (some .boolean), .methodLink RX5 27 yX5_in, .static yX5_in, .code yX5_in cX5_in 3 (some .boolean), .methodLink RX5 82 yX5_record, .instanceMethod yX5_record, .selects RX5 yX5_record yX5_record, .code yX5_record cX5_record 2 none, .fieldLink RX5 35 "PubQuizzesModel" "states" "I", .fieldLink RX5 13 "PubQuizzesModel" "before" "[I", .methodLink RX5 46 yX5_t, .static yX5_t, .code yX5_t cX5_t 1 (some .int)] ++ wsX50)
def wsX5_truth : List Cond := .code yX5_truth cX5_truth 4 (some .int) :: ([.fieldLink RX5 7 "PubQuizzesModel" "s" "[I", .methodLink RX5 27 yX5_in, .static yX5_in, .initialized RX5, .code yX5_in cX5_in 3 (some .boolean), .methodLink RX5 82 yX5_record, .instanceMethod yX5_record, .selects RX5 yX5_record yX5_record, .code yX5_record cX5_record 2 none, .fieldLink RX5 35 "PubQuizzesModel" "states" "I", .fieldLink RX5 13 "PubQuizzesModel" "before" "[I", .methodLink RX5 46 yX5_t, .static yX5_t, .code yX5_t cX5_t 1 (some .int)] ++ wsX50)
def wsX5_roundsOf : List Cond := .code yX5_roundsOf cX5_roundsOf 5 (some .int) :: ([.fieldLink RX5 7 "PubQuizzesModel" "s" "[I", .methodLink RX5 39 yX5_h, .static yX5_h, .initialized RX5, .code yX5_h cX5_h 2 (some .int)] ++ wsX50)
def wsX5_ofTeam_r1 : List Cond := [Cond.fieldLink RX5 7 "PubQuizzesModel" "s" "[I", Cond.methodLink RX5 95 yX5_isTeam, Cond.instanceMethod yX5_isTeam, Cond.selects RX5 yX5_isTeam yX5_isTeam, Cond.initialized RX5, Cond.code yX5_isTeam cX5_isTeam 2 (some .boolean), Cond.methodLink RX5 27 yX5_in, Cond.static yX5_in, Cond.code yX5_in cX5_in 3 (some .boolean), Cond.methodLink RX5 53 yX5_score, Cond.instanceMethod yX5_score, Cond.selects RX5 yX5_score yX5_score, Cond.code yX5_score cX5_score 4 (some .int), Cond.methodLink RX5 46 yX5_t, Cond.static yX5_t, Cond.code yX5_t cX5_t 1 (some .int), Cond.methodLink RX5 49 yX5_points, Cond.instanceMethod yX5_points, Cond.selects RX5 yX5_points yX5_points, Cond.code yX5_points cX5_points 3 (some .int), Cond.methodLink RX5 43 yX5_markOf, Cond.instanceMethod yX5_markOf, Cond.selects RX5 yX5_markOf yX5_markOf, Cond.code yX5_markOf cX5_markOf 4 (some .int)]
def wsX5_ofTeam_r2 : List Cond := [Cond.methodLink RX5 39 yX5_h, Cond.static yX5_h, Cond.code yX5_h cX5_h 2 (some .int), Cond.methodLink RX5 76 yX5_rank, Cond.instanceMethod yX5_rank, Cond.selects RX5 yX5_rank yX5_rank, Cond.code yX5_rank cX5_rank 4 (some .int), Cond.methodLink RX5 59 yX5_isAhead, Cond.instanceMethod yX5_isAhead, Cond.selects RX5 yX5_isAhead yX5_isAhead, Cond.code yX5_isAhead cX5_isAhead 5 (some .boolean), Cond.methodLink RX5 56 yX5_far, Cond.instanceMethod yX5_far, Cond.selects RX5 yX5_far yX5_far, Cond.code yX5_far cX5_far 3 (some .int), Cond.constant RX5 52 (100000), Cond.methodLink RX5 111 yX5_prize, Cond.instanceMethod yX5_prize, Cond.selects RX5 yX5_prize yX5_prize, Cond.code yX5_prize cX5_prize 7 (some .int), Cond.methodLink RX5 70 yX5_tied, Cond.instanceMethod yX5_tied, Cond.selects RX5 yX5_tied yX5_tied, Cond.code yX5_tied cX5_tied 5 (some .int)]
def wsX5_ofTeam_r3 : List Cond := [Cond.methodLink RX5 73 yX5_bits, Cond.static yX5_bits, Cond.code yX5_bits cX5_bits 3 (some .int), Cond.methodLink RX5 79 yX5_placeGets, Cond.instanceMethod yX5_placeGets, Cond.selects RX5 yX5_placeGets yX5_placeGets, Cond.code yX5_placeGets cX5_placeGets 5 (some .int), Cond.methodLink RX5 63 yX5_entries, Cond.instanceMethod yX5_entries, Cond.selects RX5 yX5_entries yX5_entries, Cond.code yX5_entries cX5_entries 3 (some .int), Cond.methodLink RX5 67 yX5_kept, Cond.instanceMethod yX5_kept, Cond.selects RX5 yX5_kept yX5_kept, Cond.code yX5_kept cX5_kept 1 (some .int), Cond.methodLink RX5 114 yX5_roundsOf, Cond.instanceMethod yX5_roundsOf, Cond.selects RX5 yX5_roundsOf yX5_roundsOf, Cond.code yX5_roundsOf cX5_roundsOf 5 (some .int)]
def wsX5_ofTeam : List Cond := .code yX5_ofTeam cX5_ofTeam 3 (some .int) :: ((wsX5_ofTeam_r1 ++ (wsX5_ofTeam_r2 ++ wsX5_ofTeam_r3)) ++ wsX50)
def wsX5_greatest : List Cond := .code yX5_greatest cX5_greatest 4 (some .int) :: ([.fieldLink RX5 7 "PubQuizzesModel" "s" "[I", .methodLink RX5 49 yX5_points, .instanceMethod yX5_points, .selects RX5 yX5_points yX5_points, .initialized RX5, .code yX5_points cX5_points 3 (some .int), .methodLink RX5 43 yX5_markOf, .instanceMethod yX5_markOf, .selects RX5 yX5_markOf yX5_markOf, .code yX5_markOf cX5_markOf 4 (some .int), .methodLink RX5 39 yX5_h, .static yX5_h, .code yX5_h cX5_h 2 (some .int), .methodLink RX5 46 yX5_t, .static yX5_t, .code yX5_t cX5_t 1 (some .int)] ++ wsX50)
def wsX5_ofRound_r1 : List Cond := [Cond.methodLink RX5 98 yX5_isRound, Cond.static yX5_isRound, Cond.initialized RX5, Cond.code yX5_isRound cX5_isRound 1 (some .boolean), Cond.methodLink RX5 27 yX5_in, Cond.static yX5_in, Cond.code yX5_in cX5_in 3 (some .boolean), Cond.methodLink RX5 85 yX5_isOpen, Cond.instanceMethod yX5_isOpen, Cond.selects RX5 yX5_isOpen yX5_isOpen, Cond.code yX5_isOpen cX5_isOpen 2 (some .boolean), Cond.fieldLink RX5 7 "PubQuizzesModel" "s" "[I", Cond.methodLink RX5 31 yX5_r, Cond.static yX5_r, Cond.code yX5_r cX5_r 1 (some .int), Cond.methodLink RX5 105 yX5_teamsOf, Cond.instanceMethod yX5_teamsOf, Cond.selects RX5 yX5_teamsOf yX5_teamsOf, Cond.code yX5_teamsOf cX5_teamsOf 7 (some .int), Cond.methodLink RX5 39 yX5_h, Cond.static yX5_h, Cond.code yX5_h cX5_h 2 (some .int), Cond.methodLink RX5 46 yX5_t, Cond.static yX5_t]
def wsX5_ofRound_r2 : List Cond := [Cond.code yX5_t cX5_t 1 (some .int), Cond.methodLink RX5 117 yX5_greatest, Cond.instanceMethod yX5_greatest, Cond.selects RX5 yX5_greatest yX5_greatest, Cond.code yX5_greatest cX5_greatest 4 (some .int), Cond.methodLink RX5 49 yX5_points, Cond.instanceMethod yX5_points, Cond.selects RX5 yX5_points yX5_points, Cond.code yX5_points cX5_points 3 (some .int), Cond.methodLink RX5 43 yX5_markOf, Cond.instanceMethod yX5_markOf, Cond.selects RX5 yX5_markOf yX5_markOf, Cond.code yX5_markOf cX5_markOf 4 (some .int)]
def wsX5_ofRound : List Cond := .code yX5_ofRound cX5_ofRound 3 (some .int) :: ((wsX5_ofRound_r1 ++ wsX5_ofRound_r2) ++ wsX50)
def wsX5_isSheet : List Cond := .code yX5_isSheet cX5_isSheet 3 (some .boolean) :: ([.fieldLink RX5 7 "PubQuizzesModel" "s" "[I", .methodLink RX5 95 yX5_isTeam, .instanceMethod yX5_isTeam, .selects RX5 yX5_isTeam yX5_isTeam, .initialized RX5, .code yX5_isTeam cX5_isTeam 2 (some .boolean), .methodLink RX5 27 yX5_in, .static yX5_in, .code yX5_in cX5_in 3 (some .boolean), .methodLink RX5 98 yX5_isRound, .static yX5_isRound, .code yX5_isRound cX5_isRound 1 (some .boolean), .methodLink RX5 39 yX5_h, .static yX5_h, .code yX5_h cX5_h 2 (some .int)] ++ wsX50)
def wsX5_answered : List Cond := .code yX5_answered cX5_answered 4 (some .int) :: ([.fieldLink RX5 7 "PubQuizzesModel" "s" "[I"] ++ wsX50)
def wsX5_sheet_r1 : List Cond := [Cond.fieldLink RX5 7 "PubQuizzesModel" "s" "[I", Cond.methodLink RX5 120 yX5_isSheet, Cond.instanceMethod yX5_isSheet, Cond.selects RX5 yX5_isSheet yX5_isSheet, Cond.initialized RX5, Cond.code yX5_isSheet cX5_isSheet 3 (some .boolean), Cond.methodLink RX5 95 yX5_isTeam, Cond.instanceMethod yX5_isTeam, Cond.selects RX5 yX5_isTeam yX5_isTeam, Cond.code yX5_isTeam cX5_isTeam 2 (some .boolean), Cond.methodLink RX5 27 yX5_in, Cond.static yX5_in, Cond.code yX5_in cX5_in 3 (some .boolean), Cond.methodLink RX5 98 yX5_isRound, Cond.static yX5_isRound, Cond.code yX5_isRound cX5_isRound 1 (some .boolean), Cond.methodLink RX5 39 yX5_h, Cond.static yX5_h, Cond.code yX5_h cX5_h 2 (some .int), Cond.methodLink RX5 49 yX5_points, Cond.instanceMethod yX5_points, Cond.selects RX5 yX5_points yX5_points, Cond.code yX5_points cX5_points 3 (some .int), Cond.methodLink RX5 43 yX5_markOf]
def wsX5_sheet_r2 : List Cond := [Cond.instanceMethod yX5_markOf, Cond.selects RX5 yX5_markOf yX5_markOf, Cond.code yX5_markOf cX5_markOf 4 (some .int), Cond.methodLink RX5 46 yX5_t, Cond.static yX5_t, Cond.code yX5_t cX5_t 1 (some .int), Cond.methodLink RX5 85 yX5_isOpen, Cond.instanceMethod yX5_isOpen, Cond.selects RX5 yX5_isOpen yX5_isOpen, Cond.code yX5_isOpen cX5_isOpen 2 (some .boolean), Cond.methodLink RX5 31 yX5_r, Cond.static yX5_r, Cond.code yX5_r cX5_r 1 (some .int), Cond.methodLink RX5 108 yX5_trueMark, Cond.instanceMethod yX5_trueMark, Cond.selects RX5 yX5_trueMark yX5_trueMark, Cond.code yX5_trueMark cX5_trueMark 6 (some .int), Cond.methodLink RX5 123 yX5_answered, Cond.instanceMethod yX5_answered, Cond.selects RX5 yX5_answered yX5_answered, Cond.code yX5_answered cX5_answered 4 (some .int)]
def wsX5_sheet : List Cond := .code yX5_sheet cX5_sheet 6 (some .int) :: ((wsX5_sheet_r1 ++ wsX5_sheet_r2) ++ wsX50)
def wsX5_answer_r1 : List Cond := [Cond.fieldLink RX5 7 "PubQuizzesModel" "s" "[I", Cond.methodLink RX5 98 yX5_isRound, Cond.static yX5_isRound, Cond.initialized RX5, Cond.code yX5_isRound cX5_isRound 1 (some .boolean), Cond.methodLink RX5 27 yX5_in, Cond.static yX5_in, Cond.code yX5_in cX5_in 3 (some .boolean), Cond.methodLink RX5 85 yX5_isOpen, Cond.instanceMethod yX5_isOpen, Cond.selects RX5 yX5_isOpen yX5_isOpen, Cond.code yX5_isOpen cX5_isOpen 2 (some .boolean), Cond.methodLink RX5 31 yX5_r, Cond.static yX5_r, Cond.code yX5_r cX5_r 1 (some .int), Cond.methodLink RX5 120 yX5_isSheet, Cond.instanceMethod yX5_isSheet, Cond.selects RX5 yX5_isSheet yX5_isSheet, Cond.code yX5_isSheet cX5_isSheet 3 (some .boolean), Cond.methodLink RX5 95 yX5_isTeam, Cond.instanceMethod yX5_isTeam, Cond.selects RX5 yX5_isTeam yX5_isTeam, Cond.code yX5_isTeam cX5_isTeam 2 (some .boolean), Cond.methodLink RX5 39 yX5_h]
def wsX5_answer_r2 : List Cond := [Cond.static yX5_h, Cond.code yX5_h cX5_h 2 (some .int)]
def wsX5_answer : List Cond := .code yX5_answer cX5_answer 6 (some .int) :: ((wsX5_answer_r1 ++ wsX5_answer_r2) ++ wsX50)
def wsX5_at_r1 : List Cond := [Cond.fieldLink RX5 7 "PubQuizzesModel" "s" "[I", Cond.methodLink RX5 76 yX5_rank, Cond.instanceMethod yX5_rank, Cond.selects RX5 yX5_rank yX5_rank, Cond.initialized RX5, Cond.code yX5_rank cX5_rank 4 (some .int), Cond.methodLink RX5 59 yX5_isAhead, Cond.instanceMethod yX5_isAhead, Cond.selects RX5 yX5_isAhead yX5_isAhead, Cond.code yX5_isAhead cX5_isAhead 5 (some .boolean), Cond.methodLink RX5 53 yX5_score, Cond.instanceMethod yX5_score, Cond.selects RX5 yX5_score yX5_score, Cond.code yX5_score cX5_score 4 (some .int), Cond.methodLink RX5 46 yX5_t, Cond.static yX5_t, Cond.code yX5_t cX5_t 1 (some .int), Cond.methodLink RX5 49 yX5_points, Cond.instanceMethod yX5_points, Cond.selects RX5 yX5_points yX5_points, Cond.code yX5_points cX5_points 3 (some .int), Cond.methodLink RX5 43 yX5_markOf, Cond.instanceMethod yX5_markOf, Cond.selects RX5 yX5_markOf yX5_markOf]
def wsX5_at_r2 : List Cond := [Cond.code yX5_markOf cX5_markOf 4 (some .int), Cond.methodLink RX5 39 yX5_h, Cond.static yX5_h, Cond.code yX5_h cX5_h 2 (some .int), Cond.methodLink RX5 56 yX5_far, Cond.instanceMethod yX5_far, Cond.selects RX5 yX5_far yX5_far, Cond.code yX5_far cX5_far 3 (some .int), Cond.constant RX5 52 (100000), Cond.methodLink RX5 70 yX5_tied, Cond.instanceMethod yX5_tied, Cond.selects RX5 yX5_tied yX5_tied, Cond.code yX5_tied cX5_tied 5 (some .int), Cond.methodLink RX5 73 yX5_bits, Cond.static yX5_bits, Cond.code yX5_bits cX5_bits 3 (some .int)]
def wsX5_at : List Cond := .code yX5_at cX5_at 5 (some .int) :: ((wsX5_at_r1 ++ wsX5_at_r2) ++ wsX50)
def wsX5_fines : List Cond := .code yX5_fines cX5_fines 3 (some .int) :: ([.fieldLink RX5 7 "PubQuizzesModel" "s" "[I", .methodLink RX5 46 yX5_t, .static yX5_t, .initialized RX5, .code yX5_t cX5_t 1 (some .int)] ++ wsX50)
def wsX5_unlike : List Cond := .code yX5_unlike cX5_unlike 5 (some .int) :: ([.fieldLink RX5 7 "PubQuizzesModel" "s" "[I", .methodLink RX5 53 yX5_score, .instanceMethod yX5_score, .selects RX5 yX5_score yX5_score, .initialized RX5, .code yX5_score cX5_score 4 (some .int), .methodLink RX5 46 yX5_t, .static yX5_t, .code yX5_t cX5_t 1 (some .int), .methodLink RX5 49 yX5_points, .instanceMethod yX5_points, .selects RX5 yX5_points yX5_points, .code yX5_points cX5_points 3 (some .int), .methodLink RX5 43 yX5_markOf, .instanceMethod yX5_markOf, .selects RX5 yX5_markOf yX5_markOf, .code yX5_markOf cX5_markOf 4 (some .int), .methodLink RX5 39 yX5_h, .static yX5_h, .code yX5_h cX5_h 2 (some .int)] ++ wsX50)
def wsX5_count_r1 : List Cond := [Cond.fieldLink RX5 7 "PubQuizzesModel" "s" "[I", Cond.fieldLink RX5 92 "PubQuizzesModel" "length" "I", Cond.fieldLink RX5 35 "PubQuizzesModel" "states" "I", Cond.methodLink RX5 63 yX5_entries, Cond.instanceMethod yX5_entries, Cond.selects RX5 yX5_entries yX5_entries, Cond.initialized RX5, Cond.code yX5_entries cX5_entries 3 (some .int), Cond.methodLink RX5 46 yX5_t, Cond.static yX5_t, Cond.code yX5_t cX5_t 1 (some .int), Cond.methodLink RX5 67 yX5_kept, Cond.instanceMethod yX5_kept, Cond.selects RX5 yX5_kept yX5_kept, Cond.code yX5_kept cX5_kept 1 (some .int), Cond.methodLink RX5 89 yX5_openRounds, Cond.instanceMethod yX5_openRounds, Cond.selects RX5 yX5_openRounds yX5_openRounds, Cond.code yX5_openRounds cX5_openRounds 3 (some .int), Cond.methodLink RX5 85 yX5_isOpen, Cond.instanceMethod yX5_isOpen, Cond.selects RX5 yX5_isOpen yX5_isOpen, Cond.code yX5_isOpen cX5_isOpen 2 (some .boolean), Cond.methodLink RX5 31 yX5_r]
def wsX5_count_r2 : List Cond := [Cond.static yX5_r, Cond.code yX5_r cX5_r 1 (some .int), Cond.methodLink RX5 126 yX5_fines, Cond.instanceMethod yX5_fines, Cond.selects RX5 yX5_fines yX5_fines, Cond.code yX5_fines cX5_fines 3 (some .int), Cond.methodLink RX5 129 yX5_unlike, Cond.instanceMethod yX5_unlike, Cond.selects RX5 yX5_unlike yX5_unlike, Cond.code yX5_unlike cX5_unlike 5 (some .int), Cond.methodLink RX5 53 yX5_score, Cond.instanceMethod yX5_score, Cond.selects RX5 yX5_score yX5_score, Cond.code yX5_score cX5_score 4 (some .int), Cond.methodLink RX5 49 yX5_points, Cond.instanceMethod yX5_points, Cond.selects RX5 yX5_points yX5_points, Cond.code yX5_points cX5_points 3 (some .int), Cond.methodLink RX5 43 yX5_markOf, Cond.instanceMethod yX5_markOf, Cond.selects RX5 yX5_markOf yX5_markOf, Cond.code yX5_markOf cX5_markOf 4 (some .int), Cond.methodLink RX5 39 yX5_h, Cond.static yX5_h]
def wsX5_count_r3 : List Cond := [Cond.code yX5_h cX5_h 2 (some .int)]
def wsX5_count : List Cond := .code yX5_count cX5_count 2 (some .int) :: ((wsX5_count_r1 ++ (wsX5_count_r2 ++ wsX5_count_r3)) ++ wsX50)
def wsX5_bestJoker_r1 : List Cond := [Cond.fieldLink RX5 7 "PubQuizzesModel" "s" "[I", Cond.constant RX5 132 (-100000), Cond.methodLink RX5 95 yX5_isTeam, Cond.instanceMethod yX5_isTeam, Cond.selects RX5 yX5_isTeam yX5_isTeam, Cond.initialized RX5, Cond.code yX5_isTeam cX5_isTeam 2 (some .boolean), Cond.methodLink RX5 27 yX5_in, Cond.static yX5_in, Cond.code yX5_in cX5_in 3 (some .boolean), Cond.methodLink RX5 46 yX5_t, Cond.static yX5_t, Cond.code yX5_t cX5_t 1 (some .int), Cond.methodLink RX5 53 yX5_score, Cond.instanceMethod yX5_score, Cond.selects RX5 yX5_score yX5_score, Cond.code yX5_score cX5_score 4 (some .int), Cond.methodLink RX5 49 yX5_points, Cond.instanceMethod yX5_points, Cond.selects RX5 yX5_points yX5_points, Cond.code yX5_points cX5_points 3 (some .int), Cond.methodLink RX5 43 yX5_markOf, Cond.instanceMethod yX5_markOf, Cond.selects RX5 yX5_markOf yX5_markOf]
def wsX5_bestJoker_r2 : List Cond := [Cond.code yX5_markOf cX5_markOf 4 (some .int), Cond.methodLink RX5 39 yX5_h, Cond.static yX5_h, Cond.code yX5_h cX5_h 2 (some .int)]
def wsX5_bestJoker : List Cond := .code yX5_bestJoker cX5_bestJoker 8 (some .int) :: ((wsX5_bestJoker_r1 ++ wsX5_bestJoker_r2) ++ wsX50)
def wsX5_reaches_r1 : List Cond := [Cond.fieldLink RX5 7 "PubQuizzesModel" "s" "[I", Cond.methodLink RX5 53 yX5_score, Cond.instanceMethod yX5_score, Cond.selects RX5 yX5_score yX5_score, Cond.initialized RX5, Cond.code yX5_score cX5_score 4 (some .int), Cond.methodLink RX5 46 yX5_t, Cond.static yX5_t, Cond.code yX5_t cX5_t 1 (some .int), Cond.methodLink RX5 49 yX5_points, Cond.instanceMethod yX5_points, Cond.selects RX5 yX5_points yX5_points, Cond.code yX5_points cX5_points 3 (some .int), Cond.methodLink RX5 43 yX5_markOf, Cond.instanceMethod yX5_markOf, Cond.selects RX5 yX5_markOf yX5_markOf, Cond.code yX5_markOf cX5_markOf 4 (some .int), Cond.methodLink RX5 39 yX5_h, Cond.static yX5_h, Cond.code yX5_h cX5_h 2 (some .int), Cond.methodLink RX5 85 yX5_isOpen, Cond.instanceMethod yX5_isOpen, Cond.selects RX5 yX5_isOpen yX5_isOpen, Cond.code yX5_isOpen cX5_isOpen 2 (some .boolean)]
def wsX5_reaches_r2 : List Cond := [Cond.methodLink RX5 31 yX5_r, Cond.static yX5_r, Cond.code yX5_r cX5_r 1 (some .int)]
def wsX5_reaches : List Cond := .code yX5_reaches cX5_reaches 8 (some .int) :: ((wsX5_reaches_r1 ++ wsX5_reaches_r2) ++ wsX50)
def wsX5_most_r1 : List Cond := [Cond.methodLink RX5 95 yX5_isTeam, Cond.instanceMethod yX5_isTeam, Cond.selects RX5 yX5_isTeam yX5_isTeam, Cond.initialized RX5, Cond.code yX5_isTeam cX5_isTeam 2 (some .boolean), Cond.fieldLink RX5 7 "PubQuizzesModel" "s" "[I", Cond.methodLink RX5 27 yX5_in, Cond.static yX5_in, Cond.code yX5_in cX5_in 3 (some .boolean), Cond.methodLink RX5 133 yX5_reaches, Cond.instanceMethod yX5_reaches, Cond.selects RX5 yX5_reaches yX5_reaches, Cond.code yX5_reaches cX5_reaches 8 (some .int), Cond.methodLink RX5 53 yX5_score, Cond.instanceMethod yX5_score, Cond.selects RX5 yX5_score yX5_score, Cond.code yX5_score cX5_score 4 (some .int), Cond.methodLink RX5 46 yX5_t, Cond.static yX5_t, Cond.code yX5_t cX5_t 1 (some .int), Cond.methodLink RX5 49 yX5_points, Cond.instanceMethod yX5_points, Cond.selects RX5 yX5_points yX5_points, Cond.code yX5_points cX5_points 3 (some .int)]
def wsX5_most_r2 : List Cond := [Cond.methodLink RX5 43 yX5_markOf, Cond.instanceMethod yX5_markOf, Cond.selects RX5 yX5_markOf yX5_markOf, Cond.code yX5_markOf cX5_markOf 4 (some .int), Cond.methodLink RX5 39 yX5_h, Cond.static yX5_h, Cond.code yX5_h cX5_h 2 (some .int), Cond.methodLink RX5 85 yX5_isOpen, Cond.instanceMethod yX5_isOpen, Cond.selects RX5 yX5_isOpen yX5_isOpen, Cond.code yX5_isOpen cX5_isOpen 2 (some .boolean), Cond.methodLink RX5 31 yX5_r, Cond.static yX5_r, Cond.code yX5_r cX5_r 1 (some .int)]
def wsX5_most : List Cond := .code yX5_most cX5_most 2 (some .int) :: ((wsX5_most_r1 ++ wsX5_most_r2) ++ wsX50)
def wsX5_canWin_r1 : List Cond := [Cond.fieldLink RX5 7 "PubQuizzesModel" "s" "[I", Cond.methodLink RX5 133 yX5_reaches, Cond.instanceMethod yX5_reaches, Cond.selects RX5 yX5_reaches yX5_reaches, Cond.initialized RX5, Cond.code yX5_reaches cX5_reaches 8 (some .int), Cond.methodLink RX5 53 yX5_score, Cond.instanceMethod yX5_score, Cond.selects RX5 yX5_score yX5_score, Cond.code yX5_score cX5_score 4 (some .int), Cond.methodLink RX5 46 yX5_t, Cond.static yX5_t, Cond.code yX5_t cX5_t 1 (some .int), Cond.methodLink RX5 49 yX5_points, Cond.instanceMethod yX5_points, Cond.selects RX5 yX5_points yX5_points, Cond.code yX5_points cX5_points 3 (some .int), Cond.methodLink RX5 43 yX5_markOf, Cond.instanceMethod yX5_markOf, Cond.selects RX5 yX5_markOf yX5_markOf, Cond.code yX5_markOf cX5_markOf 4 (some .int), Cond.methodLink RX5 39 yX5_h, Cond.static yX5_h, Cond.code yX5_h cX5_h 2 (some .int)]
def wsX5_canWin_r2 : List Cond := [Cond.methodLink RX5 85 yX5_isOpen, Cond.instanceMethod yX5_isOpen, Cond.selects RX5 yX5_isOpen yX5_isOpen, Cond.code yX5_isOpen cX5_isOpen 2 (some .boolean), Cond.methodLink RX5 31 yX5_r, Cond.static yX5_r, Cond.code yX5_r cX5_r 1 (some .int)]
def wsX5_canWin : List Cond := .code yX5_canWin cX5_canWin 5 (some .int) :: ((wsX5_canWin_r1 ++ wsX5_canWin_r2) ++ wsX50)
def wsX5_isWrong : List Cond := .code yX5_isWrong cX5_isWrong 4 (some .boolean) :: ([.fieldLink RX5 7 "PubQuizzesModel" "s" "[I", .methodLink RX5 39 yX5_h, .static yX5_h, .initialized RX5, .code yX5_h cX5_h 2 (some .int), .methodLink RX5 108 yX5_trueMark, .instanceMethod yX5_trueMark, .selects RX5 yX5_trueMark yX5_trueMark, .code yX5_trueMark cX5_trueMark 6 (some .int), .methodLink RX5 31 yX5_r, .static yX5_r, .code yX5_r cX5_r 1 (some .int)] ++ wsX50)
def wsX5_ifLooked_r1 : List Cond := [Cond.fieldLink RX5 7 "PubQuizzesModel" "s" "[I", Cond.methodLink RX5 95 yX5_isTeam, Cond.instanceMethod yX5_isTeam, Cond.selects RX5 yX5_isTeam yX5_isTeam, Cond.initialized RX5, Cond.code yX5_isTeam cX5_isTeam 2 (some .boolean), Cond.methodLink RX5 27 yX5_in, Cond.static yX5_in, Cond.code yX5_in cX5_in 3 (some .boolean), Cond.methodLink RX5 53 yX5_score, Cond.instanceMethod yX5_score, Cond.selects RX5 yX5_score yX5_score, Cond.code yX5_score cX5_score 4 (some .int), Cond.methodLink RX5 46 yX5_t, Cond.static yX5_t, Cond.code yX5_t cX5_t 1 (some .int), Cond.methodLink RX5 49 yX5_points, Cond.instanceMethod yX5_points, Cond.selects RX5 yX5_points yX5_points, Cond.code yX5_points cX5_points 3 (some .int), Cond.methodLink RX5 43 yX5_markOf, Cond.instanceMethod yX5_markOf, Cond.selects RX5 yX5_markOf yX5_markOf, Cond.code yX5_markOf cX5_markOf 4 (some .int)]
def wsX5_ifLooked_r2 : List Cond := [Cond.methodLink RX5 39 yX5_h, Cond.static yX5_h, Cond.code yX5_h cX5_h 2 (some .int), Cond.methodLink RX5 136 yX5_isWrong, Cond.instanceMethod yX5_isWrong, Cond.selects RX5 yX5_isWrong yX5_isWrong, Cond.code yX5_isWrong cX5_isWrong 4 (some .boolean), Cond.methodLink RX5 108 yX5_trueMark, Cond.instanceMethod yX5_trueMark, Cond.selects RX5 yX5_trueMark yX5_trueMark, Cond.code yX5_trueMark cX5_trueMark 6 (some .int), Cond.methodLink RX5 31 yX5_r, Cond.static yX5_r, Cond.code yX5_r cX5_r 1 (some .int)]
def wsX5_ifLooked : List Cond := .code yX5_ifLooked cX5_ifLooked 6 (some .int) :: ((wsX5_ifLooked_r1 ++ wsX5_ifLooked_r2) ++ wsX50)
def wsX5_wrongMarks : List Cond := .code yX5_wrongMarks cX5_wrongMarks 3 (some .int) :: ([.fieldLink RX5 7 "PubQuizzesModel" "s" "[I", .methodLink RX5 136 yX5_isWrong, .instanceMethod yX5_isWrong, .selects RX5 yX5_isWrong yX5_isWrong, .initialized RX5, .code yX5_isWrong cX5_isWrong 4 (some .boolean), .methodLink RX5 39 yX5_h, .static yX5_h, .code yX5_h cX5_h 2 (some .int), .methodLink RX5 108 yX5_trueMark, .instanceMethod yX5_trueMark, .selects RX5 yX5_trueMark yX5_trueMark, .code yX5_trueMark cX5_trueMark 6 (some .int), .methodLink RX5 31 yX5_r, .static yX5_r, .code yX5_r cX5_r 1 (some .int)] ++ wsX50)
def wsX5_put : List Cond := .code yX5_put cX5_put 8 (some .int) :: ([.constantLong RX5 139 (255), .constantLong RX5 141 (33), .constantLong RX5 143 (126), .fieldLink RX5 92 "PubQuizzesModel" "length" "I", .fieldLink RX5 23 "PubQuizzesModel" "pad" "[C"] ++ wsX50)
def wsX5_wipe : List Cond := .code yX5_wipe cX5_wipe 2 (some .int) :: ([.fieldLink RX5 92 "PubQuizzesModel" "length" "I"] ++ wsX50)
def wsX5_fault : List Cond := .code yX5_fault cX5_fault 2 (some .int) :: ([.fieldLink RX5 92 "PubQuizzesModel" "length" "I", .fieldLink RX5 23 "PubQuizzesModel" "pad" "[C"] ++ wsX50)
def wsX5_undo : List Cond := .code yX5_undo cX5_undo 2 (some .int) :: ([.fieldLink RX5 35 "PubQuizzesModel" "states" "I", .fieldLink RX5 7 "PubQuizzesModel" "s" "[I", .fieldLink RX5 13 "PubQuizzesModel" "before" "[I"] ++ wsX50)
def wsX5_save : List Cond := .code yX5_save cX5_save 3 (some .int) :: ([.fieldLink RX5 16 "PubQuizzesModel" "saved" "[I", .fieldLink RX5 7 "PubQuizzesModel" "s" "[I", .fieldLink RX5 19 "PubQuizzesModel" "isSaved" "[Z", .methodLink RX5 27 yX5_in, .static yX5_in, .initialized RX5, .code yX5_in cX5_in 3 (some .boolean)] ++ wsX50)
def wsX5_restore : List Cond := .code yX5_restore cX5_restore 3 (some .int) :: ([.fieldLink RX5 19 "PubQuizzesModel" "isSaved" "[Z", .fieldLink RX5 7 "PubQuizzesModel" "s" "[I", .fieldLink RX5 16 "PubQuizzesModel" "saved" "[I", .methodLink RX5 27 yX5_in, .static yX5_in, .initialized RX5, .code yX5_in cX5_in 3 (some .boolean), .methodLink RX5 82 yX5_record, .instanceMethod yX5_record, .selects RX5 yX5_record yX5_record, .code yX5_record cX5_record 2 none, .fieldLink RX5 35 "PubQuizzesModel" "states" "I", .fieldLink RX5 13 "PubQuizzesModel" "before" "[I"] ++ wsX50)
def wsJ9_abs_0f7a4 : List Cond := .code yJ9_abs_0f7a4 cJ9_abs_0f7a4 1 (some .int) :: ([])
def wsJ9_max_7cf53 : List Cond := .code yJ9_max_7cf53 cJ9_max_7cf53 2 (some .int) :: ([])
def wsJ9_min_7cf53 : List Cond := .code yJ9_min_7cf53 cJ9_min_7cf53 2 (some .int) :: ([])
def wsL_law_r1 : List Cond := [Cond.classLink RL 7 RX4, Cond.instantiable RX4 5, Cond.initialized RX4, Cond.classLink RL 10 RX5, Cond.instantiable RX5 7, Cond.initialized RX5, Cond.constantLong RL 98 (4294967295), Cond.methodLink RL 9 yX4_init, Cond.instanceMethod yX4_init, Cond.code yX4_init cX4_init 2 none, Cond.methodLink RX4 3 objectInit, Cond.instanceMethod objectInit, Cond.code objectInit ⟨#[0xb1]⟩ 1 none, Cond.classLink RX4 9 RX3, Cond.instantiable RX3 12, Cond.initialized RX3, Cond.fieldLink RX4 12 "PubQuizzes" "now" "LPubQuizzes$State;", Cond.classLink RX4 16 RX0, Cond.instantiable RX0 3, Cond.initialized RX0, Cond.fieldLink RX4 19 "PubQuizzes" "history" "LPubQuizzes$History;", Cond.classLink RX4 23 RX1, Cond.instantiable RX1 2, Cond.initialized RX1]
def wsL_law_r2 : List Cond := [Cond.fieldLink RX4 26 "PubQuizzes" "pad" "LPubQuizzes$Pad;", Cond.fieldLink RX4 30 "PubQuizzes" "slots" "[LPubQuizzes$State;", Cond.arrayClass .boolean, Cond.fieldLink RX4 34 "PubQuizzes" "saved" "[Z", Cond.methodLink RX4 11 yX3_init, Cond.instanceMethod yX3_init, Cond.code yX3_init cX3_init 1 none, Cond.methodLink RX3 3 objectInit, Cond.arrayClass .int, Cond.fieldLink RX3 9 "PubQuizzes$State" "settings" "[I", Cond.fieldLink RX3 15 "PubQuizzes$State" "paid" "[I", Cond.fieldLink RX3 18 "PubQuizzes$State" "jokers" "[I", Cond.fieldLink RX3 21 "PubQuizzes$State" "fines" "[I", Cond.fieldLink RX3 24 "PubQuizzes$State" "guesses" "[I", Cond.arrayClass .long, Cond.fieldLink RX3 27 "PubQuizzes$State" "keys" "[J", Cond.fieldLink RX3 31 "PubQuizzes$State" "sheets" "[J", Cond.fieldLink RX3 34 "PubQuizzes$State" "marks" "[I", Cond.fieldLink RX3 37 "PubQuizzes$State" "markers" "[I", Cond.fieldLink RX3 40 "PubQuizzes$State" "looked" "[I", Cond.fieldLink RX3 43 "PubQuizzes$State" "truth" "I", Cond.constantLong RX3 55 (-1), Cond.methodLink RX3 47 yJ7_fill_53178, Cond.static yJ7_fill_53178]
def wsL_law_r3 : List Cond := [Cond.initialized RJ7, Cond.code yJ7_fill_53178 cJ7_fill_53178 4 none, Cond.methodLink RX3 57 yJ7_fill_d0a16, Cond.static yJ7_fill_d0a16, Cond.code yJ7_fill_d0a16 cJ7_fill_d0a16 5 none, Cond.methodLink RX4 18 yX0_init, Cond.instanceMethod yX0_init, Cond.code yX0_init cX0_init 2 none, Cond.methodLink RX0 1 objectInit, Cond.classLink RX0 9 RX3, Cond.fieldLink RX0 11 "PubQuizzes$History" "states" "[LPubQuizzes$State;", Cond.methodLink RX0 15 yX3_init, Cond.instanceMethod yX1_init, Cond.code yX1_init cX1_init 1 none, Cond.methodLink RX1 3 objectInit, Cond.fieldLink RX1 11 "PubQuizzes$Pad" "codes" "[I", Cond.methodLink RL 12 yX5_init, Cond.instanceMethod yX5_init, Cond.code yX5_init cX5_init 1 none, Cond.methodLink RX5 1 objectInit, Cond.fieldLink RX5 7 "PubQuizzesModel" "s" "[I", Cond.fieldLink RX5 13 "PubQuizzesModel" "before" "[I", Cond.fieldLink RX5 16 "PubQuizzesModel" "saved" "[I", Cond.fieldLink RX5 19 "PubQuizzesModel" "isSaved" "[Z"]
def wsL_law_r4 : List Cond := [Cond.arrayClass .char, Cond.fieldLink RX5 23 "PubQuizzesModel" "pad" "[C", Cond.methodLink RL 13 yX4_set, Cond.instanceMethod yX4_set, Cond.selects RX4 yX4_set yX4_set, Cond.code yX4_set cX4_set 4 (some .int), Cond.fieldLink RX4 38 "PubQuizzes" "LEAST" "[I", Cond.fieldLink RX4 42 "PubQuizzes" "GREATEST" "[I", Cond.fieldLink RX4 49 "PubQuizzes$State" "settings" "[I", Cond.methodLink RX4 45 yX0_record, Cond.instanceMethod yX0_record, Cond.selects RX0 yX0_record yX0_record, Cond.code yX0_record cX0_record 2 none, Cond.fieldLink RX0 20 "PubQuizzes$History" "next" "I", Cond.fieldLink RX0 16 "PubQuizzes$History" "length" "I", Cond.methodLink RX0 27 Lib.Math.min.name, Cond.static Lib.Math.min.name, Cond.initialized "java/lang/Math", Cond.code Lib.Math.min.name Lib.Math.min.code 2 (some .int), Cond.methodLink RX0 23 yX3_copy, Cond.static yX3_copy, Cond.code yX3_copy cX3_copy 2 none, Cond.methodLink RX3 60 arraycopyName, Cond.native arraycopyName]
def wsL_law_r5 : List Cond := [Cond.static arraycopyName, Cond.initialized "java/lang/System", Cond.fieldLink RX3 66 "PubQuizzes$State" "teams" "I", Cond.methodLink RL 17 yX5_set, Cond.instanceMethod yX5_set, Cond.selects RX5 yX5_set yX5_set, Cond.code yX5_set cX5_set 5 (some .int), Cond.methodLink RX5 27 yX5_in, Cond.static yX5_in, Cond.code yX5_in cX5_in 3 (some .boolean), Cond.methodLink RX5 82 yX5_record, Cond.instanceMethod yX5_record, Cond.selects RX5 yX5_record yX5_record, Cond.code yX5_record cX5_record 2 none, Cond.fieldLink RX5 35 "PubQuizzesModel" "states" "I", Cond.methodLink RL 18 yX4_team, Cond.instanceMethod yX4_team, Cond.selects RX4 yX4_team yX4_team, Cond.code yX4_team cX4_team 2 (some .int), Cond.fieldLink RX4 52 "PubQuizzes$State" "teams" "I", Cond.fieldLink RX4 60 "PubQuizzes$State" "paid" "[I", Cond.methodLink RX4 56 yX3_openRounds, Cond.instanceMethod yX3_openRounds, Cond.selects RX3 yX3_openRounds yX3_openRounds]
def wsL_law_r6 : List Cond := [Cond.code yX3_openRounds cX3_openRounds 3 (some .int), Cond.methodLink RX3 97 yX3_isOpen, Cond.instanceMethod yX3_isOpen, Cond.selects RX3 yX3_isOpen yX3_isOpen, Cond.code yX3_isOpen cX3_isOpen 2 (some .boolean), Cond.methodLink RL 22 yX5_team, Cond.instanceMethod yX5_team, Cond.selects RX5 yX5_team yX5_team, Cond.code yX5_team cX5_team 2 (some .int), Cond.methodLink RX5 89 yX5_openRounds, Cond.instanceMethod yX5_openRounds, Cond.selects RX5 yX5_openRounds yX5_openRounds, Cond.code yX5_openRounds cX5_openRounds 3 (some .int), Cond.methodLink RX5 85 yX5_isOpen, Cond.instanceMethod yX5_isOpen, Cond.selects RX5 yX5_isOpen yX5_isOpen, Cond.code yX5_isOpen cX5_isOpen 2 (some .boolean), Cond.methodLink RX5 31 yX5_r, Cond.static yX5_r, Cond.code yX5_r cX5_r 1 (some .int), Cond.methodLink RX5 46 yX5_t, Cond.static yX5_t, Cond.code yX5_t cX5_t 1 (some .int), Cond.methodLink RL 23 yX4_hand]
def wsL_law_r7 : List Cond := [Cond.instanceMethod yX4_hand, Cond.selects RX4 yX4_hand yX4_hand, Cond.code yX4_hand cX4_hand 3 (some .int), Cond.fieldLink RX4 81 "PubQuizzes$State" "sheets" "[J", Cond.methodLink RX4 63 yX3_isTeam, Cond.instanceMethod yX3_isTeam, Cond.selects RX3 yX3_isTeam yX3_isTeam, Cond.code yX3_isTeam cX3_isTeam 2 (some .boolean), Cond.methodLink RX4 67 yX4_isRound, Cond.static yX4_isRound, Cond.code yX4_isRound cX4_isRound 1 (some .boolean), Cond.methodLink RX4 70 yX1_tellsSheet, Cond.instanceMethod yX1_tellsSheet, Cond.selects RX1 yX1_tellsSheet yX1_tellsSheet, Cond.code yX1_tellsSheet cX1_tellsSheet 1 (some .boolean), Cond.methodLink RX1 25 yX1_faultIndex, Cond.instanceMethod yX1_faultIndex, Cond.selects RX1 yX1_faultIndex yX1_faultIndex, Cond.code yX1_faultIndex cX1_faultIndex 2 (some .int), Cond.fieldLink RX1 17 "PubQuizzes$Pad" "length" "I", Cond.methodLink RX1 21 yX1_isSign, Cond.static yX1_isSign, Cond.code yX1_isSign cX1_isSign 1 (some .boolean), Cond.methodLink RX1 33 yX1_isDigit]
def wsL_law_r8 : List Cond := [Cond.static yX1_isDigit, Cond.code yX1_isDigit cX1_isDigit 1 (some .boolean), Cond.methodLink RX4 74 yX3_isOpen, Cond.methodLink RX4 77 yX3_hasSheet, Cond.instanceMethod yX3_hasSheet, Cond.selects RX3 yX3_hasSheet yX3_hasSheet, Cond.code yX3_hasSheet cX3_hasSheet 3 (some .boolean), Cond.static yX4_indexOf, Cond.code yX4_indexOf cX4_indexOf 2 (some .int), Cond.methodLink RX4 85 yX4_indexOf, Cond.methodLink RX4 89 yX1_signs, Cond.instanceMethod yX1_signs, Cond.selects RX1 yX1_signs yX1_signs, Cond.code yX1_signs cX1_signs 5 (some .long), Cond.methodLink RX1 38 yX2_withSign, Cond.static yX2_withSign, Cond.initialized RX2, Cond.code yX2_withSign cX2_withSign 4 (some .long), Cond.methodLink RX4 93 yX1_clear, Cond.instanceMethod yX1_clear, Cond.selects RX1 yX1_clear yX1_clear, Cond.code yX1_clear cX1_clear 1 none, Cond.methodLink RX4 96 yX3_answered, Cond.instanceMethod yX3_answered]
def wsL_law_r9 : List Cond := [Cond.selects RX3 yX3_answered yX3_answered, Cond.code yX3_answered cX3_answered 7 (some .int), Cond.methodLink RX3 89 yX2_signAt, Cond.static yX2_signAt, Cond.code yX2_signAt cX2_signAt 3 (some .int), Cond.methodLink RL 26 yX5_hand, Cond.instanceMethod yX5_hand, Cond.selects RX5 yX5_hand yX5_hand, Cond.code yX5_hand cX5_hand 6 (some .int), Cond.fieldLink RX5 92 "PubQuizzesModel" "length" "I", Cond.methodLink RX5 95 yX5_isTeam, Cond.instanceMethod yX5_isTeam, Cond.selects RX5 yX5_isTeam yX5_isTeam, Cond.code yX5_isTeam cX5_isTeam 2 (some .boolean), Cond.methodLink RX5 98 yX5_isRound, Cond.static yX5_isRound, Cond.code yX5_isRound cX5_isRound 1 (some .boolean), Cond.methodLink RX5 101 yX5_tellsTen, Cond.instanceMethod yX5_tellsTen, Cond.selects RX5 yX5_tellsTen yX5_tellsTen, Cond.code yX5_tellsTen cX5_tellsTen 4 (some .boolean), Cond.methodLink RX5 39 yX5_h, Cond.static yX5_h, Cond.code yX5_h cX5_h 2 (some .int)]
def wsL_law_r10 : List Cond := [Cond.methodLink RL 27 yX4_joker, Cond.instanceMethod yX4_joker, Cond.selects RX4 yX4_joker yX4_joker, Cond.code yX4_joker cX4_joker 3 (some .int), Cond.fieldLink RX4 99 "PubQuizzes$State" "jokers" "[I", Cond.methodLink RX4 102 yX3_teamsWithJoker, Cond.instanceMethod yX3_teamsWithJoker, Cond.selects RX3 yX3_teamsWithJoker yX3_teamsWithJoker, Cond.code yX3_teamsWithJoker cX3_teamsWithJoker 4 (some .int), Cond.methodLink RX4 106 yJ6_bitCount_0f7a4, Cond.static yJ6_bitCount_0f7a4, Cond.initialized RJ6, Cond.code yJ6_bitCount_0f7a4 cJ6_bitCount_0f7a4 1 (some .int), Cond.constant RJ6 265 (1431655765), Cond.constant RJ6 266 (858993459), Cond.constant RJ6 267 (252645135), Cond.methodLink RL 30 yX5_joker, Cond.instanceMethod yX5_joker, Cond.selects RX5 yX5_joker yX5_joker, Cond.code yX5_joker cX5_joker 3 (some .int), Cond.methodLink RX5 105 yX5_teamsOf, Cond.instanceMethod yX5_teamsOf, Cond.selects RX5 yX5_teamsOf yX5_teamsOf, Cond.code yX5_teamsOf cX5_teamsOf 7 (some .int)]
def wsL_law_r11 : List Cond := [Cond.methodLink RX5 73 yX5_bits, Cond.static yX5_bits, Cond.code yX5_bits cX5_bits 3 (some .int), Cond.methodLink RL 31 yX4_key, Cond.instanceMethod yX4_key, Cond.selects RX4 yX4_key yX4_key, Cond.code yX4_key cX4_key 2 (some .int), Cond.fieldLink RX4 114 "PubQuizzes$State" "keys" "[J", Cond.methodLink RX4 111 yX1_tellsKey, Cond.instanceMethod yX1_tellsKey, Cond.selects RX1 yX1_tellsKey yX1_tellsKey, Cond.code yX1_tellsKey cX1_tellsKey 2 (some .boolean), Cond.methodLink RX1 29 yX1_tellsSheet, Cond.methodLink RX4 117 yX3_teamsWithSheet, Cond.instanceMethod yX3_teamsWithSheet, Cond.selects RX3 yX3_teamsWithSheet yX3_teamsWithSheet, Cond.code yX3_teamsWithSheet cX3_teamsWithSheet 4 (some .int), Cond.methodLink RX3 100 yX3_hasSheet, Cond.methodLink RL 35 yX5_key, Cond.instanceMethod yX5_key, Cond.selects RX5 yX5_key yX5_key, Cond.code yX5_key cX5_key 3 (some .int), Cond.methodLink RL 36 yX4_mark, Cond.instanceMethod yX4_mark]
def wsL_law_r12 : List Cond := [Cond.selects RX4 yX4_mark yX4_mark, Cond.code yX4_mark cX4_mark 5 (some .int), Cond.fieldLink RX4 123 "PubQuizzes$State" "marks" "[I", Cond.fieldLink RX4 126 "PubQuizzes$State" "markers" "[I", Cond.methodLink RX4 120 yX3_isTold, Cond.instanceMethod yX3_isTold, Cond.selects RX3 yX3_isTold yX3_isTold, Cond.code yX3_isTold cX3_isTold 3 (some .boolean), Cond.methodLink RX3 73 yX3_markerOf, Cond.instanceMethod yX3_markerOf, Cond.selects RX3 yX3_markerOf yX3_markerOf, Cond.code yX3_markerOf cX3_markerOf 3 (some .int), Cond.methodLink RL 40 yX5_mark, Cond.instanceMethod yX5_mark, Cond.selects RX5 yX5_mark yX5_mark, Cond.code yX5_mark cX5_mark 6 (some .int), Cond.methodLink RL 41 yX4_look, Cond.instanceMethod yX4_look, Cond.selects RX4 yX4_look yX4_look, Cond.code yX4_look cX4_look 4 (some .int), Cond.fieldLink RX4 145 "PubQuizzes$State" "looked" "[I", Cond.methodLink RX4 129 yX3_isLooked, Cond.instanceMethod yX3_isLooked, Cond.selects RX3 yX3_isLooked yX3_isLooked]
def wsL_law_r13 : List Cond := [Cond.code yX3_isLooked cX3_isLooked 3 (some .boolean), Cond.methodLink RX4 132 yX3_isWrong, Cond.instanceMethod yX3_isWrong, Cond.selects RX3 yX3_isWrong yX3_isWrong, Cond.code yX3_isWrong cX3_isWrong 3 (some .boolean), Cond.methodLink RX3 76 yX3_isTold, Cond.methodLink RX3 80 yX3_isLooked, Cond.methodLink RX3 83 yX3_markOf, Cond.instanceMethod yX3_markOf, Cond.selects RX3 yX3_markOf yX3_markOf, Cond.code yX3_markOf cX3_markOf 3 (some .int), Cond.methodLink RX3 86 yX3_trueMark, Cond.instanceMethod yX3_trueMark, Cond.selects RX3 yX3_trueMark yX3_trueMark, Cond.code yX3_trueMark cX3_trueMark 10 (some .int), Cond.methodLink RX4 135 yX3_markerOf, Cond.methodLink RX4 138 yX3_addFine, Cond.instanceMethod yX3_addFine, Cond.selects RX3 yX3_addFine yX3_addFine, Cond.code yX3_addFine cX3_addFine 2 none, Cond.methodLink RX3 93 yX3_isTeam, Cond.methodLink RX4 142 yX3_trueMark, Cond.methodLink RL 44 yX5_look, Cond.instanceMethod yX5_look]
def wsL_law_r14 : List Cond := [Cond.selects RX5 yX5_look yX5_look, Cond.code yX5_look cX5_look 5 (some .int), Cond.methodLink RX5 108 yX5_trueMark, Cond.instanceMethod yX5_trueMark, Cond.selects RX5 yX5_trueMark yX5_trueMark, Cond.code yX5_trueMark cX5_trueMark 6 (some .int), Cond.methodLink RL 45 yX4_guess, Cond.instanceMethod yX4_guess, Cond.selects RX4 yX4_guess yX4_guess, Cond.code yX4_guess cX4_guess 4 (some .int), Cond.fieldLink RX4 148 "PubQuizzes$State" "truth" "I", Cond.fieldLink RX4 151 "PubQuizzes$State" "guesses" "[I", Cond.methodLink RL 48 yX5_guess, Cond.instanceMethod yX5_guess, Cond.selects RX5 yX5_guess yX5_guess, Cond.code yX5_guess cX5_guess 4 (some .int), Cond.methodLink RL 49 yX4_truth, Cond.instanceMethod yX4_truth, Cond.selects RX4 yX4_truth yX4_truth, Cond.code yX4_truth cX4_truth 2 (some .int), Cond.methodLink RX4 154 yX3_guessers, Cond.instanceMethod yX3_guessers, Cond.selects RX3 yX3_guessers yX3_guessers, Cond.code yX3_guessers cX3_guessers 3 (some .int)]
def wsL_law_r15 : List Cond := [Cond.methodLink RL 52 yX5_truth, Cond.instanceMethod yX5_truth, Cond.selects RX5 yX5_truth yX5_truth, Cond.code yX5_truth cX5_truth 4 (some .int), Cond.methodLink RL 53 yX4_ofTeam, Cond.instanceMethod yX4_ofTeam, Cond.selects RX4 yX4_ofTeam yX4_ofTeam, Cond.code yX4_ofTeam cX4_ofTeam 3 (some .int), Cond.fieldLink RX4 166 "PubQuizzes$State" "fines" "[I", Cond.methodLink RX4 157 yX3_scoreOf, Cond.instanceMethod yX3_scoreOf, Cond.selects RX3 yX3_scoreOf yX3_scoreOf, Cond.code yX3_scoreOf cX3_scoreOf 4 (some .int), Cond.methodLink RX3 107 yX3_pointsOf, Cond.instanceMethod yX3_pointsOf, Cond.selects RX3 yX3_pointsOf yX3_pointsOf, Cond.code yX3_pointsOf cX3_pointsOf 4 (some .int), Cond.methodLink RX3 103 yX3_withJoker, Cond.instanceMethod yX3_withJoker, Cond.selects RX3 yX3_withJoker yX3_withJoker, Cond.code yX3_withJoker cX3_withJoker 4 (some .int), Cond.methodLink RX4 160 yX3_rankOf, Cond.instanceMethod yX3_rankOf, Cond.selects RX3 yX3_rankOf yX3_rankOf]
def wsL_law_r16 : List Cond := [Cond.code yX3_rankOf cX3_rankOf 4 (some .int), Cond.methodLink RX3 133 yX3_isAhead, Cond.instanceMethod yX3_isAhead, Cond.selects RX3 yX3_isAhead yX3_isAhead, Cond.code yX3_isAhead cX3_isAhead 4 (some .boolean), Cond.methodLink RX3 118 yX3_scoreOf, Cond.methodLink RX3 130 yX3_distanceOf, Cond.instanceMethod yX3_distanceOf, Cond.selects RX3 yX3_distanceOf yX3_distanceOf, Cond.code yX3_distanceOf cX3_distanceOf 2 (some .int), Cond.methodLink RX3 127 Lib.Math.abs.name, Cond.static Lib.Math.abs.name, Cond.code Lib.Math.abs.name Lib.Math.abs.code 1 (some .int), Cond.methodLink RX4 163 yX3_prizeOf, Cond.instanceMethod yX3_prizeOf, Cond.selects RX3 yX3_prizeOf yX3_prizeOf, Cond.code yX3_prizeOf cX3_prizeOf 7 (some .int), Cond.methodLink RX3 136 yX3_rankOf, Cond.methodLink RX3 139 yX3_tiedWith, Cond.instanceMethod yX3_tiedWith, Cond.selects RX3 yX3_tiedWith yX3_tiedWith, Cond.code yX3_tiedWith cX3_tiedWith 4 (some .int), Cond.methodLink RX3 122 yJ6_bitCount_0f7a4, Cond.methodLink RX3 155 yX3_prizeOfPlace]
def wsL_law_r17 : List Cond := [Cond.instanceMethod yX3_prizeOfPlace, Cond.selects RX3 yX3_prizeOfPlace yX3_prizeOfPlace, Cond.code yX3_prizeOfPlace cX3_prizeOfPlace 5 (some .int), Cond.methodLink RX3 152 yX3_pot, Cond.instanceMethod yX3_pot, Cond.selects RX3 yX3_pot yX3_pot, Cond.code yX3_pot cX3_pot 1 (some .int), Cond.methodLink RX3 145 yX3_entries, Cond.instanceMethod yX3_entries, Cond.selects RX3 yX3_entries yX3_entries, Cond.code yX3_entries cX3_entries 3 (some .int), Cond.methodLink RX3 149 yX3_ofTheHouse, Cond.instanceMethod yX3_ofTheHouse, Cond.selects RX3 yX3_ofTheHouse yX3_ofTheHouse, Cond.code yX3_ofTheHouse cX3_ofTheHouse 1 (some .int), Cond.methodLink RX3 142 yX3_lowerIn, Cond.static yX3_lowerIn, Cond.code yX3_lowerIn cX3_lowerIn 2 (some .int), Cond.methodLink RX4 169 yX3_roundsWithSheet, Cond.instanceMethod yX3_roundsWithSheet, Cond.selects RX3 yX3_roundsWithSheet yX3_roundsWithSheet, Cond.code yX3_roundsWithSheet cX3_roundsWithSheet 4 (some .int), Cond.methodLink RX4 172 yX3_roundsTold, Cond.instanceMethod yX3_roundsTold]
def wsL_law_r18 : List Cond := [Cond.selects RX3 yX3_roundsTold yX3_roundsTold, Cond.code yX3_roundsTold cX3_roundsTold 4 (some .int), Cond.methodLink RX4 175 yX3_tiedWith, Cond.methodLink RL 56 yX5_ofTeam, Cond.instanceMethod yX5_ofTeam, Cond.selects RX5 yX5_ofTeam yX5_ofTeam, Cond.code yX5_ofTeam cX5_ofTeam 3 (some .int), Cond.methodLink RX5 53 yX5_score, Cond.instanceMethod yX5_score, Cond.selects RX5 yX5_score yX5_score, Cond.code yX5_score cX5_score 4 (some .int), Cond.methodLink RX5 49 yX5_points, Cond.instanceMethod yX5_points, Cond.selects RX5 yX5_points yX5_points, Cond.code yX5_points cX5_points 3 (some .int), Cond.methodLink RX5 43 yX5_markOf, Cond.instanceMethod yX5_markOf, Cond.selects RX5 yX5_markOf yX5_markOf, Cond.code yX5_markOf cX5_markOf 4 (some .int), Cond.methodLink RX5 76 yX5_rank, Cond.instanceMethod yX5_rank, Cond.selects RX5 yX5_rank yX5_rank, Cond.code yX5_rank cX5_rank 4 (some .int), Cond.methodLink RX5 59 yX5_isAhead]
def wsL_law_r19 : List Cond := [Cond.instanceMethod yX5_isAhead, Cond.selects RX5 yX5_isAhead yX5_isAhead, Cond.code yX5_isAhead cX5_isAhead 5 (some .boolean), Cond.methodLink RX5 56 yX5_far, Cond.instanceMethod yX5_far, Cond.selects RX5 yX5_far yX5_far, Cond.code yX5_far cX5_far 3 (some .int), Cond.constant RX5 52 (100000), Cond.methodLink RX5 111 yX5_prize, Cond.instanceMethod yX5_prize, Cond.selects RX5 yX5_prize yX5_prize, Cond.code yX5_prize cX5_prize 7 (some .int), Cond.methodLink RX5 70 yX5_tied, Cond.instanceMethod yX5_tied, Cond.selects RX5 yX5_tied yX5_tied, Cond.code yX5_tied cX5_tied 5 (some .int), Cond.methodLink RX5 79 yX5_placeGets, Cond.instanceMethod yX5_placeGets, Cond.selects RX5 yX5_placeGets yX5_placeGets, Cond.code yX5_placeGets cX5_placeGets 5 (some .int), Cond.methodLink RX5 63 yX5_entries, Cond.instanceMethod yX5_entries, Cond.selects RX5 yX5_entries yX5_entries, Cond.code yX5_entries cX5_entries 3 (some .int)]
def wsL_law_r20 : List Cond := [Cond.methodLink RX5 67 yX5_kept, Cond.instanceMethod yX5_kept, Cond.selects RX5 yX5_kept yX5_kept, Cond.code yX5_kept cX5_kept 1 (some .int), Cond.methodLink RX5 114 yX5_roundsOf, Cond.instanceMethod yX5_roundsOf, Cond.selects RX5 yX5_roundsOf yX5_roundsOf, Cond.code yX5_roundsOf cX5_roundsOf 5 (some .int), Cond.methodLink RL 57 yX4_ofRound, Cond.instanceMethod yX4_ofRound, Cond.selects RX4 yX4_ofRound yX4_ofRound, Cond.code yX4_ofRound cX4_ofRound 3 (some .int), Cond.methodLink RX4 178 yX3_teamsTold, Cond.instanceMethod yX3_teamsTold, Cond.selects RX3 yX3_teamsTold yX3_teamsTold, Cond.code yX3_teamsTold cX3_teamsTold 4 (some .int), Cond.methodLink RX4 181 yX3_greatestPoints, Cond.instanceMethod yX3_greatestPoints, Cond.selects RX3 yX3_greatestPoints yX3_greatestPoints, Cond.code yX3_greatestPoints cX3_greatestPoints 4 (some .int), Cond.methodLink RX3 110 Lib.Math.max.name, Cond.static Lib.Math.max.name, Cond.code Lib.Math.max.name Lib.Math.max.code 2 (some .int), Cond.methodLink RL 60 yX5_ofRound]
def wsL_law_r21 : List Cond := [Cond.instanceMethod yX5_ofRound, Cond.selects RX5 yX5_ofRound yX5_ofRound, Cond.code yX5_ofRound cX5_ofRound 3 (some .int), Cond.methodLink RX5 117 yX5_greatest, Cond.instanceMethod yX5_greatest, Cond.selects RX5 yX5_greatest yX5_greatest, Cond.code yX5_greatest cX5_greatest 4 (some .int), Cond.methodLink RL 61 yX4_sheet, Cond.instanceMethod yX4_sheet, Cond.selects RX4 yX4_sheet yX4_sheet, Cond.code yX4_sheet cX4_sheet 4 (some .int), Cond.methodLink RX4 184 yX3_markOf, Cond.methodLink RX4 187 yX3_pointsOf, Cond.methodLink RL 65 yX5_sheet, Cond.instanceMethod yX5_sheet, Cond.selects RX5 yX5_sheet yX5_sheet, Cond.code yX5_sheet cX5_sheet 6 (some .int), Cond.methodLink RX5 120 yX5_isSheet, Cond.instanceMethod yX5_isSheet, Cond.selects RX5 yX5_isSheet yX5_isSheet, Cond.code yX5_isSheet cX5_isSheet 3 (some .boolean), Cond.methodLink RX5 123 yX5_answered, Cond.instanceMethod yX5_answered, Cond.selects RX5 yX5_answered yX5_answered]
def wsL_law_r22 : List Cond := [Cond.code yX5_answered cX5_answered 4 (some .int), Cond.methodLink RL 66 yX4_answer, Cond.instanceMethod yX4_answer, Cond.selects RX4 yX4_answer yX4_answer, Cond.code yX4_answer cX4_answer 8 (some .int), Cond.methodLink RX4 190 yX2_signAt, Cond.methodLink RL 69 yX5_answer, Cond.instanceMethod yX5_answer, Cond.selects RX5 yX5_answer yX5_answer, Cond.code yX5_answer cX5_answer 6 (some .int), Cond.methodLink RL 70 yX4_at, Cond.instanceMethod yX4_at, Cond.selects RX4 yX4_at yX4_at, Cond.code yX4_at cX4_at 3 (some .int), Cond.methodLink RX4 196 yX3_placeOf, Cond.instanceMethod yX3_placeOf, Cond.selects RX3 yX3_placeOf yX3_placeOf, Cond.code yX3_placeOf cX3_placeOf 2 (some .int), Cond.methodLink RL 73 yX5_at, Cond.instanceMethod yX5_at, Cond.selects RX5 yX5_at yX5_at, Cond.code yX5_at cX5_at 5 (some .int), Cond.methodLink RL 74 yX4_count, Cond.instanceMethod yX4_count]
def wsL_law_r23 : List Cond := [Cond.selects RX4 yX4_count yX4_count, Cond.code yX4_count cX4_count 2 (some .int), Cond.methodLink RX4 199 yX3_entries, Cond.methodLink RX4 202 yX3_ofTheHouse, Cond.methodLink RX4 205 yX3_pot, Cond.methodLink RX4 208 yX3_allFines, Cond.instanceMethod yX3_allFines, Cond.selects RX3 yX3_allFines yX3_allFines, Cond.code yX3_allFines cX3_allFines 3 (some .int), Cond.methodLink RX4 211 yX3_allLooks, Cond.instanceMethod yX3_allLooks, Cond.selects RX3 yX3_allLooks yX3_allLooks, Cond.code yX3_allLooks cX3_allLooks 3 (some .int), Cond.methodLink RX4 214 yX3_unlikeScores, Cond.instanceMethod yX3_unlikeScores, Cond.selects RX3 yX3_unlikeScores yX3_unlikeScores, Cond.code yX3_unlikeScores cX3_unlikeScores 3 (some .int), Cond.methodLink RX3 115 yX3_isFirstWithItsScore, Cond.instanceMethod yX3_isFirstWithItsScore, Cond.selects RX3 yX3_isFirstWithItsScore yX3_isFirstWithItsScore, Cond.code yX3_isFirstWithItsScore cX3_isFirstWithItsScore 4 (some .boolean), Cond.methodLink RX4 217 yX1_length, Cond.instanceMethod yX1_length, Cond.selects RX1 yX1_length yX1_length]
def wsL_law_r24 : List Cond := [Cond.code yX1_length cX1_length 1 (some .int), Cond.methodLink RX4 220 yX0_length, Cond.instanceMethod yX0_length, Cond.selects RX0 yX0_length yX0_length, Cond.code yX0_length cX0_length 1 (some .int), Cond.methodLink RL 77 yX5_count, Cond.instanceMethod yX5_count, Cond.selects RX5 yX5_count yX5_count, Cond.code yX5_count cX5_count 2 (some .int), Cond.methodLink RX5 126 yX5_fines, Cond.instanceMethod yX5_fines, Cond.selects RX5 yX5_fines yX5_fines, Cond.code yX5_fines cX5_fines 3 (some .int), Cond.methodLink RX5 129 yX5_unlike, Cond.instanceMethod yX5_unlike, Cond.selects RX5 yX5_unlike yX5_unlike, Cond.code yX5_unlike cX5_unlike 5 (some .int), Cond.methodLink RL 78 yX4_bestJoker, Cond.instanceMethod yX4_bestJoker, Cond.selects RX4 yX4_bestJoker yX4_bestJoker, Cond.code yX4_bestJoker cX4_bestJoker 4 (some .int), Cond.methodLink RX4 221 yX3_bestRound, Cond.instanceMethod yX3_bestRound, Cond.selects RX3 yX3_bestRound yX3_bestRound]
def wsL_law_r25 : List Cond := [Cond.code yX3_bestRound cX3_bestRound 4 (some .int), Cond.methodLink RX3 158 yX3_scoreWithJokerOn, Cond.instanceMethod yX3_scoreWithJokerOn, Cond.selects RX3 yX3_scoreWithJokerOn yX3_scoreWithJokerOn, Cond.code yX3_scoreWithJokerOn cX3_scoreWithJokerOn 6 (some .int), Cond.methodLink RX4 224 yX3_scoreWithJokerOn, Cond.methodLink RL 81 yX5_bestJoker, Cond.instanceMethod yX5_bestJoker, Cond.selects RX5 yX5_bestJoker yX5_bestJoker, Cond.code yX5_bestJoker cX5_bestJoker 8 (some .int), Cond.constant RX5 132 (-100000), Cond.methodLink RL 82 yX4_most, Cond.instanceMethod yX4_most, Cond.selects RX4 yX4_most yX4_most, Cond.code yX4_most cX4_most 2 (some .int), Cond.methodLink RX4 227 yX3_greatestScore, Cond.instanceMethod yX3_greatestScore, Cond.selects RX3 yX3_greatestScore yX3_greatestScore, Cond.code yX3_greatestScore cX3_greatestScore 5 (some .int), Cond.methodLink RX3 161 yX3_greatestMark, Cond.instanceMethod yX3_greatestMark, Cond.selects RX3 yX3_greatestMark yX3_greatestMark, Cond.code yX3_greatestMark cX3_greatestMark 3 (some .int), Cond.methodLink RX3 164 yX3_canHandIn]
def wsL_law_r26 : List Cond := [Cond.instanceMethod yX3_canHandIn, Cond.selects RX3 yX3_canHandIn yX3_canHandIn, Cond.code yX3_canHandIn cX3_canHandIn 3 (some .boolean), Cond.methodLink RL 85 yX5_most, Cond.instanceMethod yX5_most, Cond.selects RX5 yX5_most yX5_most, Cond.code yX5_most cX5_most 2 (some .int), Cond.methodLink RX5 133 yX5_reaches, Cond.instanceMethod yX5_reaches, Cond.selects RX5 yX5_reaches yX5_reaches, Cond.code yX5_reaches cX5_reaches 8 (some .int), Cond.methodLink RL 86 yX4_canWin, Cond.instanceMethod yX4_canWin, Cond.selects RX4 yX4_canWin yX4_canWin, Cond.code yX4_canWin cX4_canWin 3 (some .int), Cond.methodLink RX4 230 yX3_canReachOthers, Cond.instanceMethod yX3_canReachOthers, Cond.selects RX3 yX3_canReachOthers yX3_canReachOthers, Cond.code yX3_canReachOthers cX3_canReachOthers 4 (some .boolean), Cond.methodLink RX3 167 yX3_greatestScore, Cond.methodLink RL 89 yX5_canWin, Cond.instanceMethod yX5_canWin, Cond.selects RX5 yX5_canWin yX5_canWin, Cond.code yX5_canWin cX5_canWin 5 (some .int)]
def wsL_law_r27 : List Cond := [Cond.methodLink RL 90 yX4_ifLooked, Cond.instanceMethod yX4_ifLooked, Cond.selects RX4 yX4_ifLooked yX4_ifLooked, Cond.code yX4_ifLooked cX4_ifLooked 2 (some .int), Cond.methodLink RX4 233 yX3_scoreIfLooked, Cond.instanceMethod yX3_scoreIfLooked, Cond.selects RX3 yX3_scoreIfLooked yX3_scoreIfLooked, Cond.code yX3_scoreIfLooked cX3_scoreIfLooked 5 (some .int), Cond.methodLink RX3 170 yX3_wrongMarksToldBy, Cond.instanceMethod yX3_wrongMarksToldBy, Cond.selects RX3 yX3_wrongMarksToldBy yX3_wrongMarksToldBy, Cond.code yX3_wrongMarksToldBy cX3_wrongMarksToldBy 5 (some .int), Cond.methodLink RX3 173 yX3_isWrong, Cond.methodLink RL 93 yX5_ifLooked, Cond.instanceMethod yX5_ifLooked, Cond.selects RX5 yX5_ifLooked yX5_ifLooked, Cond.code yX5_ifLooked cX5_ifLooked 6 (some .int), Cond.methodLink RX5 136 yX5_isWrong, Cond.instanceMethod yX5_isWrong, Cond.selects RX5 yX5_isWrong yX5_isWrong, Cond.code yX5_isWrong cX5_isWrong 4 (some .boolean), Cond.methodLink RL 94 yX4_wrongMarks, Cond.instanceMethod yX4_wrongMarks, Cond.selects RX4 yX4_wrongMarks yX4_wrongMarks]
def wsL_law_r28 : List Cond := [Cond.code yX4_wrongMarks cX4_wrongMarks 4 (some .int), Cond.methodLink RL 97 yX5_wrongMarks, Cond.instanceMethod yX5_wrongMarks, Cond.selects RX5 yX5_wrongMarks yX5_wrongMarks, Cond.code yX5_wrongMarks cX5_wrongMarks 3 (some .int), Cond.methodLink RL 100 yX4_put, Cond.instanceMethod yX4_put, Cond.selects RX4 yX4_put yX4_put, Cond.code yX4_put cX4_put 4 (some .int), Cond.methodLink RX4 236 yX1_charactersIn, Cond.static yX1_charactersIn, Cond.code yX1_charactersIn cX1_charactersIn 6 (some .int), Cond.constantLong RX1 15 (255), Cond.methodLink RX4 240 yX1_append, Cond.instanceMethod yX1_append, Cond.selects RX1 yX1_append yX1_append, Cond.code yX1_append cX1_append 8 (some .boolean), Cond.methodLink RL 104 yX5_put, Cond.instanceMethod yX5_put, Cond.selects RX5 yX5_put yX5_put, Cond.code yX5_put cX5_put 8 (some .int), Cond.constantLong RX5 139 (255), Cond.constantLong RX5 141 (33), Cond.constantLong RX5 143 (126)]
def wsL_law_r29 : List Cond := [Cond.methodLink RL 105 yX4_wipe, Cond.instanceMethod yX4_wipe, Cond.selects RX4 yX4_wipe yX4_wipe, Cond.code yX4_wipe cX4_wipe 2 (some .int), Cond.methodLink RL 108 yX5_wipe, Cond.instanceMethod yX5_wipe, Cond.selects RX5 yX5_wipe yX5_wipe, Cond.code yX5_wipe cX5_wipe 2 (some .int), Cond.methodLink RL 109 yX4_fault, Cond.instanceMethod yX4_fault, Cond.selects RX4 yX4_fault yX4_fault, Cond.code yX4_fault cX4_fault 1 (some .int), Cond.methodLink RX4 244 yX1_faultIndex, Cond.methodLink RL 112 yX5_fault, Cond.instanceMethod yX5_fault, Cond.selects RX5 yX5_fault yX5_fault, Cond.code yX5_fault cX5_fault 2 (some .int), Cond.methodLink RL 113 yX4_undo, Cond.instanceMethod yX4_undo, Cond.selects RX4 yX4_undo yX4_undo, Cond.code yX4_undo cX4_undo 1 (some .int), Cond.methodLink RX4 247 yX0_takeBack, Cond.instanceMethod yX0_takeBack, Cond.selects RX0 yX0_takeBack yX0_takeBack]
def wsL_law_r30 : List Cond := [Cond.code yX0_takeBack cX0_takeBack 3 none, Cond.methodLink RL 116 yX5_undo, Cond.instanceMethod yX5_undo, Cond.selects RX5 yX5_undo yX5_undo, Cond.code yX5_undo cX5_undo 2 (some .int), Cond.methodLink RL 117 yX4_save, Cond.instanceMethod yX4_save, Cond.selects RX4 yX4_save yX4_save, Cond.code yX4_save cX4_save 2 (some .int), Cond.methodLink RX4 250 yX4_isSlot, Cond.static yX4_isSlot, Cond.code yX4_isSlot cX4_isSlot 1 (some .boolean), Cond.methodLink RX4 253 yX3_copy, Cond.methodLink RL 120 yX5_save, Cond.instanceMethod yX5_save, Cond.selects RX5 yX5_save yX5_save, Cond.code yX5_save cX5_save 3 (some .int), Cond.methodLink RL 121 yX4_restore, Cond.instanceMethod yX4_restore, Cond.selects RX4 yX4_restore yX4_restore, Cond.code yX4_restore cX4_restore 2 (some .int), Cond.methodLink RL 124 yX5_restore, Cond.instanceMethod yX5_restore, Cond.selects RX5 yX5_restore yX5_restore]
def wsL_law_r31 : List Cond := [Cond.code yX5_restore cX5_restore 3 (some .int)]
def wsL_law : List Cond := (wsL_law_r1 ++ (wsL_law_r2 ++ (wsL_law_r3 ++ (wsL_law_r4 ++ (wsL_law_r5 ++ (wsL_law_r6 ++ (wsL_law_r7 ++ (wsL_law_r8 ++ (wsL_law_r9 ++ (wsL_law_r10 ++ (wsL_law_r11 ++ (wsL_law_r12 ++ (wsL_law_r13 ++ (wsL_law_r14 ++ (wsL_law_r15 ++ (wsL_law_r16 ++ (wsL_law_r17 ++ (wsL_law_r18 ++ (wsL_law_r19 ++ (wsL_law_r20 ++ (wsL_law_r21 ++ (wsL_law_r22 ++ (wsL_law_r23 ++ (wsL_law_r24 ++ (wsL_law_r25 ++ (wsL_law_r26 ++ (wsL_law_r27 ++ (wsL_law_r28 ++ (wsL_law_r29 ++ (wsL_law_r30 ++ wsL_law_r31)))))))))))))))))))))))))))))) ++ wsX40 ++ wsX50 ++ wsX30 ++ wsX00 ++ wsX10 ++ ([] : List Cond)
set_option maxRecDepth 20000 in
abbrev vwCl : List vw_C := [(RX0, TX0, 3), (RX1, TX1, 2), (RX3, TX3, 12), (RX4, TX4, 5), (RX5, TX5, 7)]
end
section
set_option maxRecDepth 20000 in
theorem ggX0_init_X3_init : GoodIn wsX0_init wsX3_init := goodIn_r _ [10, 11, 2, 3, 12, 13, 14, 15, 16, 17, 18, 19, 20, 21, 22, 23, 24, 25, 26, 27, 28, 29, 30, 31, 32, 36, 37, 38, 39, 40, 41, 42, 43, 44, 45, 46, 47] (by decide +kernel) (by decide +kernel)
set_option maxRecDepth 20000 in
theorem gX0_init_X3_init : GoodIn wsX0_init (wsX3_init) := ggX0_init_X3_init
theorem dX0_init_0 : decode cX0_init 0 = .ok (.aload_n 0, 1) := by decide +kernel
theorem dX0_init_1 : decode cX0_init 1 = .ok (.invokespecial 1, 3) := by decide +kernel
theorem dX0_init_4 : decode cX0_init 4 = .ok (.aload_n 0, 1) := by decide +kernel
theorem dX0_init_5 : decode cX0_init 5 = .ok (.bipush 6, 2) := by decide +kernel
theorem dX0_init_7 : decode cX0_init 7 = .ok (.anewarray 9, 3) := by decide +kernel
theorem dX0_init_10 : decode cX0_init 10 = .ok (.putfield 11, 3) := by decide +kernel
theorem dX0_init_13 : decode cX0_init 13 = .ok (.iconst 0, 1) := by decide +kernel
theorem dX0_init_14 : decode cX0_init 14 = .ok (.istore_n 1, 1) := by decide +kernel
theorem dX0_init_15 : decode cX0_init 15 = .ok (.iload_n 1, 1) := by decide +kernel
theorem dX0_init_16 : decode cX0_init 16 = .ok (.bipush 6, 2) := by decide +kernel
theorem dX0_init_18 : decode cX0_init 18 = .ok (.if_icmp .ge 22, 3) := by decide +kernel
theorem dX0_init_21 : decode cX0_init 21 = .ok (.aload_n 0, 1) := by decide +kernel
theorem dX0_init_22 : decode cX0_init 22 = .ok (.getfield 11, 3) := by decide +kernel
theorem dX0_init_25 : decode cX0_init 25 = .ok (.iload_n 1, 1) := by decide +kernel
theorem dX0_init_26 : decode cX0_init 26 = .ok (.new 9, 3) := by decide +kernel
theorem dX0_init_29 : decode cX0_init 29 = .ok (.dup, 1) := by decide +kernel
theorem dX0_init_30 : decode cX0_init 30 = .ok (.invokespecial 15, 3) := by decide +kernel
theorem dX0_init_33 : decode cX0_init 33 = .ok (.aastore, 1) := by decide +kernel
theorem dX0_init_34 : decode cX0_init 34 = .ok (.iinc 1 1, 3) := by decide +kernel
theorem dX0_init_37 : decode cX0_init 37 = .ok (.goto (-22), 3) := by decide +kernel
theorem dX0_init_40 : decode cX0_init 40 = .ok (.return_, 1) := by decide +kernel
theorem dX0_length_0 : decode cX0_length 0 = .ok (.aload_n 0, 1) := by decide +kernel
theorem dX0_length_1 : decode cX0_length 1 = .ok (.getfield 16, 3) := by decide +kernel
theorem dX0_length_4 : decode cX0_length 4 = .ok (.ireturn, 1) := by decide +kernel
set_option maxRecDepth 20000 in
theorem ggX0_record_X3_copy : GoodIn wsX0_record wsX3_copy := goodIn_r _ [11, 12, 13, 14, 15, 16, 17, 18, 19, 20, 21, 22, 23, 24, 25, 26, 27, 31, 32, 33, 34, 35, 36, 37, 38, 39, 40, 41, 42] (by decide +kernel) (by decide +kernel)
set_option maxRecDepth 20000 in
theorem gX0_record_X3_copy : GoodIn wsX0_record (va_wsS RX0 23 yX3_copy wsX3_copy) := goodIn_app (goodIn_of _ (by decide +kernel)) ggX0_record_X3_copy
theorem dX0_record_0 : decode cX0_record 0 = .ok (.aload_n 0, 1) := by decide +kernel
theorem dX0_record_1 : decode cX0_record 1 = .ok (.getfield 20, 3) := by decide +kernel
theorem dX0_record_4 : decode cX0_record 4 = .ok (.ifCond .lt 12, 3) := by decide +kernel
theorem dX0_record_7 : decode cX0_record 7 = .ok (.aload_n 0, 1) := by decide +kernel
theorem dX0_record_8 : decode cX0_record 8 = .ok (.getfield 20, 3) := by decide +kernel
theorem dX0_record_11 : decode cX0_record 11 = .ok (.bipush 6, 2) := by decide +kernel
theorem dX0_record_13 : decode cX0_record 13 = .ok (.if_icmp .lt 4, 3) := by decide +kernel
theorem dX0_record_16 : decode cX0_record 16 = .ok (.return_, 1) := by decide +kernel
theorem dX0_record_17 : decode cX0_record 17 = .ok (.aload_n 1, 1) := by decide +kernel
theorem dX0_record_18 : decode cX0_record 18 = .ok (.aload_n 0, 1) := by decide +kernel
theorem dX0_record_19 : decode cX0_record 19 = .ok (.getfield 11, 3) := by decide +kernel
theorem dX0_record_22 : decode cX0_record 22 = .ok (.aload_n 0, 1) := by decide +kernel
theorem dX0_record_23 : decode cX0_record 23 = .ok (.getfield 20, 3) := by decide +kernel
theorem dX0_record_26 : decode cX0_record 26 = .ok (.aaload, 1) := by decide +kernel
theorem dX0_record_27 : decode cX0_record 27 = .ok (.invokestatic 23, 3) := by decide +kernel
theorem dX0_record_30 : decode cX0_record 30 = .ok (.aload_n 0, 1) := by decide +kernel
theorem dX0_record_31 : decode cX0_record 31 = .ok (.aload_n 0, 1) := by decide +kernel
theorem dX0_record_32 : decode cX0_record 32 = .ok (.getfield 20, 3) := by decide +kernel
theorem dX0_record_35 : decode cX0_record 35 = .ok (.iconst 5, 1) := by decide +kernel
theorem dX0_record_36 : decode cX0_record 36 = .ok (.if_icmp .ne 7, 3) := by decide +kernel
theorem dX0_record_39 : decode cX0_record 39 = .ok (.iconst 0, 1) := by decide +kernel
theorem dX0_record_40 : decode cX0_record 40 = .ok (.goto 9, 3) := by decide +kernel
theorem dX0_record_43 : decode cX0_record 43 = .ok (.aload_n 0, 1) := by decide +kernel
theorem dX0_record_44 : decode cX0_record 44 = .ok (.getfield 20, 3) := by decide +kernel
theorem dX0_record_47 : decode cX0_record 47 = .ok (.iconst 1, 1) := by decide +kernel
theorem dX0_record_48 : decode cX0_record 48 = .ok (.iadd, 1) := by decide +kernel
theorem dX0_record_49 : decode cX0_record 49 = .ok (.putfield 20, 3) := by decide +kernel
theorem dX0_record_52 : decode cX0_record 52 = .ok (.aload_n 0, 1) := by decide +kernel
theorem dX0_record_53 : decode cX0_record 53 = .ok (.aload_n 0, 1) := by decide +kernel
theorem dX0_record_54 : decode cX0_record 54 = .ok (.getfield 16, 3) := by decide +kernel
theorem dX0_record_57 : decode cX0_record 57 = .ok (.iconst 1, 1) := by decide +kernel
theorem dX0_record_58 : decode cX0_record 58 = .ok (.iadd, 1) := by decide +kernel
theorem dX0_record_59 : decode cX0_record 59 = .ok (.bipush 6, 2) := by decide +kernel
theorem dX0_record_61 : decode cX0_record 61 = .ok (.invokestatic 27, 3) := by decide +kernel
theorem dX0_record_64 : decode cX0_record 64 = .ok (.putfield 16, 3) := by decide +kernel
theorem dX0_record_67 : decode cX0_record 67 = .ok (.return_, 1) := by decide +kernel
set_option maxRecDepth 20000 in
theorem ggX0_takeBack_X3_copy : GoodIn wsX0_takeBack wsX3_copy := goodIn_r _ [7, 8, 9, 10, 11, 12, 13, 14, 15, 16, 17, 18, 19, 20, 21, 22, 23, 27, 28, 29, 30, 31, 32, 33, 34, 35, 36, 37, 38] (by decide +kernel) (by decide +kernel)
set_option maxRecDepth 20000 in
theorem gX0_takeBack_X3_copy : GoodIn wsX0_takeBack (va_wsS RX0 23 yX3_copy wsX3_copy) := goodIn_app (goodIn_of _ (by decide +kernel)) ggX0_takeBack_X3_copy
theorem dX0_takeBack_0 : decode cX0_takeBack 0 = .ok (.aload_n 0, 1) := by decide +kernel
theorem dX0_takeBack_1 : decode cX0_takeBack 1 = .ok (.getfield 20, 3) := by decide +kernel
theorem dX0_takeBack_4 : decode cX0_takeBack 4 = .ok (.ifCond .ne 7, 3) := by decide +kernel
theorem dX0_takeBack_7 : decode cX0_takeBack 7 = .ok (.iconst 5, 1) := by decide +kernel
theorem dX0_takeBack_8 : decode cX0_takeBack 8 = .ok (.goto 9, 3) := by decide +kernel
theorem dX0_takeBack_11 : decode cX0_takeBack 11 = .ok (.aload_n 0, 1) := by decide +kernel
theorem dX0_takeBack_12 : decode cX0_takeBack 12 = .ok (.getfield 20, 3) := by decide +kernel
theorem dX0_takeBack_15 : decode cX0_takeBack 15 = .ok (.iconst 1, 1) := by decide +kernel
theorem dX0_takeBack_16 : decode cX0_takeBack 16 = .ok (.isub, 1) := by decide +kernel
theorem dX0_takeBack_17 : decode cX0_takeBack 17 = .ok (.istore_n 2, 1) := by decide +kernel
theorem dX0_takeBack_18 : decode cX0_takeBack 18 = .ok (.aload_n 0, 1) := by decide +kernel
theorem dX0_takeBack_19 : decode cX0_takeBack 19 = .ok (.getfield 16, 3) := by decide +kernel
theorem dX0_takeBack_22 : decode cX0_takeBack 22 = .ok (.ifCond .eq 13, 3) := by decide +kernel
theorem dX0_takeBack_25 : decode cX0_takeBack 25 = .ok (.iload_n 2, 1) := by decide +kernel
theorem dX0_takeBack_26 : decode cX0_takeBack 26 = .ok (.ifCond .lt 9, 3) := by decide +kernel
theorem dX0_takeBack_29 : decode cX0_takeBack 29 = .ok (.iload_n 2, 1) := by decide +kernel
theorem dX0_takeBack_30 : decode cX0_takeBack 30 = .ok (.bipush 6, 2) := by decide +kernel
theorem dX0_takeBack_32 : decode cX0_takeBack 32 = .ok (.if_icmp .lt 4, 3) := by decide +kernel
theorem dX0_takeBack_35 : decode cX0_takeBack 35 = .ok (.return_, 1) := by decide +kernel
theorem dX0_takeBack_36 : decode cX0_takeBack 36 = .ok (.aload_n 0, 1) := by decide +kernel
theorem dX0_takeBack_37 : decode cX0_takeBack 37 = .ok (.getfield 11, 3) := by decide +kernel
theorem dX0_takeBack_40 : decode cX0_takeBack 40 = .ok (.iload_n 2, 1) := by decide +kernel
theorem dX0_takeBack_41 : decode cX0_takeBack 41 = .ok (.aaload, 1) := by decide +kernel
theorem dX0_takeBack_42 : decode cX0_takeBack 42 = .ok (.aload_n 1, 1) := by decide +kernel
theorem dX0_takeBack_43 : decode cX0_takeBack 43 = .ok (.invokestatic 23, 3) := by decide +kernel
theorem dX0_takeBack_46 : decode cX0_takeBack 46 = .ok (.aload_n 0, 1) := by decide +kernel
theorem dX0_takeBack_47 : decode cX0_takeBack 47 = .ok (.iload_n 2, 1) := by decide +kernel
theorem dX0_takeBack_48 : decode cX0_takeBack 48 = .ok (.putfield 20, 3) := by decide +kernel
theorem dX0_takeBack_51 : decode cX0_takeBack 51 = .ok (.aload_n 0, 1) := by decide +kernel
theorem dX0_takeBack_52 : decode cX0_takeBack 52 = .ok (.dup, 1) := by decide +kernel
theorem dX0_takeBack_53 : decode cX0_takeBack 53 = .ok (.getfield 16, 3) := by decide +kernel
theorem dX0_takeBack_56 : decode cX0_takeBack 56 = .ok (.iconst 1, 1) := by decide +kernel
theorem dX0_takeBack_57 : decode cX0_takeBack 57 = .ok (.isub, 1) := by decide +kernel
theorem dX0_takeBack_58 : decode cX0_takeBack 58 = .ok (.putfield 16, 3) := by decide +kernel
theorem dX0_takeBack_61 : decode cX0_takeBack 61 = .ok (.return_, 1) := by decide +kernel
theorem dX1_init_0 : decode cX1_init 0 = .ok (.aload_n 0, 1) := by decide +kernel
theorem dX1_init_1 : decode cX1_init 1 = .ok (.invokespecial 3, 3) := by decide +kernel
theorem dX1_init_4 : decode cX1_init 4 = .ok (.aload_n 0, 1) := by decide +kernel
theorem dX1_init_5 : decode cX1_init 5 = .ok (.bipush 80, 2) := by decide +kernel
theorem dX1_init_7 : decode cX1_init 7 = .ok (.newarray .int, 2) := by decide +kernel
theorem dX1_init_9 : decode cX1_init 9 = .ok (.putfield 11, 3) := by decide +kernel
theorem dX1_init_12 : decode cX1_init 12 = .ok (.return_, 1) := by decide +kernel
theorem dX1_charactersIn_0 : decode cX1_charactersIn 0 = .ok (.lload_n 0, 1) := by decide +kernel
theorem dX1_charactersIn_1 : decode cX1_charactersIn 1 = .ok (.lstore_n 2, 1) := by decide +kernel
theorem dX1_charactersIn_2 : decode cX1_charactersIn 2 = .ok (.iconst 0, 1) := by decide +kernel
theorem dX1_charactersIn_3 : decode cX1_charactersIn 3 = .ok (.istore 4, 2) := by decide +kernel
theorem dX1_charactersIn_5 : decode cX1_charactersIn 5 = .ok (.iload 4, 2) := by decide +kernel
theorem dX1_charactersIn_7 : decode cX1_charactersIn 7 = .ok (.bipush 8, 2) := by decide +kernel
theorem dX1_charactersIn_9 : decode cX1_charactersIn 9 = .ok (.if_icmp .ge 48, 3) := by decide +kernel
theorem dX1_charactersIn_12 : decode cX1_charactersIn 12 = .ok (.lload_n 2, 1) := by decide +kernel
theorem dX1_charactersIn_13 : decode cX1_charactersIn 13 = .ok (.ldc2_w 15, 3) := by decide +kernel
theorem dX1_charactersIn_16 : decode cX1_charactersIn 16 = .ok (.land, 1) := by decide +kernel
theorem dX1_charactersIn_17 : decode cX1_charactersIn 17 = .ok (.lconst 0, 1) := by decide +kernel
theorem dX1_charactersIn_18 : decode cX1_charactersIn 18 = .ok (.lcmp, 1) := by decide +kernel
theorem dX1_charactersIn_19 : decode cX1_charactersIn 19 = .ok (.ifCond .eq 38, 3) := by decide +kernel
theorem dX1_charactersIn_22 : decode cX1_charactersIn 22 = .ok (.lload_n 2, 1) := by decide +kernel
theorem dX1_charactersIn_23 : decode cX1_charactersIn 23 = .ok (.ldc2_w 15, 3) := by decide +kernel
theorem dX1_charactersIn_26 : decode cX1_charactersIn 26 = .ok (.land, 1) := by decide +kernel
theorem dX1_charactersIn_27 : decode cX1_charactersIn 27 = .ok (.l2i, 1) := by decide +kernel
theorem dX1_charactersIn_28 : decode cX1_charactersIn 28 = .ok (.istore 5, 2) := by decide +kernel
theorem dX1_charactersIn_30 : decode cX1_charactersIn 30 = .ok (.iload 5, 2) := by decide +kernel
theorem dX1_charactersIn_32 : decode cX1_charactersIn 32 = .ok (.bipush 33, 2) := by decide +kernel
theorem dX1_charactersIn_34 : decode cX1_charactersIn 34 = .ok (.if_icmp .lt 10, 3) := by decide +kernel
theorem dX1_charactersIn_37 : decode cX1_charactersIn 37 = .ok (.iload 5, 2) := by decide +kernel
theorem dX1_charactersIn_39 : decode cX1_charactersIn 39 = .ok (.bipush 126, 2) := by decide +kernel
theorem dX1_charactersIn_41 : decode cX1_charactersIn 41 = .ok (.if_icmp .le 5, 3) := by decide +kernel
theorem dX1_charactersIn_44 : decode cX1_charactersIn 44 = .ok (.iconst 0, 1) := by decide +kernel
theorem dX1_charactersIn_45 : decode cX1_charactersIn 45 = .ok (.ireturn, 1) := by decide +kernel
theorem dX1_charactersIn_46 : decode cX1_charactersIn 46 = .ok (.lload_n 2, 1) := by decide +kernel
theorem dX1_charactersIn_47 : decode cX1_charactersIn 47 = .ok (.bipush 8, 2) := by decide +kernel
theorem dX1_charactersIn_49 : decode cX1_charactersIn 49 = .ok (.lushr, 1) := by decide +kernel
theorem dX1_charactersIn_50 : decode cX1_charactersIn 50 = .ok (.lstore_n 2, 1) := by decide +kernel
theorem dX1_charactersIn_51 : decode cX1_charactersIn 51 = .ok (.iinc 4 1, 3) := by decide +kernel
theorem dX1_charactersIn_54 : decode cX1_charactersIn 54 = .ok (.goto (-49), 3) := by decide +kernel
theorem dX1_charactersIn_57 : decode cX1_charactersIn 57 = .ok (.lload_n 2, 1) := by decide +kernel
theorem dX1_charactersIn_58 : decode cX1_charactersIn 58 = .ok (.lconst 0, 1) := by decide +kernel
theorem dX1_charactersIn_59 : decode cX1_charactersIn 59 = .ok (.lcmp, 1) := by decide +kernel
theorem dX1_charactersIn_60 : decode cX1_charactersIn 60 = .ok (.ifCond .ne 8, 3) := by decide +kernel
theorem dX1_charactersIn_63 : decode cX1_charactersIn 63 = .ok (.iload 4, 2) := by decide +kernel
theorem dX1_charactersIn_65 : decode cX1_charactersIn 65 = .ok (.goto 4, 3) := by decide +kernel
theorem dX1_charactersIn_68 : decode cX1_charactersIn 68 = .ok (.iconst 0, 1) := by decide +kernel
theorem dX1_charactersIn_69 : decode cX1_charactersIn 69 = .ok (.ireturn, 1) := by decide +kernel
theorem dX1_length_0 : decode cX1_length 0 = .ok (.aload_n 0, 1) := by decide +kernel
theorem dX1_length_1 : decode cX1_length 1 = .ok (.getfield 17, 3) := by decide +kernel
theorem dX1_length_4 : decode cX1_length 4 = .ok (.ireturn, 1) := by decide +kernel
theorem dX1_clear_0 : decode cX1_clear 0 = .ok (.aload_n 0, 1) := by decide +kernel
theorem dX1_clear_1 : decode cX1_clear 1 = .ok (.iconst 0, 1) := by decide +kernel
theorem dX1_clear_2 : decode cX1_clear 2 = .ok (.putfield 17, 3) := by decide +kernel
theorem dX1_clear_5 : decode cX1_clear 5 = .ok (.return_, 1) := by decide +kernel
theorem dX1_append_0 : decode cX1_append 0 = .ok (.aload_n 0, 1) := by decide +kernel
theorem dX1_append_1 : decode cX1_append 1 = .ok (.getfield 17, 3) := by decide +kernel
theorem dX1_append_4 : decode cX1_append 4 = .ok (.iload_n 3, 1) := by decide +kernel
theorem dX1_append_5 : decode cX1_append 5 = .ok (.iadd, 1) := by decide +kernel
theorem dX1_append_6 : decode cX1_append 6 = .ok (.istore 4, 2) := by decide +kernel
theorem dX1_append_8 : decode cX1_append 8 = .ok (.iload 4, 2) := by decide +kernel
theorem dX1_append_10 : decode cX1_append 10 = .ok (.bipush 80, 2) := by decide +kernel
theorem dX1_append_12 : decode cX1_append 12 = .ok (.if_icmp .le 5, 3) := by decide +kernel
theorem dX1_append_15 : decode cX1_append 15 = .ok (.iconst 0, 1) := by decide +kernel
theorem dX1_append_16 : decode cX1_append 16 = .ok (.ireturn, 1) := by decide +kernel
theorem dX1_append_17 : decode cX1_append 17 = .ok (.lload_n 1, 1) := by decide +kernel
theorem dX1_append_18 : decode cX1_append 18 = .ok (.lstore 5, 2) := by decide +kernel
theorem dX1_append_20 : decode cX1_append 20 = .ok (.iload 4, 2) := by decide +kernel
theorem dX1_append_22 : decode cX1_append 22 = .ok (.iconst 1, 1) := by decide +kernel
theorem dX1_append_23 : decode cX1_append 23 = .ok (.isub, 1) := by decide +kernel
theorem dX1_append_24 : decode cX1_append 24 = .ok (.istore 7, 2) := by decide +kernel
theorem dX1_append_26 : decode cX1_append 26 = .ok (.iload 7, 2) := by decide +kernel
theorem dX1_append_28 : decode cX1_append 28 = .ok (.aload_n 0, 1) := by decide +kernel
theorem dX1_append_29 : decode cX1_append 29 = .ok (.getfield 17, 3) := by decide +kernel
theorem dX1_append_32 : decode cX1_append 32 = .ok (.if_icmp .lt 35, 3) := by decide +kernel
theorem dX1_append_35 : decode cX1_append 35 = .ok (.iload 7, 2) := by decide +kernel
theorem dX1_append_37 : decode cX1_append 37 = .ok (.ifCond .lt 30, 3) := by decide +kernel
theorem dX1_append_40 : decode cX1_append 40 = .ok (.aload_n 0, 1) := by decide +kernel
theorem dX1_append_41 : decode cX1_append 41 = .ok (.getfield 11, 3) := by decide +kernel
theorem dX1_append_44 : decode cX1_append 44 = .ok (.iload 7, 2) := by decide +kernel
theorem dX1_append_46 : decode cX1_append 46 = .ok (.lload 5, 2) := by decide +kernel
theorem dX1_append_48 : decode cX1_append 48 = .ok (.ldc2_w 15, 3) := by decide +kernel
theorem dX1_append_51 : decode cX1_append 51 = .ok (.land, 1) := by decide +kernel
theorem dX1_append_52 : decode cX1_append 52 = .ok (.l2i, 1) := by decide +kernel
theorem dX1_append_53 : decode cX1_append 53 = .ok (.iastore, 1) := by decide +kernel
theorem dX1_append_54 : decode cX1_append 54 = .ok (.lload 5, 2) := by decide +kernel
theorem dX1_append_56 : decode cX1_append 56 = .ok (.bipush 8, 2) := by decide +kernel
theorem dX1_append_58 : decode cX1_append 58 = .ok (.lushr, 1) := by decide +kernel
theorem dX1_append_59 : decode cX1_append 59 = .ok (.lstore 5, 2) := by decide +kernel
theorem dX1_append_61 : decode cX1_append 61 = .ok (.iinc 7 (-1), 3) := by decide +kernel
theorem dX1_append_64 : decode cX1_append 64 = .ok (.goto (-38), 3) := by decide +kernel
theorem dX1_append_67 : decode cX1_append 67 = .ok (.aload_n 0, 1) := by decide +kernel
theorem dX1_append_68 : decode cX1_append 68 = .ok (.iload 4, 2) := by decide +kernel
theorem dX1_append_70 : decode cX1_append 70 = .ok (.putfield 17, 3) := by decide +kernel
theorem dX1_append_73 : decode cX1_append 73 = .ok (.iconst 1, 1) := by decide +kernel
theorem dX1_append_74 : decode cX1_append 74 = .ok (.ireturn, 1) := by decide +kernel
set_option maxRecDepth 20000 in
theorem ggX1_faultIndex_X1_isSign : GoodIn wsX1_faultIndex wsX1_isSign := goodIn_r _ [6, 7, 8, 5, 9] (by decide +kernel) (by decide +kernel)
set_option maxRecDepth 20000 in
theorem gX1_faultIndex_X1_isSign : GoodIn wsX1_faultIndex (va_wsS RX1 21 yX1_isSign wsX1_isSign) := goodIn_app (goodIn_of _ (by decide +kernel)) ggX1_faultIndex_X1_isSign
theorem dX1_faultIndex_0 : decode cX1_faultIndex 0 = .ok (.iconst 0, 1) := by decide +kernel
theorem dX1_faultIndex_1 : decode cX1_faultIndex 1 = .ok (.istore_n 1, 1) := by decide +kernel
theorem dX1_faultIndex_2 : decode cX1_faultIndex 2 = .ok (.iload_n 1, 1) := by decide +kernel
theorem dX1_faultIndex_3 : decode cX1_faultIndex 3 = .ok (.aload_n 0, 1) := by decide +kernel
theorem dX1_faultIndex_4 : decode cX1_faultIndex 4 = .ok (.getfield 17, 3) := by decide +kernel
theorem dX1_faultIndex_7 : decode cX1_faultIndex 7 = .ok (.if_icmp .ge 35, 3) := by decide +kernel
theorem dX1_faultIndex_10 : decode cX1_faultIndex 10 = .ok (.iload_n 1, 1) := by decide +kernel
theorem dX1_faultIndex_11 : decode cX1_faultIndex 11 = .ok (.bipush 80, 2) := by decide +kernel
theorem dX1_faultIndex_13 : decode cX1_faultIndex 13 = .ok (.if_icmp .ge 29, 3) := by decide +kernel
theorem dX1_faultIndex_16 : decode cX1_faultIndex 16 = .ok (.iload_n 1, 1) := by decide +kernel
theorem dX1_faultIndex_17 : decode cX1_faultIndex 17 = .ok (.bipush 10, 2) := by decide +kernel
theorem dX1_faultIndex_19 : decode cX1_faultIndex 19 = .ok (.if_icmp .ge 15, 3) := by decide +kernel
theorem dX1_faultIndex_22 : decode cX1_faultIndex 22 = .ok (.aload_n 0, 1) := by decide +kernel
theorem dX1_faultIndex_23 : decode cX1_faultIndex 23 = .ok (.getfield 11, 3) := by decide +kernel
theorem dX1_faultIndex_26 : decode cX1_faultIndex 26 = .ok (.iload_n 1, 1) := by decide +kernel
theorem dX1_faultIndex_27 : decode cX1_faultIndex 27 = .ok (.iaload, 1) := by decide +kernel
theorem dX1_faultIndex_28 : decode cX1_faultIndex 28 = .ok (.invokestatic 21, 3) := by decide +kernel
theorem dX1_faultIndex_31 : decode cX1_faultIndex 31 = .ok (.ifCond .ne 5, 3) := by decide +kernel
theorem dX1_faultIndex_34 : decode cX1_faultIndex 34 = .ok (.iload_n 1, 1) := by decide +kernel
theorem dX1_faultIndex_35 : decode cX1_faultIndex 35 = .ok (.ireturn, 1) := by decide +kernel
theorem dX1_faultIndex_36 : decode cX1_faultIndex 36 = .ok (.iinc 1 1, 3) := by decide +kernel
theorem dX1_faultIndex_39 : decode cX1_faultIndex 39 = .ok (.goto (-37), 3) := by decide +kernel
theorem dX1_faultIndex_42 : decode cX1_faultIndex 42 = .ok (.aload_n 0, 1) := by decide +kernel
theorem dX1_faultIndex_43 : decode cX1_faultIndex 43 = .ok (.getfield 17, 3) := by decide +kernel
theorem dX1_faultIndex_46 : decode cX1_faultIndex 46 = .ok (.bipush 10, 2) := by decide +kernel
theorem dX1_faultIndex_48 : decode cX1_faultIndex 48 = .ok (.if_icmp .ge 10, 3) := by decide +kernel
theorem dX1_faultIndex_51 : decode cX1_faultIndex 51 = .ok (.aload_n 0, 1) := by decide +kernel
theorem dX1_faultIndex_52 : decode cX1_faultIndex 52 = .ok (.getfield 17, 3) := by decide +kernel
theorem dX1_faultIndex_55 : decode cX1_faultIndex 55 = .ok (.goto 5, 3) := by decide +kernel
theorem dX1_faultIndex_58 : decode cX1_faultIndex 58 = .ok (.bipush (-6), 2) := by decide +kernel
theorem dX1_faultIndex_60 : decode cX1_faultIndex 60 = .ok (.ireturn, 1) := by decide +kernel
set_option maxRecDepth 20000 in
theorem ggX1_tellsSheet_X1_faultIndex : GoodIn wsX1_tellsSheet wsX1_faultIndex := goodIn_r _ [5, 6, 7, 8, 9, 4, 10, 11, 12, 13, 14, 15] (by decide +kernel) (by decide +kernel)
set_option maxRecDepth 20000 in
theorem gX1_tellsSheet_X1_faultIndex : GoodIn wsX1_tellsSheet (wsV RX1 25 RX1 yX1_faultIndex wsX1_faultIndex) := goodIn_app (goodIn_of _ (by decide +kernel)) ggX1_tellsSheet_X1_faultIndex
theorem dX1_tellsSheet_0 : decode cX1_tellsSheet 0 = .ok (.aload_n 0, 1) := by decide +kernel
theorem dX1_tellsSheet_1 : decode cX1_tellsSheet 1 = .ok (.invokevirtual 25, 3) := by decide +kernel
theorem dX1_tellsSheet_4 : decode cX1_tellsSheet 4 = .ok (.bipush (-6), 2) := by decide +kernel
theorem dX1_tellsSheet_6 : decode cX1_tellsSheet 6 = .ok (.if_icmp .ne 7, 3) := by decide +kernel
theorem dX1_tellsSheet_9 : decode cX1_tellsSheet 9 = .ok (.iconst 1, 1) := by decide +kernel
theorem dX1_tellsSheet_10 : decode cX1_tellsSheet 10 = .ok (.goto 4, 3) := by decide +kernel
theorem dX1_tellsSheet_13 : decode cX1_tellsSheet 13 = .ok (.iconst 0, 1) := by decide +kernel
theorem dX1_tellsSheet_14 : decode cX1_tellsSheet 14 = .ok (.ireturn, 1) := by decide +kernel
set_option maxRecDepth 20000 in
theorem ggX1_tellsKey_X1_tellsSheet : GoodIn wsX1_tellsKey wsX1_tellsSheet := goodIn_r _ [6, 7, 8, 9, 5, 10, 11, 1, 12, 13, 14, 15, 16, 17, 18, 19] (by decide +kernel) (by decide +kernel)
set_option maxRecDepth 20000 in
theorem gX1_tellsKey_X1_tellsSheet : GoodIn wsX1_tellsKey (wsV RX1 29 RX1 yX1_tellsSheet wsX1_tellsSheet) := goodIn_app (goodIn_of _ (by decide +kernel)) ggX1_tellsKey_X1_tellsSheet
set_option maxRecDepth 20000 in
theorem ggX1_tellsKey_X1_isDigit : GoodIn wsX1_tellsKey wsX1_isDigit := goodIn_r _ [17] (by decide +kernel) (by decide +kernel)
set_option maxRecDepth 20000 in
theorem gX1_tellsKey_X1_isDigit : GoodIn wsX1_tellsKey (va_wsS RX1 33 yX1_isDigit wsX1_isDigit) := goodIn_app (goodIn_of _ (by decide +kernel)) ggX1_tellsKey_X1_isDigit
theorem dX1_tellsKey_0 : decode cX1_tellsKey 0 = .ok (.aload_n 0, 1) := by decide +kernel
theorem dX1_tellsKey_1 : decode cX1_tellsKey 1 = .ok (.invokevirtual 29, 3) := by decide +kernel
theorem dX1_tellsKey_4 : decode cX1_tellsKey 4 = .ok (.ifCond .ne 5, 3) := by decide +kernel
theorem dX1_tellsKey_7 : decode cX1_tellsKey 7 = .ok (.iconst 0, 1) := by decide +kernel
theorem dX1_tellsKey_8 : decode cX1_tellsKey 8 = .ok (.ireturn, 1) := by decide +kernel
theorem dX1_tellsKey_9 : decode cX1_tellsKey 9 = .ok (.iconst 0, 1) := by decide +kernel
theorem dX1_tellsKey_10 : decode cX1_tellsKey 10 = .ok (.istore_n 1, 1) := by decide +kernel
theorem dX1_tellsKey_11 : decode cX1_tellsKey 11 = .ok (.iload_n 1, 1) := by decide +kernel
theorem dX1_tellsKey_12 : decode cX1_tellsKey 12 = .ok (.bipush 10, 2) := by decide +kernel
theorem dX1_tellsKey_14 : decode cX1_tellsKey 14 = .ok (.if_icmp .ge 23, 3) := by decide +kernel
theorem dX1_tellsKey_17 : decode cX1_tellsKey 17 = .ok (.aload_n 0, 1) := by decide +kernel
theorem dX1_tellsKey_18 : decode cX1_tellsKey 18 = .ok (.getfield 11, 3) := by decide +kernel
theorem dX1_tellsKey_21 : decode cX1_tellsKey 21 = .ok (.iload_n 1, 1) := by decide +kernel
theorem dX1_tellsKey_22 : decode cX1_tellsKey 22 = .ok (.iaload, 1) := by decide +kernel
theorem dX1_tellsKey_23 : decode cX1_tellsKey 23 = .ok (.invokestatic 33, 3) := by decide +kernel
theorem dX1_tellsKey_26 : decode cX1_tellsKey 26 = .ok (.ifCond .ne 5, 3) := by decide +kernel
theorem dX1_tellsKey_29 : decode cX1_tellsKey 29 = .ok (.iconst 0, 1) := by decide +kernel
theorem dX1_tellsKey_30 : decode cX1_tellsKey 30 = .ok (.ireturn, 1) := by decide +kernel
theorem dX1_tellsKey_31 : decode cX1_tellsKey 31 = .ok (.iinc 1 1, 3) := by decide +kernel
theorem dX1_tellsKey_34 : decode cX1_tellsKey 34 = .ok (.goto (-23), 3) := by decide +kernel
theorem dX1_tellsKey_37 : decode cX1_tellsKey 37 = .ok (.iconst 1, 1) := by decide +kernel
theorem dX1_tellsKey_38 : decode cX1_tellsKey 38 = .ok (.ireturn, 1) := by decide +kernel
set_option maxRecDepth 20000 in
theorem ggX1_signs_X1_isDigit : GoodIn wsX1_signs wsX1_isDigit := goodIn_r _ [5] (by decide +kernel) (by decide +kernel)
set_option maxRecDepth 20000 in
theorem gX1_signs_X1_isDigit : GoodIn wsX1_signs (va_wsS RX1 33 yX1_isDigit wsX1_isDigit) := goodIn_app (goodIn_of _ (by decide +kernel)) ggX1_signs_X1_isDigit
set_option maxRecDepth 20000 in
theorem ggX1_signs_X2_withSign : GoodIn wsX1_signs wsX2_withSign := goodIn_r _ [9] (by decide +kernel) (by decide +kernel)
set_option maxRecDepth 20000 in
theorem gX1_signs_X2_withSign : GoodIn wsX1_signs (va_wsS RX1 38 yX2_withSign wsX2_withSign) := goodIn_app (goodIn_of _ (by decide +kernel)) ggX1_signs_X2_withSign
theorem dX1_signs_0 : decode cX1_signs 0 = .ok (.lconst 0, 1) := by decide +kernel
theorem dX1_signs_1 : decode cX1_signs 1 = .ok (.lstore_n 1, 1) := by decide +kernel
theorem dX1_signs_2 : decode cX1_signs 2 = .ok (.iconst 0, 1) := by decide +kernel
theorem dX1_signs_3 : decode cX1_signs 3 = .ok (.istore_n 3, 1) := by decide +kernel
theorem dX1_signs_4 : decode cX1_signs 4 = .ok (.iload_n 3, 1) := by decide +kernel
theorem dX1_signs_5 : decode cX1_signs 5 = .ok (.bipush 10, 2) := by decide +kernel
theorem dX1_signs_7 : decode cX1_signs 7 = .ok (.if_icmp .ge 45, 3) := by decide +kernel
theorem dX1_signs_10 : decode cX1_signs 10 = .ok (.aload_n 0, 1) := by decide +kernel
theorem dX1_signs_11 : decode cX1_signs 11 = .ok (.getfield 11, 3) := by decide +kernel
theorem dX1_signs_14 : decode cX1_signs 14 = .ok (.iload_n 3, 1) := by decide +kernel
theorem dX1_signs_15 : decode cX1_signs 15 = .ok (.iaload, 1) := by decide +kernel
theorem dX1_signs_16 : decode cX1_signs 16 = .ok (.invokestatic 33, 3) := by decide +kernel
theorem dX1_signs_19 : decode cX1_signs 19 = .ok (.ifCond .eq 15, 3) := by decide +kernel
theorem dX1_signs_22 : decode cX1_signs 22 = .ok (.aload_n 0, 1) := by decide +kernel
theorem dX1_signs_23 : decode cX1_signs 23 = .ok (.getfield 11, 3) := by decide +kernel
theorem dX1_signs_26 : decode cX1_signs 26 = .ok (.iload_n 3, 1) := by decide +kernel
theorem dX1_signs_27 : decode cX1_signs 27 = .ok (.iaload, 1) := by decide +kernel
theorem dX1_signs_28 : decode cX1_signs 28 = .ok (.bipush 48, 2) := by decide +kernel
theorem dX1_signs_30 : decode cX1_signs 30 = .ok (.isub, 1) := by decide +kernel
theorem dX1_signs_31 : decode cX1_signs 31 = .ok (.goto 5, 3) := by decide +kernel
theorem dX1_signs_34 : decode cX1_signs 34 = .ok (.bipush 15, 2) := by decide +kernel
theorem dX1_signs_36 : decode cX1_signs 36 = .ok (.istore 4, 2) := by decide +kernel
theorem dX1_signs_38 : decode cX1_signs 38 = .ok (.lload_n 1, 1) := by decide +kernel
theorem dX1_signs_39 : decode cX1_signs 39 = .ok (.iload_n 3, 1) := by decide +kernel
theorem dX1_signs_40 : decode cX1_signs 40 = .ok (.iload 4, 2) := by decide +kernel
theorem dX1_signs_42 : decode cX1_signs 42 = .ok (.invokestatic 38, 3) := by decide +kernel
theorem dX1_signs_45 : decode cX1_signs 45 = .ok (.lstore_n 1, 1) := by decide +kernel
theorem dX1_signs_46 : decode cX1_signs 46 = .ok (.iinc 3 1, 3) := by decide +kernel
theorem dX1_signs_49 : decode cX1_signs 49 = .ok (.goto (-45), 3) := by decide +kernel
theorem dX1_signs_52 : decode cX1_signs 52 = .ok (.lload_n 1, 1) := by decide +kernel
theorem dX1_signs_53 : decode cX1_signs 53 = .ok (.lreturn, 1) := by decide +kernel
set_option maxRecDepth 20000 in
theorem ggX1_isSign_X1_isDigit : GoodIn wsX1_isSign wsX1_isDigit := goodIn_r _ [4] (by decide +kernel) (by decide +kernel)
set_option maxRecDepth 20000 in
theorem gX1_isSign_X1_isDigit : GoodIn wsX1_isSign (va_wsS RX1 33 yX1_isDigit wsX1_isDigit) := goodIn_app (goodIn_of _ (by decide +kernel)) ggX1_isSign_X1_isDigit
theorem dX1_isSign_0 : decode cX1_isSign 0 = .ok (.iload_n 0, 1) := by decide +kernel
theorem dX1_isSign_1 : decode cX1_isSign 1 = .ok (.bipush 45, 2) := by decide +kernel
theorem dX1_isSign_3 : decode cX1_isSign 3 = .ok (.if_icmp .eq 10, 3) := by decide +kernel
theorem dX1_isSign_6 : decode cX1_isSign 6 = .ok (.iload_n 0, 1) := by decide +kernel
theorem dX1_isSign_7 : decode cX1_isSign 7 = .ok (.invokestatic 33, 3) := by decide +kernel
theorem dX1_isSign_10 : decode cX1_isSign 10 = .ok (.ifCond .eq 7, 3) := by decide +kernel
theorem dX1_isSign_13 : decode cX1_isSign 13 = .ok (.iconst 1, 1) := by decide +kernel
theorem dX1_isSign_14 : decode cX1_isSign 14 = .ok (.goto 4, 3) := by decide +kernel
theorem dX1_isSign_17 : decode cX1_isSign 17 = .ok (.iconst 0, 1) := by decide +kernel
theorem dX1_isSign_18 : decode cX1_isSign 18 = .ok (.ireturn, 1) := by decide +kernel
theorem dX1_isDigit_0 : decode cX1_isDigit 0 = .ok (.iload_n 0, 1) := by decide +kernel
theorem dX1_isDigit_1 : decode cX1_isDigit 1 = .ok (.bipush 48, 2) := by decide +kernel
theorem dX1_isDigit_3 : decode cX1_isDigit 3 = .ok (.if_icmp .lt 13, 3) := by decide +kernel
theorem dX1_isDigit_6 : decode cX1_isDigit 6 = .ok (.iload_n 0, 1) := by decide +kernel
theorem dX1_isDigit_7 : decode cX1_isDigit 7 = .ok (.bipush 57, 2) := by decide +kernel
theorem dX1_isDigit_9 : decode cX1_isDigit 9 = .ok (.if_icmp .gt 7, 3) := by decide +kernel
theorem dX1_isDigit_12 : decode cX1_isDigit 12 = .ok (.iconst 1, 1) := by decide +kernel
theorem dX1_isDigit_13 : decode cX1_isDigit 13 = .ok (.goto 4, 3) := by decide +kernel
theorem dX1_isDigit_16 : decode cX1_isDigit 16 = .ok (.iconst 0, 1) := by decide +kernel
theorem dX1_isDigit_17 : decode cX1_isDigit 17 = .ok (.ireturn, 1) := by decide +kernel
theorem dX2_signAt_0 : decode cX2_signAt 0 = .ok (.lload_n 0, 1) := by decide +kernel
theorem dX2_signAt_1 : decode cX2_signAt 1 = .ok (.iconst 4, 1) := by decide +kernel
theorem dX2_signAt_2 : decode cX2_signAt 2 = .ok (.iload_n 2, 1) := by decide +kernel
theorem dX2_signAt_3 : decode cX2_signAt 3 = .ok (.imul, 1) := by decide +kernel
theorem dX2_signAt_4 : decode cX2_signAt 4 = .ok (.lushr, 1) := by decide +kernel
theorem dX2_signAt_5 : decode cX2_signAt 5 = .ok (.l2i, 1) := by decide +kernel
theorem dX2_signAt_6 : decode cX2_signAt 6 = .ok (.bipush 15, 2) := by decide +kernel
theorem dX2_signAt_8 : decode cX2_signAt 8 = .ok (.iand, 1) := by decide +kernel
theorem dX2_signAt_9 : decode cX2_signAt 9 = .ok (.ireturn, 1) := by decide +kernel
theorem dX2_withSign_0 : decode cX2_withSign 0 = .ok (.lload_n 0, 1) := by decide +kernel
theorem dX2_withSign_1 : decode cX2_withSign 1 = .ok (.iload_n 3, 1) := by decide +kernel
theorem dX2_withSign_2 : decode cX2_withSign 2 = .ok (.i2l, 1) := by decide +kernel
theorem dX2_withSign_3 : decode cX2_withSign 3 = .ok (.iconst 4, 1) := by decide +kernel
theorem dX2_withSign_4 : decode cX2_withSign 4 = .ok (.iload_n 2, 1) := by decide +kernel
theorem dX2_withSign_5 : decode cX2_withSign 5 = .ok (.imul, 1) := by decide +kernel
theorem dX2_withSign_6 : decode cX2_withSign 6 = .ok (.lshl, 1) := by decide +kernel
theorem dX2_withSign_7 : decode cX2_withSign 7 = .ok (.lor, 1) := by decide +kernel
theorem dX2_withSign_8 : decode cX2_withSign 8 = .ok (.lreturn, 1) := by decide +kernel
set_option maxRecDepth 20000 in
theorem ggX3_init_J7_fill_53178 : GoodIn wsX3_init wsJ7_fill_53178 := goodIn_r _ [21] (by decide +kernel) (by decide +kernel)
set_option maxRecDepth 20000 in
theorem gX3_init_J7_fill_53178 : GoodIn wsX3_init (va_wsS RX3 47 yJ7_fill_53178 wsJ7_fill_53178) := goodIn_app (goodIn_of _ (by decide +kernel)) ggX3_init_J7_fill_53178
set_option maxRecDepth 20000 in
theorem ggX3_init_J7_fill_d0a16 : GoodIn wsX3_init wsJ7_fill_d0a16 := goodIn_r _ [24] (by decide +kernel) (by decide +kernel)
set_option maxRecDepth 20000 in
theorem gX3_init_J7_fill_d0a16 : GoodIn wsX3_init (va_wsS RX3 57 yJ7_fill_d0a16 wsJ7_fill_d0a16) := goodIn_app (goodIn_of _ (by decide +kernel)) ggX3_init_J7_fill_d0a16
theorem dX3_init_0 : decode cX3_init 0 = .ok (.aload_n 0, 1) := by decide +kernel
theorem dX3_init_1 : decode cX3_init 1 = .ok (.invokespecial 3, 3) := by decide +kernel
theorem dX3_init_4 : decode cX3_init 4 = .ok (.aload_n 0, 1) := by decide +kernel
theorem dX3_init_5 : decode cX3_init 5 = .ok (.iconst 4, 1) := by decide +kernel
theorem dX3_init_6 : decode cX3_init 6 = .ok (.newarray .int, 2) := by decide +kernel
theorem dX3_init_8 : decode cX3_init 8 = .ok (.dup, 1) := by decide +kernel
theorem dX3_init_9 : decode cX3_init 9 = .ok (.iconst 0, 1) := by decide +kernel
theorem dX3_init_10 : decode cX3_init 10 = .ok (.bipush 10, 2) := by decide +kernel
theorem dX3_init_12 : decode cX3_init 12 = .ok (.iastore, 1) := by decide +kernel
theorem dX3_init_13 : decode cX3_init 13 = .ok (.dup, 1) := by decide +kernel
theorem dX3_init_14 : decode cX3_init 14 = .ok (.iconst 1, 1) := by decide +kernel
theorem dX3_init_15 : decode cX3_init 15 = .ok (.bipush 10, 2) := by decide +kernel
theorem dX3_init_17 : decode cX3_init 17 = .ok (.iastore, 1) := by decide +kernel
theorem dX3_init_18 : decode cX3_init 18 = .ok (.dup, 1) := by decide +kernel
theorem dX3_init_19 : decode cX3_init 19 = .ok (.iconst 2, 1) := by decide +kernel
theorem dX3_init_20 : decode cX3_init 20 = .ok (.iconst 0, 1) := by decide +kernel
theorem dX3_init_21 : decode cX3_init 21 = .ok (.iastore, 1) := by decide +kernel
theorem dX3_init_22 : decode cX3_init 22 = .ok (.dup, 1) := by decide +kernel
theorem dX3_init_23 : decode cX3_init 23 = .ok (.iconst 3, 1) := by decide +kernel
theorem dX3_init_24 : decode cX3_init 24 = .ok (.iconst 2, 1) := by decide +kernel
theorem dX3_init_25 : decode cX3_init 25 = .ok (.iastore, 1) := by decide +kernel
theorem dX3_init_26 : decode cX3_init 26 = .ok (.putfield 9, 3) := by decide +kernel
theorem dX3_init_29 : decode cX3_init 29 = .ok (.aload_n 0, 1) := by decide +kernel
theorem dX3_init_30 : decode cX3_init 30 = .ok (.bipush 10, 2) := by decide +kernel
theorem dX3_init_32 : decode cX3_init 32 = .ok (.newarray .int, 2) := by decide +kernel
theorem dX3_init_34 : decode cX3_init 34 = .ok (.putfield 15, 3) := by decide +kernel
theorem dX3_init_37 : decode cX3_init 37 = .ok (.aload_n 0, 1) := by decide +kernel
theorem dX3_init_38 : decode cX3_init 38 = .ok (.bipush 10, 2) := by decide +kernel
theorem dX3_init_40 : decode cX3_init 40 = .ok (.newarray .int, 2) := by decide +kernel
theorem dX3_init_42 : decode cX3_init 42 = .ok (.putfield 18, 3) := by decide +kernel
theorem dX3_init_45 : decode cX3_init 45 = .ok (.aload_n 0, 1) := by decide +kernel
theorem dX3_init_46 : decode cX3_init 46 = .ok (.bipush 10, 2) := by decide +kernel
theorem dX3_init_48 : decode cX3_init 48 = .ok (.newarray .int, 2) := by decide +kernel
theorem dX3_init_50 : decode cX3_init 50 = .ok (.putfield 21, 3) := by decide +kernel
theorem dX3_init_53 : decode cX3_init 53 = .ok (.aload_n 0, 1) := by decide +kernel
theorem dX3_init_54 : decode cX3_init 54 = .ok (.bipush 10, 2) := by decide +kernel
theorem dX3_init_56 : decode cX3_init 56 = .ok (.newarray .int, 2) := by decide +kernel
theorem dX3_init_58 : decode cX3_init 58 = .ok (.putfield 24, 3) := by decide +kernel
theorem dX3_init_61 : decode cX3_init 61 = .ok (.aload_n 0, 1) := by decide +kernel
theorem dX3_init_62 : decode cX3_init 62 = .ok (.bipush 8, 2) := by decide +kernel
theorem dX3_init_64 : decode cX3_init 64 = .ok (.newarray .long, 2) := by decide +kernel
theorem dX3_init_66 : decode cX3_init 66 = .ok (.putfield 27, 3) := by decide +kernel
theorem dX3_init_69 : decode cX3_init 69 = .ok (.aload_n 0, 1) := by decide +kernel
theorem dX3_init_70 : decode cX3_init 70 = .ok (.bipush 80, 2) := by decide +kernel
theorem dX3_init_72 : decode cX3_init 72 = .ok (.newarray .long, 2) := by decide +kernel
theorem dX3_init_74 : decode cX3_init 74 = .ok (.putfield 31, 3) := by decide +kernel
theorem dX3_init_77 : decode cX3_init 77 = .ok (.aload_n 0, 1) := by decide +kernel
theorem dX3_init_78 : decode cX3_init 78 = .ok (.bipush 80, 2) := by decide +kernel
theorem dX3_init_80 : decode cX3_init 80 = .ok (.newarray .int, 2) := by decide +kernel
theorem dX3_init_82 : decode cX3_init 82 = .ok (.putfield 34, 3) := by decide +kernel
theorem dX3_init_85 : decode cX3_init 85 = .ok (.aload_n 0, 1) := by decide +kernel
theorem dX3_init_86 : decode cX3_init 86 = .ok (.bipush 80, 2) := by decide +kernel
theorem dX3_init_88 : decode cX3_init 88 = .ok (.newarray .int, 2) := by decide +kernel
theorem dX3_init_90 : decode cX3_init 90 = .ok (.putfield 37, 3) := by decide +kernel
theorem dX3_init_93 : decode cX3_init 93 = .ok (.aload_n 0, 1) := by decide +kernel
theorem dX3_init_94 : decode cX3_init 94 = .ok (.bipush 8, 2) := by decide +kernel
theorem dX3_init_96 : decode cX3_init 96 = .ok (.newarray .int, 2) := by decide +kernel
theorem dX3_init_98 : decode cX3_init 98 = .ok (.putfield 40, 3) := by decide +kernel
theorem dX3_init_101 : decode cX3_init 101 = .ok (.aload_n 0, 1) := by decide +kernel
theorem dX3_init_102 : decode cX3_init 102 = .ok (.bipush (-6), 2) := by decide +kernel
theorem dX3_init_104 : decode cX3_init 104 = .ok (.putfield 43, 3) := by decide +kernel
theorem dX3_init_107 : decode cX3_init 107 = .ok (.aload_n 0, 1) := by decide +kernel
theorem dX3_init_108 : decode cX3_init 108 = .ok (.getfield 18, 3) := by decide +kernel
theorem dX3_init_111 : decode cX3_init 111 = .ok (.bipush (-6), 2) := by decide +kernel
theorem dX3_init_113 : decode cX3_init 113 = .ok (.invokestatic 47, 3) := by decide +kernel
theorem dX3_init_116 : decode cX3_init 116 = .ok (.aload_n 0, 1) := by decide +kernel
theorem dX3_init_117 : decode cX3_init 117 = .ok (.getfield 24, 3) := by decide +kernel
theorem dX3_init_120 : decode cX3_init 120 = .ok (.bipush (-6), 2) := by decide +kernel
theorem dX3_init_122 : decode cX3_init 122 = .ok (.invokestatic 47, 3) := by decide +kernel
theorem dX3_init_125 : decode cX3_init 125 = .ok (.aload_n 0, 1) := by decide +kernel
theorem dX3_init_126 : decode cX3_init 126 = .ok (.getfield 27, 3) := by decide +kernel
theorem dX3_init_129 : decode cX3_init 129 = .ok (.ldc2_w 55, 3) := by decide +kernel
theorem dX3_init_132 : decode cX3_init 132 = .ok (.invokestatic 57, 3) := by decide +kernel
theorem dX3_init_135 : decode cX3_init 135 = .ok (.aload_n 0, 1) := by decide +kernel
theorem dX3_init_136 : decode cX3_init 136 = .ok (.getfield 31, 3) := by decide +kernel
theorem dX3_init_139 : decode cX3_init 139 = .ok (.ldc2_w 55, 3) := by decide +kernel
theorem dX3_init_142 : decode cX3_init 142 = .ok (.invokestatic 57, 3) := by decide +kernel
theorem dX3_init_145 : decode cX3_init 145 = .ok (.aload_n 0, 1) := by decide +kernel
theorem dX3_init_146 : decode cX3_init 146 = .ok (.getfield 37, 3) := by decide +kernel
theorem dX3_init_149 : decode cX3_init 149 = .ok (.bipush (-6), 2) := by decide +kernel
theorem dX3_init_151 : decode cX3_init 151 = .ok (.invokestatic 47, 3) := by decide +kernel
theorem dX3_init_154 : decode cX3_init 154 = .ok (.return_, 1) := by decide +kernel
theorem dX3_copy_0 : decode cX3_copy 0 = .ok (.aload_n 0, 1) := by decide +kernel
theorem dX3_copy_1 : decode cX3_copy 1 = .ok (.ifnull 7, 3) := by decide +kernel
theorem dX3_copy_4 : decode cX3_copy 4 = .ok (.aload_n 1, 1) := by decide +kernel
theorem dX3_copy_5 : decode cX3_copy 5 = .ok (.ifnonnull 4, 3) := by decide +kernel
theorem dX3_copy_8 : decode cX3_copy 8 = .ok (.return_, 1) := by decide +kernel
theorem dX3_copy_9 : decode cX3_copy 9 = .ok (.aload_n 0, 1) := by decide +kernel
theorem dX3_copy_10 : decode cX3_copy 10 = .ok (.getfield 9, 3) := by decide +kernel
theorem dX3_copy_13 : decode cX3_copy 13 = .ok (.iconst 0, 1) := by decide +kernel
theorem dX3_copy_14 : decode cX3_copy 14 = .ok (.aload_n 1, 1) := by decide +kernel
theorem dX3_copy_15 : decode cX3_copy 15 = .ok (.getfield 9, 3) := by decide +kernel
theorem dX3_copy_18 : decode cX3_copy 18 = .ok (.iconst 0, 1) := by decide +kernel
theorem dX3_copy_19 : decode cX3_copy 19 = .ok (.iconst 4, 1) := by decide +kernel
theorem dX3_copy_20 : decode cX3_copy 20 = .ok (.invokestatic 60, 3) := by decide +kernel
theorem dX3_copy_23 : decode cX3_copy 23 = .ok (.aload_n 0, 1) := by decide +kernel
theorem dX3_copy_24 : decode cX3_copy 24 = .ok (.getfield 15, 3) := by decide +kernel
theorem dX3_copy_27 : decode cX3_copy 27 = .ok (.iconst 0, 1) := by decide +kernel
theorem dX3_copy_28 : decode cX3_copy 28 = .ok (.aload_n 1, 1) := by decide +kernel
theorem dX3_copy_29 : decode cX3_copy 29 = .ok (.getfield 15, 3) := by decide +kernel
theorem dX3_copy_32 : decode cX3_copy 32 = .ok (.iconst 0, 1) := by decide +kernel
theorem dX3_copy_33 : decode cX3_copy 33 = .ok (.bipush 10, 2) := by decide +kernel
theorem dX3_copy_35 : decode cX3_copy 35 = .ok (.invokestatic 60, 3) := by decide +kernel
theorem dX3_copy_38 : decode cX3_copy 38 = .ok (.aload_n 0, 1) := by decide +kernel
theorem dX3_copy_39 : decode cX3_copy 39 = .ok (.getfield 18, 3) := by decide +kernel
theorem dX3_copy_42 : decode cX3_copy 42 = .ok (.iconst 0, 1) := by decide +kernel
theorem dX3_copy_43 : decode cX3_copy 43 = .ok (.aload_n 1, 1) := by decide +kernel
theorem dX3_copy_44 : decode cX3_copy 44 = .ok (.getfield 18, 3) := by decide +kernel
theorem dX3_copy_47 : decode cX3_copy 47 = .ok (.iconst 0, 1) := by decide +kernel
theorem dX3_copy_48 : decode cX3_copy 48 = .ok (.bipush 10, 2) := by decide +kernel
theorem dX3_copy_50 : decode cX3_copy 50 = .ok (.invokestatic 60, 3) := by decide +kernel
theorem dX3_copy_53 : decode cX3_copy 53 = .ok (.aload_n 0, 1) := by decide +kernel
theorem dX3_copy_54 : decode cX3_copy 54 = .ok (.getfield 21, 3) := by decide +kernel
theorem dX3_copy_57 : decode cX3_copy 57 = .ok (.iconst 0, 1) := by decide +kernel
theorem dX3_copy_58 : decode cX3_copy 58 = .ok (.aload_n 1, 1) := by decide +kernel
theorem dX3_copy_59 : decode cX3_copy 59 = .ok (.getfield 21, 3) := by decide +kernel
theorem dX3_copy_62 : decode cX3_copy 62 = .ok (.iconst 0, 1) := by decide +kernel
theorem dX3_copy_63 : decode cX3_copy 63 = .ok (.bipush 10, 2) := by decide +kernel
theorem dX3_copy_65 : decode cX3_copy 65 = .ok (.invokestatic 60, 3) := by decide +kernel
theorem dX3_copy_68 : decode cX3_copy 68 = .ok (.aload_n 0, 1) := by decide +kernel
theorem dX3_copy_69 : decode cX3_copy 69 = .ok (.getfield 24, 3) := by decide +kernel
theorem dX3_copy_72 : decode cX3_copy 72 = .ok (.iconst 0, 1) := by decide +kernel
theorem dX3_copy_73 : decode cX3_copy 73 = .ok (.aload_n 1, 1) := by decide +kernel
theorem dX3_copy_74 : decode cX3_copy 74 = .ok (.getfield 24, 3) := by decide +kernel
theorem dX3_copy_77 : decode cX3_copy 77 = .ok (.iconst 0, 1) := by decide +kernel
theorem dX3_copy_78 : decode cX3_copy 78 = .ok (.bipush 10, 2) := by decide +kernel
theorem dX3_copy_80 : decode cX3_copy 80 = .ok (.invokestatic 60, 3) := by decide +kernel
theorem dX3_copy_83 : decode cX3_copy 83 = .ok (.aload_n 0, 1) := by decide +kernel
theorem dX3_copy_84 : decode cX3_copy 84 = .ok (.getfield 27, 3) := by decide +kernel
theorem dX3_copy_87 : decode cX3_copy 87 = .ok (.iconst 0, 1) := by decide +kernel
theorem dX3_copy_88 : decode cX3_copy 88 = .ok (.aload_n 1, 1) := by decide +kernel
theorem dX3_copy_89 : decode cX3_copy 89 = .ok (.getfield 27, 3) := by decide +kernel
theorem dX3_copy_92 : decode cX3_copy 92 = .ok (.iconst 0, 1) := by decide +kernel
theorem dX3_copy_93 : decode cX3_copy 93 = .ok (.bipush 8, 2) := by decide +kernel
theorem dX3_copy_95 : decode cX3_copy 95 = .ok (.invokestatic 60, 3) := by decide +kernel
theorem dX3_copy_98 : decode cX3_copy 98 = .ok (.aload_n 0, 1) := by decide +kernel
theorem dX3_copy_99 : decode cX3_copy 99 = .ok (.getfield 31, 3) := by decide +kernel
theorem dX3_copy_102 : decode cX3_copy 102 = .ok (.iconst 0, 1) := by decide +kernel
theorem dX3_copy_103 : decode cX3_copy 103 = .ok (.aload_n 1, 1) := by decide +kernel
theorem dX3_copy_104 : decode cX3_copy 104 = .ok (.getfield 31, 3) := by decide +kernel
theorem dX3_copy_107 : decode cX3_copy 107 = .ok (.iconst 0, 1) := by decide +kernel
theorem dX3_copy_108 : decode cX3_copy 108 = .ok (.bipush 80, 2) := by decide +kernel
theorem dX3_copy_110 : decode cX3_copy 110 = .ok (.invokestatic 60, 3) := by decide +kernel
theorem dX3_copy_113 : decode cX3_copy 113 = .ok (.aload_n 0, 1) := by decide +kernel
theorem dX3_copy_114 : decode cX3_copy 114 = .ok (.getfield 34, 3) := by decide +kernel
theorem dX3_copy_117 : decode cX3_copy 117 = .ok (.iconst 0, 1) := by decide +kernel
theorem dX3_copy_118 : decode cX3_copy 118 = .ok (.aload_n 1, 1) := by decide +kernel
theorem dX3_copy_119 : decode cX3_copy 119 = .ok (.getfield 34, 3) := by decide +kernel
theorem dX3_copy_122 : decode cX3_copy 122 = .ok (.iconst 0, 1) := by decide +kernel
theorem dX3_copy_123 : decode cX3_copy 123 = .ok (.bipush 80, 2) := by decide +kernel
theorem dX3_copy_125 : decode cX3_copy 125 = .ok (.invokestatic 60, 3) := by decide +kernel
theorem dX3_copy_128 : decode cX3_copy 128 = .ok (.aload_n 0, 1) := by decide +kernel
theorem dX3_copy_129 : decode cX3_copy 129 = .ok (.getfield 37, 3) := by decide +kernel
theorem dX3_copy_132 : decode cX3_copy 132 = .ok (.iconst 0, 1) := by decide +kernel
theorem dX3_copy_133 : decode cX3_copy 133 = .ok (.aload_n 1, 1) := by decide +kernel
theorem dX3_copy_134 : decode cX3_copy 134 = .ok (.getfield 37, 3) := by decide +kernel
theorem dX3_copy_137 : decode cX3_copy 137 = .ok (.iconst 0, 1) := by decide +kernel
theorem dX3_copy_138 : decode cX3_copy 138 = .ok (.bipush 80, 2) := by decide +kernel
theorem dX3_copy_140 : decode cX3_copy 140 = .ok (.invokestatic 60, 3) := by decide +kernel
theorem dX3_copy_143 : decode cX3_copy 143 = .ok (.aload_n 0, 1) := by decide +kernel
theorem dX3_copy_144 : decode cX3_copy 144 = .ok (.getfield 40, 3) := by decide +kernel
theorem dX3_copy_147 : decode cX3_copy 147 = .ok (.iconst 0, 1) := by decide +kernel
theorem dX3_copy_148 : decode cX3_copy 148 = .ok (.aload_n 1, 1) := by decide +kernel
theorem dX3_copy_149 : decode cX3_copy 149 = .ok (.getfield 40, 3) := by decide +kernel
theorem dX3_copy_152 : decode cX3_copy 152 = .ok (.iconst 0, 1) := by decide +kernel
theorem dX3_copy_153 : decode cX3_copy 153 = .ok (.bipush 8, 2) := by decide +kernel
theorem dX3_copy_155 : decode cX3_copy 155 = .ok (.invokestatic 60, 3) := by decide +kernel
theorem dX3_copy_158 : decode cX3_copy 158 = .ok (.aload_n 1, 1) := by decide +kernel
theorem dX3_copy_159 : decode cX3_copy 159 = .ok (.aload_n 0, 1) := by decide +kernel
theorem dX3_copy_160 : decode cX3_copy 160 = .ok (.getfield 66, 3) := by decide +kernel
theorem dX3_copy_163 : decode cX3_copy 163 = .ok (.putfield 66, 3) := by decide +kernel
theorem dX3_copy_166 : decode cX3_copy 166 = .ok (.aload_n 1, 1) := by decide +kernel
theorem dX3_copy_167 : decode cX3_copy 167 = .ok (.aload_n 0, 1) := by decide +kernel
theorem dX3_copy_168 : decode cX3_copy 168 = .ok (.getfield 43, 3) := by decide +kernel
theorem dX3_copy_171 : decode cX3_copy 171 = .ok (.putfield 43, 3) := by decide +kernel
theorem dX3_copy_174 : decode cX3_copy 174 = .ok (.return_, 1) := by decide +kernel
theorem dX3_isTeam_0 : decode cX3_isTeam 0 = .ok (.iload_n 1, 1) := by decide +kernel
theorem dX3_isTeam_1 : decode cX3_isTeam 1 = .ok (.ifCond .lt 21, 3) := by decide +kernel
theorem dX3_isTeam_4 : decode cX3_isTeam 4 = .ok (.iload_n 1, 1) := by decide +kernel
theorem dX3_isTeam_5 : decode cX3_isTeam 5 = .ok (.aload_n 0, 1) := by decide +kernel
theorem dX3_isTeam_6 : decode cX3_isTeam 6 = .ok (.getfield 66, 3) := by decide +kernel
theorem dX3_isTeam_9 : decode cX3_isTeam 9 = .ok (.if_icmp .ge 13, 3) := by decide +kernel
theorem dX3_isTeam_12 : decode cX3_isTeam 12 = .ok (.iload_n 1, 1) := by decide +kernel
theorem dX3_isTeam_13 : decode cX3_isTeam 13 = .ok (.bipush 10, 2) := by decide +kernel
theorem dX3_isTeam_15 : decode cX3_isTeam 15 = .ok (.if_icmp .ge 7, 3) := by decide +kernel
theorem dX3_isTeam_18 : decode cX3_isTeam 18 = .ok (.iconst 1, 1) := by decide +kernel
theorem dX3_isTeam_19 : decode cX3_isTeam 19 = .ok (.goto 4, 3) := by decide +kernel
theorem dX3_isTeam_22 : decode cX3_isTeam 22 = .ok (.iconst 0, 1) := by decide +kernel
theorem dX3_isTeam_23 : decode cX3_isTeam 23 = .ok (.ireturn, 1) := by decide +kernel
theorem dX3_isOpen_0 : decode cX3_isOpen 0 = .ok (.aload_n 0, 1) := by decide +kernel
theorem dX3_isOpen_1 : decode cX3_isOpen 1 = .ok (.getfield 27, 3) := by decide +kernel
theorem dX3_isOpen_4 : decode cX3_isOpen 4 = .ok (.iload_n 1, 1) := by decide +kernel
theorem dX3_isOpen_5 : decode cX3_isOpen 5 = .ok (.laload, 1) := by decide +kernel
theorem dX3_isOpen_6 : decode cX3_isOpen 6 = .ok (.ldc2_w 55, 3) := by decide +kernel
theorem dX3_isOpen_9 : decode cX3_isOpen 9 = .ok (.lcmp, 1) := by decide +kernel
theorem dX3_isOpen_10 : decode cX3_isOpen 10 = .ok (.ifCond .ne 7, 3) := by decide +kernel
theorem dX3_isOpen_13 : decode cX3_isOpen 13 = .ok (.iconst 1, 1) := by decide +kernel
theorem dX3_isOpen_14 : decode cX3_isOpen 14 = .ok (.goto 4, 3) := by decide +kernel
theorem dX3_isOpen_17 : decode cX3_isOpen 17 = .ok (.iconst 0, 1) := by decide +kernel
theorem dX3_isOpen_18 : decode cX3_isOpen 18 = .ok (.ireturn, 1) := by decide +kernel
set_option maxRecDepth 20000 in
theorem ggX3_hasSheet_X4_indexOf : GoodIn wsX3_hasSheet wsX4_indexOf := goodIn_r _ [5] (by decide +kernel) (by decide +kernel)
set_option maxRecDepth 20000 in
theorem gX3_hasSheet_X4_indexOf_n69 : GoodIn wsX3_hasSheet (wsX4_indexOf) := ggX3_hasSheet_X4_indexOf
theorem dX3_hasSheet_0 : decode cX3_hasSheet 0 = .ok (.aload_n 0, 1) := by decide +kernel
theorem dX3_hasSheet_1 : decode cX3_hasSheet 1 = .ok (.getfield 31, 3) := by decide +kernel
theorem dX3_hasSheet_4 : decode cX3_hasSheet 4 = .ok (.iload_n 1, 1) := by decide +kernel
theorem dX3_hasSheet_5 : decode cX3_hasSheet 5 = .ok (.iload_n 2, 1) := by decide +kernel
theorem dX3_hasSheet_6 : decode cX3_hasSheet 6 = .ok (.invokestatic 69, 3) := by decide +kernel
theorem dX3_hasSheet_9 : decode cX3_hasSheet 9 = .ok (.laload, 1) := by decide +kernel
theorem dX3_hasSheet_10 : decode cX3_hasSheet 10 = .ok (.ldc2_w 55, 3) := by decide +kernel
theorem dX3_hasSheet_13 : decode cX3_hasSheet 13 = .ok (.lcmp, 1) := by decide +kernel
theorem dX3_hasSheet_14 : decode cX3_hasSheet 14 = .ok (.ifCond .eq 7, 3) := by decide +kernel
theorem dX3_hasSheet_17 : decode cX3_hasSheet 17 = .ok (.iconst 1, 1) := by decide +kernel
theorem dX3_hasSheet_18 : decode cX3_hasSheet 18 = .ok (.goto 4, 3) := by decide +kernel
theorem dX3_hasSheet_21 : decode cX3_hasSheet 21 = .ok (.iconst 0, 1) := by decide +kernel
theorem dX3_hasSheet_22 : decode cX3_hasSheet 22 = .ok (.ireturn, 1) := by decide +kernel
set_option maxRecDepth 20000 in
theorem ggX3_isTold_X3_markerOf : GoodIn wsX3_isTold wsX3_markerOf := goodIn_r _ [5, 6, 7, 8, 9, 10, 11, 12, 13, 14, 15, 16, 17, 18, 19, 20, 21] (by decide +kernel) (by decide +kernel)
set_option maxRecDepth 20000 in
theorem gX3_isTold_X3_markerOf : GoodIn wsX3_isTold (wsV RX3 73 RX3 yX3_markerOf wsX3_markerOf) := goodIn_app (goodIn_of _ (by decide +kernel)) ggX3_isTold_X3_markerOf
theorem dX3_isTold_0 : decode cX3_isTold 0 = .ok (.aload_n 0, 1) := by decide +kernel
theorem dX3_isTold_1 : decode cX3_isTold 1 = .ok (.iload_n 1, 1) := by decide +kernel
theorem dX3_isTold_2 : decode cX3_isTold 2 = .ok (.iload_n 2, 1) := by decide +kernel
theorem dX3_isTold_3 : decode cX3_isTold 3 = .ok (.invokevirtual 73, 3) := by decide +kernel
theorem dX3_isTold_6 : decode cX3_isTold 6 = .ok (.bipush (-6), 2) := by decide +kernel
theorem dX3_isTold_8 : decode cX3_isTold 8 = .ok (.if_icmp .eq 7, 3) := by decide +kernel
theorem dX3_isTold_11 : decode cX3_isTold 11 = .ok (.iconst 1, 1) := by decide +kernel
theorem dX3_isTold_12 : decode cX3_isTold 12 = .ok (.goto 4, 3) := by decide +kernel
theorem dX3_isTold_15 : decode cX3_isTold 15 = .ok (.iconst 0, 1) := by decide +kernel
theorem dX3_isTold_16 : decode cX3_isTold 16 = .ok (.ireturn, 1) := by decide +kernel
theorem dX3_isLooked_0 : decode cX3_isLooked 0 = .ok (.aload_n 0, 1) := by decide +kernel
theorem dX3_isLooked_1 : decode cX3_isLooked 1 = .ok (.getfield 40, 3) := by decide +kernel
theorem dX3_isLooked_4 : decode cX3_isLooked 4 = .ok (.iload_n 2, 1) := by decide +kernel
theorem dX3_isLooked_5 : decode cX3_isLooked 5 = .ok (.iaload, 1) := by decide +kernel
theorem dX3_isLooked_6 : decode cX3_isLooked 6 = .ok (.iconst 1, 1) := by decide +kernel
theorem dX3_isLooked_7 : decode cX3_isLooked 7 = .ok (.iload_n 1, 1) := by decide +kernel
theorem dX3_isLooked_8 : decode cX3_isLooked 8 = .ok (.ishl, 1) := by decide +kernel
theorem dX3_isLooked_9 : decode cX3_isLooked 9 = .ok (.iand, 1) := by decide +kernel
theorem dX3_isLooked_10 : decode cX3_isLooked 10 = .ok (.ifCond .eq 7, 3) := by decide +kernel
theorem dX3_isLooked_13 : decode cX3_isLooked 13 = .ok (.iconst 1, 1) := by decide +kernel
theorem dX3_isLooked_14 : decode cX3_isLooked 14 = .ok (.goto 4, 3) := by decide +kernel
theorem dX3_isLooked_17 : decode cX3_isLooked 17 = .ok (.iconst 0, 1) := by decide +kernel
theorem dX3_isLooked_18 : decode cX3_isLooked 18 = .ok (.ireturn, 1) := by decide +kernel
set_option maxRecDepth 20000 in
theorem ggX3_markerOf_X4_indexOf : GoodIn wsX3_markerOf wsX4_indexOf := goodIn_r _ [4] (by decide +kernel) (by decide +kernel)
set_option maxRecDepth 20000 in
theorem gX3_markerOf_X4_indexOf_n69 : GoodIn wsX3_markerOf (wsX4_indexOf) := ggX3_markerOf_X4_indexOf
theorem dX3_markerOf_0 : decode cX3_markerOf 0 = .ok (.aload_n 0, 1) := by decide +kernel
theorem dX3_markerOf_1 : decode cX3_markerOf 1 = .ok (.getfield 37, 3) := by decide +kernel
theorem dX3_markerOf_4 : decode cX3_markerOf 4 = .ok (.iload_n 1, 1) := by decide +kernel
theorem dX3_markerOf_5 : decode cX3_markerOf 5 = .ok (.iload_n 2, 1) := by decide +kernel
theorem dX3_markerOf_6 : decode cX3_markerOf 6 = .ok (.invokestatic 69, 3) := by decide +kernel
theorem dX3_markerOf_9 : decode cX3_markerOf 9 = .ok (.iaload, 1) := by decide +kernel
theorem dX3_markerOf_10 : decode cX3_markerOf 10 = .ok (.ireturn, 1) := by decide +kernel
set_option maxRecDepth 20000 in
theorem ggX3_markOf_X4_indexOf : GoodIn wsX3_markOf wsX4_indexOf := goodIn_r _ [4] (by decide +kernel) (by decide +kernel)
set_option maxRecDepth 20000 in
theorem gX3_markOf_X4_indexOf_n69 : GoodIn wsX3_markOf (wsX4_indexOf) := ggX3_markOf_X4_indexOf
theorem dX3_markOf_0 : decode cX3_markOf 0 = .ok (.aload_n 0, 1) := by decide +kernel
theorem dX3_markOf_1 : decode cX3_markOf 1 = .ok (.getfield 34, 3) := by decide +kernel
theorem dX3_markOf_4 : decode cX3_markOf 4 = .ok (.iload_n 1, 1) := by decide +kernel
theorem dX3_markOf_5 : decode cX3_markOf 5 = .ok (.iload_n 2, 1) := by decide +kernel
theorem dX3_markOf_6 : decode cX3_markOf 6 = .ok (.invokestatic 69, 3) := by decide +kernel
theorem dX3_markOf_9 : decode cX3_markOf 9 = .ok (.iaload, 1) := by decide +kernel
theorem dX3_markOf_10 : decode cX3_markOf 10 = .ok (.ireturn, 1) := by decide +kernel
set_option maxRecDepth 20000 in
theorem ggX3_isWrong_X3_isTold : GoodIn wsX3_isWrong wsX3_isTold := goodIn_r _ [5, 6, 7, 8, 4, 9, 10, 11, 12, 13, 35, 36, 37, 38, 39, 40, 41, 42, 43, 44, 45, 46] (by decide +kernel) (by decide +kernel)
set_option maxRecDepth 20000 in
theorem gX3_isWrong_X3_isTold : GoodIn wsX3_isWrong (wsV RX3 76 RX3 yX3_isTold wsX3_isTold) := goodIn_app (goodIn_of _ (by decide +kernel)) ggX3_isWrong_X3_isTold
set_option maxRecDepth 20000 in
theorem ggX3_isWrong_X3_isLooked : GoodIn wsX3_isWrong wsX3_isLooked := goodIn_r _ [17, 18, 35, 36, 37, 38, 39, 40, 41, 42, 43, 44, 45, 46] (by decide +kernel) (by decide +kernel)
set_option maxRecDepth 20000 in
theorem gX3_isWrong_X3_isLooked : GoodIn wsX3_isWrong (wsV RX3 80 RX3 yX3_isLooked wsX3_isLooked) := goodIn_app (goodIn_of _ (by decide +kernel)) ggX3_isWrong_X3_isLooked
set_option maxRecDepth 20000 in
theorem ggX3_isWrong_X3_markOf : GoodIn wsX3_isWrong wsX3_markOf := goodIn_r _ [22, 23, 11, 12, 13, 35, 36, 37, 38, 39, 40, 41, 42, 43, 44, 45, 46] (by decide +kernel) (by decide +kernel)
set_option maxRecDepth 20000 in
theorem gX3_isWrong_X3_markOf : GoodIn wsX3_isWrong (wsV RX3 83 RX3 yX3_markOf wsX3_markOf) := goodIn_app (goodIn_of _ (by decide +kernel)) ggX3_isWrong_X3_markOf
set_option maxRecDepth 20000 in
theorem ggX3_isWrong_X3_trueMark : GoodIn wsX3_isWrong wsX3_trueMark := goodIn_r _ [27, 28, 29, 30, 11, 12, 13, 31, 32, 33, 34, 35, 36, 37, 38, 39, 40, 41, 42, 43, 44, 45, 46] (by decide +kernel) (by decide +kernel)
set_option maxRecDepth 20000 in
theorem gX3_isWrong_X3_trueMark : GoodIn wsX3_isWrong (wsV RX3 86 RX3 yX3_trueMark wsX3_trueMark) := goodIn_app (goodIn_of _ (by decide +kernel)) ggX3_isWrong_X3_trueMark
theorem dX3_isWrong_0 : decode cX3_isWrong 0 = .ok (.aload_n 0, 1) := by decide +kernel
theorem dX3_isWrong_1 : decode cX3_isWrong 1 = .ok (.iload_n 1, 1) := by decide +kernel
theorem dX3_isWrong_2 : decode cX3_isWrong 2 = .ok (.iload_n 2, 1) := by decide +kernel
theorem dX3_isWrong_3 : decode cX3_isWrong 3 = .ok (.invokevirtual 76, 3) := by decide +kernel
theorem dX3_isWrong_6 : decode cX3_isWrong 6 = .ok (.ifCond .eq 31, 3) := by decide +kernel
theorem dX3_isWrong_9 : decode cX3_isWrong 9 = .ok (.aload_n 0, 1) := by decide +kernel
theorem dX3_isWrong_10 : decode cX3_isWrong 10 = .ok (.iload_n 1, 1) := by decide +kernel
theorem dX3_isWrong_11 : decode cX3_isWrong 11 = .ok (.iload_n 2, 1) := by decide +kernel
theorem dX3_isWrong_12 : decode cX3_isWrong 12 = .ok (.invokevirtual 80, 3) := by decide +kernel
theorem dX3_isWrong_15 : decode cX3_isWrong 15 = .ok (.ifCond .ne 22, 3) := by decide +kernel
theorem dX3_isWrong_18 : decode cX3_isWrong 18 = .ok (.aload_n 0, 1) := by decide +kernel
theorem dX3_isWrong_19 : decode cX3_isWrong 19 = .ok (.iload_n 1, 1) := by decide +kernel
theorem dX3_isWrong_20 : decode cX3_isWrong 20 = .ok (.iload_n 2, 1) := by decide +kernel
theorem dX3_isWrong_21 : decode cX3_isWrong 21 = .ok (.invokevirtual 83, 3) := by decide +kernel
theorem dX3_isWrong_24 : decode cX3_isWrong 24 = .ok (.aload_n 0, 1) := by decide +kernel
theorem dX3_isWrong_25 : decode cX3_isWrong 25 = .ok (.iload_n 1, 1) := by decide +kernel
theorem dX3_isWrong_26 : decode cX3_isWrong 26 = .ok (.iload_n 2, 1) := by decide +kernel
theorem dX3_isWrong_27 : decode cX3_isWrong 27 = .ok (.invokevirtual 86, 3) := by decide +kernel
theorem dX3_isWrong_30 : decode cX3_isWrong 30 = .ok (.if_icmp .eq 7, 3) := by decide +kernel
theorem dX3_isWrong_33 : decode cX3_isWrong 33 = .ok (.iconst 1, 1) := by decide +kernel
theorem dX3_isWrong_34 : decode cX3_isWrong 34 = .ok (.goto 4, 3) := by decide +kernel
theorem dX3_isWrong_37 : decode cX3_isWrong 37 = .ok (.iconst 0, 1) := by decide +kernel
theorem dX3_isWrong_38 : decode cX3_isWrong 38 = .ok (.ireturn, 1) := by decide +kernel
set_option maxRecDepth 20000 in
theorem ggX3_trueMark_X4_indexOf : GoodIn wsX3_trueMark wsX4_indexOf := goodIn_r _ [6] (by decide +kernel) (by decide +kernel)
set_option maxRecDepth 20000 in
theorem gX3_trueMark_X4_indexOf_n69 : GoodIn wsX3_trueMark (wsX4_indexOf) := ggX3_trueMark_X4_indexOf
set_option maxRecDepth 20000 in
theorem ggX3_trueMark_X2_signAt : GoodIn wsX3_trueMark wsX2_signAt := goodIn_r _ [10] (by decide +kernel) (by decide +kernel)
set_option maxRecDepth 20000 in
theorem gX3_trueMark_X2_signAt : GoodIn wsX3_trueMark (va_wsS RX3 89 yX2_signAt wsX2_signAt) := goodIn_app (goodIn_of _ (by decide +kernel)) ggX3_trueMark_X2_signAt
theorem dX3_trueMark_0 : decode cX3_trueMark 0 = .ok (.aload_n 0, 1) := by decide +kernel
theorem dX3_trueMark_1 : decode cX3_trueMark 1 = .ok (.getfield 31, 3) := by decide +kernel
theorem dX3_trueMark_4 : decode cX3_trueMark 4 = .ok (.iload_n 1, 1) := by decide +kernel
theorem dX3_trueMark_5 : decode cX3_trueMark 5 = .ok (.iload_n 2, 1) := by decide +kernel
theorem dX3_trueMark_6 : decode cX3_trueMark 6 = .ok (.invokestatic 69, 3) := by decide +kernel
theorem dX3_trueMark_9 : decode cX3_trueMark 9 = .ok (.laload, 1) := by decide +kernel
theorem dX3_trueMark_10 : decode cX3_trueMark 10 = .ok (.lstore_n 3, 1) := by decide +kernel
theorem dX3_trueMark_11 : decode cX3_trueMark 11 = .ok (.aload_n 0, 1) := by decide +kernel
theorem dX3_trueMark_12 : decode cX3_trueMark 12 = .ok (.getfield 27, 3) := by decide +kernel
theorem dX3_trueMark_15 : decode cX3_trueMark 15 = .ok (.iload_n 2, 1) := by decide +kernel
theorem dX3_trueMark_16 : decode cX3_trueMark 16 = .ok (.laload, 1) := by decide +kernel
theorem dX3_trueMark_17 : decode cX3_trueMark 17 = .ok (.lstore 5, 2) := by decide +kernel
theorem dX3_trueMark_19 : decode cX3_trueMark 19 = .ok (.iconst 0, 1) := by decide +kernel
theorem dX3_trueMark_20 : decode cX3_trueMark 20 = .ok (.istore 7, 2) := by decide +kernel
theorem dX3_trueMark_22 : decode cX3_trueMark 22 = .ok (.iconst 0, 1) := by decide +kernel
theorem dX3_trueMark_23 : decode cX3_trueMark 23 = .ok (.istore 8, 2) := by decide +kernel
theorem dX3_trueMark_25 : decode cX3_trueMark 25 = .ok (.iload 8, 2) := by decide +kernel
theorem dX3_trueMark_27 : decode cX3_trueMark 27 = .ok (.bipush 10, 2) := by decide +kernel
theorem dX3_trueMark_29 : decode cX3_trueMark 29 = .ok (.if_icmp .ge 53, 3) := by decide +kernel
theorem dX3_trueMark_32 : decode cX3_trueMark 32 = .ok (.lload_n 3, 1) := by decide +kernel
theorem dX3_trueMark_33 : decode cX3_trueMark 33 = .ok (.iload 8, 2) := by decide +kernel
theorem dX3_trueMark_35 : decode cX3_trueMark 35 = .ok (.invokestatic 89, 3) := by decide +kernel
theorem dX3_trueMark_38 : decode cX3_trueMark 38 = .ok (.istore 9, 2) := by decide +kernel
theorem dX3_trueMark_40 : decode cX3_trueMark 40 = .ok (.iload 9, 2) := by decide +kernel
theorem dX3_trueMark_42 : decode cX3_trueMark 42 = .ok (.lload 5, 2) := by decide +kernel
theorem dX3_trueMark_44 : decode cX3_trueMark 44 = .ok (.iload 8, 2) := by decide +kernel
theorem dX3_trueMark_46 : decode cX3_trueMark 46 = .ok (.invokestatic 89, 3) := by decide +kernel
theorem dX3_trueMark_49 : decode cX3_trueMark 49 = .ok (.if_icmp .ne 9, 3) := by decide +kernel
theorem dX3_trueMark_52 : decode cX3_trueMark 52 = .ok (.iinc 7 1, 3) := by decide +kernel
theorem dX3_trueMark_55 : decode cX3_trueMark 55 = .ok (.goto 21, 3) := by decide +kernel
theorem dX3_trueMark_58 : decode cX3_trueMark 58 = .ok (.iload 9, 2) := by decide +kernel
theorem dX3_trueMark_60 : decode cX3_trueMark 60 = .ok (.bipush 15, 2) := by decide +kernel
theorem dX3_trueMark_62 : decode cX3_trueMark 62 = .ok (.if_icmp .eq 14, 3) := by decide +kernel
theorem dX3_trueMark_65 : decode cX3_trueMark 65 = .ok (.iload 7, 2) := by decide +kernel
theorem dX3_trueMark_67 : decode cX3_trueMark 67 = .ok (.aload_n 0, 1) := by decide +kernel
theorem dX3_trueMark_68 : decode cX3_trueMark 68 = .ok (.getfield 9, 3) := by decide +kernel
theorem dX3_trueMark_71 : decode cX3_trueMark 71 = .ok (.iconst 2, 1) := by decide +kernel
theorem dX3_trueMark_72 : decode cX3_trueMark 72 = .ok (.iaload, 1) := by decide +kernel
theorem dX3_trueMark_73 : decode cX3_trueMark 73 = .ok (.isub, 1) := by decide +kernel
theorem dX3_trueMark_74 : decode cX3_trueMark 74 = .ok (.istore 7, 2) := by decide +kernel
theorem dX3_trueMark_76 : decode cX3_trueMark 76 = .ok (.iinc 8 1, 3) := by decide +kernel
theorem dX3_trueMark_79 : decode cX3_trueMark 79 = .ok (.goto (-54), 3) := by decide +kernel
theorem dX3_trueMark_82 : decode cX3_trueMark 82 = .ok (.iload 7, 2) := by decide +kernel
theorem dX3_trueMark_84 : decode cX3_trueMark 84 = .ok (.ireturn, 1) := by decide +kernel
set_option maxRecDepth 20000 in
theorem ggX3_answered_X4_indexOf : GoodIn wsX3_answered wsX4_indexOf := goodIn_r _ [4] (by decide +kernel) (by decide +kernel)
set_option maxRecDepth 20000 in
theorem gX3_answered_X4_indexOf_n69 : GoodIn wsX3_answered (wsX4_indexOf) := ggX3_answered_X4_indexOf
set_option maxRecDepth 20000 in
theorem ggX3_answered_X2_signAt : GoodIn wsX3_answered wsX2_signAt := goodIn_r _ [8] (by decide +kernel) (by decide +kernel)
set_option maxRecDepth 20000 in
theorem gX3_answered_X2_signAt : GoodIn wsX3_answered (va_wsS RX3 89 yX2_signAt wsX2_signAt) := goodIn_app (goodIn_of _ (by decide +kernel)) ggX3_answered_X2_signAt
theorem dX3_answered_0 : decode cX3_answered 0 = .ok (.aload_n 0, 1) := by decide +kernel
theorem dX3_answered_1 : decode cX3_answered 1 = .ok (.getfield 31, 3) := by decide +kernel
theorem dX3_answered_4 : decode cX3_answered 4 = .ok (.iload_n 1, 1) := by decide +kernel
theorem dX3_answered_5 : decode cX3_answered 5 = .ok (.iload_n 2, 1) := by decide +kernel
theorem dX3_answered_6 : decode cX3_answered 6 = .ok (.invokestatic 69, 3) := by decide +kernel
theorem dX3_answered_9 : decode cX3_answered 9 = .ok (.laload, 1) := by decide +kernel
theorem dX3_answered_10 : decode cX3_answered 10 = .ok (.lstore_n 3, 1) := by decide +kernel
theorem dX3_answered_11 : decode cX3_answered 11 = .ok (.iconst 0, 1) := by decide +kernel
theorem dX3_answered_12 : decode cX3_answered 12 = .ok (.istore 5, 2) := by decide +kernel
theorem dX3_answered_14 : decode cX3_answered 14 = .ok (.iconst 0, 1) := by decide +kernel
theorem dX3_answered_15 : decode cX3_answered 15 = .ok (.istore 6, 2) := by decide +kernel
theorem dX3_answered_17 : decode cX3_answered 17 = .ok (.iload 6, 2) := by decide +kernel
theorem dX3_answered_19 : decode cX3_answered 19 = .ok (.bipush 10, 2) := by decide +kernel
theorem dX3_answered_21 : decode cX3_answered 21 = .ok (.if_icmp .ge 23, 3) := by decide +kernel
theorem dX3_answered_24 : decode cX3_answered 24 = .ok (.lload_n 3, 1) := by decide +kernel
theorem dX3_answered_25 : decode cX3_answered 25 = .ok (.iload 6, 2) := by decide +kernel
theorem dX3_answered_27 : decode cX3_answered 27 = .ok (.invokestatic 89, 3) := by decide +kernel
theorem dX3_answered_30 : decode cX3_answered 30 = .ok (.bipush 15, 2) := by decide +kernel
theorem dX3_answered_32 : decode cX3_answered 32 = .ok (.if_icmp .eq 6, 3) := by decide +kernel
theorem dX3_answered_35 : decode cX3_answered 35 = .ok (.iinc 5 1, 3) := by decide +kernel
theorem dX3_answered_38 : decode cX3_answered 38 = .ok (.iinc 6 1, 3) := by decide +kernel
theorem dX3_answered_41 : decode cX3_answered 41 = .ok (.goto (-24), 3) := by decide +kernel
theorem dX3_answered_44 : decode cX3_answered 44 = .ok (.iload 5, 2) := by decide +kernel
theorem dX3_answered_46 : decode cX3_answered 46 = .ok (.ireturn, 1) := by decide +kernel
set_option maxRecDepth 20000 in
theorem ggX3_addFine_X3_isTeam : GoodIn wsX3_addFine wsX3_isTeam := goodIn_r _ [6, 7, 8, 9, 10, 11, 12, 13, 14, 15, 16, 17, 18, 19] (by decide +kernel) (by decide +kernel)
set_option maxRecDepth 20000 in
theorem gX3_addFine_X3_isTeam : GoodIn wsX3_addFine (wsV RX3 93 RX3 yX3_isTeam wsX3_isTeam) := goodIn_app (goodIn_of _ (by decide +kernel)) ggX3_addFine_X3_isTeam
theorem dX3_addFine_0 : decode cX3_addFine 0 = .ok (.aload_n 0, 1) := by decide +kernel
theorem dX3_addFine_1 : decode cX3_addFine 1 = .ok (.iload_n 1, 1) := by decide +kernel
theorem dX3_addFine_2 : decode cX3_addFine 2 = .ok (.invokevirtual 93, 3) := by decide +kernel
theorem dX3_addFine_5 : decode cX3_addFine 5 = .ok (.ifCond .eq 13, 3) := by decide +kernel
theorem dX3_addFine_8 : decode cX3_addFine 8 = .ok (.aload_n 0, 1) := by decide +kernel
theorem dX3_addFine_9 : decode cX3_addFine 9 = .ok (.getfield 21, 3) := by decide +kernel
theorem dX3_addFine_12 : decode cX3_addFine 12 = .ok (.iload_n 1, 1) := by decide +kernel
theorem dX3_addFine_13 : decode cX3_addFine 13 = .ok (.dup2, 1) := by decide +kernel
theorem dX3_addFine_14 : decode cX3_addFine 14 = .ok (.iaload, 1) := by decide +kernel
theorem dX3_addFine_15 : decode cX3_addFine 15 = .ok (.iconst 1, 1) := by decide +kernel
theorem dX3_addFine_16 : decode cX3_addFine 16 = .ok (.iadd, 1) := by decide +kernel
theorem dX3_addFine_17 : decode cX3_addFine 17 = .ok (.iastore, 1) := by decide +kernel
theorem dX3_addFine_18 : decode cX3_addFine 18 = .ok (.return_, 1) := by decide +kernel
set_option maxRecDepth 20000 in
theorem ggX3_openRounds_X3_isOpen : GoodIn wsX3_openRounds wsX3_isOpen := goodIn_r _ [5, 6, 7, 8, 9, 10, 11, 12, 13, 14, 15, 16, 17, 18, 19] (by decide +kernel) (by decide +kernel)
set_option maxRecDepth 20000 in
theorem gX3_openRounds_X3_isOpen : GoodIn wsX3_openRounds (wsV RX3 97 RX3 yX3_isOpen wsX3_isOpen) := goodIn_app (goodIn_of _ (by decide +kernel)) ggX3_openRounds_X3_isOpen
theorem dX3_openRounds_0 : decode cX3_openRounds 0 = .ok (.iconst 0, 1) := by decide +kernel
theorem dX3_openRounds_1 : decode cX3_openRounds 1 = .ok (.istore_n 1, 1) := by decide +kernel
theorem dX3_openRounds_2 : decode cX3_openRounds 2 = .ok (.iconst 0, 1) := by decide +kernel
theorem dX3_openRounds_3 : decode cX3_openRounds 3 = .ok (.istore_n 2, 1) := by decide +kernel
theorem dX3_openRounds_4 : decode cX3_openRounds 4 = .ok (.iload_n 2, 1) := by decide +kernel
theorem dX3_openRounds_5 : decode cX3_openRounds 5 = .ok (.bipush 8, 2) := by decide +kernel
theorem dX3_openRounds_7 : decode cX3_openRounds 7 = .ok (.if_icmp .ge 27, 3) := by decide +kernel
theorem dX3_openRounds_10 : decode cX3_openRounds 10 = .ok (.iload_n 1, 1) := by decide +kernel
theorem dX3_openRounds_11 : decode cX3_openRounds 11 = .ok (.aload_n 0, 1) := by decide +kernel
theorem dX3_openRounds_12 : decode cX3_openRounds 12 = .ok (.iload_n 2, 1) := by decide +kernel
theorem dX3_openRounds_13 : decode cX3_openRounds 13 = .ok (.invokevirtual 97, 3) := by decide +kernel
theorem dX3_openRounds_16 : decode cX3_openRounds 16 = .ok (.ifCond .eq 9, 3) := by decide +kernel
theorem dX3_openRounds_19 : decode cX3_openRounds 19 = .ok (.iconst 1, 1) := by decide +kernel
theorem dX3_openRounds_20 : decode cX3_openRounds 20 = .ok (.iload_n 2, 1) := by decide +kernel
theorem dX3_openRounds_21 : decode cX3_openRounds 21 = .ok (.ishl, 1) := by decide +kernel
theorem dX3_openRounds_22 : decode cX3_openRounds 22 = .ok (.goto 4, 3) := by decide +kernel
theorem dX3_openRounds_25 : decode cX3_openRounds 25 = .ok (.iconst 0, 1) := by decide +kernel
theorem dX3_openRounds_26 : decode cX3_openRounds 26 = .ok (.ior, 1) := by decide +kernel
theorem dX3_openRounds_27 : decode cX3_openRounds 27 = .ok (.istore_n 1, 1) := by decide +kernel
theorem dX3_openRounds_28 : decode cX3_openRounds 28 = .ok (.iinc 2 1, 3) := by decide +kernel
theorem dX3_openRounds_31 : decode cX3_openRounds 31 = .ok (.goto (-27), 3) := by decide +kernel
theorem dX3_openRounds_34 : decode cX3_openRounds 34 = .ok (.iload_n 1, 1) := by decide +kernel
theorem dX3_openRounds_35 : decode cX3_openRounds 35 = .ok (.ireturn, 1) := by decide +kernel
set_option maxRecDepth 20000 in
theorem ggX3_roundsWithSheet_X3_hasSheet : GoodIn wsX3_roundsWithSheet wsX3_hasSheet := goodIn_r _ [5, 6, 7, 8, 9, 10, 11, 12, 13, 14, 15, 16, 17, 18, 19, 20, 21, 22] (by decide +kernel) (by decide +kernel)
set_option maxRecDepth 20000 in
theorem gX3_roundsWithSheet_X3_hasSheet : GoodIn wsX3_roundsWithSheet (wsV RX3 100 RX3 yX3_hasSheet wsX3_hasSheet) := goodIn_app (goodIn_of _ (by decide +kernel)) ggX3_roundsWithSheet_X3_hasSheet
theorem dX3_roundsWithSheet_0 : decode cX3_roundsWithSheet 0 = .ok (.iconst 0, 1) := by decide +kernel
theorem dX3_roundsWithSheet_1 : decode cX3_roundsWithSheet 1 = .ok (.istore_n 2, 1) := by decide +kernel
theorem dX3_roundsWithSheet_2 : decode cX3_roundsWithSheet 2 = .ok (.iconst 0, 1) := by decide +kernel
theorem dX3_roundsWithSheet_3 : decode cX3_roundsWithSheet 3 = .ok (.istore_n 3, 1) := by decide +kernel
theorem dX3_roundsWithSheet_4 : decode cX3_roundsWithSheet 4 = .ok (.iload_n 3, 1) := by decide +kernel
theorem dX3_roundsWithSheet_5 : decode cX3_roundsWithSheet 5 = .ok (.bipush 8, 2) := by decide +kernel
theorem dX3_roundsWithSheet_7 : decode cX3_roundsWithSheet 7 = .ok (.if_icmp .ge 28, 3) := by decide +kernel
theorem dX3_roundsWithSheet_10 : decode cX3_roundsWithSheet 10 = .ok (.iload_n 2, 1) := by decide +kernel
theorem dX3_roundsWithSheet_11 : decode cX3_roundsWithSheet 11 = .ok (.aload_n 0, 1) := by decide +kernel
theorem dX3_roundsWithSheet_12 : decode cX3_roundsWithSheet 12 = .ok (.iload_n 1, 1) := by decide +kernel
theorem dX3_roundsWithSheet_13 : decode cX3_roundsWithSheet 13 = .ok (.iload_n 3, 1) := by decide +kernel
theorem dX3_roundsWithSheet_14 : decode cX3_roundsWithSheet 14 = .ok (.invokevirtual 100, 3) := by decide +kernel
theorem dX3_roundsWithSheet_17 : decode cX3_roundsWithSheet 17 = .ok (.ifCond .eq 9, 3) := by decide +kernel
theorem dX3_roundsWithSheet_20 : decode cX3_roundsWithSheet 20 = .ok (.iconst 1, 1) := by decide +kernel
theorem dX3_roundsWithSheet_21 : decode cX3_roundsWithSheet 21 = .ok (.iload_n 3, 1) := by decide +kernel
theorem dX3_roundsWithSheet_22 : decode cX3_roundsWithSheet 22 = .ok (.ishl, 1) := by decide +kernel
theorem dX3_roundsWithSheet_23 : decode cX3_roundsWithSheet 23 = .ok (.goto 4, 3) := by decide +kernel
theorem dX3_roundsWithSheet_26 : decode cX3_roundsWithSheet 26 = .ok (.iconst 0, 1) := by decide +kernel
theorem dX3_roundsWithSheet_27 : decode cX3_roundsWithSheet 27 = .ok (.ior, 1) := by decide +kernel
theorem dX3_roundsWithSheet_28 : decode cX3_roundsWithSheet 28 = .ok (.istore_n 2, 1) := by decide +kernel
theorem dX3_roundsWithSheet_29 : decode cX3_roundsWithSheet 29 = .ok (.iinc 3 1, 3) := by decide +kernel
theorem dX3_roundsWithSheet_32 : decode cX3_roundsWithSheet 32 = .ok (.goto (-28), 3) := by decide +kernel
theorem dX3_roundsWithSheet_35 : decode cX3_roundsWithSheet 35 = .ok (.iload_n 2, 1) := by decide +kernel
theorem dX3_roundsWithSheet_36 : decode cX3_roundsWithSheet 36 = .ok (.ireturn, 1) := by decide +kernel
set_option maxRecDepth 20000 in
theorem ggX3_roundsTold_X3_isTold : GoodIn wsX3_roundsTold wsX3_isTold := goodIn_r _ [5, 6, 7, 8, 4, 9, 10, 11, 12, 13, 14, 15, 16, 17, 18, 19, 20, 21, 22, 23, 24, 25] (by decide +kernel) (by decide +kernel)
set_option maxRecDepth 20000 in
theorem gX3_roundsTold_X3_isTold : GoodIn wsX3_roundsTold (wsV RX3 76 RX3 yX3_isTold wsX3_isTold) := goodIn_app (goodIn_of _ (by decide +kernel)) ggX3_roundsTold_X3_isTold
theorem dX3_roundsTold_0 : decode cX3_roundsTold 0 = .ok (.iconst 0, 1) := by decide +kernel
theorem dX3_roundsTold_1 : decode cX3_roundsTold 1 = .ok (.istore_n 2, 1) := by decide +kernel
theorem dX3_roundsTold_2 : decode cX3_roundsTold 2 = .ok (.iconst 0, 1) := by decide +kernel
theorem dX3_roundsTold_3 : decode cX3_roundsTold 3 = .ok (.istore_n 3, 1) := by decide +kernel
theorem dX3_roundsTold_4 : decode cX3_roundsTold 4 = .ok (.iload_n 3, 1) := by decide +kernel
theorem dX3_roundsTold_5 : decode cX3_roundsTold 5 = .ok (.bipush 8, 2) := by decide +kernel
theorem dX3_roundsTold_7 : decode cX3_roundsTold 7 = .ok (.if_icmp .ge 28, 3) := by decide +kernel
theorem dX3_roundsTold_10 : decode cX3_roundsTold 10 = .ok (.iload_n 2, 1) := by decide +kernel
theorem dX3_roundsTold_11 : decode cX3_roundsTold 11 = .ok (.aload_n 0, 1) := by decide +kernel
theorem dX3_roundsTold_12 : decode cX3_roundsTold 12 = .ok (.iload_n 1, 1) := by decide +kernel
theorem dX3_roundsTold_13 : decode cX3_roundsTold 13 = .ok (.iload_n 3, 1) := by decide +kernel
theorem dX3_roundsTold_14 : decode cX3_roundsTold 14 = .ok (.invokevirtual 76, 3) := by decide +kernel
theorem dX3_roundsTold_17 : decode cX3_roundsTold 17 = .ok (.ifCond .eq 9, 3) := by decide +kernel
theorem dX3_roundsTold_20 : decode cX3_roundsTold 20 = .ok (.iconst 1, 1) := by decide +kernel
theorem dX3_roundsTold_21 : decode cX3_roundsTold 21 = .ok (.iload_n 3, 1) := by decide +kernel
theorem dX3_roundsTold_22 : decode cX3_roundsTold 22 = .ok (.ishl, 1) := by decide +kernel
theorem dX3_roundsTold_23 : decode cX3_roundsTold 23 = .ok (.goto 4, 3) := by decide +kernel
theorem dX3_roundsTold_26 : decode cX3_roundsTold 26 = .ok (.iconst 0, 1) := by decide +kernel
theorem dX3_roundsTold_27 : decode cX3_roundsTold 27 = .ok (.ior, 1) := by decide +kernel
theorem dX3_roundsTold_28 : decode cX3_roundsTold 28 = .ok (.istore_n 2, 1) := by decide +kernel
theorem dX3_roundsTold_29 : decode cX3_roundsTold 29 = .ok (.iinc 3 1, 3) := by decide +kernel
theorem dX3_roundsTold_32 : decode cX3_roundsTold 32 = .ok (.goto (-28), 3) := by decide +kernel
theorem dX3_roundsTold_35 : decode cX3_roundsTold 35 = .ok (.iload_n 2, 1) := by decide +kernel
theorem dX3_roundsTold_36 : decode cX3_roundsTold 36 = .ok (.ireturn, 1) := by decide +kernel
set_option maxRecDepth 20000 in
theorem ggX3_teamsWithSheet_X3_hasSheet : GoodIn wsX3_teamsWithSheet wsX3_hasSheet := goodIn_r _ [6, 7, 8, 9, 10, 11, 12, 13, 14, 15, 16, 17, 18, 19, 20, 21, 22, 23] (by decide +kernel) (by decide +kernel)
set_option maxRecDepth 20000 in
theorem gX3_teamsWithSheet_X3_hasSheet : GoodIn wsX3_teamsWithSheet (wsV RX3 100 RX3 yX3_hasSheet wsX3_hasSheet) := goodIn_app (goodIn_of _ (by decide +kernel)) ggX3_teamsWithSheet_X3_hasSheet
theorem dX3_teamsWithSheet_0 : decode cX3_teamsWithSheet 0 = .ok (.iconst 0, 1) := by decide +kernel
theorem dX3_teamsWithSheet_1 : decode cX3_teamsWithSheet 1 = .ok (.istore_n 2, 1) := by decide +kernel
theorem dX3_teamsWithSheet_2 : decode cX3_teamsWithSheet 2 = .ok (.iconst 0, 1) := by decide +kernel
theorem dX3_teamsWithSheet_3 : decode cX3_teamsWithSheet 3 = .ok (.istore_n 3, 1) := by decide +kernel
theorem dX3_teamsWithSheet_4 : decode cX3_teamsWithSheet 4 = .ok (.iload_n 3, 1) := by decide +kernel
theorem dX3_teamsWithSheet_5 : decode cX3_teamsWithSheet 5 = .ok (.aload_n 0, 1) := by decide +kernel
theorem dX3_teamsWithSheet_6 : decode cX3_teamsWithSheet 6 = .ok (.getfield 66, 3) := by decide +kernel
theorem dX3_teamsWithSheet_9 : decode cX3_teamsWithSheet 9 = .ok (.if_icmp .ge 28, 3) := by decide +kernel
theorem dX3_teamsWithSheet_12 : decode cX3_teamsWithSheet 12 = .ok (.iload_n 2, 1) := by decide +kernel
theorem dX3_teamsWithSheet_13 : decode cX3_teamsWithSheet 13 = .ok (.aload_n 0, 1) := by decide +kernel
theorem dX3_teamsWithSheet_14 : decode cX3_teamsWithSheet 14 = .ok (.iload_n 3, 1) := by decide +kernel
theorem dX3_teamsWithSheet_15 : decode cX3_teamsWithSheet 15 = .ok (.iload_n 1, 1) := by decide +kernel
theorem dX3_teamsWithSheet_16 : decode cX3_teamsWithSheet 16 = .ok (.invokevirtual 100, 3) := by decide +kernel
theorem dX3_teamsWithSheet_19 : decode cX3_teamsWithSheet 19 = .ok (.ifCond .eq 9, 3) := by decide +kernel
theorem dX3_teamsWithSheet_22 : decode cX3_teamsWithSheet 22 = .ok (.iconst 1, 1) := by decide +kernel
theorem dX3_teamsWithSheet_23 : decode cX3_teamsWithSheet 23 = .ok (.iload_n 3, 1) := by decide +kernel
theorem dX3_teamsWithSheet_24 : decode cX3_teamsWithSheet 24 = .ok (.ishl, 1) := by decide +kernel
theorem dX3_teamsWithSheet_25 : decode cX3_teamsWithSheet 25 = .ok (.goto 4, 3) := by decide +kernel
theorem dX3_teamsWithSheet_28 : decode cX3_teamsWithSheet 28 = .ok (.iconst 0, 1) := by decide +kernel
theorem dX3_teamsWithSheet_29 : decode cX3_teamsWithSheet 29 = .ok (.ior, 1) := by decide +kernel
theorem dX3_teamsWithSheet_30 : decode cX3_teamsWithSheet 30 = .ok (.istore_n 2, 1) := by decide +kernel
theorem dX3_teamsWithSheet_31 : decode cX3_teamsWithSheet 31 = .ok (.iinc 3 1, 3) := by decide +kernel
theorem dX3_teamsWithSheet_34 : decode cX3_teamsWithSheet 34 = .ok (.goto (-30), 3) := by decide +kernel
theorem dX3_teamsWithSheet_37 : decode cX3_teamsWithSheet 37 = .ok (.iload_n 2, 1) := by decide +kernel
theorem dX3_teamsWithSheet_38 : decode cX3_teamsWithSheet 38 = .ok (.ireturn, 1) := by decide +kernel
theorem dX3_teamsWithJoker_0 : decode cX3_teamsWithJoker 0 = .ok (.iconst 0, 1) := by decide +kernel
theorem dX3_teamsWithJoker_1 : decode cX3_teamsWithJoker 1 = .ok (.istore_n 2, 1) := by decide +kernel
theorem dX3_teamsWithJoker_2 : decode cX3_teamsWithJoker 2 = .ok (.iconst 0, 1) := by decide +kernel
theorem dX3_teamsWithJoker_3 : decode cX3_teamsWithJoker 3 = .ok (.istore_n 3, 1) := by decide +kernel
theorem dX3_teamsWithJoker_4 : decode cX3_teamsWithJoker 4 = .ok (.iload_n 3, 1) := by decide +kernel
theorem dX3_teamsWithJoker_5 : decode cX3_teamsWithJoker 5 = .ok (.aload_n 0, 1) := by decide +kernel
theorem dX3_teamsWithJoker_6 : decode cX3_teamsWithJoker 6 = .ok (.getfield 66, 3) := by decide +kernel
theorem dX3_teamsWithJoker_9 : decode cX3_teamsWithJoker 9 = .ok (.if_icmp .ge 29, 3) := by decide +kernel
theorem dX3_teamsWithJoker_12 : decode cX3_teamsWithJoker 12 = .ok (.iload_n 2, 1) := by decide +kernel
theorem dX3_teamsWithJoker_13 : decode cX3_teamsWithJoker 13 = .ok (.aload_n 0, 1) := by decide +kernel
theorem dX3_teamsWithJoker_14 : decode cX3_teamsWithJoker 14 = .ok (.getfield 18, 3) := by decide +kernel
theorem dX3_teamsWithJoker_17 : decode cX3_teamsWithJoker 17 = .ok (.iload_n 3, 1) := by decide +kernel
theorem dX3_teamsWithJoker_18 : decode cX3_teamsWithJoker 18 = .ok (.iaload, 1) := by decide +kernel
theorem dX3_teamsWithJoker_19 : decode cX3_teamsWithJoker 19 = .ok (.iload_n 1, 1) := by decide +kernel
theorem dX3_teamsWithJoker_20 : decode cX3_teamsWithJoker 20 = .ok (.if_icmp .ne 9, 3) := by decide +kernel
theorem dX3_teamsWithJoker_23 : decode cX3_teamsWithJoker 23 = .ok (.iconst 1, 1) := by decide +kernel
theorem dX3_teamsWithJoker_24 : decode cX3_teamsWithJoker 24 = .ok (.iload_n 3, 1) := by decide +kernel
theorem dX3_teamsWithJoker_25 : decode cX3_teamsWithJoker 25 = .ok (.ishl, 1) := by decide +kernel
theorem dX3_teamsWithJoker_26 : decode cX3_teamsWithJoker 26 = .ok (.goto 4, 3) := by decide +kernel
theorem dX3_teamsWithJoker_29 : decode cX3_teamsWithJoker 29 = .ok (.iconst 0, 1) := by decide +kernel
theorem dX3_teamsWithJoker_30 : decode cX3_teamsWithJoker 30 = .ok (.ior, 1) := by decide +kernel
theorem dX3_teamsWithJoker_31 : decode cX3_teamsWithJoker 31 = .ok (.istore_n 2, 1) := by decide +kernel
theorem dX3_teamsWithJoker_32 : decode cX3_teamsWithJoker 32 = .ok (.iinc 3 1, 3) := by decide +kernel
theorem dX3_teamsWithJoker_35 : decode cX3_teamsWithJoker 35 = .ok (.goto (-31), 3) := by decide +kernel
theorem dX3_teamsWithJoker_38 : decode cX3_teamsWithJoker 38 = .ok (.iload_n 2, 1) := by decide +kernel
theorem dX3_teamsWithJoker_39 : decode cX3_teamsWithJoker 39 = .ok (.ireturn, 1) := by decide +kernel
set_option maxRecDepth 20000 in
theorem ggX3_teamsTold_X3_isTold : GoodIn wsX3_teamsTold wsX3_isTold := goodIn_r _ [6, 7, 8, 9, 5, 10, 11, 12, 13, 14, 15, 16, 17, 18, 19, 20, 21, 22, 23, 24, 25, 26] (by decide +kernel) (by decide +kernel)
set_option maxRecDepth 20000 in
theorem gX3_teamsTold_X3_isTold : GoodIn wsX3_teamsTold (wsV RX3 76 RX3 yX3_isTold wsX3_isTold) := goodIn_app (goodIn_of _ (by decide +kernel)) ggX3_teamsTold_X3_isTold
theorem dX3_teamsTold_0 : decode cX3_teamsTold 0 = .ok (.iconst 0, 1) := by decide +kernel
theorem dX3_teamsTold_1 : decode cX3_teamsTold 1 = .ok (.istore_n 2, 1) := by decide +kernel
theorem dX3_teamsTold_2 : decode cX3_teamsTold 2 = .ok (.iconst 0, 1) := by decide +kernel
theorem dX3_teamsTold_3 : decode cX3_teamsTold 3 = .ok (.istore_n 3, 1) := by decide +kernel
theorem dX3_teamsTold_4 : decode cX3_teamsTold 4 = .ok (.iload_n 3, 1) := by decide +kernel
theorem dX3_teamsTold_5 : decode cX3_teamsTold 5 = .ok (.aload_n 0, 1) := by decide +kernel
theorem dX3_teamsTold_6 : decode cX3_teamsTold 6 = .ok (.getfield 66, 3) := by decide +kernel
theorem dX3_teamsTold_9 : decode cX3_teamsTold 9 = .ok (.if_icmp .ge 28, 3) := by decide +kernel
theorem dX3_teamsTold_12 : decode cX3_teamsTold 12 = .ok (.iload_n 2, 1) := by decide +kernel
theorem dX3_teamsTold_13 : decode cX3_teamsTold 13 = .ok (.aload_n 0, 1) := by decide +kernel
theorem dX3_teamsTold_14 : decode cX3_teamsTold 14 = .ok (.iload_n 3, 1) := by decide +kernel
theorem dX3_teamsTold_15 : decode cX3_teamsTold 15 = .ok (.iload_n 1, 1) := by decide +kernel
theorem dX3_teamsTold_16 : decode cX3_teamsTold 16 = .ok (.invokevirtual 76, 3) := by decide +kernel
theorem dX3_teamsTold_19 : decode cX3_teamsTold 19 = .ok (.ifCond .eq 9, 3) := by decide +kernel
theorem dX3_teamsTold_22 : decode cX3_teamsTold 22 = .ok (.iconst 1, 1) := by decide +kernel
theorem dX3_teamsTold_23 : decode cX3_teamsTold 23 = .ok (.iload_n 3, 1) := by decide +kernel
theorem dX3_teamsTold_24 : decode cX3_teamsTold 24 = .ok (.ishl, 1) := by decide +kernel
theorem dX3_teamsTold_25 : decode cX3_teamsTold 25 = .ok (.goto 4, 3) := by decide +kernel
theorem dX3_teamsTold_28 : decode cX3_teamsTold 28 = .ok (.iconst 0, 1) := by decide +kernel
theorem dX3_teamsTold_29 : decode cX3_teamsTold 29 = .ok (.ior, 1) := by decide +kernel
theorem dX3_teamsTold_30 : decode cX3_teamsTold 30 = .ok (.istore_n 2, 1) := by decide +kernel
theorem dX3_teamsTold_31 : decode cX3_teamsTold 31 = .ok (.iinc 3 1, 3) := by decide +kernel
theorem dX3_teamsTold_34 : decode cX3_teamsTold 34 = .ok (.goto (-30), 3) := by decide +kernel
theorem dX3_teamsTold_37 : decode cX3_teamsTold 37 = .ok (.iload_n 2, 1) := by decide +kernel
theorem dX3_teamsTold_38 : decode cX3_teamsTold 38 = .ok (.ireturn, 1) := by decide +kernel
theorem dX3_withJoker_0 : decode cX3_withJoker 0 = .ok (.aload_n 0, 1) := by decide +kernel
theorem dX3_withJoker_1 : decode cX3_withJoker 1 = .ok (.getfield 18, 3) := by decide +kernel
theorem dX3_withJoker_4 : decode cX3_withJoker 4 = .ok (.iload_n 1, 1) := by decide +kernel
theorem dX3_withJoker_5 : decode cX3_withJoker 5 = .ok (.iaload, 1) := by decide +kernel
theorem dX3_withJoker_6 : decode cX3_withJoker 6 = .ok (.iload_n 2, 1) := by decide +kernel
theorem dX3_withJoker_7 : decode cX3_withJoker 7 = .ok (.if_icmp .ne 9, 3) := by decide +kernel
theorem dX3_withJoker_10 : decode cX3_withJoker 10 = .ok (.iconst 2, 1) := by decide +kernel
theorem dX3_withJoker_11 : decode cX3_withJoker 11 = .ok (.iload_n 3, 1) := by decide +kernel
theorem dX3_withJoker_12 : decode cX3_withJoker 12 = .ok (.imul, 1) := by decide +kernel
theorem dX3_withJoker_13 : decode cX3_withJoker 13 = .ok (.goto 4, 3) := by decide +kernel
theorem dX3_withJoker_16 : decode cX3_withJoker 16 = .ok (.iload_n 3, 1) := by decide +kernel
theorem dX3_withJoker_17 : decode cX3_withJoker 17 = .ok (.ireturn, 1) := by decide +kernel
set_option maxRecDepth 20000 in
theorem ggX3_pointsOf_X4_indexOf : GoodIn wsX3_pointsOf wsX4_indexOf := goodIn_r _ [5] (by decide +kernel) (by decide +kernel)
set_option maxRecDepth 20000 in
theorem gX3_pointsOf_X4_indexOf_n69 : GoodIn wsX3_pointsOf (wsX4_indexOf) := ggX3_pointsOf_X4_indexOf
set_option maxRecDepth 20000 in
theorem ggX3_pointsOf_X3_withJoker : GoodIn wsX3_pointsOf wsX3_withJoker := goodIn_r _ [10, 11, 12, 13, 14, 15, 16, 17, 18, 19, 20, 21, 22, 23] (by decide +kernel) (by decide +kernel)
set_option maxRecDepth 20000 in
theorem gX3_pointsOf_X3_withJoker : GoodIn wsX3_pointsOf (wsV RX3 103 RX3 yX3_withJoker wsX3_withJoker) := goodIn_app (goodIn_of _ (by decide +kernel)) ggX3_pointsOf_X3_withJoker
theorem dX3_pointsOf_0 : decode cX3_pointsOf 0 = .ok (.iload_n 1, 1) := by decide +kernel
theorem dX3_pointsOf_1 : decode cX3_pointsOf 1 = .ok (.iload_n 2, 1) := by decide +kernel
theorem dX3_pointsOf_2 : decode cX3_pointsOf 2 = .ok (.invokestatic 69, 3) := by decide +kernel
theorem dX3_pointsOf_5 : decode cX3_pointsOf 5 = .ok (.istore_n 3, 1) := by decide +kernel
theorem dX3_pointsOf_6 : decode cX3_pointsOf 6 = .ok (.aload_n 0, 1) := by decide +kernel
theorem dX3_pointsOf_7 : decode cX3_pointsOf 7 = .ok (.getfield 37, 3) := by decide +kernel
theorem dX3_pointsOf_10 : decode cX3_pointsOf 10 = .ok (.iload_n 3, 1) := by decide +kernel
theorem dX3_pointsOf_11 : decode cX3_pointsOf 11 = .ok (.iaload, 1) := by decide +kernel
theorem dX3_pointsOf_12 : decode cX3_pointsOf 12 = .ok (.bipush (-6), 2) := by decide +kernel
theorem dX3_pointsOf_14 : decode cX3_pointsOf 14 = .ok (.if_icmp .ne 7, 3) := by decide +kernel
theorem dX3_pointsOf_17 : decode cX3_pointsOf 17 = .ok (.iconst 0, 1) := by decide +kernel
theorem dX3_pointsOf_18 : decode cX3_pointsOf 18 = .ok (.goto 15, 3) := by decide +kernel
theorem dX3_pointsOf_21 : decode cX3_pointsOf 21 = .ok (.aload_n 0, 1) := by decide +kernel
theorem dX3_pointsOf_22 : decode cX3_pointsOf 22 = .ok (.iload_n 1, 1) := by decide +kernel
theorem dX3_pointsOf_23 : decode cX3_pointsOf 23 = .ok (.iload_n 2, 1) := by decide +kernel
theorem dX3_pointsOf_24 : decode cX3_pointsOf 24 = .ok (.aload_n 0, 1) := by decide +kernel
theorem dX3_pointsOf_25 : decode cX3_pointsOf 25 = .ok (.getfield 34, 3) := by decide +kernel
theorem dX3_pointsOf_28 : decode cX3_pointsOf 28 = .ok (.iload_n 3, 1) := by decide +kernel
theorem dX3_pointsOf_29 : decode cX3_pointsOf 29 = .ok (.iaload, 1) := by decide +kernel
theorem dX3_pointsOf_30 : decode cX3_pointsOf 30 = .ok (.invokevirtual 103, 3) := by decide +kernel
theorem dX3_pointsOf_33 : decode cX3_pointsOf 33 = .ok (.ireturn, 1) := by decide +kernel
set_option maxRecDepth 20000 in
theorem ggX3_greatestPoints_X3_pointsOf : GoodIn wsX3_greatestPoints wsX3_pointsOf := goodIn_r _ [10, 11, 12, 13, 14, 15, 16, 17, 18, 9, 19, 20, 21, 22, 23, 24, 25, 26, 27, 28, 29, 30, 31, 32] (by decide +kernel) (by decide +kernel)
set_option maxRecDepth 20000 in
theorem gX3_greatestPoints_X3_pointsOf : GoodIn wsX3_greatestPoints (wsV RX3 107 RX3 yX3_pointsOf wsX3_pointsOf) := goodIn_app (goodIn_of _ (by decide +kernel)) ggX3_greatestPoints_X3_pointsOf
theorem dX3_greatestPoints_0 : decode cX3_greatestPoints 0 = .ok (.aload_n 0, 1) := by decide +kernel
theorem dX3_greatestPoints_1 : decode cX3_greatestPoints 1 = .ok (.iconst 0, 1) := by decide +kernel
theorem dX3_greatestPoints_2 : decode cX3_greatestPoints 2 = .ok (.iload_n 1, 1) := by decide +kernel
theorem dX3_greatestPoints_3 : decode cX3_greatestPoints 3 = .ok (.invokevirtual 107, 3) := by decide +kernel
theorem dX3_greatestPoints_6 : decode cX3_greatestPoints 6 = .ok (.istore_n 2, 1) := by decide +kernel
theorem dX3_greatestPoints_7 : decode cX3_greatestPoints 7 = .ok (.iconst 1, 1) := by decide +kernel
theorem dX3_greatestPoints_8 : decode cX3_greatestPoints 8 = .ok (.istore_n 3, 1) := by decide +kernel
theorem dX3_greatestPoints_9 : decode cX3_greatestPoints 9 = .ok (.iload_n 3, 1) := by decide +kernel
theorem dX3_greatestPoints_10 : decode cX3_greatestPoints 10 = .ok (.aload_n 0, 1) := by decide +kernel
theorem dX3_greatestPoints_11 : decode cX3_greatestPoints 11 = .ok (.getfield 66, 3) := by decide +kernel
theorem dX3_greatestPoints_14 : decode cX3_greatestPoints 14 = .ok (.if_icmp .ge 20, 3) := by decide +kernel
theorem dX3_greatestPoints_17 : decode cX3_greatestPoints 17 = .ok (.iload_n 2, 1) := by decide +kernel
theorem dX3_greatestPoints_18 : decode cX3_greatestPoints 18 = .ok (.aload_n 0, 1) := by decide +kernel
theorem dX3_greatestPoints_19 : decode cX3_greatestPoints 19 = .ok (.iload_n 3, 1) := by decide +kernel
theorem dX3_greatestPoints_20 : decode cX3_greatestPoints 20 = .ok (.iload_n 1, 1) := by decide +kernel
theorem dX3_greatestPoints_21 : decode cX3_greatestPoints 21 = .ok (.invokevirtual 107, 3) := by decide +kernel
theorem dX3_greatestPoints_24 : decode cX3_greatestPoints 24 = .ok (.invokestatic 110, 3) := by decide +kernel
theorem dX3_greatestPoints_27 : decode cX3_greatestPoints 27 = .ok (.istore_n 2, 1) := by decide +kernel
theorem dX3_greatestPoints_28 : decode cX3_greatestPoints 28 = .ok (.iinc 3 1, 3) := by decide +kernel
theorem dX3_greatestPoints_31 : decode cX3_greatestPoints 31 = .ok (.goto (-22), 3) := by decide +kernel
theorem dX3_greatestPoints_34 : decode cX3_greatestPoints 34 = .ok (.iload_n 2, 1) := by decide +kernel
theorem dX3_greatestPoints_35 : decode cX3_greatestPoints 35 = .ok (.ireturn, 1) := by decide +kernel
set_option maxRecDepth 20000 in
theorem ggX3_scoreOf_X3_pointsOf : GoodIn wsX3_scoreOf wsX3_pointsOf := goodIn_r _ [7, 8, 9, 10, 11, 12, 13, 14, 15, 6, 16, 17, 18, 19, 20, 21, 22, 23, 24, 25, 26, 27, 28, 29] (by decide +kernel) (by decide +kernel)
set_option maxRecDepth 20000 in
theorem gX3_scoreOf_X3_pointsOf : GoodIn wsX3_scoreOf (wsV RX3 107 RX3 yX3_pointsOf wsX3_pointsOf) := goodIn_app (goodIn_of _ (by decide +kernel)) ggX3_scoreOf_X3_pointsOf
theorem dX3_scoreOf_0 : decode cX3_scoreOf 0 = .ok (.aload_n 0, 1) := by decide +kernel
theorem dX3_scoreOf_1 : decode cX3_scoreOf 1 = .ok (.getfield 9, 3) := by decide +kernel
theorem dX3_scoreOf_4 : decode cX3_scoreOf 4 = .ok (.iconst 3, 1) := by decide +kernel
theorem dX3_scoreOf_5 : decode cX3_scoreOf 5 = .ok (.iaload, 1) := by decide +kernel
theorem dX3_scoreOf_6 : decode cX3_scoreOf 6 = .ok (.ineg, 1) := by decide +kernel
theorem dX3_scoreOf_7 : decode cX3_scoreOf 7 = .ok (.aload_n 0, 1) := by decide +kernel
theorem dX3_scoreOf_8 : decode cX3_scoreOf 8 = .ok (.getfield 21, 3) := by decide +kernel
theorem dX3_scoreOf_11 : decode cX3_scoreOf 11 = .ok (.iload_n 1, 1) := by decide +kernel
theorem dX3_scoreOf_12 : decode cX3_scoreOf 12 = .ok (.iaload, 1) := by decide +kernel
theorem dX3_scoreOf_13 : decode cX3_scoreOf 13 = .ok (.imul, 1) := by decide +kernel
theorem dX3_scoreOf_14 : decode cX3_scoreOf 14 = .ok (.istore_n 2, 1) := by decide +kernel
theorem dX3_scoreOf_15 : decode cX3_scoreOf 15 = .ok (.iconst 0, 1) := by decide +kernel
theorem dX3_scoreOf_16 : decode cX3_scoreOf 16 = .ok (.istore_n 3, 1) := by decide +kernel
theorem dX3_scoreOf_17 : decode cX3_scoreOf 17 = .ok (.iload_n 3, 1) := by decide +kernel
theorem dX3_scoreOf_18 : decode cX3_scoreOf 18 = .ok (.bipush 8, 2) := by decide +kernel
theorem dX3_scoreOf_20 : decode cX3_scoreOf 20 = .ok (.if_icmp .ge 18, 3) := by decide +kernel
theorem dX3_scoreOf_23 : decode cX3_scoreOf 23 = .ok (.iload_n 2, 1) := by decide +kernel
theorem dX3_scoreOf_24 : decode cX3_scoreOf 24 = .ok (.aload_n 0, 1) := by decide +kernel
theorem dX3_scoreOf_25 : decode cX3_scoreOf 25 = .ok (.iload_n 1, 1) := by decide +kernel
theorem dX3_scoreOf_26 : decode cX3_scoreOf 26 = .ok (.iload_n 3, 1) := by decide +kernel
theorem dX3_scoreOf_27 : decode cX3_scoreOf 27 = .ok (.invokevirtual 107, 3) := by decide +kernel
theorem dX3_scoreOf_30 : decode cX3_scoreOf 30 = .ok (.iadd, 1) := by decide +kernel
theorem dX3_scoreOf_31 : decode cX3_scoreOf 31 = .ok (.istore_n 2, 1) := by decide +kernel
theorem dX3_scoreOf_32 : decode cX3_scoreOf 32 = .ok (.iinc 3 1, 3) := by decide +kernel
theorem dX3_scoreOf_35 : decode cX3_scoreOf 35 = .ok (.goto (-18), 3) := by decide +kernel
theorem dX3_scoreOf_38 : decode cX3_scoreOf 38 = .ok (.iload_n 2, 1) := by decide +kernel
theorem dX3_scoreOf_39 : decode cX3_scoreOf 39 = .ok (.ireturn, 1) := by decide +kernel
set_option maxRecDepth 20000 in
theorem ggX3_unlikeScores_X3_isFirstWithItsScore : GoodIn wsX3_unlikeScores wsX3_isFirstWithItsScore := goodIn_r _ [6, 7, 8, 9, 5, 10, 11, 12, 13, 14, 15, 16, 17, 18, 19, 20, 21, 22, 23, 24, 25, 26, 27, 28, 29, 30, 31, 32, 33, 34, 35, 36, 37, 38] (by decide +kernel) (by decide +kernel)
set_option maxRecDepth 20000 in
theorem gX3_unlikeScores_X3_isFirstWithItsScore : GoodIn wsX3_unlikeScores (wsV RX3 115 RX3 yX3_isFirstWithItsScore wsX3_isFirstWithItsScore) := goodIn_app (goodIn_of _ (by decide +kernel)) ggX3_unlikeScores_X3_isFirstWithItsScore
theorem dX3_unlikeScores_0 : decode cX3_unlikeScores 0 = .ok (.iconst 0, 1) := by decide +kernel
theorem dX3_unlikeScores_1 : decode cX3_unlikeScores 1 = .ok (.istore_n 1, 1) := by decide +kernel
theorem dX3_unlikeScores_2 : decode cX3_unlikeScores 2 = .ok (.iconst 0, 1) := by decide +kernel
theorem dX3_unlikeScores_3 : decode cX3_unlikeScores 3 = .ok (.istore_n 2, 1) := by decide +kernel
theorem dX3_unlikeScores_4 : decode cX3_unlikeScores 4 = .ok (.iload_n 2, 1) := by decide +kernel
theorem dX3_unlikeScores_5 : decode cX3_unlikeScores 5 = .ok (.aload_n 0, 1) := by decide +kernel
theorem dX3_unlikeScores_6 : decode cX3_unlikeScores 6 = .ok (.getfield 66, 3) := by decide +kernel
theorem dX3_unlikeScores_9 : decode cX3_unlikeScores 9 = .ok (.if_icmp .ge 25, 3) := by decide +kernel
theorem dX3_unlikeScores_12 : decode cX3_unlikeScores 12 = .ok (.iload_n 1, 1) := by decide +kernel
theorem dX3_unlikeScores_13 : decode cX3_unlikeScores 13 = .ok (.aload_n 0, 1) := by decide +kernel
theorem dX3_unlikeScores_14 : decode cX3_unlikeScores 14 = .ok (.iload_n 2, 1) := by decide +kernel
theorem dX3_unlikeScores_15 : decode cX3_unlikeScores 15 = .ok (.invokevirtual 115, 3) := by decide +kernel
theorem dX3_unlikeScores_18 : decode cX3_unlikeScores 18 = .ok (.ifCond .eq 7, 3) := by decide +kernel
theorem dX3_unlikeScores_21 : decode cX3_unlikeScores 21 = .ok (.iconst 1, 1) := by decide +kernel
theorem dX3_unlikeScores_22 : decode cX3_unlikeScores 22 = .ok (.goto 4, 3) := by decide +kernel
theorem dX3_unlikeScores_25 : decode cX3_unlikeScores 25 = .ok (.iconst 0, 1) := by decide +kernel
theorem dX3_unlikeScores_26 : decode cX3_unlikeScores 26 = .ok (.iadd, 1) := by decide +kernel
theorem dX3_unlikeScores_27 : decode cX3_unlikeScores 27 = .ok (.istore_n 1, 1) := by decide +kernel
theorem dX3_unlikeScores_28 : decode cX3_unlikeScores 28 = .ok (.iinc 2 1, 3) := by decide +kernel
theorem dX3_unlikeScores_31 : decode cX3_unlikeScores 31 = .ok (.goto (-27), 3) := by decide +kernel
theorem dX3_unlikeScores_34 : decode cX3_unlikeScores 34 = .ok (.iload_n 1, 1) := by decide +kernel
theorem dX3_unlikeScores_35 : decode cX3_unlikeScores 35 = .ok (.ireturn, 1) := by decide +kernel
set_option maxRecDepth 20000 in
theorem ggX3_isFirstWithItsScore_X3_scoreOf : GoodIn wsX3_isFirstWithItsScore wsX3_scoreOf := goodIn_r _ [5, 6, 7, 8, 9, 10, 4, 11, 12, 13, 14, 15, 16, 17, 18, 19, 20, 21, 22, 23, 24, 25, 26, 27, 28, 29, 30, 31, 32, 33] (by decide +kernel) (by decide +kernel)
set_option maxRecDepth 20000 in
theorem gX3_isFirstWithItsScore_X3_scoreOf : GoodIn wsX3_isFirstWithItsScore (wsV RX3 118 RX3 yX3_scoreOf wsX3_scoreOf) := goodIn_app (goodIn_of _ (by decide +kernel)) ggX3_isFirstWithItsScore_X3_scoreOf
theorem dX3_isFirstWithItsScore_0 : decode cX3_isFirstWithItsScore 0 = .ok (.aload_n 0, 1) := by decide +kernel
theorem dX3_isFirstWithItsScore_1 : decode cX3_isFirstWithItsScore 1 = .ok (.iload_n 1, 1) := by decide +kernel
theorem dX3_isFirstWithItsScore_2 : decode cX3_isFirstWithItsScore 2 = .ok (.invokevirtual 118, 3) := by decide +kernel
theorem dX3_isFirstWithItsScore_5 : decode cX3_isFirstWithItsScore 5 = .ok (.istore_n 2, 1) := by decide +kernel
theorem dX3_isFirstWithItsScore_6 : decode cX3_isFirstWithItsScore 6 = .ok (.iconst 0, 1) := by decide +kernel
theorem dX3_isFirstWithItsScore_7 : decode cX3_isFirstWithItsScore 7 = .ok (.istore_n 3, 1) := by decide +kernel
theorem dX3_isFirstWithItsScore_8 : decode cX3_isFirstWithItsScore 8 = .ok (.iload_n 3, 1) := by decide +kernel
theorem dX3_isFirstWithItsScore_9 : decode cX3_isFirstWithItsScore 9 = .ok (.iload_n 1, 1) := by decide +kernel
theorem dX3_isFirstWithItsScore_10 : decode cX3_isFirstWithItsScore 10 = .ok (.if_icmp .ge 20, 3) := by decide +kernel
theorem dX3_isFirstWithItsScore_13 : decode cX3_isFirstWithItsScore 13 = .ok (.aload_n 0, 1) := by decide +kernel
theorem dX3_isFirstWithItsScore_14 : decode cX3_isFirstWithItsScore 14 = .ok (.iload_n 3, 1) := by decide +kernel
theorem dX3_isFirstWithItsScore_15 : decode cX3_isFirstWithItsScore 15 = .ok (.invokevirtual 118, 3) := by decide +kernel
theorem dX3_isFirstWithItsScore_18 : decode cX3_isFirstWithItsScore 18 = .ok (.iload_n 2, 1) := by decide +kernel
theorem dX3_isFirstWithItsScore_19 : decode cX3_isFirstWithItsScore 19 = .ok (.if_icmp .ne 5, 3) := by decide +kernel
theorem dX3_isFirstWithItsScore_22 : decode cX3_isFirstWithItsScore 22 = .ok (.iconst 0, 1) := by decide +kernel
theorem dX3_isFirstWithItsScore_23 : decode cX3_isFirstWithItsScore 23 = .ok (.ireturn, 1) := by decide +kernel
theorem dX3_isFirstWithItsScore_24 : decode cX3_isFirstWithItsScore 24 = .ok (.iinc 3 1, 3) := by decide +kernel
theorem dX3_isFirstWithItsScore_27 : decode cX3_isFirstWithItsScore 27 = .ok (.goto (-19), 3) := by decide +kernel
theorem dX3_isFirstWithItsScore_30 : decode cX3_isFirstWithItsScore 30 = .ok (.iconst 1, 1) := by decide +kernel
theorem dX3_isFirstWithItsScore_31 : decode cX3_isFirstWithItsScore 31 = .ok (.ireturn, 1) := by decide +kernel
theorem dX3_allFines_0 : decode cX3_allFines 0 = .ok (.iconst 0, 1) := by decide +kernel
theorem dX3_allFines_1 : decode cX3_allFines 1 = .ok (.istore_n 1, 1) := by decide +kernel
theorem dX3_allFines_2 : decode cX3_allFines 2 = .ok (.iconst 0, 1) := by decide +kernel
theorem dX3_allFines_3 : decode cX3_allFines 3 = .ok (.istore_n 2, 1) := by decide +kernel
theorem dX3_allFines_4 : decode cX3_allFines 4 = .ok (.iload_n 2, 1) := by decide +kernel
theorem dX3_allFines_5 : decode cX3_allFines 5 = .ok (.aload_n 0, 1) := by decide +kernel
theorem dX3_allFines_6 : decode cX3_allFines 6 = .ok (.getfield 66, 3) := by decide +kernel
theorem dX3_allFines_9 : decode cX3_allFines 9 = .ok (.if_icmp .ge 18, 3) := by decide +kernel
theorem dX3_allFines_12 : decode cX3_allFines 12 = .ok (.iload_n 1, 1) := by decide +kernel
theorem dX3_allFines_13 : decode cX3_allFines 13 = .ok (.aload_n 0, 1) := by decide +kernel
theorem dX3_allFines_14 : decode cX3_allFines 14 = .ok (.getfield 21, 3) := by decide +kernel
theorem dX3_allFines_17 : decode cX3_allFines 17 = .ok (.iload_n 2, 1) := by decide +kernel
theorem dX3_allFines_18 : decode cX3_allFines 18 = .ok (.iaload, 1) := by decide +kernel
theorem dX3_allFines_19 : decode cX3_allFines 19 = .ok (.iadd, 1) := by decide +kernel
theorem dX3_allFines_20 : decode cX3_allFines 20 = .ok (.istore_n 1, 1) := by decide +kernel
theorem dX3_allFines_21 : decode cX3_allFines 21 = .ok (.iinc 2 1, 3) := by decide +kernel
theorem dX3_allFines_24 : decode cX3_allFines 24 = .ok (.goto (-20), 3) := by decide +kernel
theorem dX3_allFines_27 : decode cX3_allFines 27 = .ok (.iload_n 1, 1) := by decide +kernel
theorem dX3_allFines_28 : decode cX3_allFines 28 = .ok (.ireturn, 1) := by decide +kernel
set_option maxRecDepth 20000 in
theorem ggX3_allLooks_J6_bitCount_0f7a4 : GoodIn wsX3_allLooks wsJ6_bitCount_0f7a4 := goodIn_r _ [5, 6, 7, 8] (by decide +kernel) (by decide +kernel)
set_option maxRecDepth 20000 in
theorem gX3_allLooks_J6_bitCount_0f7a4 : GoodIn wsX3_allLooks (va_wsS RX3 122 yJ6_bitCount_0f7a4 wsJ6_bitCount_0f7a4) := goodIn_app (goodIn_of _ (by decide +kernel)) ggX3_allLooks_J6_bitCount_0f7a4
theorem dX3_allLooks_0 : decode cX3_allLooks 0 = .ok (.iconst 0, 1) := by decide +kernel
theorem dX3_allLooks_1 : decode cX3_allLooks 1 = .ok (.istore_n 1, 1) := by decide +kernel
theorem dX3_allLooks_2 : decode cX3_allLooks 2 = .ok (.iconst 0, 1) := by decide +kernel
theorem dX3_allLooks_3 : decode cX3_allLooks 3 = .ok (.istore_n 2, 1) := by decide +kernel
theorem dX3_allLooks_4 : decode cX3_allLooks 4 = .ok (.iload_n 2, 1) := by decide +kernel
theorem dX3_allLooks_5 : decode cX3_allLooks 5 = .ok (.bipush 8, 2) := by decide +kernel
theorem dX3_allLooks_7 : decode cX3_allLooks 7 = .ok (.if_icmp .ge 21, 3) := by decide +kernel
theorem dX3_allLooks_10 : decode cX3_allLooks 10 = .ok (.iload_n 1, 1) := by decide +kernel
theorem dX3_allLooks_11 : decode cX3_allLooks 11 = .ok (.aload_n 0, 1) := by decide +kernel
theorem dX3_allLooks_12 : decode cX3_allLooks 12 = .ok (.getfield 40, 3) := by decide +kernel
theorem dX3_allLooks_15 : decode cX3_allLooks 15 = .ok (.iload_n 2, 1) := by decide +kernel
theorem dX3_allLooks_16 : decode cX3_allLooks 16 = .ok (.iaload, 1) := by decide +kernel
theorem dX3_allLooks_17 : decode cX3_allLooks 17 = .ok (.invokestatic 122, 3) := by decide +kernel
theorem dX3_allLooks_20 : decode cX3_allLooks 20 = .ok (.iadd, 1) := by decide +kernel
theorem dX3_allLooks_21 : decode cX3_allLooks 21 = .ok (.istore_n 1, 1) := by decide +kernel
theorem dX3_allLooks_22 : decode cX3_allLooks 22 = .ok (.iinc 2 1, 3) := by decide +kernel
theorem dX3_allLooks_25 : decode cX3_allLooks 25 = .ok (.goto (-21), 3) := by decide +kernel
theorem dX3_allLooks_28 : decode cX3_allLooks 28 = .ok (.iload_n 1, 1) := by decide +kernel
theorem dX3_allLooks_29 : decode cX3_allLooks 29 = .ok (.ireturn, 1) := by decide +kernel
theorem dX3_guessers_0 : decode cX3_guessers 0 = .ok (.iconst 0, 1) := by decide +kernel
theorem dX3_guessers_1 : decode cX3_guessers 1 = .ok (.istore_n 1, 1) := by decide +kernel
theorem dX3_guessers_2 : decode cX3_guessers 2 = .ok (.iconst 0, 1) := by decide +kernel
theorem dX3_guessers_3 : decode cX3_guessers 3 = .ok (.istore_n 2, 1) := by decide +kernel
theorem dX3_guessers_4 : decode cX3_guessers 4 = .ok (.iload_n 2, 1) := by decide +kernel
theorem dX3_guessers_5 : decode cX3_guessers 5 = .ok (.aload_n 0, 1) := by decide +kernel
theorem dX3_guessers_6 : decode cX3_guessers 6 = .ok (.getfield 66, 3) := by decide +kernel
theorem dX3_guessers_9 : decode cX3_guessers 9 = .ok (.if_icmp .ge 28, 3) := by decide +kernel
theorem dX3_guessers_12 : decode cX3_guessers 12 = .ok (.iload_n 1, 1) := by decide +kernel
theorem dX3_guessers_13 : decode cX3_guessers 13 = .ok (.aload_n 0, 1) := by decide +kernel
theorem dX3_guessers_14 : decode cX3_guessers 14 = .ok (.getfield 24, 3) := by decide +kernel
theorem dX3_guessers_17 : decode cX3_guessers 17 = .ok (.iload_n 2, 1) := by decide +kernel
theorem dX3_guessers_18 : decode cX3_guessers 18 = .ok (.iaload, 1) := by decide +kernel
theorem dX3_guessers_19 : decode cX3_guessers 19 = .ok (.bipush (-6), 2) := by decide +kernel
theorem dX3_guessers_21 : decode cX3_guessers 21 = .ok (.if_icmp .ne 7, 3) := by decide +kernel
theorem dX3_guessers_24 : decode cX3_guessers 24 = .ok (.iconst 0, 1) := by decide +kernel
theorem dX3_guessers_25 : decode cX3_guessers 25 = .ok (.goto 4, 3) := by decide +kernel
theorem dX3_guessers_28 : decode cX3_guessers 28 = .ok (.iconst 1, 1) := by decide +kernel
theorem dX3_guessers_29 : decode cX3_guessers 29 = .ok (.iadd, 1) := by decide +kernel
theorem dX3_guessers_30 : decode cX3_guessers 30 = .ok (.istore_n 1, 1) := by decide +kernel
theorem dX3_guessers_31 : decode cX3_guessers 31 = .ok (.iinc 2 1, 3) := by decide +kernel
theorem dX3_guessers_34 : decode cX3_guessers 34 = .ok (.goto (-30), 3) := by decide +kernel
theorem dX3_guessers_37 : decode cX3_guessers 37 = .ok (.iload_n 1, 1) := by decide +kernel
theorem dX3_guessers_38 : decode cX3_guessers 38 = .ok (.ireturn, 1) := by decide +kernel
theorem dX3_distanceOf_0 : decode cX3_distanceOf 0 = .ok (.aload_n 0, 1) := by decide +kernel
theorem dX3_distanceOf_1 : decode cX3_distanceOf 1 = .ok (.getfield 43, 3) := by decide +kernel
theorem dX3_distanceOf_4 : decode cX3_distanceOf 4 = .ok (.bipush (-6), 2) := by decide +kernel
theorem dX3_distanceOf_6 : decode cX3_distanceOf 6 = .ok (.if_icmp .eq 14, 3) := by decide +kernel
theorem dX3_distanceOf_9 : decode cX3_distanceOf 9 = .ok (.aload_n 0, 1) := by decide +kernel
theorem dX3_distanceOf_10 : decode cX3_distanceOf 10 = .ok (.getfield 24, 3) := by decide +kernel
theorem dX3_distanceOf_13 : decode cX3_distanceOf 13 = .ok (.iload_n 1, 1) := by decide +kernel
theorem dX3_distanceOf_14 : decode cX3_distanceOf 14 = .ok (.iaload, 1) := by decide +kernel
theorem dX3_distanceOf_15 : decode cX3_distanceOf 15 = .ok (.bipush (-6), 2) := by decide +kernel
theorem dX3_distanceOf_17 : decode cX3_distanceOf 17 = .ok (.if_icmp .ne 7, 3) := by decide +kernel
theorem dX3_distanceOf_20 : decode cX3_distanceOf 20 = .ok (.sipush 10000, 3) := by decide +kernel
theorem dX3_distanceOf_23 : decode cX3_distanceOf 23 = .ok (.ireturn, 1) := by decide +kernel
theorem dX3_distanceOf_24 : decode cX3_distanceOf 24 = .ok (.aload_n 0, 1) := by decide +kernel
theorem dX3_distanceOf_25 : decode cX3_distanceOf 25 = .ok (.getfield 24, 3) := by decide +kernel
theorem dX3_distanceOf_28 : decode cX3_distanceOf 28 = .ok (.iload_n 1, 1) := by decide +kernel
theorem dX3_distanceOf_29 : decode cX3_distanceOf 29 = .ok (.iaload, 1) := by decide +kernel
theorem dX3_distanceOf_30 : decode cX3_distanceOf 30 = .ok (.aload_n 0, 1) := by decide +kernel
theorem dX3_distanceOf_31 : decode cX3_distanceOf 31 = .ok (.getfield 43, 3) := by decide +kernel
theorem dX3_distanceOf_34 : decode cX3_distanceOf 34 = .ok (.isub, 1) := by decide +kernel
theorem dX3_distanceOf_35 : decode cX3_distanceOf 35 = .ok (.invokestatic 127, 3) := by decide +kernel
theorem dX3_distanceOf_38 : decode cX3_distanceOf 38 = .ok (.ireturn, 1) := by decide +kernel
set_option maxRecDepth 20000 in
theorem ggX3_isAhead_X3_scoreOf : GoodIn wsX3_isAhead wsX3_scoreOf := goodIn_r _ [5, 6, 7, 8, 9, 10, 4, 11, 12, 13, 14, 15, 16, 17, 18, 19, 20, 21, 32, 33, 34, 35, 36, 37, 38, 39, 40, 41, 42, 43] (by decide +kernel) (by decide +kernel)
set_option maxRecDepth 20000 in
theorem gX3_isAhead_X3_scoreOf : GoodIn wsX3_isAhead (wsV RX3 118 RX3 yX3_scoreOf wsX3_scoreOf) := goodIn_app (goodIn_of _ (by decide +kernel)) ggX3_isAhead_X3_scoreOf
set_option maxRecDepth 20000 in
theorem ggX3_isAhead_X3_distanceOf : GoodIn wsX3_isAhead wsX3_distanceOf := goodIn_r _ [25, 26, 27, 28, 29, 30, 31, 32, 33, 34, 35, 36, 37, 38, 39, 40, 41, 42, 43] (by decide +kernel) (by decide +kernel)
set_option maxRecDepth 20000 in
theorem gX3_isAhead_X3_distanceOf : GoodIn wsX3_isAhead (wsV RX3 130 RX3 yX3_distanceOf wsX3_distanceOf) := goodIn_app (goodIn_of _ (by decide +kernel)) ggX3_isAhead_X3_distanceOf
theorem dX3_isAhead_0 : decode cX3_isAhead 0 = .ok (.aload_n 0, 1) := by decide +kernel
theorem dX3_isAhead_1 : decode cX3_isAhead 1 = .ok (.iload_n 1, 1) := by decide +kernel
theorem dX3_isAhead_2 : decode cX3_isAhead 2 = .ok (.invokevirtual 118, 3) := by decide +kernel
theorem dX3_isAhead_5 : decode cX3_isAhead 5 = .ok (.aload_n 0, 1) := by decide +kernel
theorem dX3_isAhead_6 : decode cX3_isAhead 6 = .ok (.iload_n 2, 1) := by decide +kernel
theorem dX3_isAhead_7 : decode cX3_isAhead 7 = .ok (.invokevirtual 118, 3) := by decide +kernel
theorem dX3_isAhead_10 : decode cX3_isAhead 10 = .ok (.isub, 1) := by decide +kernel
theorem dX3_isAhead_11 : decode cX3_isAhead 11 = .ok (.istore_n 3, 1) := by decide +kernel
theorem dX3_isAhead_12 : decode cX3_isAhead 12 = .ok (.iload_n 3, 1) := by decide +kernel
theorem dX3_isAhead_13 : decode cX3_isAhead 13 = .ok (.ifCond .gt 20, 3) := by decide +kernel
theorem dX3_isAhead_16 : decode cX3_isAhead 16 = .ok (.iload_n 3, 1) := by decide +kernel
theorem dX3_isAhead_17 : decode cX3_isAhead 17 = .ok (.ifCond .ne 20, 3) := by decide +kernel
theorem dX3_isAhead_20 : decode cX3_isAhead 20 = .ok (.aload_n 0, 1) := by decide +kernel
theorem dX3_isAhead_21 : decode cX3_isAhead 21 = .ok (.iload_n 1, 1) := by decide +kernel
theorem dX3_isAhead_22 : decode cX3_isAhead 22 = .ok (.invokevirtual 130, 3) := by decide +kernel
theorem dX3_isAhead_25 : decode cX3_isAhead 25 = .ok (.aload_n 0, 1) := by decide +kernel
theorem dX3_isAhead_26 : decode cX3_isAhead 26 = .ok (.iload_n 2, 1) := by decide +kernel
theorem dX3_isAhead_27 : decode cX3_isAhead 27 = .ok (.invokevirtual 130, 3) := by decide +kernel
theorem dX3_isAhead_30 : decode cX3_isAhead 30 = .ok (.if_icmp .ge 7, 3) := by decide +kernel
theorem dX3_isAhead_33 : decode cX3_isAhead 33 = .ok (.iconst 1, 1) := by decide +kernel
theorem dX3_isAhead_34 : decode cX3_isAhead 34 = .ok (.goto 4, 3) := by decide +kernel
theorem dX3_isAhead_37 : decode cX3_isAhead 37 = .ok (.iconst 0, 1) := by decide +kernel
theorem dX3_isAhead_38 : decode cX3_isAhead 38 = .ok (.ireturn, 1) := by decide +kernel
set_option maxRecDepth 20000 in
theorem ggX3_rankOf_X3_isAhead : GoodIn wsX3_rankOf wsX3_isAhead := goodIn_r _ [6, 7, 8, 9, 5, 10, 11, 12, 13, 14, 15, 16, 17, 18, 19, 20, 21, 22, 23, 24, 25, 26, 27, 28, 29, 30, 31, 32, 33, 34, 35, 36, 37, 38, 39, 40, 41, 42, 43, 44, 45, 46, 47, 48] (by decide +kernel) (by decide +kernel)
set_option maxRecDepth 20000 in
theorem gX3_rankOf_X3_isAhead : GoodIn wsX3_rankOf (wsV RX3 133 RX3 yX3_isAhead wsX3_isAhead) := goodIn_app (goodIn_of _ (by decide +kernel)) ggX3_rankOf_X3_isAhead
theorem dX3_rankOf_0 : decode cX3_rankOf 0 = .ok (.iconst 1, 1) := by decide +kernel
theorem dX3_rankOf_1 : decode cX3_rankOf 1 = .ok (.istore_n 2, 1) := by decide +kernel
theorem dX3_rankOf_2 : decode cX3_rankOf 2 = .ok (.iconst 0, 1) := by decide +kernel
theorem dX3_rankOf_3 : decode cX3_rankOf 3 = .ok (.istore_n 3, 1) := by decide +kernel
theorem dX3_rankOf_4 : decode cX3_rankOf 4 = .ok (.iload_n 3, 1) := by decide +kernel
theorem dX3_rankOf_5 : decode cX3_rankOf 5 = .ok (.aload_n 0, 1) := by decide +kernel
theorem dX3_rankOf_6 : decode cX3_rankOf 6 = .ok (.getfield 66, 3) := by decide +kernel
theorem dX3_rankOf_9 : decode cX3_rankOf 9 = .ok (.if_icmp .ge 26, 3) := by decide +kernel
theorem dX3_rankOf_12 : decode cX3_rankOf 12 = .ok (.iload_n 2, 1) := by decide +kernel
theorem dX3_rankOf_13 : decode cX3_rankOf 13 = .ok (.aload_n 0, 1) := by decide +kernel
theorem dX3_rankOf_14 : decode cX3_rankOf 14 = .ok (.iload_n 3, 1) := by decide +kernel
theorem dX3_rankOf_15 : decode cX3_rankOf 15 = .ok (.iload_n 1, 1) := by decide +kernel
theorem dX3_rankOf_16 : decode cX3_rankOf 16 = .ok (.invokevirtual 133, 3) := by decide +kernel
theorem dX3_rankOf_19 : decode cX3_rankOf 19 = .ok (.ifCond .eq 7, 3) := by decide +kernel
theorem dX3_rankOf_22 : decode cX3_rankOf 22 = .ok (.iconst 1, 1) := by decide +kernel
theorem dX3_rankOf_23 : decode cX3_rankOf 23 = .ok (.goto 4, 3) := by decide +kernel
theorem dX3_rankOf_26 : decode cX3_rankOf 26 = .ok (.iconst 0, 1) := by decide +kernel
theorem dX3_rankOf_27 : decode cX3_rankOf 27 = .ok (.iadd, 1) := by decide +kernel
theorem dX3_rankOf_28 : decode cX3_rankOf 28 = .ok (.istore_n 2, 1) := by decide +kernel
theorem dX3_rankOf_29 : decode cX3_rankOf 29 = .ok (.iinc 3 1, 3) := by decide +kernel
theorem dX3_rankOf_32 : decode cX3_rankOf 32 = .ok (.goto (-28), 3) := by decide +kernel
theorem dX3_rankOf_35 : decode cX3_rankOf 35 = .ok (.iload_n 2, 1) := by decide +kernel
theorem dX3_rankOf_36 : decode cX3_rankOf 36 = .ok (.ireturn, 1) := by decide +kernel
set_option maxRecDepth 20000 in
theorem ggX3_tiedWith_X3_isAhead : GoodIn wsX3_tiedWith wsX3_isAhead := goodIn_r _ [6, 7, 8, 9, 5, 10, 11, 12, 13, 14, 15, 16, 17, 18, 19, 20, 21, 22, 23, 24, 25, 26, 27, 28, 29, 30, 31, 32, 33, 34, 35, 36, 37, 38, 39, 40, 41, 42, 43, 44, 45, 46, 47, 48] (by decide +kernel) (by decide +kernel)
set_option maxRecDepth 20000 in
theorem gX3_tiedWith_X3_isAhead : GoodIn wsX3_tiedWith (wsV RX3 133 RX3 yX3_isAhead wsX3_isAhead) := goodIn_app (goodIn_of _ (by decide +kernel)) ggX3_tiedWith_X3_isAhead
theorem dX3_tiedWith_0 : decode cX3_tiedWith 0 = .ok (.iconst 0, 1) := by decide +kernel
theorem dX3_tiedWith_1 : decode cX3_tiedWith 1 = .ok (.istore_n 2, 1) := by decide +kernel
theorem dX3_tiedWith_2 : decode cX3_tiedWith 2 = .ok (.iconst 0, 1) := by decide +kernel
theorem dX3_tiedWith_3 : decode cX3_tiedWith 3 = .ok (.istore_n 3, 1) := by decide +kernel
theorem dX3_tiedWith_4 : decode cX3_tiedWith 4 = .ok (.iload_n 3, 1) := by decide +kernel
theorem dX3_tiedWith_5 : decode cX3_tiedWith 5 = .ok (.aload_n 0, 1) := by decide +kernel
theorem dX3_tiedWith_6 : decode cX3_tiedWith 6 = .ok (.getfield 66, 3) := by decide +kernel
theorem dX3_tiedWith_9 : decode cX3_tiedWith 9 = .ok (.if_icmp .ge 38, 3) := by decide +kernel
theorem dX3_tiedWith_12 : decode cX3_tiedWith 12 = .ok (.iload_n 3, 1) := by decide +kernel
theorem dX3_tiedWith_13 : decode cX3_tiedWith 13 = .ok (.iload_n 1, 1) := by decide +kernel
theorem dX3_tiedWith_14 : decode cX3_tiedWith 14 = .ok (.if_icmp .eq 27, 3) := by decide +kernel
theorem dX3_tiedWith_17 : decode cX3_tiedWith 17 = .ok (.aload_n 0, 1) := by decide +kernel
theorem dX3_tiedWith_18 : decode cX3_tiedWith 18 = .ok (.iload_n 3, 1) := by decide +kernel
theorem dX3_tiedWith_19 : decode cX3_tiedWith 19 = .ok (.iload_n 1, 1) := by decide +kernel
theorem dX3_tiedWith_20 : decode cX3_tiedWith 20 = .ok (.invokevirtual 133, 3) := by decide +kernel
theorem dX3_tiedWith_23 : decode cX3_tiedWith 23 = .ok (.ifCond .ne 18, 3) := by decide +kernel
theorem dX3_tiedWith_26 : decode cX3_tiedWith 26 = .ok (.aload_n 0, 1) := by decide +kernel
theorem dX3_tiedWith_27 : decode cX3_tiedWith 27 = .ok (.iload_n 1, 1) := by decide +kernel
theorem dX3_tiedWith_28 : decode cX3_tiedWith 28 = .ok (.iload_n 3, 1) := by decide +kernel
theorem dX3_tiedWith_29 : decode cX3_tiedWith 29 = .ok (.invokevirtual 133, 3) := by decide +kernel
theorem dX3_tiedWith_32 : decode cX3_tiedWith 32 = .ok (.ifCond .ne 9, 3) := by decide +kernel
theorem dX3_tiedWith_35 : decode cX3_tiedWith 35 = .ok (.iload_n 2, 1) := by decide +kernel
theorem dX3_tiedWith_36 : decode cX3_tiedWith 36 = .ok (.iconst 1, 1) := by decide +kernel
theorem dX3_tiedWith_37 : decode cX3_tiedWith 37 = .ok (.iload_n 3, 1) := by decide +kernel
theorem dX3_tiedWith_38 : decode cX3_tiedWith 38 = .ok (.ishl, 1) := by decide +kernel
theorem dX3_tiedWith_39 : decode cX3_tiedWith 39 = .ok (.ior, 1) := by decide +kernel
theorem dX3_tiedWith_40 : decode cX3_tiedWith 40 = .ok (.istore_n 2, 1) := by decide +kernel
theorem dX3_tiedWith_41 : decode cX3_tiedWith 41 = .ok (.iinc 3 1, 3) := by decide +kernel
theorem dX3_tiedWith_44 : decode cX3_tiedWith 44 = .ok (.goto (-40), 3) := by decide +kernel
theorem dX3_tiedWith_47 : decode cX3_tiedWith 47 = .ok (.iload_n 2, 1) := by decide +kernel
theorem dX3_tiedWith_48 : decode cX3_tiedWith 48 = .ok (.ireturn, 1) := by decide +kernel
set_option maxRecDepth 20000 in
theorem ggX3_lowerIn_J6_bitCount_0f7a4 : GoodIn wsX3_lowerIn wsJ6_bitCount_0f7a4 := goodIn_r _ [4, 5, 6, 7] (by decide +kernel) (by decide +kernel)
set_option maxRecDepth 20000 in
theorem gX3_lowerIn_J6_bitCount_0f7a4 : GoodIn wsX3_lowerIn (va_wsS RX3 122 yJ6_bitCount_0f7a4 wsJ6_bitCount_0f7a4) := goodIn_app (goodIn_of _ (by decide +kernel)) ggX3_lowerIn_J6_bitCount_0f7a4
theorem dX3_lowerIn_0 : decode cX3_lowerIn 0 = .ok (.iload_n 0, 1) := by decide +kernel
theorem dX3_lowerIn_1 : decode cX3_lowerIn 1 = .ok (.iconst 1, 1) := by decide +kernel
theorem dX3_lowerIn_2 : decode cX3_lowerIn 2 = .ok (.iload_n 1, 1) := by decide +kernel
theorem dX3_lowerIn_3 : decode cX3_lowerIn 3 = .ok (.ishl, 1) := by decide +kernel
theorem dX3_lowerIn_4 : decode cX3_lowerIn 4 = .ok (.iconst 1, 1) := by decide +kernel
theorem dX3_lowerIn_5 : decode cX3_lowerIn 5 = .ok (.isub, 1) := by decide +kernel
theorem dX3_lowerIn_6 : decode cX3_lowerIn 6 = .ok (.iand, 1) := by decide +kernel
theorem dX3_lowerIn_7 : decode cX3_lowerIn 7 = .ok (.invokestatic 122, 3) := by decide +kernel
theorem dX3_lowerIn_10 : decode cX3_lowerIn 10 = .ok (.ireturn, 1) := by decide +kernel
set_option maxRecDepth 20000 in
theorem ggX3_placeOf_X3_rankOf : GoodIn wsX3_placeOf wsX3_rankOf := goodIn_r _ [5, 6, 7, 8, 9, 4, 10, 11, 12, 13, 14, 15, 16, 17, 18, 19, 20, 21, 22, 23, 24, 25, 26, 27, 28, 29, 30, 31, 32, 33, 34, 35, 36, 37, 38, 39, 40, 55, 56, 57, 58, 59, 60, 61, 62, 63, 64, 65, 66] (by decide +kernel) (by decide +kernel)
set_option maxRecDepth 20000 in
theorem gX3_placeOf_X3_rankOf : GoodIn wsX3_placeOf (wsV RX3 136 RX3 yX3_rankOf wsX3_rankOf) := goodIn_app (goodIn_of _ (by decide +kernel)) ggX3_placeOf_X3_rankOf
set_option maxRecDepth 20000 in
theorem ggX3_placeOf_X3_tiedWith : GoodIn wsX3_placeOf wsX3_tiedWith := goodIn_r _ [44, 6, 7, 8, 9, 4, 10, 11, 12, 13, 14, 15, 16, 17, 18, 19, 20, 21, 22, 23, 24, 25, 26, 27, 28, 29, 30, 31, 32, 33, 34, 35, 36, 37, 38, 39, 40, 55, 56, 57, 58, 59, 60, 61, 62, 63, 64, 65, 66] (by decide +kernel) (by decide +kernel)
set_option maxRecDepth 20000 in
theorem gX3_placeOf_X3_tiedWith : GoodIn wsX3_placeOf (wsV RX3 139 RX3 yX3_tiedWith wsX3_tiedWith) := goodIn_app (goodIn_of _ (by decide +kernel)) ggX3_placeOf_X3_tiedWith
set_option maxRecDepth 20000 in
theorem ggX3_placeOf_X3_lowerIn : GoodIn wsX3_placeOf wsX3_lowerIn := goodIn_r _ [47, 48, 49, 50, 51, 52, 53, 54] (by decide +kernel) (by decide +kernel)
set_option maxRecDepth 20000 in
theorem gX3_placeOf_X3_lowerIn : GoodIn wsX3_placeOf (va_wsS RX3 142 yX3_lowerIn wsX3_lowerIn) := goodIn_app (goodIn_of _ (by decide +kernel)) ggX3_placeOf_X3_lowerIn
theorem dX3_placeOf_0 : decode cX3_placeOf 0 = .ok (.aload_n 0, 1) := by decide +kernel
theorem dX3_placeOf_1 : decode cX3_placeOf 1 = .ok (.iload_n 1, 1) := by decide +kernel
theorem dX3_placeOf_2 : decode cX3_placeOf 2 = .ok (.invokevirtual 136, 3) := by decide +kernel
theorem dX3_placeOf_5 : decode cX3_placeOf 5 = .ok (.iconst 1, 1) := by decide +kernel
theorem dX3_placeOf_6 : decode cX3_placeOf 6 = .ok (.isub, 1) := by decide +kernel
theorem dX3_placeOf_7 : decode cX3_placeOf 7 = .ok (.aload_n 0, 1) := by decide +kernel
theorem dX3_placeOf_8 : decode cX3_placeOf 8 = .ok (.iload_n 1, 1) := by decide +kernel
theorem dX3_placeOf_9 : decode cX3_placeOf 9 = .ok (.invokevirtual 139, 3) := by decide +kernel
theorem dX3_placeOf_12 : decode cX3_placeOf 12 = .ok (.iload_n 1, 1) := by decide +kernel
theorem dX3_placeOf_13 : decode cX3_placeOf 13 = .ok (.invokestatic 142, 3) := by decide +kernel
theorem dX3_placeOf_16 : decode cX3_placeOf 16 = .ok (.iadd, 1) := by decide +kernel
theorem dX3_placeOf_17 : decode cX3_placeOf 17 = .ok (.ireturn, 1) := by decide +kernel
theorem dX3_entries_0 : decode cX3_entries 0 = .ok (.iconst 0, 1) := by decide +kernel
theorem dX3_entries_1 : decode cX3_entries 1 = .ok (.istore_n 1, 1) := by decide +kernel
theorem dX3_entries_2 : decode cX3_entries 2 = .ok (.iconst 0, 1) := by decide +kernel
theorem dX3_entries_3 : decode cX3_entries 3 = .ok (.istore_n 2, 1) := by decide +kernel
theorem dX3_entries_4 : decode cX3_entries 4 = .ok (.iload_n 2, 1) := by decide +kernel
theorem dX3_entries_5 : decode cX3_entries 5 = .ok (.aload_n 0, 1) := by decide +kernel
theorem dX3_entries_6 : decode cX3_entries 6 = .ok (.getfield 66, 3) := by decide +kernel
theorem dX3_entries_9 : decode cX3_entries 9 = .ok (.if_icmp .ge 18, 3) := by decide +kernel
theorem dX3_entries_12 : decode cX3_entries 12 = .ok (.iload_n 1, 1) := by decide +kernel
theorem dX3_entries_13 : decode cX3_entries 13 = .ok (.aload_n 0, 1) := by decide +kernel
theorem dX3_entries_14 : decode cX3_entries 14 = .ok (.getfield 15, 3) := by decide +kernel
theorem dX3_entries_17 : decode cX3_entries 17 = .ok (.iload_n 2, 1) := by decide +kernel
theorem dX3_entries_18 : decode cX3_entries 18 = .ok (.iaload, 1) := by decide +kernel
theorem dX3_entries_19 : decode cX3_entries 19 = .ok (.iadd, 1) := by decide +kernel
theorem dX3_entries_20 : decode cX3_entries 20 = .ok (.istore_n 1, 1) := by decide +kernel
theorem dX3_entries_21 : decode cX3_entries 21 = .ok (.iinc 2 1, 3) := by decide +kernel
theorem dX3_entries_24 : decode cX3_entries 24 = .ok (.goto (-20), 3) := by decide +kernel
theorem dX3_entries_27 : decode cX3_entries 27 = .ok (.iload_n 1, 1) := by decide +kernel
theorem dX3_entries_28 : decode cX3_entries 28 = .ok (.ireturn, 1) := by decide +kernel
set_option maxRecDepth 20000 in
theorem ggX3_ofTheHouse_X3_entries : GoodIn wsX3_ofTheHouse wsX3_entries := goodIn_r _ [6, 7, 8, 9, 10, 11, 12, 13, 14, 15, 16, 17, 18, 19, 20] (by decide +kernel) (by decide +kernel)
set_option maxRecDepth 20000 in
theorem gX3_ofTheHouse_X3_entries : GoodIn wsX3_ofTheHouse (wsV RX3 145 RX3 yX3_entries wsX3_entries) := goodIn_app (goodIn_of _ (by decide +kernel)) ggX3_ofTheHouse_X3_entries
theorem dX3_ofTheHouse_0 : decode cX3_ofTheHouse 0 = .ok (.aload_n 0, 1) := by decide +kernel
theorem dX3_ofTheHouse_1 : decode cX3_ofTheHouse 1 = .ok (.invokevirtual 145, 3) := by decide +kernel
theorem dX3_ofTheHouse_4 : decode cX3_ofTheHouse 4 = .ok (.aload_n 0, 1) := by decide +kernel
theorem dX3_ofTheHouse_5 : decode cX3_ofTheHouse 5 = .ok (.getfield 9, 3) := by decide +kernel
theorem dX3_ofTheHouse_8 : decode cX3_ofTheHouse 8 = .ok (.iconst 1, 1) := by decide +kernel
theorem dX3_ofTheHouse_9 : decode cX3_ofTheHouse 9 = .ok (.iaload, 1) := by decide +kernel
theorem dX3_ofTheHouse_10 : decode cX3_ofTheHouse 10 = .ok (.imul, 1) := by decide +kernel
theorem dX3_ofTheHouse_11 : decode cX3_ofTheHouse 11 = .ok (.bipush 100, 2) := by decide +kernel
theorem dX3_ofTheHouse_13 : decode cX3_ofTheHouse 13 = .ok (.idiv, 1) := by decide +kernel
theorem dX3_ofTheHouse_14 : decode cX3_ofTheHouse 14 = .ok (.ireturn, 1) := by decide +kernel
set_option maxRecDepth 20000 in
theorem ggX3_pot_X3_entries : GoodIn wsX3_pot wsX3_entries := goodIn_r _ [5, 6, 7, 13, 14, 15, 16, 17, 18, 19, 20, 21, 22, 23, 24] (by decide +kernel) (by decide +kernel)
set_option maxRecDepth 20000 in
theorem gX3_pot_X3_entries : GoodIn wsX3_pot (wsV RX3 145 RX3 yX3_entries wsX3_entries) := goodIn_app (goodIn_of _ (by decide +kernel)) ggX3_pot_X3_entries
set_option maxRecDepth 20000 in
theorem ggX3_pot_X3_ofTheHouse : GoodIn wsX3_pot wsX3_ofTheHouse := goodIn_r _ [11, 12, 1, 2, 3, 4, 5, 6, 7, 13, 14, 15, 16, 17, 18, 19, 20, 21, 22, 23, 24] (by decide +kernel) (by decide +kernel)
set_option maxRecDepth 20000 in
theorem gX3_pot_X3_ofTheHouse : GoodIn wsX3_pot (wsV RX3 149 RX3 yX3_ofTheHouse wsX3_ofTheHouse) := goodIn_app (goodIn_of _ (by decide +kernel)) ggX3_pot_X3_ofTheHouse
theorem dX3_pot_0 : decode cX3_pot 0 = .ok (.aload_n 0, 1) := by decide +kernel
theorem dX3_pot_1 : decode cX3_pot 1 = .ok (.invokevirtual 145, 3) := by decide +kernel
theorem dX3_pot_4 : decode cX3_pot 4 = .ok (.aload_n 0, 1) := by decide +kernel
theorem dX3_pot_5 : decode cX3_pot 5 = .ok (.invokevirtual 149, 3) := by decide +kernel
theorem dX3_pot_8 : decode cX3_pot 8 = .ok (.isub, 1) := by decide +kernel
theorem dX3_pot_9 : decode cX3_pot 9 = .ok (.ireturn, 1) := by decide +kernel
set_option maxRecDepth 20000 in
theorem ggX3_prizeOfPlace_X3_pot : GoodIn wsX3_prizeOfPlace wsX3_pot := goodIn_r _ [6, 7, 8, 9, 5, 10, 1, 11, 12, 13, 14, 15, 16, 17, 18, 19, 20, 21, 22, 23, 24, 25, 26, 27, 28] (by decide +kernel) (by decide +kernel)
set_option maxRecDepth 20000 in
theorem gX3_prizeOfPlace_X3_pot : GoodIn wsX3_prizeOfPlace (wsV RX3 152 RX3 yX3_pot wsX3_pot) := goodIn_app (goodIn_of _ (by decide +kernel)) ggX3_prizeOfPlace_X3_pot
theorem dX3_prizeOfPlace_0 : decode cX3_prizeOfPlace 0 = .ok (.aload_n 0, 1) := by decide +kernel
theorem dX3_prizeOfPlace_1 : decode cX3_prizeOfPlace 1 = .ok (.invokevirtual 152, 3) := by decide +kernel
theorem dX3_prizeOfPlace_4 : decode cX3_prizeOfPlace 4 = .ok (.istore_n 2, 1) := by decide +kernel
theorem dX3_prizeOfPlace_5 : decode cX3_prizeOfPlace 5 = .ok (.aload_n 0, 1) := by decide +kernel
theorem dX3_prizeOfPlace_6 : decode cX3_prizeOfPlace 6 = .ok (.getfield 66, 3) := by decide +kernel
theorem dX3_prizeOfPlace_9 : decode cX3_prizeOfPlace 9 = .ok (.iconst 2, 1) := by decide +kernel
theorem dX3_prizeOfPlace_10 : decode cX3_prizeOfPlace 10 = .ok (.if_icmp .lt 13, 3) := by decide +kernel
theorem dX3_prizeOfPlace_13 : decode cX3_prizeOfPlace 13 = .ok (.iload_n 2, 1) := by decide +kernel
theorem dX3_prizeOfPlace_14 : decode cX3_prizeOfPlace 14 = .ok (.bipush 30, 2) := by decide +kernel
theorem dX3_prizeOfPlace_16 : decode cX3_prizeOfPlace 16 = .ok (.imul, 1) := by decide +kernel
theorem dX3_prizeOfPlace_17 : decode cX3_prizeOfPlace 17 = .ok (.bipush 100, 2) := by decide +kernel
theorem dX3_prizeOfPlace_19 : decode cX3_prizeOfPlace 19 = .ok (.idiv, 1) := by decide +kernel
theorem dX3_prizeOfPlace_20 : decode cX3_prizeOfPlace 20 = .ok (.goto 4, 3) := by decide +kernel
theorem dX3_prizeOfPlace_23 : decode cX3_prizeOfPlace 23 = .ok (.iconst 0, 1) := by decide +kernel
theorem dX3_prizeOfPlace_24 : decode cX3_prizeOfPlace 24 = .ok (.istore_n 3, 1) := by decide +kernel
theorem dX3_prizeOfPlace_25 : decode cX3_prizeOfPlace 25 = .ok (.aload_n 0, 1) := by decide +kernel
theorem dX3_prizeOfPlace_26 : decode cX3_prizeOfPlace 26 = .ok (.getfield 66, 3) := by decide +kernel
theorem dX3_prizeOfPlace_29 : decode cX3_prizeOfPlace 29 = .ok (.iconst 3, 1) := by decide +kernel
theorem dX3_prizeOfPlace_30 : decode cX3_prizeOfPlace 30 = .ok (.if_icmp .lt 13, 3) := by decide +kernel
theorem dX3_prizeOfPlace_33 : decode cX3_prizeOfPlace 33 = .ok (.iload_n 2, 1) := by decide +kernel
theorem dX3_prizeOfPlace_34 : decode cX3_prizeOfPlace 34 = .ok (.bipush 10, 2) := by decide +kernel
theorem dX3_prizeOfPlace_36 : decode cX3_prizeOfPlace 36 = .ok (.imul, 1) := by decide +kernel
theorem dX3_prizeOfPlace_37 : decode cX3_prizeOfPlace 37 = .ok (.bipush 100, 2) := by decide +kernel
theorem dX3_prizeOfPlace_39 : decode cX3_prizeOfPlace 39 = .ok (.idiv, 1) := by decide +kernel
theorem dX3_prizeOfPlace_40 : decode cX3_prizeOfPlace 40 = .ok (.goto 4, 3) := by decide +kernel
theorem dX3_prizeOfPlace_43 : decode cX3_prizeOfPlace 43 = .ok (.iconst 0, 1) := by decide +kernel
theorem dX3_prizeOfPlace_44 : decode cX3_prizeOfPlace 44 = .ok (.istore 4, 2) := by decide +kernel
theorem dX3_prizeOfPlace_46 : decode cX3_prizeOfPlace 46 = .ok (.iload_n 1, 1) := by decide +kernel
theorem dX3_prizeOfPlace_47 : decode cX3_prizeOfPlace 47 = .ok (.tableswitch 37 1 3 #[25, 32, 34], 25) := by decide +kernel
theorem dX3_prizeOfPlace_72 : decode cX3_prizeOfPlace 72 = .ok (.iload_n 2, 1) := by decide +kernel
theorem dX3_prizeOfPlace_73 : decode cX3_prizeOfPlace 73 = .ok (.iload_n 3, 1) := by decide +kernel
theorem dX3_prizeOfPlace_74 : decode cX3_prizeOfPlace 74 = .ok (.isub, 1) := by decide +kernel
theorem dX3_prizeOfPlace_75 : decode cX3_prizeOfPlace 75 = .ok (.iload 4, 2) := by decide +kernel
theorem dX3_prizeOfPlace_77 : decode cX3_prizeOfPlace 77 = .ok (.isub, 1) := by decide +kernel
theorem dX3_prizeOfPlace_78 : decode cX3_prizeOfPlace 78 = .ok (.ireturn, 1) := by decide +kernel
theorem dX3_prizeOfPlace_79 : decode cX3_prizeOfPlace 79 = .ok (.iload_n 3, 1) := by decide +kernel
theorem dX3_prizeOfPlace_80 : decode cX3_prizeOfPlace 80 = .ok (.ireturn, 1) := by decide +kernel
theorem dX3_prizeOfPlace_81 : decode cX3_prizeOfPlace 81 = .ok (.iload 4, 2) := by decide +kernel
theorem dX3_prizeOfPlace_83 : decode cX3_prizeOfPlace 83 = .ok (.ireturn, 1) := by decide +kernel
theorem dX3_prizeOfPlace_84 : decode cX3_prizeOfPlace 84 = .ok (.iconst 0, 1) := by decide +kernel
theorem dX3_prizeOfPlace_85 : decode cX3_prizeOfPlace 85 = .ok (.ireturn, 1) := by decide +kernel
set_option maxRecDepth 20000 in
theorem ggX3_prizeOf_X3_rankOf : GoodIn wsX3_prizeOf wsX3_rankOf := goodIn_r _ [5, 6, 7, 8, 9, 4, 10, 11, 12, 13, 14, 15, 16, 17, 18, 19, 20, 21, 22, 23, 24, 25, 26, 27, 28, 29, 30, 31, 32, 33, 34, 35, 36, 37, 38, 39, 40, 72, 73, 74, 75, 76, 77, 78, 79, 80, 81, 82, 83] (by decide +kernel) (by decide +kernel)
set_option maxRecDepth 20000 in
theorem gX3_prizeOf_X3_rankOf : GoodIn wsX3_prizeOf (wsV RX3 136 RX3 yX3_rankOf wsX3_rankOf) := goodIn_app (goodIn_of _ (by decide +kernel)) ggX3_prizeOf_X3_rankOf
set_option maxRecDepth 20000 in
theorem ggX3_prizeOf_X3_tiedWith : GoodIn wsX3_prizeOf wsX3_tiedWith := goodIn_r _ [44, 6, 7, 8, 9, 4, 10, 11, 12, 13, 14, 15, 16, 17, 18, 19, 20, 21, 22, 23, 24, 25, 26, 27, 28, 29, 30, 31, 32, 33, 34, 35, 36, 37, 38, 39, 40, 72, 73, 74, 75, 76, 77, 78, 79, 80, 81, 82, 83] (by decide +kernel) (by decide +kernel)
set_option maxRecDepth 20000 in
theorem gX3_prizeOf_X3_tiedWith : GoodIn wsX3_prizeOf (wsV RX3 139 RX3 yX3_tiedWith wsX3_tiedWith) := goodIn_app (goodIn_of _ (by decide +kernel)) ggX3_prizeOf_X3_tiedWith
set_option maxRecDepth 20000 in
theorem ggX3_prizeOf_J6_bitCount_0f7a4 : GoodIn wsX3_prizeOf wsJ6_bitCount_0f7a4 := goodIn_r _ [48, 49, 50, 51] (by decide +kernel) (by decide +kernel)
set_option maxRecDepth 20000 in
theorem gX3_prizeOf_J6_bitCount_0f7a4 : GoodIn wsX3_prizeOf (va_wsS RX3 122 yJ6_bitCount_0f7a4 wsJ6_bitCount_0f7a4) := goodIn_app (goodIn_of _ (by decide +kernel)) ggX3_prizeOf_J6_bitCount_0f7a4
set_option maxRecDepth 20000 in
theorem ggX3_prizeOf_X3_prizeOfPlace : GoodIn wsX3_prizeOf wsX3_prizeOfPlace := goodIn_r _ [55, 6, 56, 57, 58, 4, 59, 60, 61, 62, 63, 64, 65, 66, 67, 68, 15, 72, 73, 74, 75, 76, 77, 78, 79, 80, 81, 82, 83] (by decide +kernel) (by decide +kernel)
set_option maxRecDepth 20000 in
theorem gX3_prizeOf_X3_prizeOfPlace : GoodIn wsX3_prizeOf (wsV RX3 155 RX3 yX3_prizeOfPlace wsX3_prizeOfPlace) := goodIn_app (goodIn_of _ (by decide +kernel)) ggX3_prizeOf_X3_prizeOfPlace
set_option maxRecDepth 20000 in
theorem ggX3_prizeOf_X3_lowerIn : GoodIn wsX3_prizeOf wsX3_lowerIn := goodIn_r _ [71, 45, 46, 47, 48, 49, 50, 51] (by decide +kernel) (by decide +kernel)
set_option maxRecDepth 20000 in
theorem gX3_prizeOf_X3_lowerIn : GoodIn wsX3_prizeOf (va_wsS RX3 142 yX3_lowerIn wsX3_lowerIn) := goodIn_app (goodIn_of _ (by decide +kernel)) ggX3_prizeOf_X3_lowerIn
theorem dX3_prizeOf_0 : decode cX3_prizeOf 0 = .ok (.aload_n 0, 1) := by decide +kernel
theorem dX3_prizeOf_1 : decode cX3_prizeOf 1 = .ok (.iload_n 1, 1) := by decide +kernel
theorem dX3_prizeOf_2 : decode cX3_prizeOf 2 = .ok (.invokevirtual 136, 3) := by decide +kernel
theorem dX3_prizeOf_5 : decode cX3_prizeOf 5 = .ok (.istore_n 2, 1) := by decide +kernel
theorem dX3_prizeOf_6 : decode cX3_prizeOf 6 = .ok (.aload_n 0, 1) := by decide +kernel
theorem dX3_prizeOf_7 : decode cX3_prizeOf 7 = .ok (.iload_n 1, 1) := by decide +kernel
theorem dX3_prizeOf_8 : decode cX3_prizeOf 8 = .ok (.invokevirtual 139, 3) := by decide +kernel
theorem dX3_prizeOf_11 : decode cX3_prizeOf 11 = .ok (.istore_n 3, 1) := by decide +kernel
theorem dX3_prizeOf_12 : decode cX3_prizeOf 12 = .ok (.iconst 1, 1) := by decide +kernel
theorem dX3_prizeOf_13 : decode cX3_prizeOf 13 = .ok (.iload_n 3, 1) := by decide +kernel
theorem dX3_prizeOf_14 : decode cX3_prizeOf 14 = .ok (.invokestatic 122, 3) := by decide +kernel
theorem dX3_prizeOf_17 : decode cX3_prizeOf 17 = .ok (.iadd, 1) := by decide +kernel
theorem dX3_prizeOf_18 : decode cX3_prizeOf 18 = .ok (.istore 4, 2) := by decide +kernel
theorem dX3_prizeOf_20 : decode cX3_prizeOf 20 = .ok (.iload 4, 2) := by decide +kernel
theorem dX3_prizeOf_22 : decode cX3_prizeOf 22 = .ok (.iconst 1, 1) := by decide +kernel
theorem dX3_prizeOf_23 : decode cX3_prizeOf 23 = .ok (.if_icmp .ge 5, 3) := by decide +kernel
theorem dX3_prizeOf_26 : decode cX3_prizeOf 26 = .ok (.iconst 0, 1) := by decide +kernel
theorem dX3_prizeOf_27 : decode cX3_prizeOf 27 = .ok (.ireturn, 1) := by decide +kernel
theorem dX3_prizeOf_28 : decode cX3_prizeOf 28 = .ok (.iconst 0, 1) := by decide +kernel
theorem dX3_prizeOf_29 : decode cX3_prizeOf 29 = .ok (.istore 5, 2) := by decide +kernel
theorem dX3_prizeOf_31 : decode cX3_prizeOf 31 = .ok (.iload_n 2, 1) := by decide +kernel
theorem dX3_prizeOf_32 : decode cX3_prizeOf 32 = .ok (.istore 6, 2) := by decide +kernel
theorem dX3_prizeOf_34 : decode cX3_prizeOf 34 = .ok (.iload 6, 2) := by decide +kernel
theorem dX3_prizeOf_36 : decode cX3_prizeOf 36 = .ok (.iload_n 2, 1) := by decide +kernel
theorem dX3_prizeOf_37 : decode cX3_prizeOf 37 = .ok (.iload 4, 2) := by decide +kernel
theorem dX3_prizeOf_39 : decode cX3_prizeOf 39 = .ok (.iadd, 1) := by decide +kernel
theorem dX3_prizeOf_40 : decode cX3_prizeOf 40 = .ok (.if_icmp .ge 20, 3) := by decide +kernel
theorem dX3_prizeOf_43 : decode cX3_prizeOf 43 = .ok (.iload 5, 2) := by decide +kernel
theorem dX3_prizeOf_45 : decode cX3_prizeOf 45 = .ok (.aload_n 0, 1) := by decide +kernel
theorem dX3_prizeOf_46 : decode cX3_prizeOf 46 = .ok (.iload 6, 2) := by decide +kernel
theorem dX3_prizeOf_48 : decode cX3_prizeOf 48 = .ok (.invokevirtual 155, 3) := by decide +kernel
theorem dX3_prizeOf_51 : decode cX3_prizeOf 51 = .ok (.iadd, 1) := by decide +kernel
theorem dX3_prizeOf_52 : decode cX3_prizeOf 52 = .ok (.istore 5, 2) := by decide +kernel
theorem dX3_prizeOf_54 : decode cX3_prizeOf 54 = .ok (.iinc 6 1, 3) := by decide +kernel
theorem dX3_prizeOf_57 : decode cX3_prizeOf 57 = .ok (.goto (-23), 3) := by decide +kernel
theorem dX3_prizeOf_60 : decode cX3_prizeOf 60 = .ok (.iload 5, 2) := by decide +kernel
theorem dX3_prizeOf_62 : decode cX3_prizeOf 62 = .ok (.iload 4, 2) := by decide +kernel
theorem dX3_prizeOf_64 : decode cX3_prizeOf 64 = .ok (.irem, 1) := by decide +kernel
theorem dX3_prizeOf_65 : decode cX3_prizeOf 65 = .ok (.istore 6, 2) := by decide +kernel
theorem dX3_prizeOf_67 : decode cX3_prizeOf 67 = .ok (.iload 5, 2) := by decide +kernel
theorem dX3_prizeOf_69 : decode cX3_prizeOf 69 = .ok (.iload 4, 2) := by decide +kernel
theorem dX3_prizeOf_71 : decode cX3_prizeOf 71 = .ok (.idiv, 1) := by decide +kernel
theorem dX3_prizeOf_72 : decode cX3_prizeOf 72 = .ok (.iload_n 3, 1) := by decide +kernel
theorem dX3_prizeOf_73 : decode cX3_prizeOf 73 = .ok (.iload_n 1, 1) := by decide +kernel
theorem dX3_prizeOf_74 : decode cX3_prizeOf 74 = .ok (.invokestatic 142, 3) := by decide +kernel
theorem dX3_prizeOf_77 : decode cX3_prizeOf 77 = .ok (.iload 6, 2) := by decide +kernel
theorem dX3_prizeOf_79 : decode cX3_prizeOf 79 = .ok (.if_icmp .ge 7, 3) := by decide +kernel
theorem dX3_prizeOf_82 : decode cX3_prizeOf 82 = .ok (.iconst 1, 1) := by decide +kernel
theorem dX3_prizeOf_83 : decode cX3_prizeOf 83 = .ok (.goto 4, 3) := by decide +kernel
theorem dX3_prizeOf_86 : decode cX3_prizeOf 86 = .ok (.iconst 0, 1) := by decide +kernel
theorem dX3_prizeOf_87 : decode cX3_prizeOf 87 = .ok (.iadd, 1) := by decide +kernel
theorem dX3_prizeOf_88 : decode cX3_prizeOf 88 = .ok (.ireturn, 1) := by decide +kernel
set_option maxRecDepth 20000 in
theorem ggX3_scoreWithJokerOn_X3_isTold : GoodIn wsX3_scoreWithJokerOn wsX3_isTold := goodIn_r _ [7, 8, 9, 10, 6, 11, 12, 13, 14, 15, 21, 22, 23, 24, 25, 26, 27, 28, 29, 30, 31, 32] (by decide +kernel) (by decide +kernel)
set_option maxRecDepth 20000 in
theorem gX3_scoreWithJokerOn_X3_isTold : GoodIn wsX3_scoreWithJokerOn (wsV RX3 76 RX3 yX3_isTold wsX3_isTold) := goodIn_app (goodIn_of _ (by decide +kernel)) ggX3_scoreWithJokerOn_X3_isTold
set_option maxRecDepth 20000 in
theorem ggX3_scoreWithJokerOn_X3_markOf : GoodIn wsX3_scoreWithJokerOn wsX3_markOf := goodIn_r _ [19, 20, 13, 14, 15, 21, 22, 23, 24, 25, 26, 27, 28, 29, 30, 31, 32] (by decide +kernel) (by decide +kernel)
set_option maxRecDepth 20000 in
theorem gX3_scoreWithJokerOn_X3_markOf : GoodIn wsX3_scoreWithJokerOn (wsV RX3 83 RX3 yX3_markOf wsX3_markOf) := goodIn_app (goodIn_of _ (by decide +kernel)) ggX3_scoreWithJokerOn_X3_markOf
theorem dX3_scoreWithJokerOn_0 : decode cX3_scoreWithJokerOn 0 = .ok (.aload_n 0, 1) := by decide +kernel
theorem dX3_scoreWithJokerOn_1 : decode cX3_scoreWithJokerOn 1 = .ok (.getfield 9, 3) := by decide +kernel
theorem dX3_scoreWithJokerOn_4 : decode cX3_scoreWithJokerOn 4 = .ok (.iconst 3, 1) := by decide +kernel
theorem dX3_scoreWithJokerOn_5 : decode cX3_scoreWithJokerOn 5 = .ok (.iaload, 1) := by decide +kernel
theorem dX3_scoreWithJokerOn_6 : decode cX3_scoreWithJokerOn 6 = .ok (.ineg, 1) := by decide +kernel
theorem dX3_scoreWithJokerOn_7 : decode cX3_scoreWithJokerOn 7 = .ok (.aload_n 0, 1) := by decide +kernel
theorem dX3_scoreWithJokerOn_8 : decode cX3_scoreWithJokerOn 8 = .ok (.getfield 21, 3) := by decide +kernel
theorem dX3_scoreWithJokerOn_11 : decode cX3_scoreWithJokerOn 11 = .ok (.iload_n 1, 1) := by decide +kernel
theorem dX3_scoreWithJokerOn_12 : decode cX3_scoreWithJokerOn 12 = .ok (.iaload, 1) := by decide +kernel
theorem dX3_scoreWithJokerOn_13 : decode cX3_scoreWithJokerOn 13 = .ok (.imul, 1) := by decide +kernel
theorem dX3_scoreWithJokerOn_14 : decode cX3_scoreWithJokerOn 14 = .ok (.istore_n 3, 1) := by decide +kernel
theorem dX3_scoreWithJokerOn_15 : decode cX3_scoreWithJokerOn 15 = .ok (.iconst 0, 1) := by decide +kernel
theorem dX3_scoreWithJokerOn_16 : decode cX3_scoreWithJokerOn 16 = .ok (.istore 4, 2) := by decide +kernel
theorem dX3_scoreWithJokerOn_18 : decode cX3_scoreWithJokerOn 18 = .ok (.iload 4, 2) := by decide +kernel
theorem dX3_scoreWithJokerOn_20 : decode cX3_scoreWithJokerOn 20 = .ok (.bipush 8, 2) := by decide +kernel
theorem dX3_scoreWithJokerOn_22 : decode cX3_scoreWithJokerOn 22 = .ok (.if_icmp .ge 50, 3) := by decide +kernel
theorem dX3_scoreWithJokerOn_25 : decode cX3_scoreWithJokerOn 25 = .ok (.aload_n 0, 1) := by decide +kernel
theorem dX3_scoreWithJokerOn_26 : decode cX3_scoreWithJokerOn 26 = .ok (.iload_n 1, 1) := by decide +kernel
theorem dX3_scoreWithJokerOn_27 : decode cX3_scoreWithJokerOn 27 = .ok (.iload 4, 2) := by decide +kernel
theorem dX3_scoreWithJokerOn_29 : decode cX3_scoreWithJokerOn 29 = .ok (.invokevirtual 76, 3) := by decide +kernel
theorem dX3_scoreWithJokerOn_32 : decode cX3_scoreWithJokerOn 32 = .ok (.ifCond .eq 13, 3) := by decide +kernel
theorem dX3_scoreWithJokerOn_35 : decode cX3_scoreWithJokerOn 35 = .ok (.aload_n 0, 1) := by decide +kernel
theorem dX3_scoreWithJokerOn_36 : decode cX3_scoreWithJokerOn 36 = .ok (.iload_n 1, 1) := by decide +kernel
theorem dX3_scoreWithJokerOn_37 : decode cX3_scoreWithJokerOn 37 = .ok (.iload 4, 2) := by decide +kernel
theorem dX3_scoreWithJokerOn_39 : decode cX3_scoreWithJokerOn 39 = .ok (.invokevirtual 83, 3) := by decide +kernel
theorem dX3_scoreWithJokerOn_42 : decode cX3_scoreWithJokerOn 42 = .ok (.goto 4, 3) := by decide +kernel
theorem dX3_scoreWithJokerOn_45 : decode cX3_scoreWithJokerOn 45 = .ok (.iconst 0, 1) := by decide +kernel
theorem dX3_scoreWithJokerOn_46 : decode cX3_scoreWithJokerOn 46 = .ok (.istore 5, 2) := by decide +kernel
theorem dX3_scoreWithJokerOn_48 : decode cX3_scoreWithJokerOn 48 = .ok (.iload_n 3, 1) := by decide +kernel
theorem dX3_scoreWithJokerOn_49 : decode cX3_scoreWithJokerOn 49 = .ok (.iload 4, 2) := by decide +kernel
theorem dX3_scoreWithJokerOn_51 : decode cX3_scoreWithJokerOn 51 = .ok (.iload_n 2, 1) := by decide +kernel
theorem dX3_scoreWithJokerOn_52 : decode cX3_scoreWithJokerOn 52 = .ok (.if_icmp .ne 10, 3) := by decide +kernel
theorem dX3_scoreWithJokerOn_55 : decode cX3_scoreWithJokerOn 55 = .ok (.iconst 2, 1) := by decide +kernel
theorem dX3_scoreWithJokerOn_56 : decode cX3_scoreWithJokerOn 56 = .ok (.iload 5, 2) := by decide +kernel
theorem dX3_scoreWithJokerOn_58 : decode cX3_scoreWithJokerOn 58 = .ok (.imul, 1) := by decide +kernel
theorem dX3_scoreWithJokerOn_59 : decode cX3_scoreWithJokerOn 59 = .ok (.goto 5, 3) := by decide +kernel
theorem dX3_scoreWithJokerOn_62 : decode cX3_scoreWithJokerOn 62 = .ok (.iload 5, 2) := by decide +kernel
theorem dX3_scoreWithJokerOn_64 : decode cX3_scoreWithJokerOn 64 = .ok (.iadd, 1) := by decide +kernel
theorem dX3_scoreWithJokerOn_65 : decode cX3_scoreWithJokerOn 65 = .ok (.istore_n 3, 1) := by decide +kernel
theorem dX3_scoreWithJokerOn_66 : decode cX3_scoreWithJokerOn 66 = .ok (.iinc 4 1, 3) := by decide +kernel
theorem dX3_scoreWithJokerOn_69 : decode cX3_scoreWithJokerOn 69 = .ok (.goto (-51), 3) := by decide +kernel
theorem dX3_scoreWithJokerOn_72 : decode cX3_scoreWithJokerOn 72 = .ok (.iload_n 3, 1) := by decide +kernel
theorem dX3_scoreWithJokerOn_73 : decode cX3_scoreWithJokerOn 73 = .ok (.ireturn, 1) := by decide +kernel
set_option maxRecDepth 20000 in
theorem ggX3_bestRound_X3_scoreWithJokerOn : GoodIn wsX3_bestRound wsX3_scoreWithJokerOn := goodIn_r _ [5, 6, 7, 8, 9, 10, 4, 11, 12, 13, 14, 15, 16, 17, 18, 19, 20, 21, 22, 23, 24, 25, 26, 27, 28, 29, 30, 31, 32, 33, 34, 35, 36] (by decide +kernel) (by decide +kernel)
set_option maxRecDepth 20000 in
theorem gX3_bestRound_X3_scoreWithJokerOn : GoodIn wsX3_bestRound (wsV RX3 158 RX3 yX3_scoreWithJokerOn wsX3_scoreWithJokerOn) := goodIn_app (goodIn_of _ (by decide +kernel)) ggX3_bestRound_X3_scoreWithJokerOn
theorem dX3_bestRound_0 : decode cX3_bestRound 0 = .ok (.iconst 0, 1) := by decide +kernel
theorem dX3_bestRound_1 : decode cX3_bestRound 1 = .ok (.istore_n 2, 1) := by decide +kernel
theorem dX3_bestRound_2 : decode cX3_bestRound 2 = .ok (.iconst 1, 1) := by decide +kernel
theorem dX3_bestRound_3 : decode cX3_bestRound 3 = .ok (.istore_n 3, 1) := by decide +kernel
theorem dX3_bestRound_4 : decode cX3_bestRound 4 = .ok (.iload_n 3, 1) := by decide +kernel
theorem dX3_bestRound_5 : decode cX3_bestRound 5 = .ok (.bipush 8, 2) := by decide +kernel
theorem dX3_bestRound_7 : decode cX3_bestRound 7 = .ok (.if_icmp .ge 26, 3) := by decide +kernel
theorem dX3_bestRound_10 : decode cX3_bestRound 10 = .ok (.aload_n 0, 1) := by decide +kernel
theorem dX3_bestRound_11 : decode cX3_bestRound 11 = .ok (.iload_n 1, 1) := by decide +kernel
theorem dX3_bestRound_12 : decode cX3_bestRound 12 = .ok (.iload_n 3, 1) := by decide +kernel
theorem dX3_bestRound_13 : decode cX3_bestRound 13 = .ok (.invokevirtual 158, 3) := by decide +kernel
theorem dX3_bestRound_16 : decode cX3_bestRound 16 = .ok (.aload_n 0, 1) := by decide +kernel
theorem dX3_bestRound_17 : decode cX3_bestRound 17 = .ok (.iload_n 1, 1) := by decide +kernel
theorem dX3_bestRound_18 : decode cX3_bestRound 18 = .ok (.iload_n 2, 1) := by decide +kernel
theorem dX3_bestRound_19 : decode cX3_bestRound 19 = .ok (.invokevirtual 158, 3) := by decide +kernel
theorem dX3_bestRound_22 : decode cX3_bestRound 22 = .ok (.if_icmp .le 5, 3) := by decide +kernel
theorem dX3_bestRound_25 : decode cX3_bestRound 25 = .ok (.iload_n 3, 1) := by decide +kernel
theorem dX3_bestRound_26 : decode cX3_bestRound 26 = .ok (.istore_n 2, 1) := by decide +kernel
theorem dX3_bestRound_27 : decode cX3_bestRound 27 = .ok (.iinc 3 1, 3) := by decide +kernel
theorem dX3_bestRound_30 : decode cX3_bestRound 30 = .ok (.goto (-26), 3) := by decide +kernel
theorem dX3_bestRound_33 : decode cX3_bestRound 33 = .ok (.iload_n 2, 1) := by decide +kernel
theorem dX3_bestRound_34 : decode cX3_bestRound 34 = .ok (.ireturn, 1) := by decide +kernel
set_option maxRecDepth 20000 in
theorem ggX3_canHandIn_X3_isOpen : GoodIn wsX3_canHandIn wsX3_isOpen := goodIn_r _ [5, 6, 7, 16, 17, 18, 19, 20, 21, 22, 23, 24, 25, 26, 27] (by decide +kernel) (by decide +kernel)
set_option maxRecDepth 20000 in
theorem gX3_canHandIn_X3_isOpen : GoodIn wsX3_canHandIn (wsV RX3 97 RX3 yX3_isOpen wsX3_isOpen) := goodIn_app (goodIn_of _ (by decide +kernel)) ggX3_canHandIn_X3_isOpen
set_option maxRecDepth 20000 in
theorem ggX3_canHandIn_X3_hasSheet : GoodIn wsX3_canHandIn wsX3_hasSheet := goodIn_r _ [11, 12, 7, 13, 14, 15, 16, 17, 18, 19, 20, 21, 22, 23, 24, 25, 26, 27] (by decide +kernel) (by decide +kernel)
set_option maxRecDepth 20000 in
theorem gX3_canHandIn_X3_hasSheet : GoodIn wsX3_canHandIn (wsV RX3 100 RX3 yX3_hasSheet wsX3_hasSheet) := goodIn_app (goodIn_of _ (by decide +kernel)) ggX3_canHandIn_X3_hasSheet
theorem dX3_canHandIn_0 : decode cX3_canHandIn 0 = .ok (.aload_n 0, 1) := by decide +kernel
theorem dX3_canHandIn_1 : decode cX3_canHandIn 1 = .ok (.iload_n 2, 1) := by decide +kernel
theorem dX3_canHandIn_2 : decode cX3_canHandIn 2 = .ok (.invokevirtual 97, 3) := by decide +kernel
theorem dX3_canHandIn_5 : decode cX3_canHandIn 5 = .ok (.ifCond .eq 16, 3) := by decide +kernel
theorem dX3_canHandIn_8 : decode cX3_canHandIn 8 = .ok (.aload_n 0, 1) := by decide +kernel
theorem dX3_canHandIn_9 : decode cX3_canHandIn 9 = .ok (.iload_n 1, 1) := by decide +kernel
theorem dX3_canHandIn_10 : decode cX3_canHandIn 10 = .ok (.iload_n 2, 1) := by decide +kernel
theorem dX3_canHandIn_11 : decode cX3_canHandIn 11 = .ok (.invokevirtual 100, 3) := by decide +kernel
theorem dX3_canHandIn_14 : decode cX3_canHandIn 14 = .ok (.ifCond .ne 7, 3) := by decide +kernel
theorem dX3_canHandIn_17 : decode cX3_canHandIn 17 = .ok (.iconst 1, 1) := by decide +kernel
theorem dX3_canHandIn_18 : decode cX3_canHandIn 18 = .ok (.goto 4, 3) := by decide +kernel
theorem dX3_canHandIn_21 : decode cX3_canHandIn 21 = .ok (.iconst 0, 1) := by decide +kernel
theorem dX3_canHandIn_22 : decode cX3_canHandIn 22 = .ok (.ireturn, 1) := by decide +kernel
set_option maxRecDepth 20000 in
theorem ggX3_greatestMark_X3_isTold : GoodIn wsX3_greatestMark wsX3_isTold := goodIn_r _ [5, 6, 7, 8, 4, 9, 10, 11, 12, 13, 30, 31, 32, 33, 34, 35, 36, 37, 38, 39, 40, 41] (by decide +kernel) (by decide +kernel)
set_option maxRecDepth 20000 in
theorem gX3_greatestMark_X3_isTold : GoodIn wsX3_greatestMark (wsV RX3 76 RX3 yX3_isTold wsX3_isTold) := goodIn_app (goodIn_of _ (by decide +kernel)) ggX3_greatestMark_X3_isTold
set_option maxRecDepth 20000 in
theorem ggX3_greatestMark_X3_markOf : GoodIn wsX3_greatestMark wsX3_markOf := goodIn_r _ [17, 18, 11, 12, 13, 30, 31, 32, 33, 34, 35, 36, 37, 38, 39, 40, 41] (by decide +kernel) (by decide +kernel)
set_option maxRecDepth 20000 in
theorem gX3_greatestMark_X3_markOf : GoodIn wsX3_greatestMark (wsV RX3 83 RX3 yX3_markOf wsX3_markOf) := goodIn_app (goodIn_of _ (by decide +kernel)) ggX3_greatestMark_X3_markOf
set_option maxRecDepth 20000 in
theorem ggX3_greatestMark_X3_hasSheet : GoodIn wsX3_greatestMark wsX3_hasSheet := goodIn_r _ [22, 23, 24, 11, 12, 13, 30, 31, 32, 33, 34, 35, 36, 37, 38, 39, 40, 41] (by decide +kernel) (by decide +kernel)
set_option maxRecDepth 20000 in
theorem gX3_greatestMark_X3_hasSheet : GoodIn wsX3_greatestMark (wsV RX3 100 RX3 yX3_hasSheet wsX3_hasSheet) := goodIn_app (goodIn_of _ (by decide +kernel)) ggX3_greatestMark_X3_hasSheet
set_option maxRecDepth 20000 in
theorem ggX3_greatestMark_X3_isOpen : GoodIn wsX3_greatestMark wsX3_isOpen := goodIn_r _ [28, 29, 24, 30, 31, 32, 33, 34, 35, 36, 37, 38, 39, 40, 41] (by decide +kernel) (by decide +kernel)
set_option maxRecDepth 20000 in
theorem gX3_greatestMark_X3_isOpen : GoodIn wsX3_greatestMark (wsV RX3 97 RX3 yX3_isOpen wsX3_isOpen) := goodIn_app (goodIn_of _ (by decide +kernel)) ggX3_greatestMark_X3_isOpen
theorem dX3_greatestMark_0 : decode cX3_greatestMark 0 = .ok (.aload_n 0, 1) := by decide +kernel
theorem dX3_greatestMark_1 : decode cX3_greatestMark 1 = .ok (.iload_n 1, 1) := by decide +kernel
theorem dX3_greatestMark_2 : decode cX3_greatestMark 2 = .ok (.iload_n 2, 1) := by decide +kernel
theorem dX3_greatestMark_3 : decode cX3_greatestMark 3 = .ok (.invokevirtual 76, 3) := by decide +kernel
theorem dX3_greatestMark_6 : decode cX3_greatestMark 6 = .ok (.ifCond .eq 10, 3) := by decide +kernel
theorem dX3_greatestMark_9 : decode cX3_greatestMark 9 = .ok (.aload_n 0, 1) := by decide +kernel
theorem dX3_greatestMark_10 : decode cX3_greatestMark 10 = .ok (.iload_n 1, 1) := by decide +kernel
theorem dX3_greatestMark_11 : decode cX3_greatestMark 11 = .ok (.iload_n 2, 1) := by decide +kernel
theorem dX3_greatestMark_12 : decode cX3_greatestMark 12 = .ok (.invokevirtual 83, 3) := by decide +kernel
theorem dX3_greatestMark_15 : decode cX3_greatestMark 15 = .ok (.ireturn, 1) := by decide +kernel
theorem dX3_greatestMark_16 : decode cX3_greatestMark 16 = .ok (.aload_n 0, 1) := by decide +kernel
theorem dX3_greatestMark_17 : decode cX3_greatestMark 17 = .ok (.iload_n 1, 1) := by decide +kernel
theorem dX3_greatestMark_18 : decode cX3_greatestMark 18 = .ok (.iload_n 2, 1) := by decide +kernel
theorem dX3_greatestMark_19 : decode cX3_greatestMark 19 = .ok (.invokevirtual 100, 3) := by decide +kernel
theorem dX3_greatestMark_22 : decode cX3_greatestMark 22 = .ok (.ifCond .ne 11, 3) := by decide +kernel
theorem dX3_greatestMark_25 : decode cX3_greatestMark 25 = .ok (.aload_n 0, 1) := by decide +kernel
theorem dX3_greatestMark_26 : decode cX3_greatestMark 26 = .ok (.iload_n 2, 1) := by decide +kernel
theorem dX3_greatestMark_27 : decode cX3_greatestMark 27 = .ok (.invokevirtual 97, 3) := by decide +kernel
theorem dX3_greatestMark_30 : decode cX3_greatestMark 30 = .ok (.ifCond .eq 8, 3) := by decide +kernel
theorem dX3_greatestMark_33 : decode cX3_greatestMark 33 = .ok (.bipush 10, 2) := by decide +kernel
theorem dX3_greatestMark_35 : decode cX3_greatestMark 35 = .ok (.goto 4, 3) := by decide +kernel
theorem dX3_greatestMark_38 : decode cX3_greatestMark 38 = .ok (.iconst 0, 1) := by decide +kernel
theorem dX3_greatestMark_39 : decode cX3_greatestMark 39 = .ok (.ireturn, 1) := by decide +kernel
set_option maxRecDepth 20000 in
theorem ggX3_greatestScore_X3_greatestMark : GoodIn wsX3_greatestScore wsX3_greatestMark := goodIn_r _ [8, 9, 10, 11, 7, 12, 13, 14, 15, 16, 17, 18, 19, 20, 21, 22, 23, 24, 25, 26, 27, 28, 29, 30, 31, 32, 33, 34, 35, 36, 45, 46, 47, 48, 49, 50, 51, 52, 53, 54, 55, 56] (by decide +kernel) (by decide +kernel)
set_option maxRecDepth 20000 in
theorem gX3_greatestScore_X3_greatestMark : GoodIn wsX3_greatestScore (wsV RX3 161 RX3 yX3_greatestMark wsX3_greatestMark) := goodIn_app (goodIn_of _ (by decide +kernel)) ggX3_greatestScore_X3_greatestMark
set_option maxRecDepth 20000 in
theorem ggX3_greatestScore_X3_withJoker : GoodIn wsX3_greatestScore wsX3_withJoker := goodIn_r _ [40, 3, 45, 46, 47, 48, 49, 50, 51, 52, 53, 54, 55, 56] (by decide +kernel) (by decide +kernel)
set_option maxRecDepth 20000 in
theorem gX3_greatestScore_X3_withJoker : GoodIn wsX3_greatestScore (wsV RX3 103 RX3 yX3_withJoker wsX3_withJoker) := goodIn_app (goodIn_of _ (by decide +kernel)) ggX3_greatestScore_X3_withJoker
set_option maxRecDepth 20000 in
theorem ggX3_greatestScore_X3_canHandIn : GoodIn wsX3_greatestScore wsX3_canHandIn := goodIn_r _ [44, 32, 33, 34, 7, 35, 36, 31, 26, 27, 28, 29, 30, 18, 19, 20, 45, 46, 47, 48, 49, 50, 51, 52, 53, 54, 55, 56] (by decide +kernel) (by decide +kernel)
set_option maxRecDepth 20000 in
theorem gX3_greatestScore_X3_canHandIn : GoodIn wsX3_greatestScore (wsV RX3 164 RX3 yX3_canHandIn wsX3_canHandIn) := goodIn_app (goodIn_of _ (by decide +kernel)) ggX3_greatestScore_X3_canHandIn
theorem dX3_greatestScore_0 : decode cX3_greatestScore 0 = .ok (.aload_n 0, 1) := by decide +kernel
theorem dX3_greatestScore_1 : decode cX3_greatestScore 1 = .ok (.getfield 9, 3) := by decide +kernel
theorem dX3_greatestScore_4 : decode cX3_greatestScore 4 = .ok (.iconst 3, 1) := by decide +kernel
theorem dX3_greatestScore_5 : decode cX3_greatestScore 5 = .ok (.iaload, 1) := by decide +kernel
theorem dX3_greatestScore_6 : decode cX3_greatestScore 6 = .ok (.ineg, 1) := by decide +kernel
theorem dX3_greatestScore_7 : decode cX3_greatestScore 7 = .ok (.aload_n 0, 1) := by decide +kernel
theorem dX3_greatestScore_8 : decode cX3_greatestScore 8 = .ok (.getfield 21, 3) := by decide +kernel
theorem dX3_greatestScore_11 : decode cX3_greatestScore 11 = .ok (.iload_n 1, 1) := by decide +kernel
theorem dX3_greatestScore_12 : decode cX3_greatestScore 12 = .ok (.iaload, 1) := by decide +kernel
theorem dX3_greatestScore_13 : decode cX3_greatestScore 13 = .ok (.imul, 1) := by decide +kernel
theorem dX3_greatestScore_14 : decode cX3_greatestScore 14 = .ok (.istore_n 2, 1) := by decide +kernel
theorem dX3_greatestScore_15 : decode cX3_greatestScore 15 = .ok (.iconst 0, 1) := by decide +kernel
theorem dX3_greatestScore_16 : decode cX3_greatestScore 16 = .ok (.istore_n 3, 1) := by decide +kernel
theorem dX3_greatestScore_17 : decode cX3_greatestScore 17 = .ok (.iconst 0, 1) := by decide +kernel
theorem dX3_greatestScore_18 : decode cX3_greatestScore 18 = .ok (.istore 4, 2) := by decide +kernel
theorem dX3_greatestScore_20 : decode cX3_greatestScore 20 = .ok (.iload 4, 2) := by decide +kernel
theorem dX3_greatestScore_22 : decode cX3_greatestScore 22 = .ok (.bipush 8, 2) := by decide +kernel
theorem dX3_greatestScore_24 : decode cX3_greatestScore 24 = .ok (.if_icmp .ge 55, 3) := by decide +kernel
theorem dX3_greatestScore_27 : decode cX3_greatestScore 27 = .ok (.iload_n 2, 1) := by decide +kernel
theorem dX3_greatestScore_28 : decode cX3_greatestScore 28 = .ok (.aload_n 0, 1) := by decide +kernel
theorem dX3_greatestScore_29 : decode cX3_greatestScore 29 = .ok (.iload_n 1, 1) := by decide +kernel
theorem dX3_greatestScore_30 : decode cX3_greatestScore 30 = .ok (.iload 4, 2) := by decide +kernel
theorem dX3_greatestScore_32 : decode cX3_greatestScore 32 = .ok (.aload_n 0, 1) := by decide +kernel
theorem dX3_greatestScore_33 : decode cX3_greatestScore 33 = .ok (.iload_n 1, 1) := by decide +kernel
theorem dX3_greatestScore_34 : decode cX3_greatestScore 34 = .ok (.iload 4, 2) := by decide +kernel
theorem dX3_greatestScore_36 : decode cX3_greatestScore 36 = .ok (.invokevirtual 161, 3) := by decide +kernel
theorem dX3_greatestScore_39 : decode cX3_greatestScore 39 = .ok (.invokevirtual 103, 3) := by decide +kernel
theorem dX3_greatestScore_42 : decode cX3_greatestScore 42 = .ok (.iadd, 1) := by decide +kernel
theorem dX3_greatestScore_43 : decode cX3_greatestScore 43 = .ok (.istore_n 2, 1) := by decide +kernel
theorem dX3_greatestScore_44 : decode cX3_greatestScore 44 = .ok (.iload_n 3, 1) := by decide +kernel
theorem dX3_greatestScore_45 : decode cX3_greatestScore 45 = .ok (.aload_n 0, 1) := by decide +kernel
theorem dX3_greatestScore_46 : decode cX3_greatestScore 46 = .ok (.getfield 18, 3) := by decide +kernel
theorem dX3_greatestScore_49 : decode cX3_greatestScore 49 = .ok (.iload_n 1, 1) := by decide +kernel
theorem dX3_greatestScore_50 : decode cX3_greatestScore 50 = .ok (.iaload, 1) := by decide +kernel
theorem dX3_greatestScore_51 : decode cX3_greatestScore 51 = .ok (.bipush (-6), 2) := by decide +kernel
theorem dX3_greatestScore_53 : decode cX3_greatestScore 53 = .ok (.if_icmp .ne 17, 3) := by decide +kernel
theorem dX3_greatestScore_56 : decode cX3_greatestScore 56 = .ok (.aload_n 0, 1) := by decide +kernel
theorem dX3_greatestScore_57 : decode cX3_greatestScore 57 = .ok (.iload_n 1, 1) := by decide +kernel
theorem dX3_greatestScore_58 : decode cX3_greatestScore 58 = .ok (.iload 4, 2) := by decide +kernel
theorem dX3_greatestScore_60 : decode cX3_greatestScore 60 = .ok (.invokevirtual 164, 3) := by decide +kernel
theorem dX3_greatestScore_63 : decode cX3_greatestScore 63 = .ok (.ifCond .eq 7, 3) := by decide +kernel
theorem dX3_greatestScore_66 : decode cX3_greatestScore 66 = .ok (.iconst 1, 1) := by decide +kernel
theorem dX3_greatestScore_67 : decode cX3_greatestScore 67 = .ok (.goto 4, 3) := by decide +kernel
theorem dX3_greatestScore_70 : decode cX3_greatestScore 70 = .ok (.iconst 0, 1) := by decide +kernel
theorem dX3_greatestScore_71 : decode cX3_greatestScore 71 = .ok (.ior, 1) := by decide +kernel
theorem dX3_greatestScore_72 : decode cX3_greatestScore 72 = .ok (.istore_n 3, 1) := by decide +kernel
theorem dX3_greatestScore_73 : decode cX3_greatestScore 73 = .ok (.iinc 4 1, 3) := by decide +kernel
theorem dX3_greatestScore_76 : decode cX3_greatestScore 76 = .ok (.goto (-56), 3) := by decide +kernel
theorem dX3_greatestScore_79 : decode cX3_greatestScore 79 = .ok (.iload_n 3, 1) := by decide +kernel
theorem dX3_greatestScore_80 : decode cX3_greatestScore 80 = .ok (.ifCond .eq 10, 3) := by decide +kernel
theorem dX3_greatestScore_83 : decode cX3_greatestScore 83 = .ok (.iload_n 2, 1) := by decide +kernel
theorem dX3_greatestScore_84 : decode cX3_greatestScore 84 = .ok (.bipush 10, 2) := by decide +kernel
theorem dX3_greatestScore_86 : decode cX3_greatestScore 86 = .ok (.iadd, 1) := by decide +kernel
theorem dX3_greatestScore_87 : decode cX3_greatestScore 87 = .ok (.goto 4, 3) := by decide +kernel
theorem dX3_greatestScore_90 : decode cX3_greatestScore 90 = .ok (.iload_n 2, 1) := by decide +kernel
theorem dX3_greatestScore_91 : decode cX3_greatestScore 91 = .ok (.ireturn, 1) := by decide +kernel
set_option maxRecDepth 20000 in
theorem ggX3_canReachOthers_X3_greatestScore : GoodIn wsX3_canReachOthers wsX3_greatestScore := goodIn_r _ [6, 7, 8, 9, 10, 11, 12, 5, 13, 14, 15, 16, 17, 18, 19, 20, 21, 22, 23, 24, 25, 26, 27, 28, 29, 30, 31, 32, 33, 34, 35, 36, 37, 38, 39, 40, 41, 42, 43, 44, 45, 46, 47, 48, 49, 58, 59, 60, 61, 62, 63, 64, 65, 66, 67, 68, 69] (by decide +kernel) (by decide +kernel)
set_option maxRecDepth 20000 in
theorem gX3_canReachOthers_X3_greatestScore : GoodIn wsX3_canReachOthers (wsV RX3 167 RX3 yX3_greatestScore wsX3_greatestScore) := goodIn_app (goodIn_of _ (by decide +kernel)) ggX3_canReachOthers_X3_greatestScore
set_option maxRecDepth 20000 in
theorem ggX3_canReachOthers_X3_scoreOf : GoodIn wsX3_canReachOthers wsX3_scoreOf := goodIn_r _ [53, 7, 8, 54, 55, 56, 5, 57, 22, 30, 23, 24, 25, 42, 43, 44, 45, 9, 58, 59, 60, 61, 62, 63, 64, 65, 66, 67, 68, 69] (by decide +kernel) (by decide +kernel)
set_option maxRecDepth 20000 in
theorem gX3_canReachOthers_X3_scoreOf : GoodIn wsX3_canReachOthers (wsV RX3 118 RX3 yX3_scoreOf wsX3_scoreOf) := goodIn_app (goodIn_of _ (by decide +kernel)) ggX3_canReachOthers_X3_scoreOf
theorem dX3_canReachOthers_0 : decode cX3_canReachOthers 0 = .ok (.aload_n 0, 1) := by decide +kernel
theorem dX3_canReachOthers_1 : decode cX3_canReachOthers 1 = .ok (.iload_n 1, 1) := by decide +kernel
theorem dX3_canReachOthers_2 : decode cX3_canReachOthers 2 = .ok (.invokevirtual 167, 3) := by decide +kernel
theorem dX3_canReachOthers_5 : decode cX3_canReachOthers 5 = .ok (.istore_n 2, 1) := by decide +kernel
theorem dX3_canReachOthers_6 : decode cX3_canReachOthers 6 = .ok (.iconst 0, 1) := by decide +kernel
theorem dX3_canReachOthers_7 : decode cX3_canReachOthers 7 = .ok (.istore_n 3, 1) := by decide +kernel
theorem dX3_canReachOthers_8 : decode cX3_canReachOthers 8 = .ok (.iload_n 3, 1) := by decide +kernel
theorem dX3_canReachOthers_9 : decode cX3_canReachOthers 9 = .ok (.aload_n 0, 1) := by decide +kernel
theorem dX3_canReachOthers_10 : decode cX3_canReachOthers 10 = .ok (.getfield 66, 3) := by decide +kernel
theorem dX3_canReachOthers_13 : decode cX3_canReachOthers 13 = .ok (.if_icmp .ge 25, 3) := by decide +kernel
theorem dX3_canReachOthers_16 : decode cX3_canReachOthers 16 = .ok (.iload_n 3, 1) := by decide +kernel
theorem dX3_canReachOthers_17 : decode cX3_canReachOthers 17 = .ok (.iload_n 1, 1) := by decide +kernel
theorem dX3_canReachOthers_18 : decode cX3_canReachOthers 18 = .ok (.if_icmp .eq 14, 3) := by decide +kernel
theorem dX3_canReachOthers_21 : decode cX3_canReachOthers 21 = .ok (.aload_n 0, 1) := by decide +kernel
theorem dX3_canReachOthers_22 : decode cX3_canReachOthers 22 = .ok (.iload_n 3, 1) := by decide +kernel
theorem dX3_canReachOthers_23 : decode cX3_canReachOthers 23 = .ok (.invokevirtual 118, 3) := by decide +kernel
theorem dX3_canReachOthers_26 : decode cX3_canReachOthers 26 = .ok (.iload_n 2, 1) := by decide +kernel
theorem dX3_canReachOthers_27 : decode cX3_canReachOthers 27 = .ok (.if_icmp .le 5, 3) := by decide +kernel
theorem dX3_canReachOthers_30 : decode cX3_canReachOthers 30 = .ok (.iconst 0, 1) := by decide +kernel
theorem dX3_canReachOthers_31 : decode cX3_canReachOthers 31 = .ok (.ireturn, 1) := by decide +kernel
theorem dX3_canReachOthers_32 : decode cX3_canReachOthers 32 = .ok (.iinc 3 1, 3) := by decide +kernel
theorem dX3_canReachOthers_35 : decode cX3_canReachOthers 35 = .ok (.goto (-27), 3) := by decide +kernel
theorem dX3_canReachOthers_38 : decode cX3_canReachOthers 38 = .ok (.iconst 1, 1) := by decide +kernel
theorem dX3_canReachOthers_39 : decode cX3_canReachOthers 39 = .ok (.ireturn, 1) := by decide +kernel
set_option maxRecDepth 20000 in
theorem ggX3_scoreIfLooked_X3_scoreOf : GoodIn wsX3_scoreIfLooked wsX3_scoreOf := goodIn_r _ [6, 1, 7, 8, 9, 10, 5, 11, 12, 13, 14, 15, 16, 17, 18, 19, 20, 21, 58, 59, 60, 61, 62, 63, 64, 65, 66, 67, 68, 69] (by decide +kernel) (by decide +kernel)
set_option maxRecDepth 20000 in
theorem gX3_scoreIfLooked_X3_scoreOf : GoodIn wsX3_scoreIfLooked (wsV RX3 118 RX3 yX3_scoreOf wsX3_scoreOf) := goodIn_app (goodIn_of _ (by decide +kernel)) ggX3_scoreIfLooked_X3_scoreOf
set_option maxRecDepth 20000 in
theorem ggX3_scoreIfLooked_X3_wrongMarksToldBy : GoodIn wsX3_scoreIfLooked wsX3_wrongMarksToldBy := goodIn_r _ [25, 26, 27, 28, 29, 5, 30, 12, 14, 15, 16, 31, 32, 33, 34, 35, 36, 37, 38, 39, 40, 41, 42, 43, 44, 45, 46, 47, 13, 48, 49, 50, 51, 52, 53, 1, 54, 55, 56, 57, 58, 59, 60, 61, 62, 63, 64, 65, 66, 67, 68, 69] (by decide +kernel) (by decide +kernel)
set_option maxRecDepth 20000 in
theorem gX3_scoreIfLooked_X3_wrongMarksToldBy : GoodIn wsX3_scoreIfLooked (wsV RX3 170 RX3 yX3_wrongMarksToldBy wsX3_wrongMarksToldBy) := goodIn_app (goodIn_of _ (by decide +kernel)) ggX3_scoreIfLooked_X3_wrongMarksToldBy
set_option maxRecDepth 20000 in
theorem ggX3_scoreIfLooked_X3_isWrong : GoodIn wsX3_scoreIfLooked wsX3_isWrong := goodIn_r _ [34, 35, 36, 37, 5, 38, 27, 28, 29, 30, 12, 14, 15, 16, 39, 40, 41, 42, 43, 44, 45, 46, 47, 13, 48, 49, 50, 51, 52, 53, 1, 54, 55, 56, 57, 58, 59, 60, 61, 62, 63, 64, 65, 66, 67, 68, 69] (by decide +kernel) (by decide +kernel)
set_option maxRecDepth 20000 in
theorem gX3_scoreIfLooked_X3_isWrong : GoodIn wsX3_scoreIfLooked (wsV RX3 173 RX3 yX3_isWrong wsX3_isWrong) := goodIn_app (goodIn_of _ (by decide +kernel)) ggX3_scoreIfLooked_X3_isWrong
set_option maxRecDepth 20000 in
theorem ggX3_scoreIfLooked_X3_trueMark : GoodIn wsX3_scoreIfLooked wsX3_trueMark := goodIn_r _ [51, 52, 53, 1, 14, 15, 16, 54, 55, 56, 57, 58, 59, 60, 61, 62, 63, 64, 65, 66, 67, 68, 69] (by decide +kernel) (by decide +kernel)
set_option maxRecDepth 20000 in
theorem gX3_scoreIfLooked_X3_trueMark : GoodIn wsX3_scoreIfLooked (wsV RX3 86 RX3 yX3_trueMark wsX3_trueMark) := goodIn_app (goodIn_of _ (by decide +kernel)) ggX3_scoreIfLooked_X3_trueMark
set_option maxRecDepth 20000 in
theorem ggX3_scoreIfLooked_X3_markOf : GoodIn wsX3_scoreIfLooked wsX3_markOf := goodIn_r _ [47, 13, 14, 15, 16, 58, 59, 60, 61, 62, 63, 64, 65, 66, 67, 68, 69] (by decide +kernel) (by decide +kernel)
set_option maxRecDepth 20000 in
theorem gX3_scoreIfLooked_X3_markOf : GoodIn wsX3_scoreIfLooked (wsV RX3 83 RX3 yX3_markOf wsX3_markOf) := goodIn_app (goodIn_of _ (by decide +kernel)) ggX3_scoreIfLooked_X3_markOf
set_option maxRecDepth 20000 in
theorem ggX3_scoreIfLooked_X3_withJoker : GoodIn wsX3_scoreIfLooked wsX3_withJoker := goodIn_r _ [20, 21, 58, 59, 60, 61, 62, 63, 64, 65, 66, 67, 68, 69] (by decide +kernel) (by decide +kernel)
set_option maxRecDepth 20000 in
theorem gX3_scoreIfLooked_X3_withJoker : GoodIn wsX3_scoreIfLooked (wsV RX3 103 RX3 yX3_withJoker wsX3_withJoker) := goodIn_app (goodIn_of _ (by decide +kernel)) ggX3_scoreIfLooked_X3_withJoker
theorem dX3_scoreIfLooked_0 : decode cX3_scoreIfLooked 0 = .ok (.aload_n 0, 1) := by decide +kernel
theorem dX3_scoreIfLooked_1 : decode cX3_scoreIfLooked 1 = .ok (.iload_n 1, 1) := by decide +kernel
theorem dX3_scoreIfLooked_2 : decode cX3_scoreIfLooked 2 = .ok (.invokevirtual 118, 3) := by decide +kernel
theorem dX3_scoreIfLooked_5 : decode cX3_scoreIfLooked 5 = .ok (.aload_n 0, 1) := by decide +kernel
theorem dX3_scoreIfLooked_6 : decode cX3_scoreIfLooked 6 = .ok (.getfield 9, 3) := by decide +kernel
theorem dX3_scoreIfLooked_9 : decode cX3_scoreIfLooked 9 = .ok (.iconst 3, 1) := by decide +kernel
theorem dX3_scoreIfLooked_10 : decode cX3_scoreIfLooked 10 = .ok (.iaload, 1) := by decide +kernel
theorem dX3_scoreIfLooked_11 : decode cX3_scoreIfLooked 11 = .ok (.aload_n 0, 1) := by decide +kernel
theorem dX3_scoreIfLooked_12 : decode cX3_scoreIfLooked 12 = .ok (.iload_n 1, 1) := by decide +kernel
theorem dX3_scoreIfLooked_13 : decode cX3_scoreIfLooked 13 = .ok (.invokevirtual 170, 3) := by decide +kernel
theorem dX3_scoreIfLooked_16 : decode cX3_scoreIfLooked 16 = .ok (.imul, 1) := by decide +kernel
theorem dX3_scoreIfLooked_17 : decode cX3_scoreIfLooked 17 = .ok (.isub, 1) := by decide +kernel
theorem dX3_scoreIfLooked_18 : decode cX3_scoreIfLooked 18 = .ok (.istore_n 2, 1) := by decide +kernel
theorem dX3_scoreIfLooked_19 : decode cX3_scoreIfLooked 19 = .ok (.iconst 0, 1) := by decide +kernel
theorem dX3_scoreIfLooked_20 : decode cX3_scoreIfLooked 20 = .ok (.istore_n 3, 1) := by decide +kernel
theorem dX3_scoreIfLooked_21 : decode cX3_scoreIfLooked 21 = .ok (.iload_n 3, 1) := by decide +kernel
theorem dX3_scoreIfLooked_22 : decode cX3_scoreIfLooked 22 = .ok (.bipush 8, 2) := by decide +kernel
theorem dX3_scoreIfLooked_24 : decode cX3_scoreIfLooked 24 = .ok (.if_icmp .ge 44, 3) := by decide +kernel
theorem dX3_scoreIfLooked_27 : decode cX3_scoreIfLooked 27 = .ok (.aload_n 0, 1) := by decide +kernel
theorem dX3_scoreIfLooked_28 : decode cX3_scoreIfLooked 28 = .ok (.iload_n 1, 1) := by decide +kernel
theorem dX3_scoreIfLooked_29 : decode cX3_scoreIfLooked 29 = .ok (.iload_n 3, 1) := by decide +kernel
theorem dX3_scoreIfLooked_30 : decode cX3_scoreIfLooked 30 = .ok (.invokevirtual 173, 3) := by decide +kernel
theorem dX3_scoreIfLooked_33 : decode cX3_scoreIfLooked 33 = .ok (.ifCond .eq 29, 3) := by decide +kernel
theorem dX3_scoreIfLooked_36 : decode cX3_scoreIfLooked 36 = .ok (.aload_n 0, 1) := by decide +kernel
theorem dX3_scoreIfLooked_37 : decode cX3_scoreIfLooked 37 = .ok (.iload_n 1, 1) := by decide +kernel
theorem dX3_scoreIfLooked_38 : decode cX3_scoreIfLooked 38 = .ok (.iload_n 3, 1) := by decide +kernel
theorem dX3_scoreIfLooked_39 : decode cX3_scoreIfLooked 39 = .ok (.invokevirtual 86, 3) := by decide +kernel
theorem dX3_scoreIfLooked_42 : decode cX3_scoreIfLooked 42 = .ok (.aload_n 0, 1) := by decide +kernel
theorem dX3_scoreIfLooked_43 : decode cX3_scoreIfLooked 43 = .ok (.iload_n 1, 1) := by decide +kernel
theorem dX3_scoreIfLooked_44 : decode cX3_scoreIfLooked 44 = .ok (.iload_n 3, 1) := by decide +kernel
theorem dX3_scoreIfLooked_45 : decode cX3_scoreIfLooked 45 = .ok (.invokevirtual 83, 3) := by decide +kernel
theorem dX3_scoreIfLooked_48 : decode cX3_scoreIfLooked 48 = .ok (.isub, 1) := by decide +kernel
theorem dX3_scoreIfLooked_49 : decode cX3_scoreIfLooked 49 = .ok (.istore 4, 2) := by decide +kernel
theorem dX3_scoreIfLooked_51 : decode cX3_scoreIfLooked 51 = .ok (.iload_n 2, 1) := by decide +kernel
theorem dX3_scoreIfLooked_52 : decode cX3_scoreIfLooked 52 = .ok (.aload_n 0, 1) := by decide +kernel
theorem dX3_scoreIfLooked_53 : decode cX3_scoreIfLooked 53 = .ok (.iload_n 1, 1) := by decide +kernel
theorem dX3_scoreIfLooked_54 : decode cX3_scoreIfLooked 54 = .ok (.iload_n 3, 1) := by decide +kernel
theorem dX3_scoreIfLooked_55 : decode cX3_scoreIfLooked 55 = .ok (.iload 4, 2) := by decide +kernel
theorem dX3_scoreIfLooked_57 : decode cX3_scoreIfLooked 57 = .ok (.invokevirtual 103, 3) := by decide +kernel
theorem dX3_scoreIfLooked_60 : decode cX3_scoreIfLooked 60 = .ok (.iadd, 1) := by decide +kernel
theorem dX3_scoreIfLooked_61 : decode cX3_scoreIfLooked 61 = .ok (.istore_n 2, 1) := by decide +kernel
theorem dX3_scoreIfLooked_62 : decode cX3_scoreIfLooked 62 = .ok (.iinc 3 1, 3) := by decide +kernel
theorem dX3_scoreIfLooked_65 : decode cX3_scoreIfLooked 65 = .ok (.goto (-44), 3) := by decide +kernel
theorem dX3_scoreIfLooked_68 : decode cX3_scoreIfLooked 68 = .ok (.iload_n 2, 1) := by decide +kernel
theorem dX3_scoreIfLooked_69 : decode cX3_scoreIfLooked 69 = .ok (.ireturn, 1) := by decide +kernel
set_option maxRecDepth 20000 in
theorem ggX3_wrongMarksToldBy_X3_markerOf : GoodIn wsX3_wrongMarksToldBy wsX3_markerOf := goodIn_r _ [6, 7, 8, 9, 10, 40, 41, 42, 43, 44, 45, 46, 47, 48, 49, 50, 51] (by decide +kernel) (by decide +kernel)
set_option maxRecDepth 20000 in
theorem gX3_wrongMarksToldBy_X3_markerOf : GoodIn wsX3_wrongMarksToldBy (wsV RX3 73 RX3 yX3_markerOf wsX3_markerOf) := goodIn_app (goodIn_of _ (by decide +kernel)) ggX3_wrongMarksToldBy_X3_markerOf
set_option maxRecDepth 20000 in
theorem ggX3_wrongMarksToldBy_X3_isWrong : GoodIn wsX3_wrongMarksToldBy wsX3_isWrong := goodIn_r _ [14, 15, 16, 17, 5, 18, 2, 3, 4, 6, 7, 8, 9, 10, 19, 20, 21, 22, 23, 24, 25, 26, 27, 28, 29, 30, 31, 32, 33, 34, 35, 36, 37, 38, 39, 40, 41, 42, 43, 44, 45, 46, 47, 48, 49, 50, 51] (by decide +kernel) (by decide +kernel)
set_option maxRecDepth 20000 in
theorem gX3_wrongMarksToldBy_X3_isWrong : GoodIn wsX3_wrongMarksToldBy (wsV RX3 173 RX3 yX3_isWrong wsX3_isWrong) := goodIn_app (goodIn_of _ (by decide +kernel)) ggX3_wrongMarksToldBy_X3_isWrong
theorem dX3_wrongMarksToldBy_0 : decode cX3_wrongMarksToldBy 0 = .ok (.iconst 0, 1) := by decide +kernel
theorem dX3_wrongMarksToldBy_1 : decode cX3_wrongMarksToldBy 1 = .ok (.istore_n 2, 1) := by decide +kernel
theorem dX3_wrongMarksToldBy_2 : decode cX3_wrongMarksToldBy 2 = .ok (.iconst 0, 1) := by decide +kernel
theorem dX3_wrongMarksToldBy_3 : decode cX3_wrongMarksToldBy 3 = .ok (.istore_n 3, 1) := by decide +kernel
theorem dX3_wrongMarksToldBy_4 : decode cX3_wrongMarksToldBy 4 = .ok (.iload_n 3, 1) := by decide +kernel
theorem dX3_wrongMarksToldBy_5 : decode cX3_wrongMarksToldBy 5 = .ok (.aload_n 0, 1) := by decide +kernel
theorem dX3_wrongMarksToldBy_6 : decode cX3_wrongMarksToldBy 6 = .ok (.getfield 66, 3) := by decide +kernel
theorem dX3_wrongMarksToldBy_9 : decode cX3_wrongMarksToldBy 9 = .ok (.if_icmp .ge 54, 3) := by decide +kernel
theorem dX3_wrongMarksToldBy_12 : decode cX3_wrongMarksToldBy 12 = .ok (.iconst 0, 1) := by decide +kernel
theorem dX3_wrongMarksToldBy_13 : decode cX3_wrongMarksToldBy 13 = .ok (.istore 4, 2) := by decide +kernel
theorem dX3_wrongMarksToldBy_15 : decode cX3_wrongMarksToldBy 15 = .ok (.iload 4, 2) := by decide +kernel
theorem dX3_wrongMarksToldBy_17 : decode cX3_wrongMarksToldBy 17 = .ok (.bipush 8, 2) := by decide +kernel
theorem dX3_wrongMarksToldBy_19 : decode cX3_wrongMarksToldBy 19 = .ok (.if_icmp .ge 38, 3) := by decide +kernel
theorem dX3_wrongMarksToldBy_22 : decode cX3_wrongMarksToldBy 22 = .ok (.iload_n 2, 1) := by decide +kernel
theorem dX3_wrongMarksToldBy_23 : decode cX3_wrongMarksToldBy 23 = .ok (.aload_n 0, 1) := by decide +kernel
theorem dX3_wrongMarksToldBy_24 : decode cX3_wrongMarksToldBy 24 = .ok (.iload_n 3, 1) := by decide +kernel
theorem dX3_wrongMarksToldBy_25 : decode cX3_wrongMarksToldBy 25 = .ok (.iload 4, 2) := by decide +kernel
theorem dX3_wrongMarksToldBy_27 : decode cX3_wrongMarksToldBy 27 = .ok (.invokevirtual 73, 3) := by decide +kernel
theorem dX3_wrongMarksToldBy_30 : decode cX3_wrongMarksToldBy 30 = .ok (.iload_n 1, 1) := by decide +kernel
theorem dX3_wrongMarksToldBy_31 : decode cX3_wrongMarksToldBy 31 = .ok (.if_icmp .ne 17, 3) := by decide +kernel
theorem dX3_wrongMarksToldBy_34 : decode cX3_wrongMarksToldBy 34 = .ok (.aload_n 0, 1) := by decide +kernel
theorem dX3_wrongMarksToldBy_35 : decode cX3_wrongMarksToldBy 35 = .ok (.iload_n 3, 1) := by decide +kernel
theorem dX3_wrongMarksToldBy_36 : decode cX3_wrongMarksToldBy 36 = .ok (.iload 4, 2) := by decide +kernel
theorem dX3_wrongMarksToldBy_38 : decode cX3_wrongMarksToldBy 38 = .ok (.invokevirtual 173, 3) := by decide +kernel
theorem dX3_wrongMarksToldBy_41 : decode cX3_wrongMarksToldBy 41 = .ok (.ifCond .eq 7, 3) := by decide +kernel
theorem dX3_wrongMarksToldBy_44 : decode cX3_wrongMarksToldBy 44 = .ok (.iconst 1, 1) := by decide +kernel
theorem dX3_wrongMarksToldBy_45 : decode cX3_wrongMarksToldBy 45 = .ok (.goto 4, 3) := by decide +kernel
theorem dX3_wrongMarksToldBy_48 : decode cX3_wrongMarksToldBy 48 = .ok (.iconst 0, 1) := by decide +kernel
theorem dX3_wrongMarksToldBy_49 : decode cX3_wrongMarksToldBy 49 = .ok (.iadd, 1) := by decide +kernel
theorem dX3_wrongMarksToldBy_50 : decode cX3_wrongMarksToldBy 50 = .ok (.istore_n 2, 1) := by decide +kernel
theorem dX3_wrongMarksToldBy_51 : decode cX3_wrongMarksToldBy 51 = .ok (.iinc 4 1, 3) := by decide +kernel
theorem dX3_wrongMarksToldBy_54 : decode cX3_wrongMarksToldBy 54 = .ok (.goto (-39), 3) := by decide +kernel
theorem dX3_wrongMarksToldBy_57 : decode cX3_wrongMarksToldBy 57 = .ok (.iinc 3 1, 3) := by decide +kernel
theorem dX3_wrongMarksToldBy_60 : decode cX3_wrongMarksToldBy 60 = .ok (.goto (-56), 3) := by decide +kernel
theorem dX3_wrongMarksToldBy_63 : decode cX3_wrongMarksToldBy 63 = .ok (.iload_n 2, 1) := by decide +kernel
theorem dX3_wrongMarksToldBy_64 : decode cX3_wrongMarksToldBy 64 = .ok (.ireturn, 1) := by decide +kernel
end
section
theorem dJ6_bitCount_0f7a4_0 : decode cJ6_bitCount_0f7a4 0 = .ok (.iload_n 0, 1) := by decide +kernel
theorem dJ6_bitCount_0f7a4_1 : decode cJ6_bitCount_0f7a4 1 = .ok (.iload_n 0, 1) := by decide +kernel
theorem dJ6_bitCount_0f7a4_2 : decode cJ6_bitCount_0f7a4 2 = .ok (.iconst 1, 1) := by decide +kernel
theorem dJ6_bitCount_0f7a4_3 : decode cJ6_bitCount_0f7a4 3 = .ok (.iushr, 1) := by decide +kernel
theorem dJ6_bitCount_0f7a4_4 : decode cJ6_bitCount_0f7a4 4 = .ok (.ldc_w 265, 3) := by decide +kernel
theorem dJ6_bitCount_0f7a4_7 : decode cJ6_bitCount_0f7a4 7 = .ok (.iand, 1) := by decide +kernel
theorem dJ6_bitCount_0f7a4_8 : decode cJ6_bitCount_0f7a4 8 = .ok (.isub, 1) := by decide +kernel
theorem dJ6_bitCount_0f7a4_9 : decode cJ6_bitCount_0f7a4 9 = .ok (.istore_n 0, 1) := by decide +kernel
theorem dJ6_bitCount_0f7a4_10 : decode cJ6_bitCount_0f7a4 10 = .ok (.iload_n 0, 1) := by decide +kernel
theorem dJ6_bitCount_0f7a4_11 : decode cJ6_bitCount_0f7a4 11 = .ok (.ldc_w 266, 3) := by decide +kernel
theorem dJ6_bitCount_0f7a4_14 : decode cJ6_bitCount_0f7a4 14 = .ok (.iand, 1) := by decide +kernel
theorem dJ6_bitCount_0f7a4_15 : decode cJ6_bitCount_0f7a4 15 = .ok (.iload_n 0, 1) := by decide +kernel
theorem dJ6_bitCount_0f7a4_16 : decode cJ6_bitCount_0f7a4 16 = .ok (.iconst 2, 1) := by decide +kernel
theorem dJ6_bitCount_0f7a4_17 : decode cJ6_bitCount_0f7a4 17 = .ok (.iushr, 1) := by decide +kernel
theorem dJ6_bitCount_0f7a4_18 : decode cJ6_bitCount_0f7a4 18 = .ok (.ldc_w 266, 3) := by decide +kernel
theorem dJ6_bitCount_0f7a4_21 : decode cJ6_bitCount_0f7a4 21 = .ok (.iand, 1) := by decide +kernel
theorem dJ6_bitCount_0f7a4_22 : decode cJ6_bitCount_0f7a4 22 = .ok (.iadd, 1) := by decide +kernel
theorem dJ6_bitCount_0f7a4_23 : decode cJ6_bitCount_0f7a4 23 = .ok (.istore_n 0, 1) := by decide +kernel
theorem dJ6_bitCount_0f7a4_24 : decode cJ6_bitCount_0f7a4 24 = .ok (.iload_n 0, 1) := by decide +kernel
theorem dJ6_bitCount_0f7a4_25 : decode cJ6_bitCount_0f7a4 25 = .ok (.iload_n 0, 1) := by decide +kernel
theorem dJ6_bitCount_0f7a4_26 : decode cJ6_bitCount_0f7a4 26 = .ok (.iconst 4, 1) := by decide +kernel
theorem dJ6_bitCount_0f7a4_27 : decode cJ6_bitCount_0f7a4 27 = .ok (.iushr, 1) := by decide +kernel
theorem dJ6_bitCount_0f7a4_28 : decode cJ6_bitCount_0f7a4 28 = .ok (.iadd, 1) := by decide +kernel
theorem dJ6_bitCount_0f7a4_29 : decode cJ6_bitCount_0f7a4 29 = .ok (.ldc_w 267, 3) := by decide +kernel
theorem dJ6_bitCount_0f7a4_32 : decode cJ6_bitCount_0f7a4 32 = .ok (.iand, 1) := by decide +kernel
theorem dJ6_bitCount_0f7a4_33 : decode cJ6_bitCount_0f7a4 33 = .ok (.istore_n 0, 1) := by decide +kernel
theorem dJ6_bitCount_0f7a4_34 : decode cJ6_bitCount_0f7a4 34 = .ok (.iload_n 0, 1) := by decide +kernel
theorem dJ6_bitCount_0f7a4_35 : decode cJ6_bitCount_0f7a4 35 = .ok (.iload_n 0, 1) := by decide +kernel
theorem dJ6_bitCount_0f7a4_36 : decode cJ6_bitCount_0f7a4 36 = .ok (.bipush 8, 2) := by decide +kernel
theorem dJ6_bitCount_0f7a4_38 : decode cJ6_bitCount_0f7a4 38 = .ok (.iushr, 1) := by decide +kernel
theorem dJ6_bitCount_0f7a4_39 : decode cJ6_bitCount_0f7a4 39 = .ok (.iadd, 1) := by decide +kernel
theorem dJ6_bitCount_0f7a4_40 : decode cJ6_bitCount_0f7a4 40 = .ok (.istore_n 0, 1) := by decide +kernel
theorem dJ6_bitCount_0f7a4_41 : decode cJ6_bitCount_0f7a4 41 = .ok (.iload_n 0, 1) := by decide +kernel
theorem dJ6_bitCount_0f7a4_42 : decode cJ6_bitCount_0f7a4 42 = .ok (.iload_n 0, 1) := by decide +kernel
theorem dJ6_bitCount_0f7a4_43 : decode cJ6_bitCount_0f7a4 43 = .ok (.bipush 16, 2) := by decide +kernel
theorem dJ6_bitCount_0f7a4_45 : decode cJ6_bitCount_0f7a4 45 = .ok (.iushr, 1) := by decide +kernel
theorem dJ6_bitCount_0f7a4_46 : decode cJ6_bitCount_0f7a4 46 = .ok (.iadd, 1) := by decide +kernel
theorem dJ6_bitCount_0f7a4_47 : decode cJ6_bitCount_0f7a4 47 = .ok (.istore_n 0, 1) := by decide +kernel
theorem dJ6_bitCount_0f7a4_48 : decode cJ6_bitCount_0f7a4 48 = .ok (.iload_n 0, 1) := by decide +kernel
theorem dJ6_bitCount_0f7a4_49 : decode cJ6_bitCount_0f7a4 49 = .ok (.bipush 63, 2) := by decide +kernel
theorem dJ6_bitCount_0f7a4_51 : decode cJ6_bitCount_0f7a4 51 = .ok (.iand, 1) := by decide +kernel
theorem dJ6_bitCount_0f7a4_52 : decode cJ6_bitCount_0f7a4 52 = .ok (.ireturn, 1) := by decide +kernel
theorem dJ9_abs_0f7a4_0 : decode cJ9_abs_0f7a4 0 = .ok (.iload_n 0, 1) := by decide +kernel
theorem dJ9_abs_0f7a4_1 : decode cJ9_abs_0f7a4 1 = .ok (.ifCond .ge 8, 3) := by decide +kernel
theorem dJ9_abs_0f7a4_4 : decode cJ9_abs_0f7a4 4 = .ok (.iload_n 0, 1) := by decide +kernel
theorem dJ9_abs_0f7a4_5 : decode cJ9_abs_0f7a4 5 = .ok (.ineg, 1) := by decide +kernel
theorem dJ9_abs_0f7a4_6 : decode cJ9_abs_0f7a4 6 = .ok (.goto 4, 3) := by decide +kernel
theorem dJ9_abs_0f7a4_9 : decode cJ9_abs_0f7a4 9 = .ok (.iload_n 0, 1) := by decide +kernel
theorem dJ9_abs_0f7a4_10 : decode cJ9_abs_0f7a4 10 = .ok (.ireturn, 1) := by decide +kernel
theorem dJ9_max_7cf53_0 : decode cJ9_max_7cf53 0 = .ok (.iload_n 0, 1) := by decide +kernel
theorem dJ9_max_7cf53_1 : decode cJ9_max_7cf53 1 = .ok (.iload_n 1, 1) := by decide +kernel
theorem dJ9_max_7cf53_2 : decode cJ9_max_7cf53 2 = .ok (.if_icmp .lt 7, 3) := by decide +kernel
theorem dJ9_max_7cf53_5 : decode cJ9_max_7cf53 5 = .ok (.iload_n 0, 1) := by decide +kernel
theorem dJ9_max_7cf53_6 : decode cJ9_max_7cf53 6 = .ok (.goto 4, 3) := by decide +kernel
theorem dJ9_max_7cf53_9 : decode cJ9_max_7cf53 9 = .ok (.iload_n 1, 1) := by decide +kernel
theorem dJ9_max_7cf53_10 : decode cJ9_max_7cf53 10 = .ok (.ireturn, 1) := by decide +kernel
theorem dJ9_min_7cf53_0 : decode cJ9_min_7cf53 0 = .ok (.iload_n 0, 1) := by decide +kernel
theorem dJ9_min_7cf53_1 : decode cJ9_min_7cf53 1 = .ok (.iload_n 1, 1) := by decide +kernel
theorem dJ9_min_7cf53_2 : decode cJ9_min_7cf53 2 = .ok (.if_icmp .gt 7, 3) := by decide +kernel
theorem dJ9_min_7cf53_5 : decode cJ9_min_7cf53 5 = .ok (.iload_n 0, 1) := by decide +kernel
theorem dJ9_min_7cf53_6 : decode cJ9_min_7cf53 6 = .ok (.goto 4, 3) := by decide +kernel
theorem dJ9_min_7cf53_9 : decode cJ9_min_7cf53 9 = .ok (.iload_n 1, 1) := by decide +kernel
theorem dJ9_min_7cf53_10 : decode cJ9_min_7cf53 10 = .ok (.ireturn, 1) := by decide +kernel
theorem dJ7_fill_d0a16_0 : decode cJ7_fill_d0a16 0 = .ok (.iconst 0, 1) := by decide +kernel
theorem dJ7_fill_d0a16_1 : decode cJ7_fill_d0a16 1 = .ok (.istore_n 3, 1) := by decide +kernel
theorem dJ7_fill_d0a16_2 : decode cJ7_fill_d0a16 2 = .ok (.aload_n 0, 1) := by decide +kernel
theorem dJ7_fill_d0a16_3 : decode cJ7_fill_d0a16 3 = .ok (.arraylength, 1) := by decide +kernel
theorem dJ7_fill_d0a16_4 : decode cJ7_fill_d0a16 4 = .ok (.istore 4, 2) := by decide +kernel
theorem dJ7_fill_d0a16_6 : decode cJ7_fill_d0a16 6 = .ok (.iload_n 3, 1) := by decide +kernel
theorem dJ7_fill_d0a16_7 : decode cJ7_fill_d0a16 7 = .ok (.iload 4, 2) := by decide +kernel
theorem dJ7_fill_d0a16_9 : decode cJ7_fill_d0a16 9 = .ok (.if_icmp .ge 13, 3) := by decide +kernel
theorem dJ7_fill_d0a16_12 : decode cJ7_fill_d0a16 12 = .ok (.aload_n 0, 1) := by decide +kernel
theorem dJ7_fill_d0a16_13 : decode cJ7_fill_d0a16 13 = .ok (.iload_n 3, 1) := by decide +kernel
theorem dJ7_fill_d0a16_14 : decode cJ7_fill_d0a16 14 = .ok (.lload_n 1, 1) := by decide +kernel
theorem dJ7_fill_d0a16_15 : decode cJ7_fill_d0a16 15 = .ok (.lastore, 1) := by decide +kernel
theorem dJ7_fill_d0a16_16 : decode cJ7_fill_d0a16 16 = .ok (.iinc 3 1, 3) := by decide +kernel
theorem dJ7_fill_d0a16_19 : decode cJ7_fill_d0a16 19 = .ok (.goto (-13), 3) := by decide +kernel
theorem dJ7_fill_d0a16_22 : decode cJ7_fill_d0a16 22 = .ok (.return_, 1) := by decide +kernel
theorem dJ7_fill_53178_0 : decode cJ7_fill_53178 0 = .ok (.iconst 0, 1) := by decide +kernel
theorem dJ7_fill_53178_1 : decode cJ7_fill_53178 1 = .ok (.istore_n 2, 1) := by decide +kernel
theorem dJ7_fill_53178_2 : decode cJ7_fill_53178 2 = .ok (.aload_n 0, 1) := by decide +kernel
theorem dJ7_fill_53178_3 : decode cJ7_fill_53178 3 = .ok (.arraylength, 1) := by decide +kernel
theorem dJ7_fill_53178_4 : decode cJ7_fill_53178 4 = .ok (.istore_n 3, 1) := by decide +kernel
theorem dJ7_fill_53178_5 : decode cJ7_fill_53178 5 = .ok (.iload_n 2, 1) := by decide +kernel
theorem dJ7_fill_53178_6 : decode cJ7_fill_53178 6 = .ok (.iload_n 3, 1) := by decide +kernel
theorem dJ7_fill_53178_7 : decode cJ7_fill_53178 7 = .ok (.if_icmp .ge 13, 3) := by decide +kernel
theorem dJ7_fill_53178_10 : decode cJ7_fill_53178 10 = .ok (.aload_n 0, 1) := by decide +kernel
theorem dJ7_fill_53178_11 : decode cJ7_fill_53178 11 = .ok (.iload_n 2, 1) := by decide +kernel
theorem dJ7_fill_53178_12 : decode cJ7_fill_53178 12 = .ok (.iload_n 1, 1) := by decide +kernel
theorem dJ7_fill_53178_13 : decode cJ7_fill_53178 13 = .ok (.iastore, 1) := by decide +kernel
theorem dJ7_fill_53178_14 : decode cJ7_fill_53178 14 = .ok (.iinc 2 1, 3) := by decide +kernel
theorem dJ7_fill_53178_17 : decode cJ7_fill_53178 17 = .ok (.goto (-12), 3) := by decide +kernel
theorem dJ7_fill_53178_20 : decode cJ7_fill_53178 20 = .ok (.return_, 1) := by decide +kernel
theorem dX4_isRound_0 : decode cX4_isRound 0 = .ok (.iload_n 0, 1) := by decide +kernel
theorem dX4_isRound_1 : decode cX4_isRound 1 = .ok (.ifCond .lt 13, 3) := by decide +kernel
theorem dX4_isRound_4 : decode cX4_isRound 4 = .ok (.iload_n 0, 1) := by decide +kernel
theorem dX4_isRound_5 : decode cX4_isRound 5 = .ok (.bipush 8, 2) := by decide +kernel
theorem dX4_isRound_7 : decode cX4_isRound 7 = .ok (.if_icmp .ge 7, 3) := by decide +kernel
theorem dX4_isRound_10 : decode cX4_isRound 10 = .ok (.iconst 1, 1) := by decide +kernel
theorem dX4_isRound_11 : decode cX4_isRound 11 = .ok (.goto 4, 3) := by decide +kernel
theorem dX4_isRound_14 : decode cX4_isRound 14 = .ok (.iconst 0, 1) := by decide +kernel
theorem dX4_isRound_15 : decode cX4_isRound 15 = .ok (.ireturn, 1) := by decide +kernel
theorem dX4_isSlot_0 : decode cX4_isSlot 0 = .ok (.iload_n 0, 1) := by decide +kernel
theorem dX4_isSlot_1 : decode cX4_isSlot 1 = .ok (.ifCond .lt 12, 3) := by decide +kernel
theorem dX4_isSlot_4 : decode cX4_isSlot 4 = .ok (.iload_n 0, 1) := by decide +kernel
theorem dX4_isSlot_5 : decode cX4_isSlot 5 = .ok (.iconst 2, 1) := by decide +kernel
theorem dX4_isSlot_6 : decode cX4_isSlot 6 = .ok (.if_icmp .ge 7, 3) := by decide +kernel
theorem dX4_isSlot_9 : decode cX4_isSlot 9 = .ok (.iconst 1, 1) := by decide +kernel
theorem dX4_isSlot_10 : decode cX4_isSlot 10 = .ok (.goto 4, 3) := by decide +kernel
theorem dX4_isSlot_13 : decode cX4_isSlot 13 = .ok (.iconst 0, 1) := by decide +kernel
theorem dX4_isSlot_14 : decode cX4_isSlot 14 = .ok (.ireturn, 1) := by decide +kernel
theorem dX4_indexOf_0 : decode cX4_indexOf 0 = .ok (.iload_n 0, 1) := by decide +kernel
theorem dX4_indexOf_1 : decode cX4_indexOf 1 = .ok (.bipush 8, 2) := by decide +kernel
theorem dX4_indexOf_3 : decode cX4_indexOf 3 = .ok (.imul, 1) := by decide +kernel
theorem dX4_indexOf_4 : decode cX4_indexOf 4 = .ok (.iload_n 1, 1) := by decide +kernel
theorem dX4_indexOf_5 : decode cX4_indexOf 5 = .ok (.iadd, 1) := by decide +kernel
theorem dX4_indexOf_6 : decode cX4_indexOf 6 = .ok (.ireturn, 1) := by decide +kernel
end
section
/-! a thin layer over the kit: methods that only read ('q_PM'), their calls, their ends, indexes that are counts -/
abbrev q_G : Type := va_G × (Nat → ClassId)
def q_ty (g : q_G) : List (ClassId × FieldType) := [(g.2 0, .int), (g.2 1, .long), (g.2 2, .boolean), (g.2 3, .char), (g.2 4, .object "PubQuizzes$State")]
def bI (b : Bool) : Int32 := if b = true then 1 else 0
theorem bI_t : bI true = 1 := rfl
theorem bI_f : bI false = 0 := rfl
theorem bI_ne {b : Bool} (h : ¬ bI b = 0) : b = true := by cases b with | true => rfl | false => exact absurd rfl h
theorem bI_eq {b : Bool} (h : bI b = 0) : b = false := by cases b with | false => rfl | true => exact absurd h (by decide)
def q_NW (U : State) : Prop := va_Nw (.methodLinkNest RX3 69 yX4_indexOf RX4) U
def q_PM (l : Launch) (y : MethodName) (ws : List Cond) (rm : Room) (vs : List Value) (B : State → Prop) (r : Value) : Prop := Met l y ws rm (va_Pc vs B) (k2_QcV r) 0 0 (fun _ => False)
def q_Blind (B : State → Prop) : Prop := ∀ (a : Array Value) (U : State) (g : JFrame) (mk : MethodId), B U → B (U.calling g mk a)
theorem q_Blind_t : q_Blind (fun _ => True) := fun _ _ _ _ _ => trivial
theorem q_ge_T {i N : Nat} (hN : N < 2 ^ 31) (hi : i ≤ N) (h : nI N ≤ nI i) : i = N := Nat.le_antisymm hi ((nI_leI hN (by omega)).mp h)
theorem q_ge_F {i N : Nat} (hN : N < 2 ^ 31) (hi : i ≤ N) (h : ¬ nI N ≤ nI i) : i < N := by
  rcases Nat.lt_or_ge i N with q | q
  · exact q
  · exact absurd ((nI_leI hN (by omega)).mpr q) h
theorem q_B_of {g : q_G} {W : va_W} {H : Heap} {s : State} (hP : va_P g.1 vwCl W H) (hK : va_K g.1 vwCl (q_ty g) s) (hN : q_NW s) : ∀ U : State, U.heap = H → s.WarmedH U.vm → va_P g.1 vwCl W U.heap ∧ va_K g.1 vwCl (q_ty g) U ∧ q_NW U :=
  fun _ hU hW => ⟨by rw [hU]; exact hP, va_K.moved hW.alike hK, va_Nw.warmM hW hN⟩
/-- what a method that reads the world W is given -/
def q_B (g : q_G) (W : va_W) (U : State) : Prop := va_P g.1 vwCl W U.heap ∧ va_K g.1 vwCl (q_ty g) U ∧ q_NW U
theorem q_B_blind {g : q_G} {W : va_W} : q_Blind (q_B g W) := fun a U gg mk h => ⟨h.1, va_K.moved (u := U) (U := U.calling gg mk a) (Vm.Alike.refl U.vm) h.2.1, va_Nw.same rfl rfl h.2.2⟩
theorem q_pm {l : Launch} {y : MethodName} {ws ws' : List Cond} {rm : Room} {cc : ByteArray} {maxL : Nat} {ret : Option FieldType} {vs : List Value} {B : State → Prop} {r : Value} (hy : plainName y.cls = true) (hw : ws = Cond.code y cc maxL ret :: ws') (hn : (lg_sl vs).length ≤ maxL)
    (body : ∀ (p : Program) (e : Env) (s : State) (m : MethodId) (args : Array Value) (below : List Frame) (meth : Method) (c : Code) (ls : Array Slot), p.tables.exec = Jvm.exec → c.code = cc → c.maxLocals = maxL → s.vm.findClass y.cls = some m.cls → (∀ w ∈ ws, w.before args s = true) → meth.sig.returnType = ret → meth.locks = false → B s → lv_has ls maxL (lv_args 0 vs) → W p l e rm s m args below meth c s.heap [] 0 0 (MQ below (k2_QcV r) args s 0 0 (fun _ => False)) (F0 m 0 ls [])) : q_PM l y ws rm vs B r := by
  refine Met.ofW (cc := cc) (maxL := maxL) (ret := ret) hy hw ?_
  intro p e s m args below meth c s₁ X hml hv
  obtain ⟨rfl, hB⟩ := hv
  rw [lg_entry_eq]
  exact body p e s m _ below meth c _ X.exec X.bytes hml (findClass_of_methodNamed X.named) (atoms_spec (ws := ws) X.pre) X.returns X.notSynchronized hB (lv_entry vs hn)
section QL
variable {p : Program} {l : Launch} {e : Env} {R : Room} {s : State} {m : MethodId} {args : Array Value} {below : List Frame} {meth : Method} {c : Code} {H : Heap} {locs : List Loc} {cells slots : Nat} {Q : State → Prop}
variable {cc bytes : ByteArray} {nL maxL index n : Nat} {Ts ws ws' : List Cond} {own C : String} {y : MethodName} {ret : Option FieldType} {rm : Room} {b : Addr} {As rest st : List Value} {ls : Array Slot} {pc : Nat} {r : Value} {B : State → Prop}
theorem q_reI {x y : Int32} (h : x = y) (k : W p l e R s m args below meth c H locs cells slots Q (F0 m pc ls (.int y :: rest))) : W p l e R s m args below meth c H locs cells slots Q (F0 m pc ls (.int x :: rest)) := h ▸ k
theorem q_reL {x y : Int64} (h : x = y) (k : W p l e R s m args below meth c H locs cells slots Q (F0 m pc ls (.long y :: rest))) : W p l e R s m args below meth c H locs cells slots Q (F0 m pc ls (.long x :: rest)) := h ▸ k
theorem q_V (S : CallFix p m c cc nL s args Ts own) (hM : q_PM l y ws rm (.ref b :: As) B r) (cw : CallW R s args own C index y bytes maxL ret ws rm 0 0 n) (hbl : q_Blind B) (hrec : ∃ cell : Cell, H[b]? = some cell ∧ cell.vm.isStatics = false ∧ s.vm.findClass C = some cell.cls) (hB : ∀ U : State, U.heap = H → s.WarmedH U.vm → B U)
    (hn : As.length = n) (hsize : ls.size = nL) (hst : st = As.reverse ++ .ref b :: rest) (hW : (rest.map fun v => v.category).sum ≤ 8) (hdg : decode cc pc = .ok (.invokevirtual index, 3)) (hc : cells ≤ R.cells) (hs : slots ≤ R.slots)
    (kk : W p l e R s m args below meth c H locs cells slots Q (F0 m (pc + 3) ls (r :: rest))) : W p l e R s m args below meth c H locs cells slots Q (F0 m pc ls st) := by
  subst hst
  exact W.callV (W.runV S hM cw ⟨fun a U gg mk h => ⟨h.1, hbl a U gg mk h.2⟩, hrec, fun U h1 h2 => ⟨rfl, hB U h1 h2⟩⟩ rfl hn hsize rfl (lv_room (pc := pc) (ls := ls) (rest := As.reverse ++ .ref b :: rest) hW) hdg ⟨hc, hs⟩) kk
theorem q_S (S : CallFix p m c cc nL s args Ts own) (hM : q_PM l y ws rm As B r) (cw : CallB R s args own index y bytes maxL ret ws rm 0 0 n ∧ (Cond.static y).before args s = true) (hbl : q_Blind B) (hB : ∀ U : State, U.heap = H → s.WarmedH U.vm → B U)
    (hn : As.length = n) (hsize : ls.size = nL) (hst : st = As.reverse ++ rest) (hW : (rest.map fun v => v.category).sum ≤ 8) (hdg : decode cc pc = .ok (.invokestatic index, 3)) (hc : cells ≤ R.cells) (hs : slots ≤ R.slots)
    (kk : W p l e R s m args below meth c H locs cells slots Q (F0 m (pc + 3) ls (r :: rest))) : W p l e R s m args below meth c H locs cells slots Q (F0 m pc ls st) := by
  subst hst
  exact W.callV (W.runS S hM cw ⟨fun a U gg mk h => ⟨h.1, hbl a U gg mk h.2⟩, fun U h1 h2 => ⟨rfl, hB U h1 h2⟩⟩ rfl hn hsize rfl (lv_room (pc := pc) (ls := ls) (rest := As.reverse ++ rest) hW) hdg ⟨hc, hs⟩) kk
theorem q_SN {host : String} (S : CallFix p m c cc nL s args Ts own) (hM : q_PM l y ws rm As B r) (cw : va_CN R s args own index y host bytes maxL ret ws rm 0 0 n ∧ (Cond.static y).before args s = true ∧ True) (hbl : q_Blind B) (hB : ∀ U : State, U.heap = H → s.WarmedH U.vm → B U)
    (hn : As.length = n) (hsize : ls.size = nL) (hst : st = As.reverse ++ rest) (hW : (rest.map fun v => v.category).sum ≤ 8) (hdg : decode cc pc = .ok (.invokestatic index, 3)) (hc : cells ≤ R.cells) (hs : slots ≤ R.slots)
    (kk : W p l e R s m args below meth c H locs cells slots Q (F0 m (pc + 3) ls (r :: rest))) : W p l e R s m args below meth c H locs cells slots Q (F0 m pc ls st) := by
  subst hst
  exact W.callV (va_runSN S hM cw ⟨fun a U gg mk h => ⟨h.1, hbl a U gg mk h.2⟩, fun U h1 h2 => ⟨rfl, hB U h1 h2⟩⟩ rfl hn hsize rfl (lv_room (pc := pc) (ls := ls) (rest := As.reverse ++ rest) hW) hdg ⟨hc, hs⟩).run kk
theorem q_iret {v r : Int32} (hx : p.tables.exec = Jvm.exec) (hb : c.code = cc) (hr : meth.sig.returnType = some .int) (hlk : meth.locks = false) (hdg : decode cc pc = .ok (.ireturn, 1)) (hv : v = r) : W p l e R s m args below meth c s.heap [] 0 0 (MQ below (k2_QcV (.int r)) args s 0 0 (fun _ => False)) (F0 m pc ls [.int v]) := by
  subst hv
  exact W.iret hx hb hr (fun _ ht _ => ⟨rfl, ht⟩) (fun _ h => nomatch h) hdg hlk
theorem q_lret {v r : Int64} (hx : p.tables.exec = Jvm.exec) (hb : c.code = cc) (hr : meth.sig.returnType = some .long) (hlk : meth.locks = false) (hdg : decode cc pc = .ok (.lreturn, 1)) (hv : v = r) : W p l e R s m args below meth c s.heap [] 0 0 (MQ below (k2_QcV (.long r)) args s 0 0 (fun _ => False)) (F0 m pc ls [.long v]) := by
  subst hv
  exact W.lret hx hb hr (fun _ ht _ => ⟨rfl, ht⟩) (fun _ h => nomatch h) hdg hlk
theorem bI_nar (b : Bool) : narrow .boolean (.int (bI b)) = .int (bI b) := by cases b <;> rfl
theorem q_zret {v : Int32} {b : Bool} (hx : p.tables.exec = Jvm.exec) (hb : c.code = cc) (hr : meth.sig.returnType = some .boolean) (hlk : meth.locks = false) (hdg : decode cc pc = .ok (.ireturn, 1)) (hv : v = bI b) : W p l e R s m args below meth c s.heap [] 0 0 (MQ below (k2_QcV (.int (bI b))) args s 0 0 (fun _ => False)) (F0 m pc ls [.int v]) := by
  subst hv
  exact W.zret hx hb hr (bI_nar b) (fun _ ht _ => ⟨rfl, ht⟩) (fun _ h => nomatch h) hdg hlk
variable {a : Addr} {D : va_G} {cl : List vw_C} {tys : List (ClassId × FieldType)} {ws1 : va_W}
theorem q_ildj {f : Nat → Int32} {j : Nat} (hj : j < 2 ^ 31) (kk : W p l e R s m args below meth c H locs cells slots Q (F0 m pc ls (.int (f j) :: rest))) : W p l e R s m args below meth c H locs cells slots Q (F0 m pc ls (.int (f (nI j).toNatClampNeg) :: rest)) := by
  rw [nI_clamp hj]; exact kk
theorem q_iald (hx : p.tables.exec = Jvm.exec) (hb : c.code = cc) (hK : va_K D cl tys s) (hP : va_P D cl ws1 H) (q0 t0 : Nat) {cA : ClassId} {n : Nat} {f : Nat → Int32} (ha : ws1[q0]? = some (a, .inl (cA, n, .inl f))) (ht : tys[t0]? = some (cA, .int)) {j : Nat} (hj : j < n) (hn : n < 2 ^ 31) (hdg : decode cc pc = .ok (.iaload, 1))
    (kk : W p l e R s m args below meth c H locs cells slots Q (F0 m (pc + 1) ls (.int (f j) :: rest))) : W p l e R s m args below meth c H locs cells slots Q (F0 m pc ls (.int (nI j) :: .ref a :: rest)) :=
  va_iald hx hb hK hP q0 t0 ha ht (vp_in_nI hj hn) hdg (q_ildj (Nat.lt_trans hj hn) kk)
theorem q_cald (hx : p.tables.exec = Jvm.exec) (hb : c.code = cc) (hK : va_K D cl tys s) (hP : va_P D cl ws1 H) (q0 t0 : Nat) {cA : ClassId} {n : Nat} {f : Nat → Int32} (ha : ws1[q0]? = some (a, .inl (cA, n, .inl f))) (ht : tys[t0]? = some (cA, .char)) {j : Nat} (hj : j < n) (hn : n < 2 ^ 31) (hdg : decode cc pc = .ok (.caload, 1))
    (kk : W p l e R s m args below meth c H locs cells slots Q (F0 m (pc + 1) ls (.int (f j) :: rest))) : W p l e R s m args below meth c H locs cells slots Q (F0 m pc ls (.int (nI j) :: .ref a :: rest)) :=
  va_cald hx hb hK hP q0 t0 ha ht (vp_in_nI hj hn) hdg (q_ildj (Nat.lt_trans hj hn) kk)
theorem q_zald (hx : p.tables.exec = Jvm.exec) (hb : c.code = cc) (hK : va_K D cl tys s) (hP : va_P D cl ws1 H) (q0 t0 : Nat) {cA : ClassId} {n : Nat} {f : Nat → Int32} (ha : ws1[q0]? = some (a, .inl (cA, n, .inl f))) (ht : tys[t0]? = some (cA, .boolean)) {j : Nat} (hj : j < n) (hn : n < 2 ^ 31) (hdg : decode cc pc = .ok (.baload, 1))
    (kk : W p l e R s m args below meth c H locs cells slots Q (F0 m (pc + 1) ls (.int (f j) :: rest))) : W p l e R s m args below meth c H locs cells slots Q (F0 m pc ls (.int (nI j) :: .ref a :: rest)) :=
  va_zald hx hb hK hP q0 t0 ha ht (vp_in_nI hj hn) hdg (q_ildj (Nat.lt_trans hj hn) kk)
theorem q_lald (hx : p.tables.exec = Jvm.exec) (hb : c.code = cc) (hK : va_K D cl tys s) (hP : va_P D cl ws1 H) (q0 t0 : Nat) {cA : ClassId} {n : Nat} {f : Nat → Int64} (ha : ws1[q0]? = some (a, .inl (cA, n, .inr (.inl f)))) (ht : tys[t0]? = some (cA, .long)) {j : Nat} (hj : j < n) (hn : n < 2 ^ 31) (hdg : decode cc pc = .ok (.laload, 1))
    (kk : W p l e R s m args below meth c H locs cells slots Q (F0 m (pc + 1) ls (.long (f j) :: rest))) : W p l e R s m args below meth c H locs cells slots Q (F0 m pc ls (.int (nI j) :: .ref a :: rest)) := by
  refine va_lald hx hb hK hP q0 t0 ha ht (vp_in_nI hj hn) hdg ?_
  rw [nI_clamp (Nat.lt_trans hj hn)]; exact kk
end QL
/-! sums, sets and counts over the first numbers -/
def q_acc (a : Int32) (f : Nat → Int32) : Nat → Int32
  | 0 => a
  | n + 1 => q_acc a f n + f n
def q_or (f : Nat → Bool) : Nat → Int32
  | 0 => 0
  | n + 1 => q_or f n ||| (if f n = true then (1 : Int32) <<< (nI n &&& 31) else 0)
def q_cnt (f : Nat → Bool) : Nat → Nat
  | 0 => 0
  | n + 1 => q_cnt f n + (if f n = true then 1 else 0)
def q_any (f : Nat → Bool) : Nat → Bool
  | 0 => false
  | n + 1 => q_any f n || f n
theorem q_cmp_e {x y : Int64} (h : lg_cmp x y = 0) : x = y := by
  unfold lg_cmp at h
  split at h
  · exact absurd h (by decide)
  · split at h
    · assumption
    · exact absurd h (by decide)
theorem q_cmp_n {x y : Int64} (h : ¬ lg_cmp x y = 0) : ¬ x = y := by
  intro e
  subst e
  refine h ?_
  unfold lg_cmp
  rw [if_neg (Int64.lt_irrefl), if_pos rfl]
theorem q_out {x : Int32} {lo hi : Int} (h : lo ≤ x.toInt → x.toInt ≤ hi → False) : x.toInt < lo ∨ hi < x.toInt := by
  by_cases h1 : x.toInt < lo
  · exact Or.inl h1
  · by_cases h2 : hi < x.toInt
    · exact Or.inr h2
    · exact (h (by omega) (by omega)).elim
theorem q_tab {x : Int32} {n lo : Nat} (hn : lo + n < 2 ^ 31) (h : ∀ k, k < n → ¬ x = nI (k + lo)) : x.toInt < lo ∨ (lo : Int) + n ≤ x.toInt := by
  by_cases h1 : x.toInt < lo
  · exact Or.inl h1
  · refine Or.inr (Int.not_lt.mp fun h2 => h (x.toInt.toNat - lo) (by omega) ?_)
    refine Int32.toInt_inj.mp ?_
    rw [nI_toInt (by omega)]
    omega
theorem q_any_t {f : Nat → Bool} : ∀ {N i : Nat}, i < N → f i = true → q_any f N = true
  | 0, i, h, _ => absurd h (Nat.not_lt_zero i)
  | N + 1, i, h, hf => by
    rcases Nat.lt_or_ge i N with c | c
    · show (q_any f N || f N) = true
      rw [q_any_t c hf]; rfl
    · have e : i = N := by omega
      subst e
      show (q_any f i || f i) = true
      rw [hf]; exact Bool.or_true _
end
section
/-! what a state of the class is (PubQuizzes$State), what can be asked of it, in numbers -/
abbrev q_St : Type := (Nat → Int32) × (Nat → Int32) × (Nat → Int32) × (Nat → Int32) × (Nat → Int32) × (Nat → Int64) × (Nat → Int64) × (Nat → Int32) × (Nat → Int32) × (Nat → Int32) × Nat × Int32
abbrev s_set (S : q_St) : Nat → Int32 := S.1
abbrev s_paid (S : q_St) : Nat → Int32 := S.2.1
abbrev s_jok (S : q_St) : Nat → Int32 := S.2.2.1
abbrev s_fin (S : q_St) : Nat → Int32 := S.2.2.2.1
abbrev s_gue (S : q_St) : Nat → Int32 := S.2.2.2.2.1
abbrev s_key (S : q_St) : Nat → Int64 := S.2.2.2.2.2.1
abbrev s_she (S : q_St) : Nat → Int64 := S.2.2.2.2.2.2.1
abbrev s_mar (S : q_St) : Nat → Int32 := S.2.2.2.2.2.2.2.1
abbrev s_mkr (S : q_St) : Nat → Int32 := S.2.2.2.2.2.2.2.2.1
abbrev s_loo (S : q_St) : Nat → Int32 := S.2.2.2.2.2.2.2.2.2.1
abbrev s_n (S : q_St) : Nat := S.2.2.2.2.2.2.2.2.2.2.1
abbrev s_tru (S : q_St) : Int32 := S.2.2.2.2.2.2.2.2.2.2.2
def q_stF (q : Nat → Nat) (S : q_St) : List Value := [.ref (q 1), .ref (q 2), .ref (q 3), .ref (q 4), .ref (q 5), .ref (q 6), .ref (q 7), .ref (q 8), .ref (q 9), .ref (q 10), .int (nI (s_n S)), .int (s_tru S)]
def q_stW (g : q_G) (q : Nat → Nat) (S : q_St) : va_W := [(q 0, .inr (2, q_stF q S)), (q 1, .inl (g.2 0, 4, .inl (s_set S))), (q 2, .inl (g.2 0, 10, .inl (s_paid S))), (q 3, .inl (g.2 0, 10, .inl (s_jok S))), (q 4, .inl (g.2 0, 10, .inl (s_fin S))), (q 5, .inl (g.2 0, 10, .inl (s_gue S))), (q 6, .inl (g.2 1, 8, .inr (.inl (s_key S)))), (q 7, .inl (g.2 1, 80, .inr (.inl (s_she S)))), (q 8, .inl (g.2 0, 80, .inl (s_mar S))), (q 9, .inl (g.2 0, 80, .inl (s_mkr S))), (q 10, .inl (g.2 0, 8, .inl (s_loo S)))]
def isTm (S : q_St) (x : Int32) : Bool := !decide (x < 0) && !decide (nI (s_n S) ≤ x) && !decide ((10 : Int32) ≤ x)
def isOp (S : q_St) (r : Nat) : Bool := decide (s_key S r = -1)
def hasS (S : q_St) (t r : Nat) : Bool := decide (¬ s_she S (t * 8 + r) = -1)
def tldS (S : q_St) (t r : Nat) : Bool := decide (¬ s_mkr S (t * 8 + r) = -6)
def lokS (S : q_St) (t r : Nat) : Bool := decide (¬ (s_loo S r &&& ((1 : Int32) <<< (nI t &&& 31))) = 0)
def sgn (w : Int64) (k : Nat) : Int32 := ((w.toUInt64 >>> (((4 : Int32) * nI k).toInt64.toUInt64 &&& Int64.toUInt64 63)).toInt64).toInt32 &&& 15
def tmk (w key : Int64) (mi : Int32) (k : Nat) : Int32 := if sgn w k = sgn key k then 1 else if sgn w k = 15 then 0 else -mi
def truM (S : q_St) (t r : Nat) : Int32 := q_acc 0 (tmk (s_she S (t * 8 + r)) (s_key S r) (s_set S 2)) 10
def ans1 (w : Int64) (k : Nat) : Bool := decide (¬ sgn w k = 15)
def ansN (S : q_St) (t r : Nat) : Nat := q_cnt (ans1 (s_she S (t * 8 + r))) 10
def wroS (S : q_St) (t r : Nat) : Bool := tldS S t r && !lokS S t r && decide (¬ s_mar S (t * 8 + r) = truM S t r)
def withJ (S : q_St) (t r : Nat) (x : Int32) : Int32 := if s_jok S t = nI r then 2 * x else x
def ptsS (S : q_St) (t r : Nat) : Int32 := if s_mkr S (t * 8 + r) = -6 then 0 else withJ S t r (s_mar S (t * 8 + r))
def fineS (S : q_St) (t : Nat) : Int32 := -(s_set S 3) * s_fin S t
def scoS (S : q_St) (t : Nat) : Int32 := q_acc (fineS S t) (ptsS S t) 8
def distS (S : q_St) (t : Nat) : Int32 := if s_tru S = -6 then 10000 else if s_gue S t = -6 then 10000 else if 0 ≤ s_gue S t - s_tru S then s_gue S t - s_tru S else 0 - (s_gue S t - s_tru S)
def aheS (S : q_St) (t o : Nat) : Bool := decide (0 < scoS S t - scoS S o) || (decide (scoS S t - scoS S o = 0) && !decide (distS S o ≤ distS S t))
def rnkS (S : q_St) (t : Nat) : Nat := q_cnt (fun o => aheS S o t) (s_n S) + 1
def tie1 (S : q_St) (t o : Nat) : Bool := !decide (nI o = nI t) && !aheS S o t && !aheS S t o
def tieS (S : q_St) (t : Nat) : Int32 := q_or (tie1 S t) (s_n S)
/-- Integer.bitCount as it counts -/
def popc (x : Int32) : Int32 :=
  let sh := fun (z : Int32) (k : Int32) => (z.toUInt32 >>> (k.toUInt32 &&& Int32.toUInt32 31)).toInt32
  let a := x - (sh x 1 &&& 1431655765)
  let b := (a &&& 858993459) + (sh a 2 &&& 858993459)
  let c := (b + sh b 4) &&& 252645135
  let d := c + sh c 8
  let e := d + sh d 16
  e &&& 63
def lowM (x : Int32) (t : Nat) : Int32 := x &&& (((1 : Int32) <<< (nI t &&& 31)) - 1)
def plcS (S : q_St) (t : Nat) : Int32 := nI (rnkS S t) - 1 + nI (q_cnt (tie1 S t) t)
def entS (S : q_St) : Int32 := q_acc 0 (s_paid S) (s_n S)
def houS (S : q_St) : Int32 := entS S * s_set S 1 / 100
def potS (S : q_St) : Int32 := entS S - houS S
def secS (S : q_St) : Int32 := if nI (s_n S) < 2 then 0 else potS S * 30 / 100
def thiS (S : q_St) : Int32 := if nI (s_n S) < 3 then 0 else potS S * 10 / 100
def prpS (S : q_St) (x : Int32) : Int32 := if x = 1 then potS S - secS S - thiS S else if x = 2 then secS S else if x = 3 then thiS S else 0
/-- points of a team's round, were the joker on round j -/
def wjS (S : q_St) (t : Nat) (j : Int32) (r : Nat) : Int32 := if nI r = j then 2 * (if tldS S t r = true then s_mar S (t * 8 + r) else 0) else (if tldS S t r = true then s_mar S (t * 8 + r) else 0)
def swjS (S : q_St) (t : Nat) (j : Int32) : Int32 := q_acc (fineS S t) (wjS S t j) 8
def besS (S : q_St) (t : Nat) : Nat → Nat
  | 0 => 0
  | n + 1 => if swjS S t (nI n) ≤ swjS S t (nI (besS S t n)) then besS S t n else n
def chiS (S : q_St) (t r : Nat) : Bool := isOp S r && !hasS S t r
def gmkS (S : q_St) (t r : Nat) : Int32 := if tldS S t r = true then s_mar S (t * 8 + r) else if hasS S t r = true then 10 else if isOp S r = true then 10 else 0
def cpj1 (S : q_St) (t r : Nat) : Bool := decide (s_jok S t = -6) && chiS S t r
def gscS (S : q_St) (t : Nat) : Int32 := if q_any (cpj1 S t) 8 = true then q_acc (fineS S t) (fun r => withJ S t r (gmkS S t r)) 8 + 10 else q_acc (fineS S t) (fun r => withJ S t r (gmkS S t r)) 8
def cro1 (S : q_St) (t o : Nat) : Bool := !decide (nI o = nI t) && !decide (scoS S o ≤ gscS S t)
def croS (S : q_St) (t : Nat) : Bool := !q_any (cro1 S t) (s_n S)
def wmt1 (S : q_St) (m : Nat) (t r : Nat) : Bool := decide (s_mkr S (t * 8 + r) = nI m) && wroS S t r
def wmtA (S : q_St) (m : Nat) : Nat → Nat
  | 0 => 0
  | n + 1 => wmtA S m n + q_cnt (wmt1 S m n) 8
def sil1 (S : q_St) (t r : Nat) : Int32 := if wroS S t r = true then withJ S t r (truM S t r - s_mar S (t * 8 + r)) else 0
def silS (S : q_St) (t : Nat) : Int32 := q_acc (scoS S t - s_set S 3 * nI (wmtA S t (s_n S))) (sil1 S t) 8
def wroA (S : q_St) : Nat → Nat
  | 0 => 0
  | n + 1 => wroA S n + q_cnt (wroS S n) 8
def finA (S : q_St) : Int32 := q_acc 0 (s_fin S) (s_n S)
def looA (S : q_St) : Int32 := q_acc 0 (fun r => popc (s_loo S r)) 8
def fst1 (S : q_St) (t : Nat) : Bool := !q_any (fun o => decide (scoS S o = scoS S t)) t
def unlS (S : q_St) : Nat := q_cnt (fst1 S) (s_n S)
def grtS (S : q_St) (r : Nat) : Nat → Int32
  | 0 => ptsS S 0 r
  | n + 1 => if grtS S r n < ptsS S n r then ptsS S n r else grtS S r n
def shrN (S : q_St) (t : Nat) : Nat := q_cnt (tie1 S t) (s_n S) + 1
def sumP (S : q_St) (t k : Nat) : Int32 := q_acc 0 (fun j => prpS S (nI (rnkS S t + j))) k
def przS (S : q_St) (t : Nat) : Int32 := sumP S t (shrN S t) / nI (shrN S t) + (if sumP S t (shrN S t) - sumP S t (shrN S t) / nI (shrN S t) * nI (shrN S t) ≤ nI (q_cnt (tie1 S t) t) then 0 else 1)
def gueN (S : q_St) : Nat := q_cnt (fun t => !decide (s_gue S t = -6)) (s_n S)
/-! the bits of a set that is told bit by bit -/
theorem nx_and' (a b : Nat) : nI a &&& nI b = nI (a &&& b) := by
  refine Int32.toBitVec_inj.mp ?_
  show (BitVec.ofNat 32 a &&& BitVec.ofNat 32 b) = BitVec.ofNat 32 (a &&& b)
  rw [BitVec.ofNat_and]
theorem q_bits : ∀ n : Fin 10, ∀ m : Fin (2 ^ n.val), nI m.val ||| ((1 : Int32) <<< (nI n.val &&& 31)) = nI (m.val + 2 ^ n.val) ∧ popc (nI (m.val + 2 ^ n.val)) = popc (nI m.val) + 1 := by decide +kernel
theorem q_orN (f : Nat → Bool) : ∀ n : Nat, n ≤ 10 → ∃ m : Nat, m < 2 ^ n ∧ q_or f n = nI m ∧ popc (nI m) = nI (q_cnt f n)
  | 0, _ => ⟨0, by decide, rfl, by show popc 0 = 0; decide⟩
  | n + 1, h => by
    obtain ⟨m, h1, h2, h3⟩ := q_orN f n (by omega)
    have hp : 2 ^ (n + 1) = 2 ^ n + 2 ^ n := by rw [Nat.pow_succ]; omega
    by_cases c : f n = true
    · obtain ⟨b1, b2⟩ := q_bits ⟨n, by omega⟩ ⟨m, h1⟩
      refine ⟨m + 2 ^ n, by omega, ?_, ?_⟩
      · simp only [q_or, c, if_true, h2]; exact b1
      · rw [b2, h3]; simp [q_cnt, c, nI_1]
    · refine ⟨m, by omega, ?_, ?_⟩
      · simp [q_or, c, h2]
      · simp [q_cnt, c, h3]
theorem q_popN (f : Nat → Bool) (n : Nat) (h : n ≤ 10) : popc (q_or f n) = nI (q_cnt f n) := by
  obtain ⟨m, -, h2, h3⟩ := q_orN f n h
  rw [h2, h3]
theorem q_lowb : ∀ t : Fin 10, (((1 : Int32) <<< (nI t.val &&& 31)) - 1) = nI (2 ^ t.val - 1) := by decide +kernel
theorem q_lowN (f : Nat → Bool) (t : Nat) (ht : t < 10) : ∀ n : Nat, t ≤ n → n ≤ 10 → lowM (q_or f n) t = q_or f t := by
  intro n h1 h2
  induction n with
  | zero =>
    have e : t = 0 := by omega
    subst e; show lowM 0 0 = 0; decide
  | succ n ih =>
    unfold lowM at ih ⊢
    rw [q_lowb ⟨t, ht⟩] at ih ⊢
    rcases Nat.lt_or_ge t (n + 1) with c | c
    · rw [← ih (by omega) (by omega)]
      obtain ⟨m, m1, m2, -⟩ := q_orN f n (by omega)
      by_cases cf : f n = true
      · simp only [q_or, cf, if_true]
        rw [m2, (q_bits ⟨n, by omega⟩ ⟨m, m1⟩).1]
        show nI (m + 2 ^ n) &&& nI (2 ^ t - 1) = nI m &&& nI (2 ^ t - 1)
        rw [nx_and', nx_and', Nat.and_two_pow_sub_one_eq_mod, Nat.and_two_pow_sub_one_eq_mod]
        have e : 2 ^ n = 2 ^ t * 2 ^ (n - t) := by rw [← Nat.pow_add]; congr 1; omega
        rw [e, Nat.add_mul_mod_self_left]
      · simp [q_or, cf]
    · have e : t = n + 1 := by omega
      subst e
      obtain ⟨m, m1, m2, -⟩ := q_orN f (n + 1) h2
      rw [m2]
      show nI m &&& nI (2 ^ (n + 1) - 1) = nI m
      rw [nx_and', Nat.and_two_pow_sub_one_eq_mod, Nat.mod_eq_of_lt m1]
theorem q_lowC (f : Nat → Bool) (t n : Nat) (h1 : t ≤ n) (ht : t < 10) (h2 : n ≤ 10) : popc (lowM (q_or f n) t) = nI (q_cnt f t) := by
  rw [q_lowN f t ht n h1 h2, q_popN f t (by omega)]
theorem bI_o1 (x : Bool) : bI x ||| 1 = 1 := by cases x <;> decide
theorem bI_o0 (x : Bool) : bI x ||| 0 = bI x := by cases x <;> decide
theorem q_sumP (S : q_St) (t i : Nat) (h : rnkS S t ≤ i) : sumP S t (i - rnkS S t) + prpS S (nI i) = sumP S t (i + 1 - rnkS S t) := by
  have e : i + 1 - rnkS S t = (i - rnkS S t) + 1 := by omega
  rw [e]
  show _ = sumP S t (i - rnkS S t) + prpS S (nI (rnkS S t + (i - rnkS S t)))
  rw [show rnkS S t + (i - rnkS S t) = i from by omega]
theorem q_cnt_le (f : Nat → Bool) : ∀ n : Nat, q_cnt f n ≤ n
  | 0 => Nat.le_refl 0
  | n + 1 => by
    have h := q_cnt_le f n
    show q_cnt f n + (if f n = true then 1 else 0) ≤ n + 1
    split <;> omega
end
section
set_option maxHeartbeats 4000000 in
set_option maxRecDepth 100000 in
theorem c_X4_indexOf (l : Launch) (t : Nat) (r : Nat) : q_PM l yX4_indexOf wsX4_indexOf { frames := 0, cells := 0, slots := 0, locals := 0 } [.int (nI t), .int (nI r)] (fun _ => True) (.int (nI (t * 8 + r))) := by
  refine q_pm (cc := cX4_indexOf) (maxL := 2) (ret := (some .int)) (by decide) rfl (Nat.le_of_ble_eq_true rfl) ?_
  intro p e s m args below meth c ls hx hb hml hown hts hr hlk _ hl
  have hl : lv_has ls 2 [(0, .int (nI t)), (1, .int (nI r))] := hl
  refine lv_iload_n hx hb dX4_indexOf_0 rfl (lv_at hl 0 rfl) ?_
  refine lv_bipush (v := 8) hx hb dX4_indexOf_1 (by decide) ?_
  refine lv_imul hx hb dX4_indexOf_3 ?_
  refine lv_iload_n hx hb dX4_indexOf_4 rfl (lv_at hl 1 rfl) ?_
  refine lv_iadd hx hb dX4_indexOf_5 ?_
  exact q_iret hx hb hr hlk dX4_indexOf_6 (by rw [show (8 : Int32) = nI 8 from rfl, pk_mul, nI_add])

set_option maxHeartbeats 4000000 in
set_option maxRecDepth 100000 in
theorem c_X2_signAt (l : Launch) (w : Int64) (k : Nat) : q_PM l yX2_signAt wsX2_signAt { frames := 0, cells := 0, slots := 0, locals := 0 } [.long w, .int (nI k)] (fun _ => True) (.int (sgn w k)) := by
  refine q_pm (cc := cX2_signAt) (maxL := 3) (ret := (some .int)) (by decide) rfl (Nat.le_of_ble_eq_true rfl) ?_
  intro p e s m args below meth c ls hx hb hml hown hts hr hlk _ hl
  have hl : lv_has ls 3 [(0, .long w), (2, .int (nI k))] := hl
  refine lv_lload_n hx hb dX2_signAt_0 rfl (lv_at hl 0 rfl) ?_
  refine lv_iconst (v := 4) hx hb dX2_signAt_1 (by decide) ?_
  refine lv_iload_n hx hb dX2_signAt_2 rfl (lv_at hl 1 rfl) ?_
  refine lv_imul hx hb dX2_signAt_3 ?_
  refine lv_lushr (v := (w.toUInt64 >>> ((4 * (nI k)).toInt64.toUInt64 &&& Int64.toUInt64 63)).toInt64) hx hb dX2_signAt_4 rfl ?_
  refine lv_l2i (v := ((w.toUInt64 >>> ((4 * (nI k)).toInt64.toUInt64 &&& Int64.toUInt64 63)).toInt64).toInt32) hx hb dX2_signAt_5 rfl ?_
  refine lv_bipush (v := 15) hx hb dX2_signAt_6 (by decide) ?_
  refine lv_iand hx hb dX2_signAt_8 ?_
  exact q_iret hx hb hr hlk dX2_signAt_9 (rfl)

set_option maxHeartbeats 4000000 in
set_option maxRecDepth 100000 in
theorem c_X3_isTeam (l : Launch) (g : q_G) (q : Nat → Nat) (S : q_St) (x : Int32) : q_PM l yX3_isTeam wsX3_isTeam { frames := 0, cells := 0, slots := 0, locals := 0 } [.ref (q 0), .int x] (q_B g (q_stW g q S)) (.int (bI (isTm S x))) := by
  refine q_pm (cc := cX3_isTeam) (maxL := 2) (ret := (some .boolean)) (by decide) rfl (Nat.le_of_ble_eq_true rfl) ?_
  intro p e s m args below meth c ls hx hb hml hown hts hr hlk hB hl
  obtain ⟨hP, hK, hN⟩ := hB
  have fl_66 := hts (.fieldLink RX3 66 "PubQuizzes$State" "teams" "I") (by decide +kernel)
  have hi_X3 : ∀ w ∈ u_ws RX3 TX3 12, w ∈ wsX3_isTeam := by decide +kernel
  have hl : lv_has ls 2 [(0, .ref (q 0)), (1, .int x)] := hl
  refine lv_iload_n hx hb dX3_isTeam_0 rfl (lv_at hl 1 rfl) ?_
  refine lv_if_lt (tgt := 22) hx hb dX3_isTeam_1 (by decide) (fun c_1 => ?_) (fun c_1 => ?_)
  · skip
    refine lv_iconst (v := 0) hx hb dX3_isTeam_22 (by decide) ?_
    exact q_zret hx hb hr hlk dX3_isTeam_23 (by first | rfl | simp [isTm, bI, c_1])
  · skip
    refine lv_iload_n hx hb dX3_isTeam_4 rfl (lv_at hl 1 rfl) ?_
    refine lv_aload_n hx hb dX3_isTeam_5 rfl (lv_at hl 0 rfl) ?_
    refine va_get (D := g.1) (ci := 2) (v := .int (nI (s_n S))) (C := RX3) (T := TX3) (N := 12) hx hb hts hi_X3 hown hK hP 0 rfl rfl 10 (by decide) fl_66 (fun _ h9 => h9) rfl dX3_isTeam_6 ?_
    refine lv_icmp_ge (tgt := 22) hx hb dX3_isTeam_9 (by decide) (fun c_9 => ?_) (fun c_9 => ?_)
    · skip
      refine lv_iconst (v := 0) hx hb dX3_isTeam_22 (by decide) ?_
      exact q_zret hx hb hr hlk dX3_isTeam_23 (by first | rfl | simp [isTm, bI, c_1, c_9])
    · skip
      refine lv_iload_n hx hb dX3_isTeam_12 rfl (lv_at hl 1 rfl) ?_
      refine lv_bipush (v := 10) hx hb dX3_isTeam_13 (by decide) ?_
      refine lv_icmp_ge (tgt := 22) hx hb dX3_isTeam_15 (by decide) (fun c_15 => ?_) (fun c_15 => ?_)
      · skip
        refine lv_iconst (v := 0) hx hb dX3_isTeam_22 (by decide) ?_
        exact q_zret hx hb hr hlk dX3_isTeam_23 (by first | rfl | simp [isTm, bI, c_1, c_9, c_15])
      · skip
        refine lv_iconst (v := 1) hx hb dX3_isTeam_18 (by decide) ?_
        refine lv_goto (tgt := 23) hx hb dX3_isTeam_19 (by decide) ?_
        exact q_zret hx hb hr hlk dX3_isTeam_23 (by first | rfl | simp [isTm, bI, c_1, c_9, c_15])

set_option maxHeartbeats 4000000 in
set_option maxRecDepth 100000 in
theorem c_X3_isOpen (l : Launch) (g : q_G) (q : Nat → Nat) (S : q_St) (r : Nat) (h1_ : r < 8) : q_PM l yX3_isOpen wsX3_isOpen { frames := 0, cells := 0, slots := 0, locals := 0 } [.ref (q 0), .int (nI r)] (q_B g (q_stW g q S)) (.int (bI (isOp S r))) := by
  refine q_pm (cc := cX3_isOpen) (maxL := 2) (ret := (some .boolean)) (by decide) rfl (Nat.le_of_ble_eq_true rfl) ?_
  intro p e s m args below meth c ls hx hb hml hown hts hr hlk hB hl
  obtain ⟨hP, hK, hN⟩ := hB
  have fl_27 := hts (.fieldLink RX3 27 "PubQuizzes$State" "keys" "[J") (by decide +kernel)
  have hi_X3 : ∀ w ∈ u_ws RX3 TX3 12, w ∈ wsX3_isOpen := by decide +kernel
  have hl : lv_has ls 2 [(0, .ref (q 0)), (1, .int (nI r))] := hl
  refine lv_aload_n hx hb dX3_isOpen_0 rfl (lv_at hl 0 rfl) ?_
  refine va_get (D := g.1) (ci := 2) (v := .ref (q 6)) (C := RX3) (T := TX3) (N := 12) hx hb hts hi_X3 hown hK hP 0 rfl rfl 5 (by decide) fl_27 (fun _ h9 => h9) rfl dX3_isOpen_1 ?_
  refine lv_iload_n hx hb dX3_isOpen_4 rfl (lv_at hl 1 rfl) ?_
  refine q_lald (j := r) hx hb hK hP 6 1 rfl rfl (by omega) (by decide) dX3_isOpen_5 ?_
  refine lv_ldc2 (v := (-1)) hx hb hown (hts (.constantLong RX3 55 (-1)) (by decide +kernel)) dX3_isOpen_6 ?_
  refine W.lcmp hx hb dX3_isOpen_9 ?_
  refine lv_if_ne (tgt := 17) hx hb dX3_isOpen_10 (by decide) (fun c_10 => ?_) (fun c_10 => ?_)
  · skip
    have c_10 := q_cmp_n c_10
    refine lv_iconst (v := 0) hx hb dX3_isOpen_17 (by decide) ?_
    exact q_zret hx hb hr hlk dX3_isOpen_18 (by first | rfl | simp [isOp, bI, c_10])
  · skip
    have c_10 := q_cmp_e c_10
    refine lv_iconst (v := 1) hx hb dX3_isOpen_13 (by decide) ?_
    refine lv_goto (tgt := 18) hx hb dX3_isOpen_14 (by decide) ?_
    exact q_zret hx hb hr hlk dX3_isOpen_18 (by first | rfl | simp [isOp, bI, c_10])

set_option maxHeartbeats 4000000 in
set_option maxRecDepth 100000 in
theorem c_X3_hasSheet (l : Launch) (g : q_G) (q : Nat → Nat) (S : q_St) (t : Nat) (r : Nat) (h1_ : t < 10) (h2_ : r < 8) : q_PM l yX3_hasSheet wsX3_hasSheet { frames := 1, cells := 0, slots := 0, locals := 21 } [.ref (q 0), .int (nI t), .int (nI r)] (q_B g (q_stW g q S)) (.int (bI (hasS S t r))) := by
  refine q_pm (cc := cX3_hasSheet) (maxL := 3) (ret := (some .boolean)) (by decide) rfl (Nat.le_of_ble_eq_true rfl) ?_
  intro p e s m args below meth c ls hx hb hml hown hts hr hlk hB hl
  obtain ⟨hP, hK, hN⟩ := hB
  have fl_31 := hts (.fieldLink RX3 31 "PubQuizzes$State" "sheets" "[J") (by decide +kernel)
  have hi_X3 : ∀ w ∈ u_ws RX3 TX3 12, w ∈ wsX3_hasSheet := by decide +kernel
  have hl : lv_has ls 3 [(0, .ref (q 0)), (1, .int (nI t)), (2, .int (nI r))] := hl
  refine lv_aload_n hx hb dX3_hasSheet_0 rfl (lv_at hl 0 rfl) ?_
  refine va_get (D := g.1) (ci := 2) (v := .ref (q 7)) (C := RX3) (T := TX3) (N := 12) hx hb hts hi_X3 hown hK hP 0 rfl rfl 6 (by decide) fl_31 (fun _ h9 => h9) rfl dX3_hasSheet_1 ?_
  refine lv_iload_n hx hb dX3_hasSheet_4 rfl (lv_at hl 1 rfl) ?_
  refine lv_iload_n hx hb dX3_hasSheet_5 rfl (lv_at hl 2 rfl) ?_
  refine q_SN (As := [.int (nI t), .int (nI r)]) (rest := [.ref (q 7)]) ⟨hx, hb, hml, hown, hts⟩ (c_X4_indexOf l t r ) ⟨va_cnB 2 hts gX3_hasSheet_X4_indexOf_n69 rfl rfl rfl hN (hts (.initialized RX4) (by decide +kernel)) (by decide +kernel) ⟨Nat.le_of_ble_eq_true rfl, Nat.le_of_ble_eq_true rfl⟩, hts (.static yX4_indexOf) (by decide +kernel), trivial⟩ q_Blind_t (fun _ _ _ => trivial) rfl hl.1 rfl (Nat.le_of_ble_eq_true rfl) dX3_hasSheet_6 (Nat.zero_le _) (Nat.zero_le _) ?_
  refine q_lald (j := (t * 8 + r)) hx hb hK hP 7 1 rfl rfl (by omega) (by decide) dX3_hasSheet_9 ?_
  refine lv_ldc2 (v := (-1)) hx hb hown (hts (.constantLong RX3 55 (-1)) (by decide +kernel)) dX3_hasSheet_10 ?_
  refine W.lcmp hx hb dX3_hasSheet_13 ?_
  refine lv_if_eq (tgt := 21) hx hb dX3_hasSheet_14 (by decide) (fun c_14 => ?_) (fun c_14 => ?_)
  · skip
    have c_14 := q_cmp_e c_14
    refine lv_iconst (v := 0) hx hb dX3_hasSheet_21 (by decide) ?_
    exact q_zret hx hb hr hlk dX3_hasSheet_22 (by first | rfl | simp [hasS, bI, c_14])
  · skip
    have c_14 := q_cmp_n c_14
    refine lv_iconst (v := 1) hx hb dX3_hasSheet_17 (by decide) ?_
    refine lv_goto (tgt := 22) hx hb dX3_hasSheet_18 (by decide) ?_
    exact q_zret hx hb hr hlk dX3_hasSheet_22 (by first | rfl | simp [hasS, bI, c_14])

set_option maxHeartbeats 4000000 in
set_option maxRecDepth 100000 in
theorem c_X3_markerOf (l : Launch) (g : q_G) (q : Nat → Nat) (S : q_St) (t : Nat) (r : Nat) (h1_ : t < 10) (h2_ : r < 8) : q_PM l yX3_markerOf wsX3_markerOf { frames := 1, cells := 0, slots := 0, locals := 21 } [.ref (q 0), .int (nI t), .int (nI r)] (q_B g (q_stW g q S)) (.int (s_mkr S (t * 8 + r))) := by
  refine q_pm (cc := cX3_markerOf) (maxL := 3) (ret := (some .int)) (by decide) rfl (Nat.le_of_ble_eq_true rfl) ?_
  intro p e s m args below meth c ls hx hb hml hown hts hr hlk hB hl
  obtain ⟨hP, hK, hN⟩ := hB
  have fl_37 := hts (.fieldLink RX3 37 "PubQuizzes$State" "markers" "[I") (by decide +kernel)
  have hi_X3 : ∀ w ∈ u_ws RX3 TX3 12, w ∈ wsX3_markerOf := by decide +kernel
  have hl : lv_has ls 3 [(0, .ref (q 0)), (1, .int (nI t)), (2, .int (nI r))] := hl
  refine lv_aload_n hx hb dX3_markerOf_0 rfl (lv_at hl 0 rfl) ?_
  refine va_get (D := g.1) (ci := 2) (v := .ref (q 9)) (C := RX3) (T := TX3) (N := 12) hx hb hts hi_X3 hown hK hP 0 rfl rfl 8 (by decide) fl_37 (fun _ h9 => h9) rfl dX3_markerOf_1 ?_
  refine lv_iload_n hx hb dX3_markerOf_4 rfl (lv_at hl 1 rfl) ?_
  refine lv_iload_n hx hb dX3_markerOf_5 rfl (lv_at hl 2 rfl) ?_
  refine q_SN (As := [.int (nI t), .int (nI r)]) (rest := [.ref (q 9)]) ⟨hx, hb, hml, hown, hts⟩ (c_X4_indexOf l t r ) ⟨va_cnB 2 hts gX3_markerOf_X4_indexOf_n69 rfl rfl rfl hN (hts (.initialized RX4) (by decide +kernel)) (by decide +kernel) ⟨Nat.le_of_ble_eq_true rfl, Nat.le_of_ble_eq_true rfl⟩, hts (.static yX4_indexOf) (by decide +kernel), trivial⟩ q_Blind_t (fun _ _ _ => trivial) rfl hl.1 rfl (Nat.le_of_ble_eq_true rfl) dX3_markerOf_6 (Nat.zero_le _) (Nat.zero_le _) ?_
  refine q_iald (j := (t * 8 + r)) hx hb hK hP 9 0 rfl rfl (by omega) (by decide) dX3_markerOf_9 ?_
  exact q_iret hx hb hr hlk dX3_markerOf_10 (rfl)

set_option maxHeartbeats 4000000 in
set_option maxRecDepth 100000 in
theorem c_X3_markOf (l : Launch) (g : q_G) (q : Nat → Nat) (S : q_St) (t : Nat) (r : Nat) (h1_ : t < 10) (h2_ : r < 8) : q_PM l yX3_markOf wsX3_markOf { frames := 1, cells := 0, slots := 0, locals := 21 } [.ref (q 0), .int (nI t), .int (nI r)] (q_B g (q_stW g q S)) (.int (s_mar S (t * 8 + r))) := by
  refine q_pm (cc := cX3_markOf) (maxL := 3) (ret := (some .int)) (by decide) rfl (Nat.le_of_ble_eq_true rfl) ?_
  intro p e s m args below meth c ls hx hb hml hown hts hr hlk hB hl
  obtain ⟨hP, hK, hN⟩ := hB
  have fl_34 := hts (.fieldLink RX3 34 "PubQuizzes$State" "marks" "[I") (by decide +kernel)
  have hi_X3 : ∀ w ∈ u_ws RX3 TX3 12, w ∈ wsX3_markOf := by decide +kernel
  have hl : lv_has ls 3 [(0, .ref (q 0)), (1, .int (nI t)), (2, .int (nI r))] := hl
  refine lv_aload_n hx hb dX3_markOf_0 rfl (lv_at hl 0 rfl) ?_
  refine va_get (D := g.1) (ci := 2) (v := .ref (q 8)) (C := RX3) (T := TX3) (N := 12) hx hb hts hi_X3 hown hK hP 0 rfl rfl 7 (by decide) fl_34 (fun _ h9 => h9) rfl dX3_markOf_1 ?_
  refine lv_iload_n hx hb dX3_markOf_4 rfl (lv_at hl 1 rfl) ?_
  refine lv_iload_n hx hb dX3_markOf_5 rfl (lv_at hl 2 rfl) ?_
  refine q_SN (As := [.int (nI t), .int (nI r)]) (rest := [.ref (q 8)]) ⟨hx, hb, hml, hown, hts⟩ (c_X4_indexOf l t r ) ⟨va_cnB 2 hts gX3_markOf_X4_indexOf_n69 rfl rfl rfl hN (hts (.initialized RX4) (by decide +kernel)) (by decide +kernel) ⟨Nat.le_of_ble_eq_true rfl, Nat.le_of_ble_eq_true rfl⟩, hts (.static yX4_indexOf) (by decide +kernel), trivial⟩ q_Blind_t (fun _ _ _ => trivial) rfl hl.1 rfl (Nat.le_of_ble_eq_true rfl) dX3_markOf_6 (Nat.zero_le _) (Nat.zero_le _) ?_
  refine q_iald (j := (t * 8 + r)) hx hb hK hP 8 0 rfl rfl (by omega) (by decide) dX3_markOf_9 ?_
  exact q_iret hx hb hr hlk dX3_markOf_10 (rfl)

set_option maxHeartbeats 4000000 in
set_option maxRecDepth 100000 in
theorem c_X3_isTold (l : Launch) (g : q_G) (q : Nat → Nat) (S : q_St) (t : Nat) (r : Nat) (h1_ : t < 10) (h2_ : r < 8) : q_PM l yX3_isTold wsX3_isTold { frames := 2, cells := 0, slots := 0, locals := 43 } [.ref (q 0), .int (nI t), .int (nI r)] (q_B g (q_stW g q S)) (.int (bI (tldS S t r))) := by
  refine q_pm (cc := cX3_isTold) (maxL := 3) (ret := (some .boolean)) (by decide) rfl (Nat.le_of_ble_eq_true rfl) ?_
  intro p e s m args below meth c ls hx hb hml hown hts hr hlk hB hl
  obtain ⟨hP, hK, hN⟩ := hB
  have hl : lv_has ls 3 [(0, .ref (q 0)), (1, .int (nI t)), (2, .int (nI r))] := hl
  refine lv_aload_n hx hb dX3_isTold_0 rfl (lv_at hl 0 rfl) ?_
  refine lv_iload_n hx hb dX3_isTold_1 rfl (lv_at hl 1 rfl) ?_
  refine lv_iload_n hx hb dX3_isTold_2 rfl (lv_at hl 2 rfl) ?_
  refine q_V (As := [.int (nI t), .int (nI r)]) (rest := []) ⟨hx, hb, hml, hown, hts⟩ (c_X3_markerOf l g q S t r (by omega) (by omega)) (cwV 2 hts gX3_isTold_X3_markerOf rfl rfl rfl (by decide +kernel) ⟨Nat.le_of_ble_eq_true rfl, Nat.le_of_ble_eq_true rfl⟩) q_B_blind (va_recv hK hP (ci := 2) (q0 := 0) rfl rfl) (q_B_of hP hK hN) rfl hl.1 rfl (Nat.le_of_ble_eq_true rfl) dX3_isTold_3 (Nat.zero_le _) (Nat.zero_le _) ?_
  refine lv_bipush (v := (-6)) hx hb dX3_isTold_6 (by decide) ?_
  refine lv_icmp_eq (tgt := 15) hx hb dX3_isTold_8 (by decide) (fun c_8 => ?_) (fun c_8 => ?_)
  · skip
    refine lv_iconst (v := 0) hx hb dX3_isTold_15 (by decide) ?_
    exact q_zret hx hb hr hlk dX3_isTold_16 (by first | rfl | simp [tldS, bI, c_8])
  · skip
    refine lv_iconst (v := 1) hx hb dX3_isTold_11 (by decide) ?_
    refine lv_goto (tgt := 16) hx hb dX3_isTold_12 (by decide) ?_
    exact q_zret hx hb hr hlk dX3_isTold_16 (by first | rfl | simp [tldS, bI, c_8])

set_option maxHeartbeats 4000000 in
set_option maxRecDepth 100000 in
theorem c_X3_isLooked (l : Launch) (g : q_G) (q : Nat → Nat) (S : q_St) (t : Nat) (r : Nat) (h1_ : t < 10) (h2_ : r < 8) : q_PM l yX3_isLooked wsX3_isLooked { frames := 0, cells := 0, slots := 0, locals := 0 } [.ref (q 0), .int (nI t), .int (nI r)] (q_B g (q_stW g q S)) (.int (bI (lokS S t r))) := by
  refine q_pm (cc := cX3_isLooked) (maxL := 3) (ret := (some .boolean)) (by decide) rfl (Nat.le_of_ble_eq_true rfl) ?_
  intro p e s m args below meth c ls hx hb hml hown hts hr hlk hB hl
  obtain ⟨hP, hK, hN⟩ := hB
  have fl_40 := hts (.fieldLink RX3 40 "PubQuizzes$State" "looked" "[I") (by decide +kernel)
  have hi_X3 : ∀ w ∈ u_ws RX3 TX3 12, w ∈ wsX3_isLooked := by decide +kernel
  have hl : lv_has ls 3 [(0, .ref (q 0)), (1, .int (nI t)), (2, .int (nI r))] := hl
  refine lv_aload_n hx hb dX3_isLooked_0 rfl (lv_at hl 0 rfl) ?_
  refine va_get (D := g.1) (ci := 2) (v := .ref (q 10)) (C := RX3) (T := TX3) (N := 12) hx hb hts hi_X3 hown hK hP 0 rfl rfl 9 (by decide) fl_40 (fun _ h9 => h9) rfl dX3_isLooked_1 ?_
  refine lv_iload_n hx hb dX3_isLooked_4 rfl (lv_at hl 2 rfl) ?_
  refine q_iald (j := r) hx hb hK hP 10 0 rfl rfl (by omega) (by decide) dX3_isLooked_5 ?_
  refine lv_iconst (v := 1) hx hb dX3_isLooked_6 (by decide) ?_
  refine lv_iload_n hx hb dX3_isLooked_7 rfl (lv_at hl 1 rfl) ?_
  refine lv_ishl hx hb dX3_isLooked_8 ?_
  refine lv_iand hx hb dX3_isLooked_9 ?_
  refine lv_if_eq (tgt := 17) hx hb dX3_isLooked_10 (by decide) (fun c_10 => ?_) (fun c_10 => ?_)
  · skip
    refine lv_iconst (v := 0) hx hb dX3_isLooked_17 (by decide) ?_
    exact q_zret hx hb hr hlk dX3_isLooked_18 (by first | rfl | simp [lokS, bI, c_10])
  · skip
    refine lv_iconst (v := 1) hx hb dX3_isLooked_13 (by decide) ?_
    refine lv_goto (tgt := 18) hx hb dX3_isLooked_14 (by decide) ?_
    exact q_zret hx hb hr hlk dX3_isLooked_18 (by first | rfl | simp [lokS, bI, c_10])

set_option maxHeartbeats 4000000 in
set_option maxRecDepth 100000 in
theorem c_X3_trueMark (l : Launch) (g : q_G) (q : Nat → Nat) (S : q_St) (t : Nat) (r : Nat) (h1_ : t < 10) (h2_ : r < 8) : q_PM l yX3_trueMark wsX3_trueMark { frames := 1, cells := 0, slots := 0, locals := 22 } [.ref (q 0), .int (nI t), .int (nI r)] (q_B g (q_stW g q S)) (.int (truM S t r)) := by
  refine q_pm (cc := cX3_trueMark) (maxL := 10) (ret := (some .int)) (by decide) rfl (Nat.le_of_ble_eq_true rfl) ?_
  intro p e s m args below meth c ls hx hb hml hown hts hr hlk hB hl
  obtain ⟨hP, hK, hN⟩ := hB
  have fl_9 := hts (.fieldLink RX3 9 "PubQuizzes$State" "settings" "[I") (by decide +kernel)
  have fl_27 := hts (.fieldLink RX3 27 "PubQuizzes$State" "keys" "[J") (by decide +kernel)
  have fl_31 := hts (.fieldLink RX3 31 "PubQuizzes$State" "sheets" "[J") (by decide +kernel)
  have hi_X3 : ∀ w ∈ u_ws RX3 TX3 12, w ∈ wsX3_trueMark := by decide +kernel
  have hl : lv_has ls 10 [(0, .ref (q 0)), (1, .int (nI t)), (2, .int (nI r))] := hl
  refine lv_aload_n hx hb dX3_trueMark_0 rfl (lv_at hl 0 rfl) ?_
  refine va_get (D := g.1) (ci := 2) (v := .ref (q 7)) (C := RX3) (T := TX3) (N := 12) hx hb hts hi_X3 hown hK hP 0 rfl rfl 6 (by decide) fl_31 (fun _ h9 => h9) rfl dX3_trueMark_1 ?_
  refine lv_iload_n hx hb dX3_trueMark_4 rfl (lv_at hl 1 rfl) ?_
  refine lv_iload_n hx hb dX3_trueMark_5 rfl (lv_at hl 2 rfl) ?_
  refine q_SN (As := [.int (nI t), .int (nI r)]) (rest := [.ref (q 7)]) ⟨hx, hb, hml, hown, hts⟩ (c_X4_indexOf l t r ) ⟨va_cnB 2 hts gX3_trueMark_X4_indexOf_n69 rfl rfl rfl hN (hts (.initialized RX4) (by decide +kernel)) (by decide +kernel) ⟨Nat.le_of_ble_eq_true rfl, Nat.le_of_ble_eq_true rfl⟩, hts (.static yX4_indexOf) (by decide +kernel), trivial⟩ q_Blind_t (fun _ _ _ => trivial) rfl hl.1 rfl (Nat.le_of_ble_eq_true rfl) dX3_trueMark_6 (Nat.zero_le _) (Nat.zero_le _) ?_
  refine q_lald (j := (t * 8 + r)) hx hb hK hP 7 1 rfl rfl (by omega) (by decide) dX3_trueMark_9 ?_
  refine lv_lstore_n (lv' := [(3, .long (s_she S (t * 8 + r))), (0, .ref (q 0)), (1, .int (nI t)), (2, .int (nI r))]) hx hb dX3_trueMark_10 rfl hl (by decide) rfl (fun ls hl => ?_)
  refine lv_aload_n hx hb dX3_trueMark_11 rfl (lv_at hl 1 rfl) ?_
  refine va_get (D := g.1) (ci := 2) (v := .ref (q 6)) (C := RX3) (T := TX3) (N := 12) hx hb hts hi_X3 hown hK hP 0 rfl rfl 5 (by decide) fl_27 (fun _ h9 => h9) rfl dX3_trueMark_12 ?_
  refine lv_iload_n hx hb dX3_trueMark_15 rfl (lv_at hl 3 rfl) ?_
  refine q_lald (j := r) hx hb hK hP 6 1 rfl rfl (by omega) (by decide) dX3_trueMark_16 ?_
  refine lv_lstore (lv' := [(5, .long (s_key S r)), (3, .long (s_she S (t * 8 + r))), (0, .ref (q 0)), (1, .int (nI t)), (2, .int (nI r))]) hx hb dX3_trueMark_17 hl (by decide) rfl (fun ls hl => ?_)
  refine lv_iconst (v := 0) hx hb dX3_trueMark_19 (by decide) ?_
  refine lv_istore (lv' := [(7, .int 0), (5, .long (s_key S r)), (3, .long (s_she S (t * 8 + r))), (0, .ref (q 0)), (1, .int (nI t)), (2, .int (nI r))]) hx hb dX3_trueMark_20 hl (by decide) rfl (fun ls hl => ?_)
  refine lv_iconst (v := 0) hx hb dX3_trueMark_22 (by decide) ?_
  refine lv_istore (lv' := [(8, .int 0), (7, .int 0), (5, .long (s_key S r)), (3, .long (s_she S (t * 8 + r))), (0, .ref (q 0)), (1, .int (nI t)), (2, .int (nI r))]) hx hb dX3_trueMark_23 hl (by decide) rfl (fun ls hl => ?_)
  have L_25 : ∀ (n i25 : Nat) (y7_25 : Int32), y7_25 = q_acc 0 (tmk (s_she S (t * 8 + r)) (s_key S r) (s_set S 2)) i25 → i25 ≤ 10 → 10 < i25 + n → ∀ ls : Array Slot, lv_has ls 10 [(8, .int (nI i25)), (7, .int y7_25), (5, .long (s_key S r)), (3, .long (s_she S (t * 8 + r))), (0, .ref (q 0)), (1, .int (nI t)), (2, .int (nI r))] → W p l e { frames := 1, cells := 0, slots := 0, locals := 22 } s m args below meth c s.heap [] 0 0 (MQ below (k2_QcV (.int (truM S t r))) args s 0 0 (fun _ => False)) (F0 m 25 ls []) := by
    intro n
    induction n with
    | zero => intro i25 y7_25 ey7_25 hi_i25 hn_i25; exact absurd hn_i25 (by omega)
    | succ n ih_i25 =>
      intro i25 y7_25 ey7_25 hi_i25 hn_i25 ls hl
      subst ey7_25
      refine lv_iload hx hb dX3_trueMark_25 (lv_at hl 0 rfl) ?_
      refine lv_bipush (v := 10) hx hb dX3_trueMark_27 (by decide) ?_
      refine lv_icmp_ge (tgt := 82) hx hb dX3_trueMark_29 (by decide) (fun c_29 => ?_) (fun c_29 => ?_)
      · skip
        have e_29 : i25 = 10 := q_ge_T (by omega) hi_i25 c_29
        subst e_29
        refine lv_iload hx hb dX3_trueMark_82 (lv_at hl 1 rfl) ?_
        exact q_iret hx hb hr hlk dX3_trueMark_84 (rfl)
      · skip
        have lt_i25 : i25 < 10 := q_ge_F (by omega) hi_i25 c_29
        refine lv_lload_n hx hb dX3_trueMark_32 rfl (lv_at hl 3 rfl) ?_
        refine lv_iload hx hb dX3_trueMark_33 (lv_at hl 0 rfl) ?_
        refine q_S (As := [.long (s_she S (t * 8 + r)), .int (nI i25)]) (rest := []) ⟨hx, hb, hml, hown, hts⟩ (c_X2_signAt l (s_she S (t * 8 + r)) i25 ) (va_cwS 2 hts gX3_trueMark_X2_signAt rfl rfl rfl (by decide +kernel) ⟨Nat.le_of_ble_eq_true rfl, Nat.le_of_ble_eq_true rfl⟩) q_Blind_t (fun _ _ _ => trivial) rfl hl.1 rfl (Nat.le_of_ble_eq_true rfl) dX3_trueMark_35 (Nat.zero_le _) (Nat.zero_le _) ?_
        refine lv_istore (lv' := [(9, .int (sgn (s_she S (t * 8 + r)) i25)), (8, .int (nI i25)), (7, .int (q_acc 0 (tmk (s_she S (t * 8 + r)) (s_key S r) (s_set S 2)) i25)), (5, .long (s_key S r)), (3, .long (s_she S (t * 8 + r))), (0, .ref (q 0)), (1, .int (nI t)), (2, .int (nI r))]) hx hb dX3_trueMark_38 hl (by decide) rfl (fun ls hl => ?_)
        refine lv_iload hx hb dX3_trueMark_40 (lv_at hl 0 rfl) ?_
        refine lv_lload hx hb dX3_trueMark_42 (lv_at hl 3 rfl) ?_
        refine lv_iload hx hb dX3_trueMark_44 (lv_at hl 1 rfl) ?_
        refine q_S (As := [.long (s_key S r), .int (nI i25)]) (rest := [.int (sgn (s_she S (t * 8 + r)) i25)]) ⟨hx, hb, hml, hown, hts⟩ (c_X2_signAt l (s_key S r) i25 ) (va_cwS 2 hts gX3_trueMark_X2_signAt rfl rfl rfl (by decide +kernel) ⟨Nat.le_of_ble_eq_true rfl, Nat.le_of_ble_eq_true rfl⟩) q_Blind_t (fun _ _ _ => trivial) rfl hl.1 rfl (Nat.le_of_ble_eq_true rfl) dX3_trueMark_46 (Nat.zero_le _) (Nat.zero_le _) ?_
        refine lv_icmp_ne (tgt := 58) hx hb dX3_trueMark_49 (by decide) (fun c_49 => ?_) (fun c_49 => ?_)
        · skip
          refine lv_iload hx hb dX3_trueMark_58 (lv_at hl 0 rfl) ?_
          refine lv_bipush (v := 15) hx hb dX3_trueMark_60 (by decide) ?_
          refine lv_icmp_eq (tgt := 76) hx hb dX3_trueMark_62 (by decide) (fun c_62 => ?_) (fun c_62 => ?_)
          · skip
            refine lv_iinc (v := nI (i25 + 1)) (lv' := [(8, .int (nI (i25 + 1))), (9, .int (sgn (s_she S (t * 8 + r)) i25)), (7, .int (q_acc 0 (tmk (s_she S (t * 8 + r)) (s_key S r) (s_set S 2)) i25)), (5, .long (s_key S r)), (3, .long (s_she S (t * 8 + r))), (0, .ref (q 0)), (1, .int (nI t)), (2, .int (nI r))]) hx hb dX3_trueMark_76 hl (k := 1) rfl (nI_1 _) (by decide) rfl (fun ls hl => ?_)
            refine lv_goto (tgt := 25) hx hb dX3_trueMark_79 (by decide) ?_
            exact ih_i25 (i25 + 1) (q_acc 0 (tmk (s_she S (t * 8 + r)) (s_key S r) (s_set S 2)) i25) (by simp only [q_acc, tmk, if_neg c_49, if_pos c_62, Int32.sub_eq_add_neg, Int32.add_zero]) lt_i25 (by omega) ls (lv_sub hl [0, 2, 3, 4, 5, 6, 7] rfl)
          · skip
            refine lv_iload hx hb dX3_trueMark_65 (lv_at hl 2 rfl) ?_
            refine lv_aload_n hx hb dX3_trueMark_67 rfl (lv_at hl 5 rfl) ?_
            refine va_get (D := g.1) (ci := 2) (v := .ref (q 1)) (C := RX3) (T := TX3) (N := 12) hx hb hts hi_X3 hown hK hP 0 rfl rfl 0 (by decide) fl_9 (fun _ h9 => h9) rfl dX3_trueMark_68 ?_
            refine lv_iconst (v := 2) hx hb dX3_trueMark_71 (by decide) ?_
            refine q_iald (j := 2) hx hb hK hP 1 0 rfl rfl (by omega) (by decide) dX3_trueMark_72 ?_
            refine lv_isub hx hb dX3_trueMark_73 ?_
            refine lv_istore (lv' := [(7, .int ((q_acc 0 (tmk (s_she S (t * 8 + r)) (s_key S r) (s_set S 2)) i25) - (s_set S 2))), (9, .int (sgn (s_she S (t * 8 + r)) i25)), (8, .int (nI i25)), (5, .long (s_key S r)), (3, .long (s_she S (t * 8 + r))), (0, .ref (q 0)), (1, .int (nI t)), (2, .int (nI r))]) hx hb dX3_trueMark_74 hl (by decide) rfl (fun ls hl => ?_)
            refine lv_iinc (v := nI (i25 + 1)) (lv' := [(8, .int (nI (i25 + 1))), (7, .int ((q_acc 0 (tmk (s_she S (t * 8 + r)) (s_key S r) (s_set S 2)) i25) - (s_set S 2))), (9, .int (sgn (s_she S (t * 8 + r)) i25)), (5, .long (s_key S r)), (3, .long (s_she S (t * 8 + r))), (0, .ref (q 0)), (1, .int (nI t)), (2, .int (nI r))]) hx hb dX3_trueMark_76 hl (k := 2) rfl (nI_1 _) (by decide) rfl (fun ls hl => ?_)
            refine lv_goto (tgt := 25) hx hb dX3_trueMark_79 (by decide) ?_
            exact ih_i25 (i25 + 1) ((q_acc 0 (tmk (s_she S (t * 8 + r)) (s_key S r) (s_set S 2)) i25) - (s_set S 2)) (by simp only [q_acc, tmk, if_neg c_49, if_neg c_62, Int32.sub_eq_add_neg, Int32.add_zero]) lt_i25 (by omega) ls (lv_sub hl [0, 1, 3, 4, 5, 6, 7] rfl)
        · skip
          refine lv_iinc (v := q_acc 0 (tmk (s_she S (t * 8 + r)) (s_key S r) (s_set S 2)) i25 + 1) (lv' := [(7, .int (q_acc 0 (tmk (s_she S (t * 8 + r)) (s_key S r) (s_set S 2)) i25 + 1)), (9, .int (sgn (s_she S (t * 8 + r)) i25)), (8, .int (nI i25)), (5, .long (s_key S r)), (3, .long (s_she S (t * 8 + r))), (0, .ref (q 0)), (1, .int (nI t)), (2, .int (nI r))]) hx hb dX3_trueMark_52 hl (k := 2) rfl (rfl) (by decide) rfl (fun ls hl => ?_)
          refine lv_goto (tgt := 76) hx hb dX3_trueMark_55 (by decide) ?_
          refine lv_iinc (v := nI (i25 + 1)) (lv' := [(8, .int (nI (i25 + 1))), (7, .int (q_acc 0 (tmk (s_she S (t * 8 + r)) (s_key S r) (s_set S 2)) i25 + 1)), (9, .int (sgn (s_she S (t * 8 + r)) i25)), (5, .long (s_key S r)), (3, .long (s_she S (t * 8 + r))), (0, .ref (q 0)), (1, .int (nI t)), (2, .int (nI r))]) hx hb dX3_trueMark_76 hl (k := 2) rfl (nI_1 _) (by decide) rfl (fun ls hl => ?_)
          refine lv_goto (tgt := 25) hx hb dX3_trueMark_79 (by decide) ?_
          exact ih_i25 (i25 + 1) (q_acc 0 (tmk (s_she S (t * 8 + r)) (s_key S r) (s_set S 2)) i25 + 1) (by simp only [q_acc, tmk, if_pos c_49, Int32.sub_eq_add_neg, Int32.add_zero]) lt_i25 (by omega) ls (lv_sub hl [0, 1, 3, 4, 5, 6, 7] rfl)
  exact L_25 (10 + 1) 0 0 (rfl) (Nat.zero_le _) (by omega) ls (lv_sub hl [0, 1, 2, 3, 4, 5, 6] rfl)

set_option maxHeartbeats 4000000 in
set_option maxRecDepth 100000 in
theorem c_X3_answered (l : Launch) (g : q_G) (q : Nat → Nat) (S : q_St) (t : Nat) (r : Nat) (h1_ : t < 10) (h2_ : r < 8) : q_PM l yX3_answered wsX3_answered { frames := 1, cells := 0, slots := 0, locals := 22 } [.ref (q 0), .int (nI t), .int (nI r)] (q_B g (q_stW g q S)) (.int (nI (ansN S t r))) := by
  refine q_pm (cc := cX3_answered) (maxL := 7) (ret := (some .int)) (by decide) rfl (Nat.le_of_ble_eq_true rfl) ?_
  intro p e s m args below meth c ls hx hb hml hown hts hr hlk hB hl
  obtain ⟨hP, hK, hN⟩ := hB
  have fl_31 := hts (.fieldLink RX3 31 "PubQuizzes$State" "sheets" "[J") (by decide +kernel)
  have hi_X3 : ∀ w ∈ u_ws RX3 TX3 12, w ∈ wsX3_answered := by decide +kernel
  have hl : lv_has ls 7 [(0, .ref (q 0)), (1, .int (nI t)), (2, .int (nI r))] := hl
  refine lv_aload_n hx hb dX3_answered_0 rfl (lv_at hl 0 rfl) ?_
  refine va_get (D := g.1) (ci := 2) (v := .ref (q 7)) (C := RX3) (T := TX3) (N := 12) hx hb hts hi_X3 hown hK hP 0 rfl rfl 6 (by decide) fl_31 (fun _ h9 => h9) rfl dX3_answered_1 ?_
  refine lv_iload_n hx hb dX3_answered_4 rfl (lv_at hl 1 rfl) ?_
  refine lv_iload_n hx hb dX3_answered_5 rfl (lv_at hl 2 rfl) ?_
  refine q_SN (As := [.int (nI t), .int (nI r)]) (rest := [.ref (q 7)]) ⟨hx, hb, hml, hown, hts⟩ (c_X4_indexOf l t r ) ⟨va_cnB 2 hts gX3_answered_X4_indexOf_n69 rfl rfl rfl hN (hts (.initialized RX4) (by decide +kernel)) (by decide +kernel) ⟨Nat.le_of_ble_eq_true rfl, Nat.le_of_ble_eq_true rfl⟩, hts (.static yX4_indexOf) (by decide +kernel), trivial⟩ q_Blind_t (fun _ _ _ => trivial) rfl hl.1 rfl (Nat.le_of_ble_eq_true rfl) dX3_answered_6 (Nat.zero_le _) (Nat.zero_le _) ?_
  refine q_lald (j := (t * 8 + r)) hx hb hK hP 7 1 rfl rfl (by omega) (by decide) dX3_answered_9 ?_
  refine lv_lstore_n (lv' := [(3, .long (s_she S (t * 8 + r))), (0, .ref (q 0)), (1, .int (nI t)), (2, .int (nI r))]) hx hb dX3_answered_10 rfl hl (by decide) rfl (fun ls hl => ?_)
  refine lv_iconst (v := 0) hx hb dX3_answered_11 (by decide) ?_
  refine lv_istore (lv' := [(5, .int 0), (3, .long (s_she S (t * 8 + r))), (0, .ref (q 0)), (1, .int (nI t)), (2, .int (nI r))]) hx hb dX3_answered_12 hl (by decide) rfl (fun ls hl => ?_)
  refine lv_iconst (v := 0) hx hb dX3_answered_14 (by decide) ?_
  refine lv_istore (lv' := [(6, .int 0), (5, .int 0), (3, .long (s_she S (t * 8 + r))), (0, .ref (q 0)), (1, .int (nI t)), (2, .int (nI r))]) hx hb dX3_answered_15 hl (by decide) rfl (fun ls hl => ?_)
  have L_17 : ∀ (n i17 : Nat) (y5_17 : Int32), y5_17 = nI (q_cnt (ans1 (s_she S (t * 8 + r))) i17) → i17 ≤ 10 → 10 < i17 + n → ∀ ls : Array Slot, lv_has ls 7 [(6, .int (nI i17)), (5, .int y5_17), (3, .long (s_she S (t * 8 + r))), (0, .ref (q 0)), (1, .int (nI t)), (2, .int (nI r))] → W p l e { frames := 1, cells := 0, slots := 0, locals := 22 } s m args below meth c s.heap [] 0 0 (MQ below (k2_QcV (.int (nI (ansN S t r)))) args s 0 0 (fun _ => False)) (F0 m 17 ls []) := by
    intro n
    induction n with
    | zero => intro i17 y5_17 ey5_17 hi_i17 hn_i17; exact absurd hn_i17 (by omega)
    | succ n ih_i17 =>
      intro i17 y5_17 ey5_17 hi_i17 hn_i17 ls hl
      subst ey5_17
      refine lv_iload hx hb dX3_answered_17 (lv_at hl 0 rfl) ?_
      refine lv_bipush (v := 10) hx hb dX3_answered_19 (by decide) ?_
      refine lv_icmp_ge (tgt := 44) hx hb dX3_answered_21 (by decide) (fun c_21 => ?_) (fun c_21 => ?_)
      · skip
        have e_21 : i17 = 10 := q_ge_T (by omega) hi_i17 c_21
        subst e_21
        refine lv_iload hx hb dX3_answered_44 (lv_at hl 1 rfl) ?_
        exact q_iret hx hb hr hlk dX3_answered_46 (rfl)
      · skip
        have lt_i17 : i17 < 10 := q_ge_F (by omega) hi_i17 c_21
        refine lv_lload_n hx hb dX3_answered_24 rfl (lv_at hl 2 rfl) ?_
        refine lv_iload hx hb dX3_answered_25 (lv_at hl 0 rfl) ?_
        refine q_S (As := [.long (s_she S (t * 8 + r)), .int (nI i17)]) (rest := []) ⟨hx, hb, hml, hown, hts⟩ (c_X2_signAt l (s_she S (t * 8 + r)) i17 ) (va_cwS 2 hts gX3_answered_X2_signAt rfl rfl rfl (by decide +kernel) ⟨Nat.le_of_ble_eq_true rfl, Nat.le_of_ble_eq_true rfl⟩) q_Blind_t (fun _ _ _ => trivial) rfl hl.1 rfl (Nat.le_of_ble_eq_true rfl) dX3_answered_27 (Nat.zero_le _) (Nat.zero_le _) ?_
        refine lv_bipush (v := 15) hx hb dX3_answered_30 (by decide) ?_
        refine lv_icmp_eq (tgt := 38) hx hb dX3_answered_32 (by decide) (fun c_32 => ?_) (fun c_32 => ?_)
        · skip
          refine lv_iinc (v := nI (i17 + 1)) (lv' := [(6, .int (nI (i17 + 1))), (5, .int (nI (q_cnt (ans1 (s_she S (t * 8 + r))) i17))), (3, .long (s_she S (t * 8 + r))), (0, .ref (q 0)), (1, .int (nI t)), (2, .int (nI r))]) hx hb dX3_answered_38 hl (k := 0) rfl (nI_1 _) (by decide) rfl (fun ls hl => ?_)
          refine lv_goto (tgt := 17) hx hb dX3_answered_41 (by decide) ?_
          exact ih_i17 (i17 + 1) (nI (q_cnt (ans1 (s_she S (t * 8 + r))) i17)) (by simp [q_cnt, ans1, nI_1, c_32]) lt_i17 (by omega) ls (lv_sub hl [0, 1, 2, 3, 4, 5] rfl)
        · skip
          refine lv_iinc (v := nI ((q_cnt (ans1 (s_she S (t * 8 + r))) i17) + 1)) (lv' := [(5, .int (nI ((q_cnt (ans1 (s_she S (t * 8 + r))) i17) + 1))), (6, .int (nI i17)), (3, .long (s_she S (t * 8 + r))), (0, .ref (q 0)), (1, .int (nI t)), (2, .int (nI r))]) hx hb dX3_answered_35 hl (k := 1) rfl (nI_1 _) (by decide) rfl (fun ls hl => ?_)
          refine lv_iinc (v := nI (i17 + 1)) (lv' := [(6, .int (nI (i17 + 1))), (5, .int (nI ((q_cnt (ans1 (s_she S (t * 8 + r))) i17) + 1))), (3, .long (s_she S (t * 8 + r))), (0, .ref (q 0)), (1, .int (nI t)), (2, .int (nI r))]) hx hb dX3_answered_38 hl (k := 1) rfl (nI_1 _) (by decide) rfl (fun ls hl => ?_)
          refine lv_goto (tgt := 17) hx hb dX3_answered_41 (by decide) ?_
          exact ih_i17 (i17 + 1) (nI ((q_cnt (ans1 (s_she S (t * 8 + r))) i17) + 1)) (by simp [q_cnt, ans1, nI_1, c_32]) lt_i17 (by omega) ls (lv_sub hl [0, 1, 2, 3, 4, 5] rfl)
  exact L_17 (10 + 1) 0 0 (rfl) (Nat.zero_le _) (by omega) ls (lv_sub hl [0, 1, 2, 3, 4, 5] rfl)

set_option maxHeartbeats 4000000 in
set_option maxRecDepth 100000 in
theorem c_X3_isWrong (l : Launch) (g : q_G) (q : Nat → Nat) (S : q_St) (t : Nat) (r : Nat) (h1_ : t < 10) (h2_ : r < 8) : q_PM l yX3_isWrong wsX3_isWrong { frames := 3, cells := 0, slots := 0, locals := 65 } [.ref (q 0), .int (nI t), .int (nI r)] (q_B g (q_stW g q S)) (.int (bI (wroS S t r))) := by
  refine q_pm (cc := cX3_isWrong) (maxL := 3) (ret := (some .boolean)) (by decide) rfl (Nat.le_of_ble_eq_true rfl) ?_
  intro p e s m args below meth c ls hx hb hml hown hts hr hlk hB hl
  obtain ⟨hP, hK, hN⟩ := hB
  have hl : lv_has ls 3 [(0, .ref (q 0)), (1, .int (nI t)), (2, .int (nI r))] := hl
  refine lv_aload_n hx hb dX3_isWrong_0 rfl (lv_at hl 0 rfl) ?_
  refine lv_iload_n hx hb dX3_isWrong_1 rfl (lv_at hl 1 rfl) ?_
  refine lv_iload_n hx hb dX3_isWrong_2 rfl (lv_at hl 2 rfl) ?_
  refine q_V (As := [.int (nI t), .int (nI r)]) (rest := []) ⟨hx, hb, hml, hown, hts⟩ (c_X3_isTold l g q S t r (by omega) (by omega)) (cwV 2 hts gX3_isWrong_X3_isTold rfl rfl rfl (by decide +kernel) ⟨Nat.le_of_ble_eq_true rfl, Nat.le_of_ble_eq_true rfl⟩) q_B_blind (va_recv hK hP (ci := 2) (q0 := 0) rfl rfl) (q_B_of hP hK hN) rfl hl.1 rfl (Nat.le_of_ble_eq_true rfl) dX3_isWrong_3 (Nat.zero_le _) (Nat.zero_le _) ?_
  refine lv_if_eq (tgt := 37) hx hb dX3_isWrong_6 (by decide) (fun c_6 => ?_) (fun c_6 => ?_)
  · skip
    have c_6 : (tldS S t r) = false := bI_eq c_6
    refine lv_iconst (v := 0) hx hb dX3_isWrong_37 (by decide) ?_
    exact q_zret hx hb hr hlk dX3_isWrong_38 (by first | rfl | simp [wroS, bI, c_6])
  · skip
    have c_6 : (tldS S t r) = true := bI_ne c_6
    refine lv_aload_n hx hb dX3_isWrong_9 rfl (lv_at hl 0 rfl) ?_
    refine lv_iload_n hx hb dX3_isWrong_10 rfl (lv_at hl 1 rfl) ?_
    refine lv_iload_n hx hb dX3_isWrong_11 rfl (lv_at hl 2 rfl) ?_
    refine q_V (As := [.int (nI t), .int (nI r)]) (rest := []) ⟨hx, hb, hml, hown, hts⟩ (c_X3_isLooked l g q S t r (by omega) (by omega)) (cwV 2 hts gX3_isWrong_X3_isLooked rfl rfl rfl (by decide +kernel) ⟨Nat.le_of_ble_eq_true rfl, Nat.le_of_ble_eq_true rfl⟩) q_B_blind (va_recv hK hP (ci := 2) (q0 := 0) rfl rfl) (q_B_of hP hK hN) rfl hl.1 rfl (Nat.le_of_ble_eq_true rfl) dX3_isWrong_12 (Nat.zero_le _) (Nat.zero_le _) ?_
    refine lv_if_ne (tgt := 37) hx hb dX3_isWrong_15 (by decide) (fun c_15 => ?_) (fun c_15 => ?_)
    · skip
      have c_15 : (lokS S t r) = true := bI_ne c_15
      refine lv_iconst (v := 0) hx hb dX3_isWrong_37 (by decide) ?_
      exact q_zret hx hb hr hlk dX3_isWrong_38 (by first | rfl | simp [wroS, bI, c_6, c_15])
    · skip
      have c_15 : (lokS S t r) = false := bI_eq c_15
      refine lv_aload_n hx hb dX3_isWrong_18 rfl (lv_at hl 0 rfl) ?_
      refine lv_iload_n hx hb dX3_isWrong_19 rfl (lv_at hl 1 rfl) ?_
      refine lv_iload_n hx hb dX3_isWrong_20 rfl (lv_at hl 2 rfl) ?_
      refine q_V (As := [.int (nI t), .int (nI r)]) (rest := []) ⟨hx, hb, hml, hown, hts⟩ (c_X3_markOf l g q S t r (by omega) (by omega)) (cwV 2 hts gX3_isWrong_X3_markOf rfl rfl rfl (by decide +kernel) ⟨Nat.le_of_ble_eq_true rfl, Nat.le_of_ble_eq_true rfl⟩) q_B_blind (va_recv hK hP (ci := 2) (q0 := 0) rfl rfl) (q_B_of hP hK hN) rfl hl.1 rfl (Nat.le_of_ble_eq_true rfl) dX3_isWrong_21 (Nat.zero_le _) (Nat.zero_le _) ?_
      refine lv_aload_n hx hb dX3_isWrong_24 rfl (lv_at hl 0 rfl) ?_
      refine lv_iload_n hx hb dX3_isWrong_25 rfl (lv_at hl 1 rfl) ?_
      refine lv_iload_n hx hb dX3_isWrong_26 rfl (lv_at hl 2 rfl) ?_
      refine q_V (As := [.int (nI t), .int (nI r)]) (rest := [.int (s_mar S (t * 8 + r))]) ⟨hx, hb, hml, hown, hts⟩ (c_X3_trueMark l g q S t r (by omega) (by omega)) (cwV 2 hts gX3_isWrong_X3_trueMark rfl rfl rfl (by decide +kernel) ⟨Nat.le_of_ble_eq_true rfl, Nat.le_of_ble_eq_true rfl⟩) q_B_blind (va_recv hK hP (ci := 2) (q0 := 0) rfl rfl) (q_B_of hP hK hN) rfl hl.1 rfl (Nat.le_of_ble_eq_true rfl) dX3_isWrong_27 (Nat.zero_le _) (Nat.zero_le _) ?_
      refine lv_icmp_eq (tgt := 37) hx hb dX3_isWrong_30 (by decide) (fun c_30 => ?_) (fun c_30 => ?_)
      · skip
        refine lv_iconst (v := 0) hx hb dX3_isWrong_37 (by decide) ?_
        exact q_zret hx hb hr hlk dX3_isWrong_38 (by first | rfl | simp [wroS, bI, c_6, c_15, c_30])
      · skip
        refine lv_iconst (v := 1) hx hb dX3_isWrong_33 (by decide) ?_
        refine lv_goto (tgt := 38) hx hb dX3_isWrong_34 (by decide) ?_
        exact q_zret hx hb hr hlk dX3_isWrong_38 (by first | rfl | simp [wroS, bI, c_6, c_15, c_30])
end
section
set_option maxHeartbeats 4000000 in
set_option maxRecDepth 100000 in
theorem c_J6_bitCount_0f7a4 (l : Launch) (x : Int32) : q_PM l yJ6_bitCount_0f7a4 wsJ6_bitCount_0f7a4 { frames := 0, cells := 0, slots := 0, locals := 0 } [.int x] (fun _ => True) (.int (popc x)) := by
  refine q_pm (cc := cJ6_bitCount_0f7a4) (maxL := 1) (ret := (some .int)) (by decide) rfl (Nat.le_of_ble_eq_true rfl) ?_
  intro p e s m args below meth c ls hx hb hml hown hts hr hlk _ hl
  have hl : lv_has ls 1 [(0, .int x)] := hl
  refine lv_iload_n hx hb dJ6_bitCount_0f7a4_0 rfl (lv_at hl 0 rfl) ?_
  refine lv_iload_n hx hb dJ6_bitCount_0f7a4_1 rfl (lv_at hl 0 rfl) ?_
  refine lv_iconst (v := 1) hx hb dJ6_bitCount_0f7a4_2 (by decide) ?_
  refine lv_iushr (v := (x.toUInt32 >>> ((1 : Int32).toUInt32 &&& Int32.toUInt32 31)).toInt32) hx hb dJ6_bitCount_0f7a4_3 rfl ?_
  refine lv_ldcw (v := 1431655765) hx hb hown (hts (.constant RJ6 265 (1431655765)) (by decide +kernel)) dJ6_bitCount_0f7a4_4 ?_
  refine lv_iand hx hb dJ6_bitCount_0f7a4_7 ?_
  refine lv_isub hx hb dJ6_bitCount_0f7a4_8 ?_
  refine lv_istore_n (lv' := [(0, .int (x - (((x.toUInt32 >>> ((1 : Int32).toUInt32 &&& Int32.toUInt32 31)).toInt32) &&& 1431655765)))]) hx hb dJ6_bitCount_0f7a4_9 rfl hl (by decide) rfl (fun ls hl => ?_)
  refine lv_iload_n hx hb dJ6_bitCount_0f7a4_10 rfl (lv_at hl 0 rfl) ?_
  refine lv_ldcw (v := 858993459) hx hb hown (hts (.constant RJ6 266 (858993459)) (by decide +kernel)) dJ6_bitCount_0f7a4_11 ?_
  refine lv_iand hx hb dJ6_bitCount_0f7a4_14 ?_
  refine lv_iload_n hx hb dJ6_bitCount_0f7a4_15 rfl (lv_at hl 0 rfl) ?_
  refine lv_iconst (v := 2) hx hb dJ6_bitCount_0f7a4_16 (by decide) ?_
  refine lv_iushr (v := ((x - (((x.toUInt32 >>> ((1 : Int32).toUInt32 &&& Int32.toUInt32 31)).toInt32) &&& 1431655765)).toUInt32 >>> ((2 : Int32).toUInt32 &&& Int32.toUInt32 31)).toInt32) hx hb dJ6_bitCount_0f7a4_17 rfl ?_
  refine lv_ldcw (v := 858993459) hx hb hown (hts (.constant RJ6 266 (858993459)) (by decide +kernel)) dJ6_bitCount_0f7a4_18 ?_
  refine lv_iand hx hb dJ6_bitCount_0f7a4_21 ?_
  refine lv_iadd hx hb dJ6_bitCount_0f7a4_22 ?_
  refine lv_istore_n (lv' := [(0, .int (((x - (((x.toUInt32 >>> ((1 : Int32).toUInt32 &&& Int32.toUInt32 31)).toInt32) &&& 1431655765)) &&& 858993459) + ((((x - (((x.toUInt32 >>> ((1 : Int32).toUInt32 &&& Int32.toUInt32 31)).toInt32) &&& 1431655765)).toUInt32 >>> ((2 : Int32).toUInt32 &&& Int32.toUInt32 31)).toInt32) &&& 858993459)))]) hx hb dJ6_bitCount_0f7a4_23 rfl hl (by decide) rfl (fun ls hl => ?_)
  refine lv_iload_n hx hb dJ6_bitCount_0f7a4_24 rfl (lv_at hl 0 rfl) ?_
  refine lv_iload_n hx hb dJ6_bitCount_0f7a4_25 rfl (lv_at hl 0 rfl) ?_
  refine lv_iconst (v := 4) hx hb dJ6_bitCount_0f7a4_26 (by decide) ?_
  refine lv_iushr (v := ((((x - (((x.toUInt32 >>> ((1 : Int32).toUInt32 &&& Int32.toUInt32 31)).toInt32) &&& 1431655765)) &&& 858993459) + ((((x - (((x.toUInt32 >>> ((1 : Int32).toUInt32 &&& Int32.toUInt32 31)).toInt32) &&& 1431655765)).toUInt32 >>> ((2 : Int32).toUInt32 &&& Int32.toUInt32 31)).toInt32) &&& 858993459)).toUInt32 >>> ((4 : Int32).toUInt32 &&& Int32.toUInt32 31)).toInt32) hx hb dJ6_bitCount_0f7a4_27 rfl ?_
  refine lv_iadd hx hb dJ6_bitCount_0f7a4_28 ?_
  refine lv_ldcw (v := 252645135) hx hb hown (hts (.constant RJ6 267 (252645135)) (by decide +kernel)) dJ6_bitCount_0f7a4_29 ?_
  refine lv_iand hx hb dJ6_bitCount_0f7a4_32 ?_
  refine lv_istore_n (lv' := [(0, .int (((((x - (((x.toUInt32 >>> ((1 : Int32).toUInt32 &&& Int32.toUInt32 31)).toInt32) &&& 1431655765)) &&& 858993459) + ((((x - (((x.toUInt32 >>> ((1 : Int32).toUInt32 &&& Int32.toUInt32 31)).toInt32) &&& 1431655765)).toUInt32 >>> ((2 : Int32).toUInt32 &&& Int32.toUInt32 31)).toInt32) &&& 858993459)) + (((((x - (((x.toUInt32 >>> ((1 : Int32).toUInt32 &&& Int32.toUInt32 31)).toInt32) &&& 1431655765)) &&& 858993459) + ((((x - (((x.toUInt32 >>> ((1 : Int32).toUInt32 &&& Int32.toUInt32 31)).toInt32) &&& 1431655765)).toUInt32 >>> ((2 : Int32).toUInt32 &&& Int32.toUInt32 31)).toInt32) &&& 858993459)).toUInt32 >>> ((4 : Int32).toUInt32 &&& Int32.toUInt32 31)).toInt32)) &&& 252645135))]) hx hb dJ6_bitCount_0f7a4_33 rfl hl (by decide) rfl (fun ls hl => ?_)
  refine lv_iload_n hx hb dJ6_bitCount_0f7a4_34 rfl (lv_at hl 0 rfl) ?_
  refine lv_iload_n hx hb dJ6_bitCount_0f7a4_35 rfl (lv_at hl 0 rfl) ?_
  refine lv_bipush (v := 8) hx hb dJ6_bitCount_0f7a4_36 (by decide) ?_
  refine lv_iushr (v := ((((((x - (((x.toUInt32 >>> ((1 : Int32).toUInt32 &&& Int32.toUInt32 31)).toInt32) &&& 1431655765)) &&& 858993459) + ((((x - (((x.toUInt32 >>> ((1 : Int32).toUInt32 &&& Int32.toUInt32 31)).toInt32) &&& 1431655765)).toUInt32 >>> ((2 : Int32).toUInt32 &&& Int32.toUInt32 31)).toInt32) &&& 858993459)) + (((((x - (((x.toUInt32 >>> ((1 : Int32).toUInt32 &&& Int32.toUInt32 31)).toInt32) &&& 1431655765)) &&& 858993459) + ((((x - (((x.toUInt32 >>> ((1 : Int32).toUInt32 &&& Int32.toUInt32 31)).toInt32) &&& 1431655765)).toUInt32 >>> ((2 : Int32).toUInt32 &&& Int32.toUInt32 31)).toInt32) &&& 858993459)).toUInt32 >>> ((4 : Int32).toUInt32 &&& Int32.toUInt32 31)).toInt32)) &&& 252645135).toUInt32 >>> ((8 : Int32).toUInt32 &&& Int32.toUInt32 31)).toInt32) hx hb dJ6_bitCount_0f7a4_38 rfl ?_
  refine lv_iadd hx hb dJ6_bitCount_0f7a4_39 ?_
  refine lv_istore_n (lv' := [(0, .int ((((((x - (((x.toUInt32 >>> ((1 : Int32).toUInt32 &&& Int32.toUInt32 31)).toInt32) &&& 1431655765)) &&& 858993459) + ((((x - (((x.toUInt32 >>> ((1 : Int32).toUInt32 &&& Int32.toUInt32 31)).toInt32) &&& 1431655765)).toUInt32 >>> ((2 : Int32).toUInt32 &&& Int32.toUInt32 31)).toInt32) &&& 858993459)) + (((((x - (((x.toUInt32 >>> ((1 : Int32).toUInt32 &&& Int32.toUInt32 31)).toInt32) &&& 1431655765)) &&& 858993459) + ((((x - (((x.toUInt32 >>> ((1 : Int32).toUInt32 &&& Int32.toUInt32 31)).toInt32) &&& 1431655765)).toUInt32 >>> ((2 : Int32).toUInt32 &&& Int32.toUInt32 31)).toInt32) &&& 858993459)).toUInt32 >>> ((4 : Int32).toUInt32 &&& Int32.toUInt32 31)).toInt32)) &&& 252645135) + (((((((x - (((x.toUInt32 >>> ((1 : Int32).toUInt32 &&& Int32.toUInt32 31)).toInt32) &&& 1431655765)) &&& 858993459) + ((((x - (((x.toUInt32 >>> ((1 : Int32).toUInt32 &&& Int32.toUInt32 31)).toInt32) &&& 1431655765)).toUInt32 >>> ((2 : Int32).toUInt32 &&& Int32.toUInt32 31)).toInt32) &&& 858993459)) + (((((x - (((x.toUInt32 >>> ((1 : Int32).toUInt32 &&& Int32.toUInt32 31)).toInt32) &&& 1431655765)) &&& 858993459) + ((((x - (((x.toUInt32 >>> ((1 : Int32).toUInt32 &&& Int32.toUInt32 31)).toInt32) &&& 1431655765)).toUInt32 >>> ((2 : Int32).toUInt32 &&& Int32.toUInt32 31)).toInt32) &&& 858993459)).toUInt32 >>> ((4 : Int32).toUInt32 &&& Int32.toUInt32 31)).toInt32)) &&& 252645135).toUInt32 >>> ((8 : Int32).toUInt32 &&& Int32.toUInt32 31)).toInt32)))]) hx hb dJ6_bitCount_0f7a4_40 rfl hl (by decide) rfl (fun ls hl => ?_)
  refine lv_iload_n hx hb dJ6_bitCount_0f7a4_41 rfl (lv_at hl 0 rfl) ?_
  refine lv_iload_n hx hb dJ6_bitCount_0f7a4_42 rfl (lv_at hl 0 rfl) ?_
  refine lv_bipush (v := 16) hx hb dJ6_bitCount_0f7a4_43 (by decide) ?_
  refine lv_iushr (v := (((((((x - (((x.toUInt32 >>> ((1 : Int32).toUInt32 &&& Int32.toUInt32 31)).toInt32) &&& 1431655765)) &&& 858993459) + ((((x - (((x.toUInt32 >>> ((1 : Int32).toUInt32 &&& Int32.toUInt32 31)).toInt32) &&& 1431655765)).toUInt32 >>> ((2 : Int32).toUInt32 &&& Int32.toUInt32 31)).toInt32) &&& 858993459)) + (((((x - (((x.toUInt32 >>> ((1 : Int32).toUInt32 &&& Int32.toUInt32 31)).toInt32) &&& 1431655765)) &&& 858993459) + ((((x - (((x.toUInt32 >>> ((1 : Int32).toUInt32 &&& Int32.toUInt32 31)).toInt32) &&& 1431655765)).toUInt32 >>> ((2 : Int32).toUInt32 &&& Int32.toUInt32 31)).toInt32) &&& 858993459)).toUInt32 >>> ((4 : Int32).toUInt32 &&& Int32.toUInt32 31)).toInt32)) &&& 252645135) + (((((((x - (((x.toUInt32 >>> ((1 : Int32).toUInt32 &&& Int32.toUInt32 31)).toInt32) &&& 1431655765)) &&& 858993459) + ((((x - (((x.toUInt32 >>> ((1 : Int32).toUInt32 &&& Int32.toUInt32 31)).toInt32) &&& 1431655765)).toUInt32 >>> ((2 : Int32).toUInt32 &&& Int32.toUInt32 31)).toInt32) &&& 858993459)) + (((((x - (((x.toUInt32 >>> ((1 : Int32).toUInt32 &&& Int32.toUInt32 31)).toInt32) &&& 1431655765)) &&& 858993459) + ((((x - (((x.toUInt32 >>> ((1 : Int32).toUInt32 &&& Int32.toUInt32 31)).toInt32) &&& 1431655765)).toUInt32 >>> ((2 : Int32).toUInt32 &&& Int32.toUInt32 31)).toInt32) &&& 858993459)).toUInt32 >>> ((4 : Int32).toUInt32 &&& Int32.toUInt32 31)).toInt32)) &&& 252645135).toUInt32 >>> ((8 : Int32).toUInt32 &&& Int32.toUInt32 31)).toInt32)).toUInt32 >>> ((16 : Int32).toUInt32 &&& Int32.toUInt32 31)).toInt32) hx hb dJ6_bitCount_0f7a4_45 rfl ?_
  refine lv_iadd hx hb dJ6_bitCount_0f7a4_46 ?_
  refine lv_istore_n (lv' := [(0, .int (((((((x - (((x.toUInt32 >>> ((1 : Int32).toUInt32 &&& Int32.toUInt32 31)).toInt32) &&& 1431655765)) &&& 858993459) + ((((x - (((x.toUInt32 >>> ((1 : Int32).toUInt32 &&& Int32.toUInt32 31)).toInt32) &&& 1431655765)).toUInt32 >>> ((2 : Int32).toUInt32 &&& Int32.toUInt32 31)).toInt32) &&& 858993459)) + (((((x - (((x.toUInt32 >>> ((1 : Int32).toUInt32 &&& Int32.toUInt32 31)).toInt32) &&& 1431655765)) &&& 858993459) + ((((x - (((x.toUInt32 >>> ((1 : Int32).toUInt32 &&& Int32.toUInt32 31)).toInt32) &&& 1431655765)).toUInt32 >>> ((2 : Int32).toUInt32 &&& Int32.toUInt32 31)).toInt32) &&& 858993459)).toUInt32 >>> ((4 : Int32).toUInt32 &&& Int32.toUInt32 31)).toInt32)) &&& 252645135) + (((((((x - (((x.toUInt32 >>> ((1 : Int32).toUInt32 &&& Int32.toUInt32 31)).toInt32) &&& 1431655765)) &&& 858993459) + ((((x - (((x.toUInt32 >>> ((1 : Int32).toUInt32 &&& Int32.toUInt32 31)).toInt32) &&& 1431655765)).toUInt32 >>> ((2 : Int32).toUInt32 &&& Int32.toUInt32 31)).toInt32) &&& 858993459)) + (((((x - (((x.toUInt32 >>> ((1 : Int32).toUInt32 &&& Int32.toUInt32 31)).toInt32) &&& 1431655765)) &&& 858993459) + ((((x - (((x.toUInt32 >>> ((1 : Int32).toUInt32 &&& Int32.toUInt32 31)).toInt32) &&& 1431655765)).toUInt32 >>> ((2 : Int32).toUInt32 &&& Int32.toUInt32 31)).toInt32) &&& 858993459)).toUInt32 >>> ((4 : Int32).toUInt32 &&& Int32.toUInt32 31)).toInt32)) &&& 252645135).toUInt32 >>> ((8 : Int32).toUInt32 &&& Int32.toUInt32 31)).toInt32)) + ((((((((x - (((x.toUInt32 >>> ((1 : Int32).toUInt32 &&& Int32.toUInt32 31)).toInt32) &&& 1431655765)) &&& 858993459) + ((((x - (((x.toUInt32 >>> ((1 : Int32).toUInt32 &&& Int32.toUInt32 31)).toInt32) &&& 1431655765)).toUInt32 >>> ((2 : Int32).toUInt32 &&& Int32.toUInt32 31)).toInt32) &&& 858993459)) + (((((x - (((x.toUInt32 >>> ((1 : Int32).toUInt32 &&& Int32.toUInt32 31)).toInt32) &&& 1431655765)) &&& 858993459) + ((((x - (((x.toUInt32 >>> ((1 : Int32).toUInt32 &&& Int32.toUInt32 31)).toInt32) &&& 1431655765)).toUInt32 >>> ((2 : Int32).toUInt32 &&& Int32.toUInt32 31)).toInt32) &&& 858993459)).toUInt32 >>> ((4 : Int32).toUInt32 &&& Int32.toUInt32 31)).toInt32)) &&& 252645135) + (((((((x - (((x.toUInt32 >>> ((1 : Int32).toUInt32 &&& Int32.toUInt32 31)).toInt32) &&& 1431655765)) &&& 858993459) + ((((x - (((x.toUInt32 >>> ((1 : Int32).toUInt32 &&& Int32.toUInt32 31)).toInt32) &&& 1431655765)).toUInt32 >>> ((2 : Int32).toUInt32 &&& Int32.toUInt32 31)).toInt32) &&& 858993459)) + (((((x - (((x.toUInt32 >>> ((1 : Int32).toUInt32 &&& Int32.toUInt32 31)).toInt32) &&& 1431655765)) &&& 858993459) + ((((x - (((x.toUInt32 >>> ((1 : Int32).toUInt32 &&& Int32.toUInt32 31)).toInt32) &&& 1431655765)).toUInt32 >>> ((2 : Int32).toUInt32 &&& Int32.toUInt32 31)).toInt32) &&& 858993459)).toUInt32 >>> ((4 : Int32).toUInt32 &&& Int32.toUInt32 31)).toInt32)) &&& 252645135).toUInt32 >>> ((8 : Int32).toUInt32 &&& Int32.toUInt32 31)).toInt32)).toUInt32 >>> ((16 : Int32).toUInt32 &&& Int32.toUInt32 31)).toInt32)))]) hx hb dJ6_bitCount_0f7a4_47 rfl hl (by decide) rfl (fun ls hl => ?_)
  refine lv_iload_n hx hb dJ6_bitCount_0f7a4_48 rfl (lv_at hl 0 rfl) ?_
  refine lv_bipush (v := 63) hx hb dJ6_bitCount_0f7a4_49 (by decide) ?_
  refine lv_iand hx hb dJ6_bitCount_0f7a4_51 ?_
  exact q_iret hx hb hr hlk dJ6_bitCount_0f7a4_52 (rfl)

set_option maxHeartbeats 4000000 in
set_option maxRecDepth 100000 in
theorem c_X3_openRounds (l : Launch) (g : q_G) (q : Nat → Nat) (S : q_St) : q_PM l yX3_openRounds wsX3_openRounds { frames := 1, cells := 0, slots := 0, locals := 21 } [.ref (q 0)] (q_B g (q_stW g q S)) (.int (q_or (isOp S) 8)) := by
  refine q_pm (cc := cX3_openRounds) (maxL := 3) (ret := (some .int)) (by decide) rfl (Nat.le_of_ble_eq_true rfl) ?_
  intro p e s m args below meth c ls hx hb hml hown hts hr hlk hB hl
  obtain ⟨hP, hK, hN⟩ := hB
  have hl : lv_has ls 3 [(0, .ref (q 0))] := hl
  refine lv_iconst (v := 0) hx hb dX3_openRounds_0 (by decide) ?_
  refine lv_istore_n (lv' := [(1, .int 0), (0, .ref (q 0))]) hx hb dX3_openRounds_1 rfl hl (by decide) rfl (fun ls hl => ?_)
  refine lv_iconst (v := 0) hx hb dX3_openRounds_2 (by decide) ?_
  refine lv_istore_n (lv' := [(2, .int 0), (1, .int 0), (0, .ref (q 0))]) hx hb dX3_openRounds_3 rfl hl (by decide) rfl (fun ls hl => ?_)
  have L_4 : ∀ (n i4 : Nat) (y1_4 : Int32), y1_4 = q_or (isOp S) i4 → i4 ≤ 8 → 8 < i4 + n → ∀ ls : Array Slot, lv_has ls 3 [(2, .int (nI i4)), (1, .int y1_4), (0, .ref (q 0))] → W p l e { frames := 1, cells := 0, slots := 0, locals := 21 } s m args below meth c s.heap [] 0 0 (MQ below (k2_QcV (.int (q_or (isOp S) 8))) args s 0 0 (fun _ => False)) (F0 m 4 ls []) := by
    intro n
    induction n with
    | zero => intro i4 y1_4 ey1_4 hi_i4 hn_i4; exact absurd hn_i4 (by omega)
    | succ n ih_i4 =>
      intro i4 y1_4 ey1_4 hi_i4 hn_i4 ls hl
      subst ey1_4
      refine lv_iload_n hx hb dX3_openRounds_4 rfl (lv_at hl 0 rfl) ?_
      refine lv_bipush (v := 8) hx hb dX3_openRounds_5 (by decide) ?_
      refine lv_icmp_ge (tgt := 34) hx hb dX3_openRounds_7 (by decide) (fun c_7 => ?_) (fun c_7 => ?_)
      · skip
        have e_7 : i4 = 8 := q_ge_T (by omega) hi_i4 c_7
        subst e_7
        refine lv_iload_n hx hb dX3_openRounds_34 rfl (lv_at hl 1 rfl) ?_
        exact q_iret hx hb hr hlk dX3_openRounds_35 (rfl)
      · skip
        have lt_i4 : i4 < 8 := q_ge_F (by omega) hi_i4 c_7
        refine lv_iload_n hx hb dX3_openRounds_10 rfl (lv_at hl 1 rfl) ?_
        refine lv_aload_n hx hb dX3_openRounds_11 rfl (lv_at hl 2 rfl) ?_
        refine lv_iload_n hx hb dX3_openRounds_12 rfl (lv_at hl 0 rfl) ?_
        refine q_V (As := [.int (nI i4)]) (rest := [.int (q_or (isOp S) i4)]) ⟨hx, hb, hml, hown, hts⟩ (c_X3_isOpen l g q S i4 (by omega)) (cwV 1 hts gX3_openRounds_X3_isOpen rfl rfl rfl (by decide +kernel) ⟨Nat.le_of_ble_eq_true rfl, Nat.le_of_ble_eq_true rfl⟩) q_B_blind (va_recv hK hP (ci := 2) (q0 := 0) rfl rfl) (q_B_of hP hK hN) rfl hl.1 rfl (Nat.le_of_ble_eq_true rfl) dX3_openRounds_13 (Nat.zero_le _) (Nat.zero_le _) ?_
        refine lv_if_eq (tgt := 25) hx hb dX3_openRounds_16 (by decide) (fun c_16 => ?_) (fun c_16 => ?_)
        · skip
          have c_16 : (isOp S i4) = false := bI_eq c_16
          refine lv_iconst (v := 0) hx hb dX3_openRounds_25 (by decide) ?_
          refine lv_ior hx hb dX3_openRounds_26 ?_
          refine lv_istore_n (lv' := [(1, .int ((q_or (isOp S) i4) ||| 0)), (2, .int (nI i4)), (0, .ref (q 0))]) hx hb dX3_openRounds_27 rfl hl (by decide) rfl (fun ls hl => ?_)
          refine lv_iinc (v := nI (i4 + 1)) (lv' := [(2, .int (nI (i4 + 1))), (1, .int ((q_or (isOp S) i4) ||| 0)), (0, .ref (q 0))]) hx hb dX3_openRounds_28 hl (k := 1) rfl (nI_1 _) (by decide) rfl (fun ls hl => ?_)
          refine lv_goto (tgt := 4) hx hb dX3_openRounds_31 (by decide) ?_
          exact ih_i4 (i4 + 1) ((q_or (isOp S) i4) ||| 0) (by first | rfl | simp [q_acc, q_or, q_cnt, q_any, nI_1, c_16]) lt_i4 (by omega) ls (lv_sub hl [0, 1, 2] rfl)
        · skip
          have c_16 : (isOp S i4) = true := bI_ne c_16
          refine lv_iconst (v := 1) hx hb dX3_openRounds_19 (by decide) ?_
          refine lv_iload_n hx hb dX3_openRounds_20 rfl (lv_at hl 0 rfl) ?_
          refine lv_ishl hx hb dX3_openRounds_21 ?_
          refine lv_goto (tgt := 26) hx hb dX3_openRounds_22 (by decide) ?_
          refine lv_ior hx hb dX3_openRounds_26 ?_
          refine lv_istore_n (lv' := [(1, .int ((q_or (isOp S) i4) ||| (1 <<< ((nI i4) &&& 31)))), (2, .int (nI i4)), (0, .ref (q 0))]) hx hb dX3_openRounds_27 rfl hl (by decide) rfl (fun ls hl => ?_)
          refine lv_iinc (v := nI (i4 + 1)) (lv' := [(2, .int (nI (i4 + 1))), (1, .int ((q_or (isOp S) i4) ||| (1 <<< ((nI i4) &&& 31)))), (0, .ref (q 0))]) hx hb dX3_openRounds_28 hl (k := 1) rfl (nI_1 _) (by decide) rfl (fun ls hl => ?_)
          refine lv_goto (tgt := 4) hx hb dX3_openRounds_31 (by decide) ?_
          exact ih_i4 (i4 + 1) ((q_or (isOp S) i4) ||| (1 <<< ((nI i4) &&& 31))) (by first | rfl | simp [q_acc, q_or, q_cnt, q_any, nI_1, c_16]) lt_i4 (by omega) ls (lv_sub hl [0, 1, 2] rfl)
  exact L_4 (8 + 1) 0 0 (rfl) (Nat.zero_le _) (by omega) ls (lv_sub hl [0, 1, 2] rfl)

set_option maxHeartbeats 4000000 in
set_option maxRecDepth 100000 in
theorem c_X3_roundsWithSheet (l : Launch) (g : q_G) (q : Nat → Nat) (S : q_St) (t : Nat) (h1_ : t < 10) : q_PM l yX3_roundsWithSheet wsX3_roundsWithSheet { frames := 2, cells := 0, slots := 0, locals := 43 } [.ref (q 0), .int (nI t)] (q_B g (q_stW g q S)) (.int (q_or (hasS S t) 8)) := by
  refine q_pm (cc := cX3_roundsWithSheet) (maxL := 4) (ret := (some .int)) (by decide) rfl (Nat.le_of_ble_eq_true rfl) ?_
  intro p e s m args below meth c ls hx hb hml hown hts hr hlk hB hl
  obtain ⟨hP, hK, hN⟩ := hB
  have hl : lv_has ls 4 [(0, .ref (q 0)), (1, .int (nI t))] := hl
  refine lv_iconst (v := 0) hx hb dX3_roundsWithSheet_0 (by decide) ?_
  refine lv_istore_n (lv' := [(2, .int 0), (0, .ref (q 0)), (1, .int (nI t))]) hx hb dX3_roundsWithSheet_1 rfl hl (by decide) rfl (fun ls hl => ?_)
  refine lv_iconst (v := 0) hx hb dX3_roundsWithSheet_2 (by decide) ?_
  refine lv_istore_n (lv' := [(3, .int 0), (2, .int 0), (0, .ref (q 0)), (1, .int (nI t))]) hx hb dX3_roundsWithSheet_3 rfl hl (by decide) rfl (fun ls hl => ?_)
  have L_4 : ∀ (n i4 : Nat) (y2_4 : Int32), y2_4 = q_or (hasS S t) i4 → i4 ≤ 8 → 8 < i4 + n → ∀ ls : Array Slot, lv_has ls 4 [(3, .int (nI i4)), (2, .int y2_4), (0, .ref (q 0)), (1, .int (nI t))] → W p l e { frames := 2, cells := 0, slots := 0, locals := 43 } s m args below meth c s.heap [] 0 0 (MQ below (k2_QcV (.int (q_or (hasS S t) 8))) args s 0 0 (fun _ => False)) (F0 m 4 ls []) := by
    intro n
    induction n with
    | zero => intro i4 y2_4 ey2_4 hi_i4 hn_i4; exact absurd hn_i4 (by omega)
    | succ n ih_i4 =>
      intro i4 y2_4 ey2_4 hi_i4 hn_i4 ls hl
      subst ey2_4
      refine lv_iload_n hx hb dX3_roundsWithSheet_4 rfl (lv_at hl 0 rfl) ?_
      refine lv_bipush (v := 8) hx hb dX3_roundsWithSheet_5 (by decide) ?_
      refine lv_icmp_ge (tgt := 35) hx hb dX3_roundsWithSheet_7 (by decide) (fun c_7 => ?_) (fun c_7 => ?_)
      · skip
        have e_7 : i4 = 8 := q_ge_T (by omega) hi_i4 c_7
        subst e_7
        refine lv_iload_n hx hb dX3_roundsWithSheet_35 rfl (lv_at hl 1 rfl) ?_
        exact q_iret hx hb hr hlk dX3_roundsWithSheet_36 (rfl)
      · skip
        have lt_i4 : i4 < 8 := q_ge_F (by omega) hi_i4 c_7
        refine lv_iload_n hx hb dX3_roundsWithSheet_10 rfl (lv_at hl 1 rfl) ?_
        refine lv_aload_n hx hb dX3_roundsWithSheet_11 rfl (lv_at hl 2 rfl) ?_
        refine lv_iload_n hx hb dX3_roundsWithSheet_12 rfl (lv_at hl 3 rfl) ?_
        refine lv_iload_n hx hb dX3_roundsWithSheet_13 rfl (lv_at hl 0 rfl) ?_
        refine q_V (As := [.int (nI t), .int (nI i4)]) (rest := [.int (q_or (hasS S t) i4)]) ⟨hx, hb, hml, hown, hts⟩ (c_X3_hasSheet l g q S t i4 (by omega) (by omega)) (cwV 2 hts gX3_roundsWithSheet_X3_hasSheet rfl rfl rfl (by decide +kernel) ⟨Nat.le_of_ble_eq_true rfl, Nat.le_of_ble_eq_true rfl⟩) q_B_blind (va_recv hK hP (ci := 2) (q0 := 0) rfl rfl) (q_B_of hP hK hN) rfl hl.1 rfl (Nat.le_of_ble_eq_true rfl) dX3_roundsWithSheet_14 (Nat.zero_le _) (Nat.zero_le _) ?_
        refine lv_if_eq (tgt := 26) hx hb dX3_roundsWithSheet_17 (by decide) (fun c_17 => ?_) (fun c_17 => ?_)
        · skip
          have c_17 : (hasS S t i4) = false := bI_eq c_17
          refine lv_iconst (v := 0) hx hb dX3_roundsWithSheet_26 (by decide) ?_
          refine lv_ior hx hb dX3_roundsWithSheet_27 ?_
          refine lv_istore_n (lv' := [(2, .int ((q_or (hasS S t) i4) ||| 0)), (3, .int (nI i4)), (0, .ref (q 0)), (1, .int (nI t))]) hx hb dX3_roundsWithSheet_28 rfl hl (by decide) rfl (fun ls hl => ?_)
          refine lv_iinc (v := nI (i4 + 1)) (lv' := [(3, .int (nI (i4 + 1))), (2, .int ((q_or (hasS S t) i4) ||| 0)), (0, .ref (q 0)), (1, .int (nI t))]) hx hb dX3_roundsWithSheet_29 hl (k := 1) rfl (nI_1 _) (by decide) rfl (fun ls hl => ?_)
          refine lv_goto (tgt := 4) hx hb dX3_roundsWithSheet_32 (by decide) ?_
          exact ih_i4 (i4 + 1) ((q_or (hasS S t) i4) ||| 0) (by first | rfl | simp [q_acc, q_or, q_cnt, q_any, nI_1, c_17]) lt_i4 (by omega) ls (lv_sub hl [0, 1, 2, 3] rfl)
        · skip
          have c_17 : (hasS S t i4) = true := bI_ne c_17
          refine lv_iconst (v := 1) hx hb dX3_roundsWithSheet_20 (by decide) ?_
          refine lv_iload_n hx hb dX3_roundsWithSheet_21 rfl (lv_at hl 0 rfl) ?_
          refine lv_ishl hx hb dX3_roundsWithSheet_22 ?_
          refine lv_goto (tgt := 27) hx hb dX3_roundsWithSheet_23 (by decide) ?_
          refine lv_ior hx hb dX3_roundsWithSheet_27 ?_
          refine lv_istore_n (lv' := [(2, .int ((q_or (hasS S t) i4) ||| (1 <<< ((nI i4) &&& 31)))), (3, .int (nI i4)), (0, .ref (q 0)), (1, .int (nI t))]) hx hb dX3_roundsWithSheet_28 rfl hl (by decide) rfl (fun ls hl => ?_)
          refine lv_iinc (v := nI (i4 + 1)) (lv' := [(3, .int (nI (i4 + 1))), (2, .int ((q_or (hasS S t) i4) ||| (1 <<< ((nI i4) &&& 31)))), (0, .ref (q 0)), (1, .int (nI t))]) hx hb dX3_roundsWithSheet_29 hl (k := 1) rfl (nI_1 _) (by decide) rfl (fun ls hl => ?_)
          refine lv_goto (tgt := 4) hx hb dX3_roundsWithSheet_32 (by decide) ?_
          exact ih_i4 (i4 + 1) ((q_or (hasS S t) i4) ||| (1 <<< ((nI i4) &&& 31))) (by first | rfl | simp [q_acc, q_or, q_cnt, q_any, nI_1, c_17]) lt_i4 (by omega) ls (lv_sub hl [0, 1, 2, 3] rfl)
  exact L_4 (8 + 1) 0 0 (rfl) (Nat.zero_le _) (by omega) ls (lv_sub hl [0, 1, 2, 3] rfl)

set_option maxHeartbeats 4000000 in
set_option maxRecDepth 100000 in
theorem c_X3_roundsTold (l : Launch) (g : q_G) (q : Nat → Nat) (S : q_St) (t : Nat) (h1_ : t < 10) : q_PM l yX3_roundsTold wsX3_roundsTold { frames := 3, cells := 0, slots := 0, locals := 65 } [.ref (q 0), .int (nI t)] (q_B g (q_stW g q S)) (.int (q_or (tldS S t) 8)) := by
  refine q_pm (cc := cX3_roundsTold) (maxL := 4) (ret := (some .int)) (by decide) rfl (Nat.le_of_ble_eq_true rfl) ?_
  intro p e s m args below meth c ls hx hb hml hown hts hr hlk hB hl
  obtain ⟨hP, hK, hN⟩ := hB
  have hl : lv_has ls 4 [(0, .ref (q 0)), (1, .int (nI t))] := hl
  refine lv_iconst (v := 0) hx hb dX3_roundsTold_0 (by decide) ?_
  refine lv_istore_n (lv' := [(2, .int 0), (0, .ref (q 0)), (1, .int (nI t))]) hx hb dX3_roundsTold_1 rfl hl (by decide) rfl (fun ls hl => ?_)
  refine lv_iconst (v := 0) hx hb dX3_roundsTold_2 (by decide) ?_
  refine lv_istore_n (lv' := [(3, .int 0), (2, .int 0), (0, .ref (q 0)), (1, .int (nI t))]) hx hb dX3_roundsTold_3 rfl hl (by decide) rfl (fun ls hl => ?_)
  have L_4 : ∀ (n i4 : Nat) (y2_4 : Int32), y2_4 = q_or (tldS S t) i4 → i4 ≤ 8 → 8 < i4 + n → ∀ ls : Array Slot, lv_has ls 4 [(3, .int (nI i4)), (2, .int y2_4), (0, .ref (q 0)), (1, .int (nI t))] → W p l e { frames := 3, cells := 0, slots := 0, locals := 65 } s m args below meth c s.heap [] 0 0 (MQ below (k2_QcV (.int (q_or (tldS S t) 8))) args s 0 0 (fun _ => False)) (F0 m 4 ls []) := by
    intro n
    induction n with
    | zero => intro i4 y2_4 ey2_4 hi_i4 hn_i4; exact absurd hn_i4 (by omega)
    | succ n ih_i4 =>
      intro i4 y2_4 ey2_4 hi_i4 hn_i4 ls hl
      subst ey2_4
      refine lv_iload_n hx hb dX3_roundsTold_4 rfl (lv_at hl 0 rfl) ?_
      refine lv_bipush (v := 8) hx hb dX3_roundsTold_5 (by decide) ?_
      refine lv_icmp_ge (tgt := 35) hx hb dX3_roundsTold_7 (by decide) (fun c_7 => ?_) (fun c_7 => ?_)
      · skip
        have e_7 : i4 = 8 := q_ge_T (by omega) hi_i4 c_7
        subst e_7
        refine lv_iload_n hx hb dX3_roundsTold_35 rfl (lv_at hl 1 rfl) ?_
        exact q_iret hx hb hr hlk dX3_roundsTold_36 (rfl)
      · skip
        have lt_i4 : i4 < 8 := q_ge_F (by omega) hi_i4 c_7
        refine lv_iload_n hx hb dX3_roundsTold_10 rfl (lv_at hl 1 rfl) ?_
        refine lv_aload_n hx hb dX3_roundsTold_11 rfl (lv_at hl 2 rfl) ?_
        refine lv_iload_n hx hb dX3_roundsTold_12 rfl (lv_at hl 3 rfl) ?_
        refine lv_iload_n hx hb dX3_roundsTold_13 rfl (lv_at hl 0 rfl) ?_
        refine q_V (As := [.int (nI t), .int (nI i4)]) (rest := [.int (q_or (tldS S t) i4)]) ⟨hx, hb, hml, hown, hts⟩ (c_X3_isTold l g q S t i4 (by omega) (by omega)) (cwV 2 hts gX3_roundsTold_X3_isTold rfl rfl rfl (by decide +kernel) ⟨Nat.le_of_ble_eq_true rfl, Nat.le_of_ble_eq_true rfl⟩) q_B_blind (va_recv hK hP (ci := 2) (q0 := 0) rfl rfl) (q_B_of hP hK hN) rfl hl.1 rfl (Nat.le_of_ble_eq_true rfl) dX3_roundsTold_14 (Nat.zero_le _) (Nat.zero_le _) ?_
        refine lv_if_eq (tgt := 26) hx hb dX3_roundsTold_17 (by decide) (fun c_17 => ?_) (fun c_17 => ?_)
        · skip
          have c_17 : (tldS S t i4) = false := bI_eq c_17
          refine lv_iconst (v := 0) hx hb dX3_roundsTold_26 (by decide) ?_
          refine lv_ior hx hb dX3_roundsTold_27 ?_
          refine lv_istore_n (lv' := [(2, .int ((q_or (tldS S t) i4) ||| 0)), (3, .int (nI i4)), (0, .ref (q 0)), (1, .int (nI t))]) hx hb dX3_roundsTold_28 rfl hl (by decide) rfl (fun ls hl => ?_)
          refine lv_iinc (v := nI (i4 + 1)) (lv' := [(3, .int (nI (i4 + 1))), (2, .int ((q_or (tldS S t) i4) ||| 0)), (0, .ref (q 0)), (1, .int (nI t))]) hx hb dX3_roundsTold_29 hl (k := 1) rfl (nI_1 _) (by decide) rfl (fun ls hl => ?_)
          refine lv_goto (tgt := 4) hx hb dX3_roundsTold_32 (by decide) ?_
          exact ih_i4 (i4 + 1) ((q_or (tldS S t) i4) ||| 0) (by first | rfl | simp [q_acc, q_or, q_cnt, q_any, nI_1, c_17]) lt_i4 (by omega) ls (lv_sub hl [0, 1, 2, 3] rfl)
        · skip
          have c_17 : (tldS S t i4) = true := bI_ne c_17
          refine lv_iconst (v := 1) hx hb dX3_roundsTold_20 (by decide) ?_
          refine lv_iload_n hx hb dX3_roundsTold_21 rfl (lv_at hl 0 rfl) ?_
          refine lv_ishl hx hb dX3_roundsTold_22 ?_
          refine lv_goto (tgt := 27) hx hb dX3_roundsTold_23 (by decide) ?_
          refine lv_ior hx hb dX3_roundsTold_27 ?_
          refine lv_istore_n (lv' := [(2, .int ((q_or (tldS S t) i4) ||| (1 <<< ((nI i4) &&& 31)))), (3, .int (nI i4)), (0, .ref (q 0)), (1, .int (nI t))]) hx hb dX3_roundsTold_28 rfl hl (by decide) rfl (fun ls hl => ?_)
          refine lv_iinc (v := nI (i4 + 1)) (lv' := [(3, .int (nI (i4 + 1))), (2, .int ((q_or (tldS S t) i4) ||| (1 <<< ((nI i4) &&& 31)))), (0, .ref (q 0)), (1, .int (nI t))]) hx hb dX3_roundsTold_29 hl (k := 1) rfl (nI_1 _) (by decide) rfl (fun ls hl => ?_)
          refine lv_goto (tgt := 4) hx hb dX3_roundsTold_32 (by decide) ?_
          exact ih_i4 (i4 + 1) ((q_or (tldS S t) i4) ||| (1 <<< ((nI i4) &&& 31))) (by first | rfl | simp [q_acc, q_or, q_cnt, q_any, nI_1, c_17]) lt_i4 (by omega) ls (lv_sub hl [0, 1, 2, 3] rfl)
  exact L_4 (8 + 1) 0 0 (rfl) (Nat.zero_le _) (by omega) ls (lv_sub hl [0, 1, 2, 3] rfl)

set_option maxHeartbeats 4000000 in
set_option maxRecDepth 100000 in
theorem c_X3_teamsWithSheet (l : Launch) (g : q_G) (q : Nat → Nat) (S : q_St) (r : Nat) (h1_ : s_n S ≤ 10) (h2_ : r < 8) : q_PM l yX3_teamsWithSheet wsX3_teamsWithSheet { frames := 2, cells := 0, slots := 0, locals := 43 } [.ref (q 0), .int (nI r)] (q_B g (q_stW g q S)) (.int (q_or (fun t => hasS S t r) (s_n S))) := by
  refine q_pm (cc := cX3_teamsWithSheet) (maxL := 4) (ret := (some .int)) (by decide) rfl (Nat.le_of_ble_eq_true rfl) ?_
  intro p e s m args below meth c ls hx hb hml hown hts hr hlk hB hl
  obtain ⟨hP, hK, hN⟩ := hB
  have fl_66 := hts (.fieldLink RX3 66 "PubQuizzes$State" "teams" "I") (by decide +kernel)
  have hi_X3 : ∀ w ∈ u_ws RX3 TX3 12, w ∈ wsX3_teamsWithSheet := by decide +kernel
  have hl : lv_has ls 4 [(0, .ref (q 0)), (1, .int (nI r))] := hl
  refine lv_iconst (v := 0) hx hb dX3_teamsWithSheet_0 (by decide) ?_
  refine lv_istore_n (lv' := [(2, .int 0), (0, .ref (q 0)), (1, .int (nI r))]) hx hb dX3_teamsWithSheet_1 rfl hl (by decide) rfl (fun ls hl => ?_)
  refine lv_iconst (v := 0) hx hb dX3_teamsWithSheet_2 (by decide) ?_
  refine lv_istore_n (lv' := [(3, .int 0), (2, .int 0), (0, .ref (q 0)), (1, .int (nI r))]) hx hb dX3_teamsWithSheet_3 rfl hl (by decide) rfl (fun ls hl => ?_)
  have L_4 : ∀ (n i4 : Nat) (y2_4 : Int32), y2_4 = q_or (fun t => hasS S t r) i4 → i4 ≤ s_n S → s_n S < i4 + n → ∀ ls : Array Slot, lv_has ls 4 [(3, .int (nI i4)), (2, .int y2_4), (0, .ref (q 0)), (1, .int (nI r))] → W p l e { frames := 2, cells := 0, slots := 0, locals := 43 } s m args below meth c s.heap [] 0 0 (MQ below (k2_QcV (.int (q_or (fun t => hasS S t r) (s_n S)))) args s 0 0 (fun _ => False)) (F0 m 4 ls []) := by
    intro n
    induction n with
    | zero => intro i4 y2_4 ey2_4 hi_i4 hn_i4; exact absurd hn_i4 (by omega)
    | succ n ih_i4 =>
      intro i4 y2_4 ey2_4 hi_i4 hn_i4 ls hl
      subst ey2_4
      refine lv_iload_n hx hb dX3_teamsWithSheet_4 rfl (lv_at hl 0 rfl) ?_
      refine lv_aload_n hx hb dX3_teamsWithSheet_5 rfl (lv_at hl 2 rfl) ?_
      refine va_get (D := g.1) (ci := 2) (v := .int (nI (s_n S))) (C := RX3) (T := TX3) (N := 12) hx hb hts hi_X3 hown hK hP 0 rfl rfl 10 (by decide) fl_66 (fun _ h9 => h9) rfl dX3_teamsWithSheet_6 ?_
      refine lv_icmp_ge (tgt := 37) hx hb dX3_teamsWithSheet_9 (by decide) (fun c_9 => ?_) (fun c_9 => ?_)
      · skip
        have e_9 : i4 = s_n S := q_ge_T (by omega) hi_i4 c_9
        subst e_9
        refine lv_iload_n hx hb dX3_teamsWithSheet_37 rfl (lv_at hl 1 rfl) ?_
        exact q_iret hx hb hr hlk dX3_teamsWithSheet_38 (rfl)
      · skip
        have lt_i4 : i4 < s_n S := q_ge_F (by omega) hi_i4 c_9
        refine lv_iload_n hx hb dX3_teamsWithSheet_12 rfl (lv_at hl 1 rfl) ?_
        refine lv_aload_n hx hb dX3_teamsWithSheet_13 rfl (lv_at hl 2 rfl) ?_
        refine lv_iload_n hx hb dX3_teamsWithSheet_14 rfl (lv_at hl 0 rfl) ?_
        refine lv_iload_n hx hb dX3_teamsWithSheet_15 rfl (lv_at hl 3 rfl) ?_
        refine q_V (As := [.int (nI i4), .int (nI r)]) (rest := [.int (q_or (fun t => hasS S t r) i4)]) ⟨hx, hb, hml, hown, hts⟩ (c_X3_hasSheet l g q S i4 r (by omega) (by omega)) (cwV 2 hts gX3_teamsWithSheet_X3_hasSheet rfl rfl rfl (by decide +kernel) ⟨Nat.le_of_ble_eq_true rfl, Nat.le_of_ble_eq_true rfl⟩) q_B_blind (va_recv hK hP (ci := 2) (q0 := 0) rfl rfl) (q_B_of hP hK hN) rfl hl.1 rfl (Nat.le_of_ble_eq_true rfl) dX3_teamsWithSheet_16 (Nat.zero_le _) (Nat.zero_le _) ?_
        refine lv_if_eq (tgt := 28) hx hb dX3_teamsWithSheet_19 (by decide) (fun c_19 => ?_) (fun c_19 => ?_)
        · skip
          have c_19 : (hasS S i4 r) = false := bI_eq c_19
          refine lv_iconst (v := 0) hx hb dX3_teamsWithSheet_28 (by decide) ?_
          refine lv_ior hx hb dX3_teamsWithSheet_29 ?_
          refine lv_istore_n (lv' := [(2, .int ((q_or (fun t => hasS S t r) i4) ||| 0)), (3, .int (nI i4)), (0, .ref (q 0)), (1, .int (nI r))]) hx hb dX3_teamsWithSheet_30 rfl hl (by decide) rfl (fun ls hl => ?_)
          refine lv_iinc (v := nI (i4 + 1)) (lv' := [(3, .int (nI (i4 + 1))), (2, .int ((q_or (fun t => hasS S t r) i4) ||| 0)), (0, .ref (q 0)), (1, .int (nI r))]) hx hb dX3_teamsWithSheet_31 hl (k := 1) rfl (nI_1 _) (by decide) rfl (fun ls hl => ?_)
          refine lv_goto (tgt := 4) hx hb dX3_teamsWithSheet_34 (by decide) ?_
          exact ih_i4 (i4 + 1) ((q_or (fun t => hasS S t r) i4) ||| 0) (by first | rfl | simp [q_acc, q_or, q_cnt, q_any, nI_1, c_19]) lt_i4 (by omega) ls (lv_sub hl [0, 1, 2, 3] rfl)
        · skip
          have c_19 : (hasS S i4 r) = true := bI_ne c_19
          refine lv_iconst (v := 1) hx hb dX3_teamsWithSheet_22 (by decide) ?_
          refine lv_iload_n hx hb dX3_teamsWithSheet_23 rfl (lv_at hl 0 rfl) ?_
          refine lv_ishl hx hb dX3_teamsWithSheet_24 ?_
          refine lv_goto (tgt := 29) hx hb dX3_teamsWithSheet_25 (by decide) ?_
          refine lv_ior hx hb dX3_teamsWithSheet_29 ?_
          refine lv_istore_n (lv' := [(2, .int ((q_or (fun t => hasS S t r) i4) ||| (1 <<< ((nI i4) &&& 31)))), (3, .int (nI i4)), (0, .ref (q 0)), (1, .int (nI r))]) hx hb dX3_teamsWithSheet_30 rfl hl (by decide) rfl (fun ls hl => ?_)
          refine lv_iinc (v := nI (i4 + 1)) (lv' := [(3, .int (nI (i4 + 1))), (2, .int ((q_or (fun t => hasS S t r) i4) ||| (1 <<< ((nI i4) &&& 31)))), (0, .ref (q 0)), (1, .int (nI r))]) hx hb dX3_teamsWithSheet_31 hl (k := 1) rfl (nI_1 _) (by decide) rfl (fun ls hl => ?_)
          refine lv_goto (tgt := 4) hx hb dX3_teamsWithSheet_34 (by decide) ?_
          exact ih_i4 (i4 + 1) ((q_or (fun t => hasS S t r) i4) ||| (1 <<< ((nI i4) &&& 31))) (by first | rfl | simp [q_acc, q_or, q_cnt, q_any, nI_1, c_19]) lt_i4 (by omega) ls (lv_sub hl [0, 1, 2, 3] rfl)
  exact L_4 (s_n S + 1) 0 0 (rfl) (Nat.zero_le _) (by omega) ls (lv_sub hl [0, 1, 2, 3] rfl)

set_option maxHeartbeats 4000000 in
set_option maxRecDepth 100000 in
theorem c_X3_teamsWithJoker (l : Launch) (g : q_G) (q : Nat → Nat) (S : q_St) (r : Nat) (h1_ : s_n S ≤ 10) (h2_ : r < 8) : q_PM l yX3_teamsWithJoker wsX3_teamsWithJoker { frames := 0, cells := 0, slots := 0, locals := 0 } [.ref (q 0), .int (nI r)] (q_B g (q_stW g q S)) (.int (q_or (fun t => decide (s_jok S t = nI r)) (s_n S))) := by
  refine q_pm (cc := cX3_teamsWithJoker) (maxL := 4) (ret := (some .int)) (by decide) rfl (Nat.le_of_ble_eq_true rfl) ?_
  intro p e s m args below meth c ls hx hb hml hown hts hr hlk hB hl
  obtain ⟨hP, hK, hN⟩ := hB
  have fl_18 := hts (.fieldLink RX3 18 "PubQuizzes$State" "jokers" "[I") (by decide +kernel)
  have fl_66 := hts (.fieldLink RX3 66 "PubQuizzes$State" "teams" "I") (by decide +kernel)
  have hi_X3 : ∀ w ∈ u_ws RX3 TX3 12, w ∈ wsX3_teamsWithJoker := by decide +kernel
  have hl : lv_has ls 4 [(0, .ref (q 0)), (1, .int (nI r))] := hl
  refine lv_iconst (v := 0) hx hb dX3_teamsWithJoker_0 (by decide) ?_
  refine lv_istore_n (lv' := [(2, .int 0), (0, .ref (q 0)), (1, .int (nI r))]) hx hb dX3_teamsWithJoker_1 rfl hl (by decide) rfl (fun ls hl => ?_)
  refine lv_iconst (v := 0) hx hb dX3_teamsWithJoker_2 (by decide) ?_
  refine lv_istore_n (lv' := [(3, .int 0), (2, .int 0), (0, .ref (q 0)), (1, .int (nI r))]) hx hb dX3_teamsWithJoker_3 rfl hl (by decide) rfl (fun ls hl => ?_)
  have L_4 : ∀ (n i4 : Nat) (y2_4 : Int32), y2_4 = q_or (fun t => decide (s_jok S t = nI r)) i4 → i4 ≤ s_n S → s_n S < i4 + n → ∀ ls : Array Slot, lv_has ls 4 [(3, .int (nI i4)), (2, .int y2_4), (0, .ref (q 0)), (1, .int (nI r))] → W p l e { frames := 0, cells := 0, slots := 0, locals := 0 } s m args below meth c s.heap [] 0 0 (MQ below (k2_QcV (.int (q_or (fun t => decide (s_jok S t = nI r)) (s_n S)))) args s 0 0 (fun _ => False)) (F0 m 4 ls []) := by
    intro n
    induction n with
    | zero => intro i4 y2_4 ey2_4 hi_i4 hn_i4; exact absurd hn_i4 (by omega)
    | succ n ih_i4 =>
      intro i4 y2_4 ey2_4 hi_i4 hn_i4 ls hl
      subst ey2_4
      refine lv_iload_n hx hb dX3_teamsWithJoker_4 rfl (lv_at hl 0 rfl) ?_
      refine lv_aload_n hx hb dX3_teamsWithJoker_5 rfl (lv_at hl 2 rfl) ?_
      refine va_get (D := g.1) (ci := 2) (v := .int (nI (s_n S))) (C := RX3) (T := TX3) (N := 12) hx hb hts hi_X3 hown hK hP 0 rfl rfl 10 (by decide) fl_66 (fun _ h9 => h9) rfl dX3_teamsWithJoker_6 ?_
      refine lv_icmp_ge (tgt := 38) hx hb dX3_teamsWithJoker_9 (by decide) (fun c_9 => ?_) (fun c_9 => ?_)
      · skip
        have e_9 : i4 = s_n S := q_ge_T (by omega) hi_i4 c_9
        subst e_9
        refine lv_iload_n hx hb dX3_teamsWithJoker_38 rfl (lv_at hl 1 rfl) ?_
        exact q_iret hx hb hr hlk dX3_teamsWithJoker_39 (rfl)
      · skip
        have lt_i4 : i4 < s_n S := q_ge_F (by omega) hi_i4 c_9
        refine lv_iload_n hx hb dX3_teamsWithJoker_12 rfl (lv_at hl 1 rfl) ?_
        refine lv_aload_n hx hb dX3_teamsWithJoker_13 rfl (lv_at hl 2 rfl) ?_
        refine va_get (D := g.1) (ci := 2) (v := .ref (q 3)) (C := RX3) (T := TX3) (N := 12) hx hb hts hi_X3 hown hK hP 0 rfl rfl 2 (by decide) fl_18 (fun _ h9 => h9) rfl dX3_teamsWithJoker_14 ?_
        refine lv_iload_n hx hb dX3_teamsWithJoker_17 rfl (lv_at hl 0 rfl) ?_
        refine q_iald (j := i4) hx hb hK hP 3 0 rfl rfl (by omega) (by decide) dX3_teamsWithJoker_18 ?_
        refine lv_iload_n hx hb dX3_teamsWithJoker_19 rfl (lv_at hl 3 rfl) ?_
        refine lv_icmp_ne (tgt := 29) hx hb dX3_teamsWithJoker_20 (by decide) (fun c_20 => ?_) (fun c_20 => ?_)
        · skip
          refine lv_iconst (v := 0) hx hb dX3_teamsWithJoker_29 (by decide) ?_
          refine lv_ior hx hb dX3_teamsWithJoker_30 ?_
          refine lv_istore_n (lv' := [(2, .int ((q_or (fun t => decide (s_jok S t = nI r)) i4) ||| 0)), (3, .int (nI i4)), (0, .ref (q 0)), (1, .int (nI r))]) hx hb dX3_teamsWithJoker_31 rfl hl (by decide) rfl (fun ls hl => ?_)
          refine lv_iinc (v := nI (i4 + 1)) (lv' := [(3, .int (nI (i4 + 1))), (2, .int ((q_or (fun t => decide (s_jok S t = nI r)) i4) ||| 0)), (0, .ref (q 0)), (1, .int (nI r))]) hx hb dX3_teamsWithJoker_32 hl (k := 1) rfl (nI_1 _) (by decide) rfl (fun ls hl => ?_)
          refine lv_goto (tgt := 4) hx hb dX3_teamsWithJoker_35 (by decide) ?_
          exact ih_i4 (i4 + 1) ((q_or (fun t => decide (s_jok S t = nI r)) i4) ||| 0) (by first | rfl | simp [q_acc, q_or, q_cnt, q_any, nI_1, c_20]) lt_i4 (by omega) ls (lv_sub hl [0, 1, 2, 3] rfl)
        · skip
          refine lv_iconst (v := 1) hx hb dX3_teamsWithJoker_23 (by decide) ?_
          refine lv_iload_n hx hb dX3_teamsWithJoker_24 rfl (lv_at hl 0 rfl) ?_
          refine lv_ishl hx hb dX3_teamsWithJoker_25 ?_
          refine lv_goto (tgt := 30) hx hb dX3_teamsWithJoker_26 (by decide) ?_
          refine lv_ior hx hb dX3_teamsWithJoker_30 ?_
          refine lv_istore_n (lv' := [(2, .int ((q_or (fun t => decide (s_jok S t = nI r)) i4) ||| (1 <<< ((nI i4) &&& 31)))), (3, .int (nI i4)), (0, .ref (q 0)), (1, .int (nI r))]) hx hb dX3_teamsWithJoker_31 rfl hl (by decide) rfl (fun ls hl => ?_)
          refine lv_iinc (v := nI (i4 + 1)) (lv' := [(3, .int (nI (i4 + 1))), (2, .int ((q_or (fun t => decide (s_jok S t = nI r)) i4) ||| (1 <<< ((nI i4) &&& 31)))), (0, .ref (q 0)), (1, .int (nI r))]) hx hb dX3_teamsWithJoker_32 hl (k := 1) rfl (nI_1 _) (by decide) rfl (fun ls hl => ?_)
          refine lv_goto (tgt := 4) hx hb dX3_teamsWithJoker_35 (by decide) ?_
          exact ih_i4 (i4 + 1) ((q_or (fun t => decide (s_jok S t = nI r)) i4) ||| (1 <<< ((nI i4) &&& 31))) (by first | rfl | simp [q_acc, q_or, q_cnt, q_any, nI_1, c_20]) lt_i4 (by omega) ls (lv_sub hl [0, 1, 2, 3] rfl)
  exact L_4 (s_n S + 1) 0 0 (rfl) (Nat.zero_le _) (by omega) ls (lv_sub hl [0, 1, 2, 3] rfl)

set_option maxHeartbeats 4000000 in
set_option maxRecDepth 100000 in
theorem c_X3_teamsTold (l : Launch) (g : q_G) (q : Nat → Nat) (S : q_St) (r : Nat) (h1_ : s_n S ≤ 10) (h2_ : r < 8) : q_PM l yX3_teamsTold wsX3_teamsTold { frames := 3, cells := 0, slots := 0, locals := 65 } [.ref (q 0), .int (nI r)] (q_B g (q_stW g q S)) (.int (q_or (fun t => tldS S t r) (s_n S))) := by
  refine q_pm (cc := cX3_teamsTold) (maxL := 4) (ret := (some .int)) (by decide) rfl (Nat.le_of_ble_eq_true rfl) ?_
  intro p e s m args below meth c ls hx hb hml hown hts hr hlk hB hl
  obtain ⟨hP, hK, hN⟩ := hB
  have fl_66 := hts (.fieldLink RX3 66 "PubQuizzes$State" "teams" "I") (by decide +kernel)
  have hi_X3 : ∀ w ∈ u_ws RX3 TX3 12, w ∈ wsX3_teamsTold := by decide +kernel
  have hl : lv_has ls 4 [(0, .ref (q 0)), (1, .int (nI r))] := hl
  refine lv_iconst (v := 0) hx hb dX3_teamsTold_0 (by decide) ?_
  refine lv_istore_n (lv' := [(2, .int 0), (0, .ref (q 0)), (1, .int (nI r))]) hx hb dX3_teamsTold_1 rfl hl (by decide) rfl (fun ls hl => ?_)
  refine lv_iconst (v := 0) hx hb dX3_teamsTold_2 (by decide) ?_
  refine lv_istore_n (lv' := [(3, .int 0), (2, .int 0), (0, .ref (q 0)), (1, .int (nI r))]) hx hb dX3_teamsTold_3 rfl hl (by decide) rfl (fun ls hl => ?_)
  have L_4 : ∀ (n i4 : Nat) (y2_4 : Int32), y2_4 = q_or (fun t => tldS S t r) i4 → i4 ≤ s_n S → s_n S < i4 + n → ∀ ls : Array Slot, lv_has ls 4 [(3, .int (nI i4)), (2, .int y2_4), (0, .ref (q 0)), (1, .int (nI r))] → W p l e { frames := 3, cells := 0, slots := 0, locals := 65 } s m args below meth c s.heap [] 0 0 (MQ below (k2_QcV (.int (q_or (fun t => tldS S t r) (s_n S)))) args s 0 0 (fun _ => False)) (F0 m 4 ls []) := by
    intro n
    induction n with
    | zero => intro i4 y2_4 ey2_4 hi_i4 hn_i4; exact absurd hn_i4 (by omega)
    | succ n ih_i4 =>
      intro i4 y2_4 ey2_4 hi_i4 hn_i4 ls hl
      subst ey2_4
      refine lv_iload_n hx hb dX3_teamsTold_4 rfl (lv_at hl 0 rfl) ?_
      refine lv_aload_n hx hb dX3_teamsTold_5 rfl (lv_at hl 2 rfl) ?_
      refine va_get (D := g.1) (ci := 2) (v := .int (nI (s_n S))) (C := RX3) (T := TX3) (N := 12) hx hb hts hi_X3 hown hK hP 0 rfl rfl 10 (by decide) fl_66 (fun _ h9 => h9) rfl dX3_teamsTold_6 ?_
      refine lv_icmp_ge (tgt := 37) hx hb dX3_teamsTold_9 (by decide) (fun c_9 => ?_) (fun c_9 => ?_)
      · skip
        have e_9 : i4 = s_n S := q_ge_T (by omega) hi_i4 c_9
        subst e_9
        refine lv_iload_n hx hb dX3_teamsTold_37 rfl (lv_at hl 1 rfl) ?_
        exact q_iret hx hb hr hlk dX3_teamsTold_38 (rfl)
      · skip
        have lt_i4 : i4 < s_n S := q_ge_F (by omega) hi_i4 c_9
        refine lv_iload_n hx hb dX3_teamsTold_12 rfl (lv_at hl 1 rfl) ?_
        refine lv_aload_n hx hb dX3_teamsTold_13 rfl (lv_at hl 2 rfl) ?_
        refine lv_iload_n hx hb dX3_teamsTold_14 rfl (lv_at hl 0 rfl) ?_
        refine lv_iload_n hx hb dX3_teamsTold_15 rfl (lv_at hl 3 rfl) ?_
        refine q_V (As := [.int (nI i4), .int (nI r)]) (rest := [.int (q_or (fun t => tldS S t r) i4)]) ⟨hx, hb, hml, hown, hts⟩ (c_X3_isTold l g q S i4 r (by omega) (by omega)) (cwV 2 hts gX3_teamsTold_X3_isTold rfl rfl rfl (by decide +kernel) ⟨Nat.le_of_ble_eq_true rfl, Nat.le_of_ble_eq_true rfl⟩) q_B_blind (va_recv hK hP (ci := 2) (q0 := 0) rfl rfl) (q_B_of hP hK hN) rfl hl.1 rfl (Nat.le_of_ble_eq_true rfl) dX3_teamsTold_16 (Nat.zero_le _) (Nat.zero_le _) ?_
        refine lv_if_eq (tgt := 28) hx hb dX3_teamsTold_19 (by decide) (fun c_19 => ?_) (fun c_19 => ?_)
        · skip
          have c_19 : (tldS S i4 r) = false := bI_eq c_19
          refine lv_iconst (v := 0) hx hb dX3_teamsTold_28 (by decide) ?_
          refine lv_ior hx hb dX3_teamsTold_29 ?_
          refine lv_istore_n (lv' := [(2, .int ((q_or (fun t => tldS S t r) i4) ||| 0)), (3, .int (nI i4)), (0, .ref (q 0)), (1, .int (nI r))]) hx hb dX3_teamsTold_30 rfl hl (by decide) rfl (fun ls hl => ?_)
          refine lv_iinc (v := nI (i4 + 1)) (lv' := [(3, .int (nI (i4 + 1))), (2, .int ((q_or (fun t => tldS S t r) i4) ||| 0)), (0, .ref (q 0)), (1, .int (nI r))]) hx hb dX3_teamsTold_31 hl (k := 1) rfl (nI_1 _) (by decide) rfl (fun ls hl => ?_)
          refine lv_goto (tgt := 4) hx hb dX3_teamsTold_34 (by decide) ?_
          exact ih_i4 (i4 + 1) ((q_or (fun t => tldS S t r) i4) ||| 0) (by first | rfl | simp [q_acc, q_or, q_cnt, q_any, nI_1, c_19]) lt_i4 (by omega) ls (lv_sub hl [0, 1, 2, 3] rfl)
        · skip
          have c_19 : (tldS S i4 r) = true := bI_ne c_19
          refine lv_iconst (v := 1) hx hb dX3_teamsTold_22 (by decide) ?_
          refine lv_iload_n hx hb dX3_teamsTold_23 rfl (lv_at hl 0 rfl) ?_
          refine lv_ishl hx hb dX3_teamsTold_24 ?_
          refine lv_goto (tgt := 29) hx hb dX3_teamsTold_25 (by decide) ?_
          refine lv_ior hx hb dX3_teamsTold_29 ?_
          refine lv_istore_n (lv' := [(2, .int ((q_or (fun t => tldS S t r) i4) ||| (1 <<< ((nI i4) &&& 31)))), (3, .int (nI i4)), (0, .ref (q 0)), (1, .int (nI r))]) hx hb dX3_teamsTold_30 rfl hl (by decide) rfl (fun ls hl => ?_)
          refine lv_iinc (v := nI (i4 + 1)) (lv' := [(3, .int (nI (i4 + 1))), (2, .int ((q_or (fun t => tldS S t r) i4) ||| (1 <<< ((nI i4) &&& 31)))), (0, .ref (q 0)), (1, .int (nI r))]) hx hb dX3_teamsTold_31 hl (k := 1) rfl (nI_1 _) (by decide) rfl (fun ls hl => ?_)
          refine lv_goto (tgt := 4) hx hb dX3_teamsTold_34 (by decide) ?_
          exact ih_i4 (i4 + 1) ((q_or (fun t => tldS S t r) i4) ||| (1 <<< ((nI i4) &&& 31))) (by first | rfl | simp [q_acc, q_or, q_cnt, q_any, nI_1, c_19]) lt_i4 (by omega) ls (lv_sub hl [0, 1, 2, 3] rfl)
  exact L_4 (s_n S + 1) 0 0 (rfl) (Nat.zero_le _) (by omega) ls (lv_sub hl [0, 1, 2, 3] rfl)

set_option maxHeartbeats 4000000 in
set_option maxRecDepth 100000 in
theorem c_X3_withJoker (l : Launch) (g : q_G) (q : Nat → Nat) (S : q_St) (t : Nat) (r : Nat) (x : Int32) (h1_ : t < 10) : q_PM l yX3_withJoker wsX3_withJoker { frames := 0, cells := 0, slots := 0, locals := 0 } [.ref (q 0), .int (nI t), .int (nI r), .int x] (q_B g (q_stW g q S)) (.int (withJ S t r x)) := by
  refine q_pm (cc := cX3_withJoker) (maxL := 4) (ret := (some .int)) (by decide) rfl (Nat.le_of_ble_eq_true rfl) ?_
  intro p e s m args below meth c ls hx hb hml hown hts hr hlk hB hl
  obtain ⟨hP, hK, hN⟩ := hB
  have fl_18 := hts (.fieldLink RX3 18 "PubQuizzes$State" "jokers" "[I") (by decide +kernel)
  have hi_X3 : ∀ w ∈ u_ws RX3 TX3 12, w ∈ wsX3_withJoker := by decide +kernel
  have hl : lv_has ls 4 [(0, .ref (q 0)), (1, .int (nI t)), (2, .int (nI r)), (3, .int x)] := hl
  refine lv_aload_n hx hb dX3_withJoker_0 rfl (lv_at hl 0 rfl) ?_
  refine va_get (D := g.1) (ci := 2) (v := .ref (q 3)) (C := RX3) (T := TX3) (N := 12) hx hb hts hi_X3 hown hK hP 0 rfl rfl 2 (by decide) fl_18 (fun _ h9 => h9) rfl dX3_withJoker_1 ?_
  refine lv_iload_n hx hb dX3_withJoker_4 rfl (lv_at hl 1 rfl) ?_
  refine q_iald (j := t) hx hb hK hP 3 0 rfl rfl (by omega) (by decide) dX3_withJoker_5 ?_
  refine lv_iload_n hx hb dX3_withJoker_6 rfl (lv_at hl 2 rfl) ?_
  refine lv_icmp_ne (tgt := 16) hx hb dX3_withJoker_7 (by decide) (fun c_7 => ?_) (fun c_7 => ?_)
  · skip
    refine lv_iload_n hx hb dX3_withJoker_16 rfl (lv_at hl 3 rfl) ?_
    exact q_iret hx hb hr hlk dX3_withJoker_17 (by first | rfl | simp [withJ, c_7])
  · skip
    refine lv_iconst (v := 2) hx hb dX3_withJoker_10 (by decide) ?_
    refine lv_iload_n hx hb dX3_withJoker_11 rfl (lv_at hl 3 rfl) ?_
    refine lv_imul hx hb dX3_withJoker_12 ?_
    refine lv_goto (tgt := 17) hx hb dX3_withJoker_13 (by decide) ?_
    exact q_iret hx hb hr hlk dX3_withJoker_17 (by first | rfl | simp [withJ, c_7])

set_option maxHeartbeats 4000000 in
set_option maxRecDepth 100000 in
theorem c_X3_pointsOf (l : Launch) (g : q_G) (q : Nat → Nat) (S : q_St) (t : Nat) (r : Nat) (h1_ : t < 10) (h2_ : r < 8) : q_PM l yX3_pointsOf wsX3_pointsOf { frames := 1, cells := 0, slots := 0, locals := 23 } [.ref (q 0), .int (nI t), .int (nI r)] (q_B g (q_stW g q S)) (.int (ptsS S t r)) := by
  refine q_pm (cc := cX3_pointsOf) (maxL := 4) (ret := (some .int)) (by decide) rfl (Nat.le_of_ble_eq_true rfl) ?_
  intro p e s m args below meth c ls hx hb hml hown hts hr hlk hB hl
  obtain ⟨hP, hK, hN⟩ := hB
  have fl_34 := hts (.fieldLink RX3 34 "PubQuizzes$State" "marks" "[I") (by decide +kernel)
  have fl_37 := hts (.fieldLink RX3 37 "PubQuizzes$State" "markers" "[I") (by decide +kernel)
  have hi_X3 : ∀ w ∈ u_ws RX3 TX3 12, w ∈ wsX3_pointsOf := by decide +kernel
  have hl : lv_has ls 4 [(0, .ref (q 0)), (1, .int (nI t)), (2, .int (nI r))] := hl
  refine lv_iload_n hx hb dX3_pointsOf_0 rfl (lv_at hl 1 rfl) ?_
  refine lv_iload_n hx hb dX3_pointsOf_1 rfl (lv_at hl 2 rfl) ?_
  refine q_SN (As := [.int (nI t), .int (nI r)]) (rest := []) ⟨hx, hb, hml, hown, hts⟩ (c_X4_indexOf l t r ) ⟨va_cnB 2 hts gX3_pointsOf_X4_indexOf_n69 rfl rfl rfl hN (hts (.initialized RX4) (by decide +kernel)) (by decide +kernel) ⟨Nat.le_of_ble_eq_true rfl, Nat.le_of_ble_eq_true rfl⟩, hts (.static yX4_indexOf) (by decide +kernel), trivial⟩ q_Blind_t (fun _ _ _ => trivial) rfl hl.1 rfl (Nat.le_of_ble_eq_true rfl) dX3_pointsOf_2 (Nat.zero_le _) (Nat.zero_le _) ?_
  refine lv_istore_n (lv' := [(3, .int (nI (t * 8 + r))), (0, .ref (q 0)), (1, .int (nI t)), (2, .int (nI r))]) hx hb dX3_pointsOf_5 rfl hl (by decide) rfl (fun ls hl => ?_)
  refine lv_aload_n hx hb dX3_pointsOf_6 rfl (lv_at hl 1 rfl) ?_
  refine va_get (D := g.1) (ci := 2) (v := .ref (q 9)) (C := RX3) (T := TX3) (N := 12) hx hb hts hi_X3 hown hK hP 0 rfl rfl 8 (by decide) fl_37 (fun _ h9 => h9) rfl dX3_pointsOf_7 ?_
  refine lv_iload_n hx hb dX3_pointsOf_10 rfl (lv_at hl 0 rfl) ?_
  refine q_iald (j := (t * 8 + r)) hx hb hK hP 9 0 rfl rfl (by omega) (by decide) dX3_pointsOf_11 ?_
  refine lv_bipush (v := (-6)) hx hb dX3_pointsOf_12 (by decide) ?_
  refine lv_icmp_ne (tgt := 21) hx hb dX3_pointsOf_14 (by decide) (fun c_14 => ?_) (fun c_14 => ?_)
  · skip
    refine lv_aload_n hx hb dX3_pointsOf_21 rfl (lv_at hl 1 rfl) ?_
    refine lv_iload_n hx hb dX3_pointsOf_22 rfl (lv_at hl 2 rfl) ?_
    refine lv_iload_n hx hb dX3_pointsOf_23 rfl (lv_at hl 3 rfl) ?_
    refine lv_aload_n hx hb dX3_pointsOf_24 rfl (lv_at hl 1 rfl) ?_
    refine va_get (D := g.1) (ci := 2) (v := .ref (q 8)) (C := RX3) (T := TX3) (N := 12) hx hb hts hi_X3 hown hK hP 0 rfl rfl 7 (by decide) fl_34 (fun _ h9 => h9) rfl dX3_pointsOf_25 ?_
    refine lv_iload_n hx hb dX3_pointsOf_28 rfl (lv_at hl 0 rfl) ?_
    refine q_iald (j := (t * 8 + r)) hx hb hK hP 8 0 rfl rfl (by omega) (by decide) dX3_pointsOf_29 ?_
    refine q_V (As := [.int (nI t), .int (nI r), .int (s_mar S (t * 8 + r))]) (rest := []) ⟨hx, hb, hml, hown, hts⟩ (c_X3_withJoker l g q S t r (s_mar S (t * 8 + r)) (by omega)) (cwV 3 hts gX3_pointsOf_X3_withJoker rfl rfl rfl (by decide +kernel) ⟨Nat.le_of_ble_eq_true rfl, Nat.le_of_ble_eq_true rfl⟩) q_B_blind (va_recv hK hP (ci := 2) (q0 := 0) rfl rfl) (q_B_of hP hK hN) rfl hl.1 rfl (Nat.le_of_ble_eq_true rfl) dX3_pointsOf_30 (Nat.zero_le _) (Nat.zero_le _) ?_
    exact q_iret hx hb hr hlk dX3_pointsOf_33 (by first | rfl | simp [ptsS, c_14])
  · skip
    refine lv_iconst (v := 0) hx hb dX3_pointsOf_17 (by decide) ?_
    refine lv_goto (tgt := 33) hx hb dX3_pointsOf_18 (by decide) ?_
    exact q_iret hx hb hr hlk dX3_pointsOf_33 (by first | rfl | simp [ptsS, c_14])

set_option maxHeartbeats 4000000 in
set_option maxRecDepth 100000 in
theorem c_X3_scoreOf (l : Launch) (g : q_G) (q : Nat → Nat) (S : q_St) (t : Nat) (h1_ : t < 10) : q_PM l yX3_scoreOf wsX3_scoreOf { frames := 2, cells := 0, slots := 0, locals := 46 } [.ref (q 0), .int (nI t)] (q_B g (q_stW g q S)) (.int (scoS S t)) := by
  refine q_pm (cc := cX3_scoreOf) (maxL := 4) (ret := (some .int)) (by decide) rfl (Nat.le_of_ble_eq_true rfl) ?_
  intro p e s m args below meth c ls hx hb hml hown hts hr hlk hB hl
  obtain ⟨hP, hK, hN⟩ := hB
  have fl_9 := hts (.fieldLink RX3 9 "PubQuizzes$State" "settings" "[I") (by decide +kernel)
  have fl_21 := hts (.fieldLink RX3 21 "PubQuizzes$State" "fines" "[I") (by decide +kernel)
  have hi_X3 : ∀ w ∈ u_ws RX3 TX3 12, w ∈ wsX3_scoreOf := by decide +kernel
  have hl : lv_has ls 4 [(0, .ref (q 0)), (1, .int (nI t))] := hl
  refine lv_aload_n hx hb dX3_scoreOf_0 rfl (lv_at hl 0 rfl) ?_
  refine va_get (D := g.1) (ci := 2) (v := .ref (q 1)) (C := RX3) (T := TX3) (N := 12) hx hb hts hi_X3 hown hK hP 0 rfl rfl 0 (by decide) fl_9 (fun _ h9 => h9) rfl dX3_scoreOf_1 ?_
  refine lv_iconst (v := 3) hx hb dX3_scoreOf_4 (by decide) ?_
  refine q_iald (j := 3) hx hb hK hP 1 0 rfl rfl (by omega) (by decide) dX3_scoreOf_5 ?_
  refine lv_ineg hx hb dX3_scoreOf_6 ?_
  refine lv_aload_n hx hb dX3_scoreOf_7 rfl (lv_at hl 0 rfl) ?_
  refine va_get (D := g.1) (ci := 2) (v := .ref (q 4)) (C := RX3) (T := TX3) (N := 12) hx hb hts hi_X3 hown hK hP 0 rfl rfl 3 (by decide) fl_21 (fun _ h9 => h9) rfl dX3_scoreOf_8 ?_
  refine lv_iload_n hx hb dX3_scoreOf_11 rfl (lv_at hl 1 rfl) ?_
  refine q_iald (j := t) hx hb hK hP 4 0 rfl rfl (by omega) (by decide) dX3_scoreOf_12 ?_
  refine lv_imul hx hb dX3_scoreOf_13 ?_
  refine lv_istore_n (lv' := [(2, .int ((-(s_set S 3)) * (s_fin S t))), (0, .ref (q 0)), (1, .int (nI t))]) hx hb dX3_scoreOf_14 rfl hl (by decide) rfl (fun ls hl => ?_)
  refine lv_iconst (v := 0) hx hb dX3_scoreOf_15 (by decide) ?_
  refine lv_istore_n (lv' := [(3, .int 0), (2, .int ((-(s_set S 3)) * (s_fin S t))), (0, .ref (q 0)), (1, .int (nI t))]) hx hb dX3_scoreOf_16 rfl hl (by decide) rfl (fun ls hl => ?_)
  have L_17 : ∀ (n i17 : Nat) (y2_17 : Int32), y2_17 = q_acc (fineS S t) (ptsS S t) i17 → i17 ≤ 8 → 8 < i17 + n → ∀ ls : Array Slot, lv_has ls 4 [(3, .int (nI i17)), (2, .int y2_17), (0, .ref (q 0)), (1, .int (nI t))] → W p l e { frames := 2, cells := 0, slots := 0, locals := 46 } s m args below meth c s.heap [] 0 0 (MQ below (k2_QcV (.int (scoS S t))) args s 0 0 (fun _ => False)) (F0 m 17 ls []) := by
    intro n
    induction n with
    | zero => intro i17 y2_17 ey2_17 hi_i17 hn_i17; exact absurd hn_i17 (by omega)
    | succ n ih_i17 =>
      intro i17 y2_17 ey2_17 hi_i17 hn_i17 ls hl
      subst ey2_17
      refine lv_iload_n hx hb dX3_scoreOf_17 rfl (lv_at hl 0 rfl) ?_
      refine lv_bipush (v := 8) hx hb dX3_scoreOf_18 (by decide) ?_
      refine lv_icmp_ge (tgt := 38) hx hb dX3_scoreOf_20 (by decide) (fun c_20 => ?_) (fun c_20 => ?_)
      · skip
        have e_20 : i17 = 8 := q_ge_T (by omega) hi_i17 c_20
        subst e_20
        refine lv_iload_n hx hb dX3_scoreOf_38 rfl (lv_at hl 1 rfl) ?_
        exact q_iret hx hb hr hlk dX3_scoreOf_39 (rfl)
      · skip
        have lt_i17 : i17 < 8 := q_ge_F (by omega) hi_i17 c_20
        refine lv_iload_n hx hb dX3_scoreOf_23 rfl (lv_at hl 1 rfl) ?_
        refine lv_aload_n hx hb dX3_scoreOf_24 rfl (lv_at hl 2 rfl) ?_
        refine lv_iload_n hx hb dX3_scoreOf_25 rfl (lv_at hl 3 rfl) ?_
        refine lv_iload_n hx hb dX3_scoreOf_26 rfl (lv_at hl 0 rfl) ?_
        refine q_V (As := [.int (nI t), .int (nI i17)]) (rest := [.int (q_acc (fineS S t) (ptsS S t) i17)]) ⟨hx, hb, hml, hown, hts⟩ (c_X3_pointsOf l g q S t i17 (by omega) (by omega)) (cwV 2 hts gX3_scoreOf_X3_pointsOf rfl rfl rfl (by decide +kernel) ⟨Nat.le_of_ble_eq_true rfl, Nat.le_of_ble_eq_true rfl⟩) q_B_blind (va_recv hK hP (ci := 2) (q0 := 0) rfl rfl) (q_B_of hP hK hN) rfl hl.1 rfl (Nat.le_of_ble_eq_true rfl) dX3_scoreOf_27 (Nat.zero_le _) (Nat.zero_le _) ?_
        refine lv_iadd hx hb dX3_scoreOf_30 ?_
        refine lv_istore_n (lv' := [(2, .int ((q_acc (fineS S t) (ptsS S t) i17) + (ptsS S t i17))), (3, .int (nI i17)), (0, .ref (q 0)), (1, .int (nI t))]) hx hb dX3_scoreOf_31 rfl hl (by decide) rfl (fun ls hl => ?_)
        refine lv_iinc (v := nI (i17 + 1)) (lv' := [(3, .int (nI (i17 + 1))), (2, .int ((q_acc (fineS S t) (ptsS S t) i17) + (ptsS S t i17))), (0, .ref (q 0)), (1, .int (nI t))]) hx hb dX3_scoreOf_32 hl (k := 1) rfl (nI_1 _) (by decide) rfl (fun ls hl => ?_)
        refine lv_goto (tgt := 17) hx hb dX3_scoreOf_35 (by decide) ?_
        exact ih_i17 (i17 + 1) ((q_acc (fineS S t) (ptsS S t) i17) + (ptsS S t i17)) (by first | rfl | simp [q_acc, q_or, q_cnt, q_any, nI_1, bI_t]) lt_i17 (by omega) ls (lv_sub hl [0, 1, 2, 3] rfl)
  exact L_17 (8 + 1) 0 ((-(s_set S 3)) * (s_fin S t)) (rfl) (Nat.zero_le _) (by omega) ls (lv_sub hl [0, 1, 2, 3] rfl)

set_option maxHeartbeats 4000000 in
set_option maxRecDepth 100000 in
theorem c_X3_greatestPoints (l : Launch) (g : q_G) (q : Nat → Nat) (S : q_St) (r : Nat) (h1_ : s_n S ≤ 10) (h2_ : r < 8) (h3_ : 1 ≤ s_n S) : q_PM l yX3_greatestPoints wsX3_greatestPoints { frames := 2, cells := 0, slots := 0, locals := 46 } [.ref (q 0), .int (nI r)] (q_B g (q_stW g q S)) (.int (grtS S r (s_n S))) := by
  refine q_pm (cc := cX3_greatestPoints) (maxL := 4) (ret := (some .int)) (by decide) rfl (Nat.le_of_ble_eq_true rfl) ?_
  intro p e s m args below meth c ls hx hb hml hown hts hr hlk hB hl
  obtain ⟨hP, hK, hN⟩ := hB
  have fl_66 := hts (.fieldLink RX3 66 "PubQuizzes$State" "teams" "I") (by decide +kernel)
  have hi_X3 : ∀ w ∈ u_ws RX3 TX3 12, w ∈ wsX3_greatestPoints := by decide +kernel
  have hl : lv_has ls 4 [(0, .ref (q 0)), (1, .int (nI r))] := hl
  refine lv_aload_n hx hb dX3_greatestPoints_0 rfl (lv_at hl 0 rfl) ?_
  refine lv_iconst (v := 0) hx hb dX3_greatestPoints_1 (by decide) ?_
  refine lv_iload_n hx hb dX3_greatestPoints_2 rfl (lv_at hl 1 rfl) ?_
  refine q_V (As := [.int (nI 0), .int (nI r)]) (rest := []) ⟨hx, hb, hml, hown, hts⟩ (c_X3_pointsOf l g q S 0 r (by omega) (by omega)) (cwV 2 hts gX3_greatestPoints_X3_pointsOf rfl rfl rfl (by decide +kernel) ⟨Nat.le_of_ble_eq_true rfl, Nat.le_of_ble_eq_true rfl⟩) q_B_blind (va_recv hK hP (ci := 2) (q0 := 0) rfl rfl) (q_B_of hP hK hN) rfl hl.1 rfl (Nat.le_of_ble_eq_true rfl) dX3_greatestPoints_3 (Nat.zero_le _) (Nat.zero_le _) ?_
  refine lv_istore_n (lv' := [(2, .int (ptsS S 0 r)), (0, .ref (q 0)), (1, .int (nI r))]) hx hb dX3_greatestPoints_6 rfl hl (by decide) rfl (fun ls hl => ?_)
  refine lv_iconst (v := 1) hx hb dX3_greatestPoints_7 (by decide) ?_
  refine lv_istore_n (lv' := [(3, .int 1), (2, .int (ptsS S 0 r)), (0, .ref (q 0)), (1, .int (nI r))]) hx hb dX3_greatestPoints_8 rfl hl (by decide) rfl (fun ls hl => ?_)
  have L_9 : ∀ (n i9 : Nat) (y2_9 : Int32), y2_9 = grtS S r i9 → 1 ≤ i9 → i9 ≤ s_n S → s_n S < i9 + n → ∀ ls : Array Slot, lv_has ls 4 [(3, .int (nI i9)), (2, .int y2_9), (0, .ref (q 0)), (1, .int (nI r))] → W p l e { frames := 2, cells := 0, slots := 0, locals := 46 } s m args below meth c s.heap [] 0 0 (MQ below (k2_QcV (.int (grtS S r (s_n S)))) args s 0 0 (fun _ => False)) (F0 m 9 ls []) := by
    intro n
    induction n with
    | zero => intro i9 y2_9 ey2_9 hs_i9 hi_i9 hn_i9; exact absurd hn_i9 (by omega)
    | succ n ih_i9 =>
      intro i9 y2_9 ey2_9 hs_i9 hi_i9 hn_i9 ls hl
      subst ey2_9
      refine lv_iload_n hx hb dX3_greatestPoints_9 rfl (lv_at hl 0 rfl) ?_
      refine lv_aload_n hx hb dX3_greatestPoints_10 rfl (lv_at hl 2 rfl) ?_
      refine va_get (D := g.1) (ci := 2) (v := .int (nI (s_n S))) (C := RX3) (T := TX3) (N := 12) hx hb hts hi_X3 hown hK hP 0 rfl rfl 10 (by decide) fl_66 (fun _ h9 => h9) rfl dX3_greatestPoints_11 ?_
      refine lv_icmp_ge (tgt := 34) hx hb dX3_greatestPoints_14 (by decide) (fun c_14 => ?_) (fun c_14 => ?_)
      · skip
        have e_14 : i9 = s_n S := q_ge_T (by omega) hi_i9 c_14
        subst e_14
        refine lv_iload_n hx hb dX3_greatestPoints_34 rfl (lv_at hl 1 rfl) ?_
        exact q_iret hx hb hr hlk dX3_greatestPoints_35 (rfl)
      · skip
        have lt_i9 : i9 < s_n S := q_ge_F (by omega) hi_i9 c_14
        refine lv_iload_n hx hb dX3_greatestPoints_17 rfl (lv_at hl 1 rfl) ?_
        refine lv_aload_n hx hb dX3_greatestPoints_18 rfl (lv_at hl 2 rfl) ?_
        refine lv_iload_n hx hb dX3_greatestPoints_19 rfl (lv_at hl 0 rfl) ?_
        refine lv_iload_n hx hb dX3_greatestPoints_20 rfl (lv_at hl 3 rfl) ?_
        refine q_V (As := [.int (nI i9), .int (nI r)]) (rest := [.int (grtS S r i9)]) ⟨hx, hb, hml, hown, hts⟩ (c_X3_pointsOf l g q S i9 r (by omega) (by omega)) (cwV 2 hts gX3_greatestPoints_X3_pointsOf rfl rfl rfl (by decide +kernel) ⟨Nat.le_of_ble_eq_true rfl, Nat.le_of_ble_eq_true rfl⟩) q_B_blind (va_recv hK hP (ci := 2) (q0 := 0) rfl rfl) (q_B_of hP hK hN) rfl hl.1 rfl (Nat.le_of_ble_eq_true rfl) dX3_greatestPoints_21 (Nat.zero_le _) (Nat.zero_le _) ?_
        refine va_mmax hx hb (hml.trans hl.1.symm) hown (hts (.methodLink RX3 110 Lib.Math.max.name) (by decide +kernel)) (hts (.static Lib.Math.max.name) (by decide +kernel)) (hts (.initialized "java/lang/Math") (by decide +kernel)) (hts (.code Lib.Math.max.name Lib.Math.max.code 2 (some .int)) (by decide +kernel)) (Nat.le_of_ble_eq_true rfl) (Nat.le_of_ble_eq_true rfl) (Nat.zero_le _) (Nat.zero_le _) dX3_greatestPoints_24 ?_
        refine lv_istore_n (lv' := [(2, .int (if grtS S r i9 < ptsS S i9 r then ptsS S i9 r else grtS S r i9)), (3, .int (nI i9)), (0, .ref (q 0)), (1, .int (nI r))]) hx hb dX3_greatestPoints_27 rfl hl (by decide) rfl (fun ls hl => ?_)
        refine lv_iinc (v := nI (i9 + 1)) (lv' := [(3, .int (nI (i9 + 1))), (2, .int (if grtS S r i9 < ptsS S i9 r then ptsS S i9 r else grtS S r i9)), (0, .ref (q 0)), (1, .int (nI r))]) hx hb dX3_greatestPoints_28 hl (k := 1) rfl (nI_1 _) (by decide) rfl (fun ls hl => ?_)
        refine lv_goto (tgt := 9) hx hb dX3_greatestPoints_31 (by decide) ?_
        exact ih_i9 (i9 + 1) (if grtS S r i9 < ptsS S i9 r then ptsS S i9 r else grtS S r i9) (by first | rfl | simp [q_acc, q_or, q_cnt, q_any, nI_1, bI_t]) (by omega) lt_i9 (by omega) ls (lv_sub hl [0, 1, 2, 3] rfl)
  exact L_9 (s_n S + 1) 1 (ptsS S 0 r) (by simp [grtS, Int32.lt_irrefl]) (Nat.le_refl _) (by omega) (by omega) ls (lv_sub hl [0, 1, 2, 3] rfl)

set_option maxHeartbeats 4000000 in
set_option maxRecDepth 100000 in
theorem c_X3_isFirstWithItsScore (l : Launch) (g : q_G) (q : Nat → Nat) (S : q_St) (t : Nat) (h1_ : t < 10) : q_PM l yX3_isFirstWithItsScore wsX3_isFirstWithItsScore { frames := 3, cells := 0, slots := 0, locals := 69 } [.ref (q 0), .int (nI t)] (q_B g (q_stW g q S)) (.int (bI (fst1 S t))) := by
  refine q_pm (cc := cX3_isFirstWithItsScore) (maxL := 4) (ret := (some .boolean)) (by decide) rfl (Nat.le_of_ble_eq_true rfl) ?_
  intro p e s m args below meth c ls hx hb hml hown hts hr hlk hB hl
  obtain ⟨hP, hK, hN⟩ := hB
  have hl : lv_has ls 4 [(0, .ref (q 0)), (1, .int (nI t))] := hl
  refine lv_aload_n hx hb dX3_isFirstWithItsScore_0 rfl (lv_at hl 0 rfl) ?_
  refine lv_iload_n hx hb dX3_isFirstWithItsScore_1 rfl (lv_at hl 1 rfl) ?_
  refine q_V (As := [.int (nI t)]) (rest := []) ⟨hx, hb, hml, hown, hts⟩ (c_X3_scoreOf l g q S t (by omega)) (cwV 1 hts gX3_isFirstWithItsScore_X3_scoreOf rfl rfl rfl (by decide +kernel) ⟨Nat.le_of_ble_eq_true rfl, Nat.le_of_ble_eq_true rfl⟩) q_B_blind (va_recv hK hP (ci := 2) (q0 := 0) rfl rfl) (q_B_of hP hK hN) rfl hl.1 rfl (Nat.le_of_ble_eq_true rfl) dX3_isFirstWithItsScore_2 (Nat.zero_le _) (Nat.zero_le _) ?_
  refine lv_istore_n (lv' := [(2, .int (scoS S t)), (0, .ref (q 0)), (1, .int (nI t))]) hx hb dX3_isFirstWithItsScore_5 rfl hl (by decide) rfl (fun ls hl => ?_)
  refine lv_iconst (v := 0) hx hb dX3_isFirstWithItsScore_6 (by decide) ?_
  refine lv_istore_n (lv' := [(3, .int 0), (2, .int (scoS S t)), (0, .ref (q 0)), (1, .int (nI t))]) hx hb dX3_isFirstWithItsScore_7 rfl hl (by decide) rfl (fun ls hl => ?_)
  have L_8 : ∀ (n i8 : Nat), (q_any (fun o => decide (scoS S o = scoS S t)) i8 = false) → i8 ≤ t → t < i8 + n → ∀ ls : Array Slot, lv_has ls 4 [(3, .int (nI i8)), (2, .int (scoS S t)), (0, .ref (q 0)), (1, .int (nI t))] → W p l e { frames := 3, cells := 0, slots := 0, locals := 69 } s m args below meth c s.heap [] 0 0 (MQ below (k2_QcV (.int (bI (fst1 S t)))) args s 0 0 (fun _ => False)) (F0 m 8 ls []) := by
    intro n
    induction n with
    | zero => intro i8 hf hi_i8 hn_i8; exact absurd hn_i8 (by omega)
    | succ n ih_i8 =>
      intro i8 hf hi_i8 hn_i8 ls hl
      refine lv_iload_n hx hb dX3_isFirstWithItsScore_8 rfl (lv_at hl 0 rfl) ?_
      refine lv_iload_n hx hb dX3_isFirstWithItsScore_9 rfl (lv_at hl 3 rfl) ?_
      refine lv_icmp_ge (tgt := 30) hx hb dX3_isFirstWithItsScore_10 (by decide) (fun c_10 => ?_) (fun c_10 => ?_)
      · skip
        have e_10 : i8 = t := q_ge_T (by omega) hi_i8 c_10
        rw [e_10] at hf
        refine lv_iconst (v := 1) hx hb dX3_isFirstWithItsScore_30 (by decide) ?_
        exact q_zret hx hb hr hlk dX3_isFirstWithItsScore_31 (by simp [fst1, bI, hf])
      · skip
        have lt_i8 : i8 < t := q_ge_F (by omega) hi_i8 c_10
        refine lv_aload_n hx hb dX3_isFirstWithItsScore_13 rfl (lv_at hl 2 rfl) ?_
        refine lv_iload_n hx hb dX3_isFirstWithItsScore_14 rfl (lv_at hl 0 rfl) ?_
        refine q_V (As := [.int (nI i8)]) (rest := []) ⟨hx, hb, hml, hown, hts⟩ (c_X3_scoreOf l g q S i8 (by omega)) (cwV 1 hts gX3_isFirstWithItsScore_X3_scoreOf rfl rfl rfl (by decide +kernel) ⟨Nat.le_of_ble_eq_true rfl, Nat.le_of_ble_eq_true rfl⟩) q_B_blind (va_recv hK hP (ci := 2) (q0 := 0) rfl rfl) (q_B_of hP hK hN) rfl hl.1 rfl (Nat.le_of_ble_eq_true rfl) dX3_isFirstWithItsScore_15 (Nat.zero_le _) (Nat.zero_le _) ?_
        refine lv_iload_n hx hb dX3_isFirstWithItsScore_18 rfl (lv_at hl 1 rfl) ?_
        refine lv_icmp_ne (tgt := 24) hx hb dX3_isFirstWithItsScore_19 (by decide) (fun c_19 => ?_) (fun c_19 => ?_)
        · skip
          refine lv_iinc (v := nI (i8 + 1)) (lv' := [(3, .int (nI (i8 + 1))), (2, .int (scoS S t)), (0, .ref (q 0)), (1, .int (nI t))]) hx hb dX3_isFirstWithItsScore_24 hl (k := 0) rfl (nI_1 _) (by decide) rfl (fun ls hl => ?_)
          refine lv_goto (tgt := 8) hx hb dX3_isFirstWithItsScore_27 (by decide) ?_
          exact ih_i8 (i8 + 1) (by simp [q_any, hf, c_19]) lt_i8 (by omega) ls (lv_sub hl [0, 1, 2, 3] rfl)
        · skip
          refine lv_iconst (v := 0) hx hb dX3_isFirstWithItsScore_22 (by decide) ?_
          exact q_zret hx hb hr hlk dX3_isFirstWithItsScore_23 (by simp [fst1, bI, q_any_t lt_i8 (f := fun o => decide (scoS S o = scoS S t)) (by simp [c_19])])
  exact L_8 (t + 1) 0 (rfl) (Nat.zero_le _) (by omega) ls (lv_sub hl [0, 1, 2, 3] rfl)

set_option maxHeartbeats 4000000 in
set_option maxRecDepth 100000 in
theorem c_X3_unlikeScores (l : Launch) (g : q_G) (q : Nat → Nat) (S : q_St) (h1_ : s_n S ≤ 10) : q_PM l yX3_unlikeScores wsX3_unlikeScores { frames := 4, cells := 0, slots := 0, locals := 92 } [.ref (q 0)] (q_B g (q_stW g q S)) (.int (nI (unlS S))) := by
  refine q_pm (cc := cX3_unlikeScores) (maxL := 3) (ret := (some .int)) (by decide) rfl (Nat.le_of_ble_eq_true rfl) ?_
  intro p e s m args below meth c ls hx hb hml hown hts hr hlk hB hl
  obtain ⟨hP, hK, hN⟩ := hB
  have fl_66 := hts (.fieldLink RX3 66 "PubQuizzes$State" "teams" "I") (by decide +kernel)
  have hi_X3 : ∀ w ∈ u_ws RX3 TX3 12, w ∈ wsX3_unlikeScores := by decide +kernel
  have hl : lv_has ls 3 [(0, .ref (q 0))] := hl
  refine lv_iconst (v := 0) hx hb dX3_unlikeScores_0 (by decide) ?_
  refine lv_istore_n (lv' := [(1, .int 0), (0, .ref (q 0))]) hx hb dX3_unlikeScores_1 rfl hl (by decide) rfl (fun ls hl => ?_)
  refine lv_iconst (v := 0) hx hb dX3_unlikeScores_2 (by decide) ?_
  refine lv_istore_n (lv' := [(2, .int 0), (1, .int 0), (0, .ref (q 0))]) hx hb dX3_unlikeScores_3 rfl hl (by decide) rfl (fun ls hl => ?_)
  have L_4 : ∀ (n i4 : Nat) (y1_4 : Int32), y1_4 = nI (q_cnt (fst1 S) i4) → i4 ≤ s_n S → s_n S < i4 + n → ∀ ls : Array Slot, lv_has ls 3 [(2, .int (nI i4)), (1, .int y1_4), (0, .ref (q 0))] → W p l e { frames := 4, cells := 0, slots := 0, locals := 92 } s m args below meth c s.heap [] 0 0 (MQ below (k2_QcV (.int (nI (unlS S)))) args s 0 0 (fun _ => False)) (F0 m 4 ls []) := by
    intro n
    induction n with
    | zero => intro i4 y1_4 ey1_4 hi_i4 hn_i4; exact absurd hn_i4 (by omega)
    | succ n ih_i4 =>
      intro i4 y1_4 ey1_4 hi_i4 hn_i4 ls hl
      subst ey1_4
      refine lv_iload_n hx hb dX3_unlikeScores_4 rfl (lv_at hl 0 rfl) ?_
      refine lv_aload_n hx hb dX3_unlikeScores_5 rfl (lv_at hl 2 rfl) ?_
      refine va_get (D := g.1) (ci := 2) (v := .int (nI (s_n S))) (C := RX3) (T := TX3) (N := 12) hx hb hts hi_X3 hown hK hP 0 rfl rfl 10 (by decide) fl_66 (fun _ h9 => h9) rfl dX3_unlikeScores_6 ?_
      refine lv_icmp_ge (tgt := 34) hx hb dX3_unlikeScores_9 (by decide) (fun c_9 => ?_) (fun c_9 => ?_)
      · skip
        have e_9 : i4 = s_n S := q_ge_T (by omega) hi_i4 c_9
        subst e_9
        refine lv_iload_n hx hb dX3_unlikeScores_34 rfl (lv_at hl 1 rfl) ?_
        exact q_iret hx hb hr hlk dX3_unlikeScores_35 (rfl)
      · skip
        have lt_i4 : i4 < s_n S := q_ge_F (by omega) hi_i4 c_9
        refine lv_iload_n hx hb dX3_unlikeScores_12 rfl (lv_at hl 1 rfl) ?_
        refine lv_aload_n hx hb dX3_unlikeScores_13 rfl (lv_at hl 2 rfl) ?_
        refine lv_iload_n hx hb dX3_unlikeScores_14 rfl (lv_at hl 0 rfl) ?_
        refine q_V (As := [.int (nI i4)]) (rest := [.int (nI (q_cnt (fst1 S) i4))]) ⟨hx, hb, hml, hown, hts⟩ (c_X3_isFirstWithItsScore l g q S i4 (by omega)) (cwV 1 hts gX3_unlikeScores_X3_isFirstWithItsScore rfl rfl rfl (by decide +kernel) ⟨Nat.le_of_ble_eq_true rfl, Nat.le_of_ble_eq_true rfl⟩) q_B_blind (va_recv hK hP (ci := 2) (q0 := 0) rfl rfl) (q_B_of hP hK hN) rfl hl.1 rfl (Nat.le_of_ble_eq_true rfl) dX3_unlikeScores_15 (Nat.zero_le _) (Nat.zero_le _) ?_
        refine lv_if_eq (tgt := 25) hx hb dX3_unlikeScores_18 (by decide) (fun c_18 => ?_) (fun c_18 => ?_)
        · skip
          have c_18 : (fst1 S i4) = false := bI_eq c_18
          refine lv_iconst (v := 0) hx hb dX3_unlikeScores_25 (by decide) ?_
          refine lv_iadd hx hb dX3_unlikeScores_26 ?_
          refine lv_istore_n (lv' := [(1, .int ((nI (q_cnt (fst1 S) i4)) + 0)), (2, .int (nI i4)), (0, .ref (q 0))]) hx hb dX3_unlikeScores_27 rfl hl (by decide) rfl (fun ls hl => ?_)
          refine lv_iinc (v := nI (i4 + 1)) (lv' := [(2, .int (nI (i4 + 1))), (1, .int ((nI (q_cnt (fst1 S) i4)) + 0)), (0, .ref (q 0))]) hx hb dX3_unlikeScores_28 hl (k := 1) rfl (nI_1 _) (by decide) rfl (fun ls hl => ?_)
          refine lv_goto (tgt := 4) hx hb dX3_unlikeScores_31 (by decide) ?_
          exact ih_i4 (i4 + 1) ((nI (q_cnt (fst1 S) i4)) + 0) (by first | rfl | simp [q_acc, q_or, q_cnt, q_any, nI_1, c_18]) lt_i4 (by omega) ls (lv_sub hl [0, 1, 2] rfl)
        · skip
          have c_18 : (fst1 S i4) = true := bI_ne c_18
          refine lv_iconst (v := 1) hx hb dX3_unlikeScores_21 (by decide) ?_
          refine lv_goto (tgt := 26) hx hb dX3_unlikeScores_22 (by decide) ?_
          refine lv_iadd hx hb dX3_unlikeScores_26 ?_
          refine lv_istore_n (lv' := [(1, .int ((nI (q_cnt (fst1 S) i4)) + 1)), (2, .int (nI i4)), (0, .ref (q 0))]) hx hb dX3_unlikeScores_27 rfl hl (by decide) rfl (fun ls hl => ?_)
          refine lv_iinc (v := nI (i4 + 1)) (lv' := [(2, .int (nI (i4 + 1))), (1, .int ((nI (q_cnt (fst1 S) i4)) + 1)), (0, .ref (q 0))]) hx hb dX3_unlikeScores_28 hl (k := 1) rfl (nI_1 _) (by decide) rfl (fun ls hl => ?_)
          refine lv_goto (tgt := 4) hx hb dX3_unlikeScores_31 (by decide) ?_
          exact ih_i4 (i4 + 1) ((nI (q_cnt (fst1 S) i4)) + 1) (by first | rfl | simp [q_acc, q_or, q_cnt, q_any, nI_1, c_18]) lt_i4 (by omega) ls (lv_sub hl [0, 1, 2] rfl)
  exact L_4 (s_n S + 1) 0 0 (rfl) (Nat.zero_le _) (by omega) ls (lv_sub hl [0, 1, 2] rfl)

set_option maxHeartbeats 4000000 in
set_option maxRecDepth 100000 in
theorem c_X3_allFines (l : Launch) (g : q_G) (q : Nat → Nat) (S : q_St) (h1_ : s_n S ≤ 10) : q_PM l yX3_allFines wsX3_allFines { frames := 0, cells := 0, slots := 0, locals := 0 } [.ref (q 0)] (q_B g (q_stW g q S)) (.int (finA S)) := by
  refine q_pm (cc := cX3_allFines) (maxL := 3) (ret := (some .int)) (by decide) rfl (Nat.le_of_ble_eq_true rfl) ?_
  intro p e s m args below meth c ls hx hb hml hown hts hr hlk hB hl
  obtain ⟨hP, hK, hN⟩ := hB
  have fl_21 := hts (.fieldLink RX3 21 "PubQuizzes$State" "fines" "[I") (by decide +kernel)
  have fl_66 := hts (.fieldLink RX3 66 "PubQuizzes$State" "teams" "I") (by decide +kernel)
  have hi_X3 : ∀ w ∈ u_ws RX3 TX3 12, w ∈ wsX3_allFines := by decide +kernel
  have hl : lv_has ls 3 [(0, .ref (q 0))] := hl
  refine lv_iconst (v := 0) hx hb dX3_allFines_0 (by decide) ?_
  refine lv_istore_n (lv' := [(1, .int 0), (0, .ref (q 0))]) hx hb dX3_allFines_1 rfl hl (by decide) rfl (fun ls hl => ?_)
  refine lv_iconst (v := 0) hx hb dX3_allFines_2 (by decide) ?_
  refine lv_istore_n (lv' := [(2, .int 0), (1, .int 0), (0, .ref (q 0))]) hx hb dX3_allFines_3 rfl hl (by decide) rfl (fun ls hl => ?_)
  have L_4 : ∀ (n i4 : Nat) (y1_4 : Int32), y1_4 = q_acc 0 (s_fin S) i4 → i4 ≤ s_n S → s_n S < i4 + n → ∀ ls : Array Slot, lv_has ls 3 [(2, .int (nI i4)), (1, .int y1_4), (0, .ref (q 0))] → W p l e { frames := 0, cells := 0, slots := 0, locals := 0 } s m args below meth c s.heap [] 0 0 (MQ below (k2_QcV (.int (finA S))) args s 0 0 (fun _ => False)) (F0 m 4 ls []) := by
    intro n
    induction n with
    | zero => intro i4 y1_4 ey1_4 hi_i4 hn_i4; exact absurd hn_i4 (by omega)
    | succ n ih_i4 =>
      intro i4 y1_4 ey1_4 hi_i4 hn_i4 ls hl
      subst ey1_4
      refine lv_iload_n hx hb dX3_allFines_4 rfl (lv_at hl 0 rfl) ?_
      refine lv_aload_n hx hb dX3_allFines_5 rfl (lv_at hl 2 rfl) ?_
      refine va_get (D := g.1) (ci := 2) (v := .int (nI (s_n S))) (C := RX3) (T := TX3) (N := 12) hx hb hts hi_X3 hown hK hP 0 rfl rfl 10 (by decide) fl_66 (fun _ h9 => h9) rfl dX3_allFines_6 ?_
      refine lv_icmp_ge (tgt := 27) hx hb dX3_allFines_9 (by decide) (fun c_9 => ?_) (fun c_9 => ?_)
      · skip
        have e_9 : i4 = s_n S := q_ge_T (by omega) hi_i4 c_9
        subst e_9
        refine lv_iload_n hx hb dX3_allFines_27 rfl (lv_at hl 1 rfl) ?_
        exact q_iret hx hb hr hlk dX3_allFines_28 (rfl)
      · skip
        have lt_i4 : i4 < s_n S := q_ge_F (by omega) hi_i4 c_9
        refine lv_iload_n hx hb dX3_allFines_12 rfl (lv_at hl 1 rfl) ?_
        refine lv_aload_n hx hb dX3_allFines_13 rfl (lv_at hl 2 rfl) ?_
        refine va_get (D := g.1) (ci := 2) (v := .ref (q 4)) (C := RX3) (T := TX3) (N := 12) hx hb hts hi_X3 hown hK hP 0 rfl rfl 3 (by decide) fl_21 (fun _ h9 => h9) rfl dX3_allFines_14 ?_
        refine lv_iload_n hx hb dX3_allFines_17 rfl (lv_at hl 0 rfl) ?_
        refine q_iald (j := i4) hx hb hK hP 4 0 rfl rfl (by omega) (by decide) dX3_allFines_18 ?_
        refine lv_iadd hx hb dX3_allFines_19 ?_
        refine lv_istore_n (lv' := [(1, .int ((q_acc 0 (s_fin S) i4) + (s_fin S i4))), (2, .int (nI i4)), (0, .ref (q 0))]) hx hb dX3_allFines_20 rfl hl (by decide) rfl (fun ls hl => ?_)
        refine lv_iinc (v := nI (i4 + 1)) (lv' := [(2, .int (nI (i4 + 1))), (1, .int ((q_acc 0 (s_fin S) i4) + (s_fin S i4))), (0, .ref (q 0))]) hx hb dX3_allFines_21 hl (k := 1) rfl (nI_1 _) (by decide) rfl (fun ls hl => ?_)
        refine lv_goto (tgt := 4) hx hb dX3_allFines_24 (by decide) ?_
        exact ih_i4 (i4 + 1) ((q_acc 0 (s_fin S) i4) + (s_fin S i4)) (by first | rfl | simp [q_acc, q_or, q_cnt, q_any, nI_1, bI_t]) lt_i4 (by omega) ls (lv_sub hl [0, 1, 2] rfl)
  exact L_4 (s_n S + 1) 0 0 (rfl) (Nat.zero_le _) (by omega) ls (lv_sub hl [0, 1, 2] rfl)

set_option maxHeartbeats 4000000 in
set_option maxRecDepth 100000 in
theorem c_X3_allLooks (l : Launch) (g : q_G) (q : Nat → Nat) (S : q_St) : q_PM l yX3_allLooks wsX3_allLooks { frames := 1, cells := 0, slots := 0, locals := 20 } [.ref (q 0)] (q_B g (q_stW g q S)) (.int (looA S)) := by
  refine q_pm (cc := cX3_allLooks) (maxL := 3) (ret := (some .int)) (by decide) rfl (Nat.le_of_ble_eq_true rfl) ?_
  intro p e s m args below meth c ls hx hb hml hown hts hr hlk hB hl
  obtain ⟨hP, hK, hN⟩ := hB
  have fl_40 := hts (.fieldLink RX3 40 "PubQuizzes$State" "looked" "[I") (by decide +kernel)
  have hi_X3 : ∀ w ∈ u_ws RX3 TX3 12, w ∈ wsX3_allLooks := by decide +kernel
  have hl : lv_has ls 3 [(0, .ref (q 0))] := hl
  refine lv_iconst (v := 0) hx hb dX3_allLooks_0 (by decide) ?_
  refine lv_istore_n (lv' := [(1, .int 0), (0, .ref (q 0))]) hx hb dX3_allLooks_1 rfl hl (by decide) rfl (fun ls hl => ?_)
  refine lv_iconst (v := 0) hx hb dX3_allLooks_2 (by decide) ?_
  refine lv_istore_n (lv' := [(2, .int 0), (1, .int 0), (0, .ref (q 0))]) hx hb dX3_allLooks_3 rfl hl (by decide) rfl (fun ls hl => ?_)
  have L_4 : ∀ (n i4 : Nat) (y1_4 : Int32), y1_4 = q_acc 0 (fun r => popc (s_loo S r)) i4 → i4 ≤ 8 → 8 < i4 + n → ∀ ls : Array Slot, lv_has ls 3 [(2, .int (nI i4)), (1, .int y1_4), (0, .ref (q 0))] → W p l e { frames := 1, cells := 0, slots := 0, locals := 20 } s m args below meth c s.heap [] 0 0 (MQ below (k2_QcV (.int (looA S))) args s 0 0 (fun _ => False)) (F0 m 4 ls []) := by
    intro n
    induction n with
    | zero => intro i4 y1_4 ey1_4 hi_i4 hn_i4; exact absurd hn_i4 (by omega)
    | succ n ih_i4 =>
      intro i4 y1_4 ey1_4 hi_i4 hn_i4 ls hl
      subst ey1_4
      refine lv_iload_n hx hb dX3_allLooks_4 rfl (lv_at hl 0 rfl) ?_
      refine lv_bipush (v := 8) hx hb dX3_allLooks_5 (by decide) ?_
      refine lv_icmp_ge (tgt := 28) hx hb dX3_allLooks_7 (by decide) (fun c_7 => ?_) (fun c_7 => ?_)
      · skip
        have e_7 : i4 = 8 := q_ge_T (by omega) hi_i4 c_7
        subst e_7
        refine lv_iload_n hx hb dX3_allLooks_28 rfl (lv_at hl 1 rfl) ?_
        exact q_iret hx hb hr hlk dX3_allLooks_29 (rfl)
      · skip
        have lt_i4 : i4 < 8 := q_ge_F (by omega) hi_i4 c_7
        refine lv_iload_n hx hb dX3_allLooks_10 rfl (lv_at hl 1 rfl) ?_
        refine lv_aload_n hx hb dX3_allLooks_11 rfl (lv_at hl 2 rfl) ?_
        refine va_get (D := g.1) (ci := 2) (v := .ref (q 10)) (C := RX3) (T := TX3) (N := 12) hx hb hts hi_X3 hown hK hP 0 rfl rfl 9 (by decide) fl_40 (fun _ h9 => h9) rfl dX3_allLooks_12 ?_
        refine lv_iload_n hx hb dX3_allLooks_15 rfl (lv_at hl 0 rfl) ?_
        refine q_iald (j := i4) hx hb hK hP 10 0 rfl rfl (by omega) (by decide) dX3_allLooks_16 ?_
        refine q_S (As := [.int (s_loo S i4)]) (rest := [.int (q_acc 0 (fun r => popc (s_loo S r)) i4)]) ⟨hx, hb, hml, hown, hts⟩ (c_J6_bitCount_0f7a4 l (s_loo S i4) ) (va_cwS 1 hts gX3_allLooks_J6_bitCount_0f7a4 rfl rfl rfl (by decide +kernel) ⟨Nat.le_of_ble_eq_true rfl, Nat.le_of_ble_eq_true rfl⟩) q_Blind_t (fun _ _ _ => trivial) rfl hl.1 rfl (Nat.le_of_ble_eq_true rfl) dX3_allLooks_17 (Nat.zero_le _) (Nat.zero_le _) ?_
        refine lv_iadd hx hb dX3_allLooks_20 ?_
        refine lv_istore_n (lv' := [(1, .int ((q_acc 0 (fun r => popc (s_loo S r)) i4) + (popc (s_loo S i4)))), (2, .int (nI i4)), (0, .ref (q 0))]) hx hb dX3_allLooks_21 rfl hl (by decide) rfl (fun ls hl => ?_)
        refine lv_iinc (v := nI (i4 + 1)) (lv' := [(2, .int (nI (i4 + 1))), (1, .int ((q_acc 0 (fun r => popc (s_loo S r)) i4) + (popc (s_loo S i4)))), (0, .ref (q 0))]) hx hb dX3_allLooks_22 hl (k := 1) rfl (nI_1 _) (by decide) rfl (fun ls hl => ?_)
        refine lv_goto (tgt := 4) hx hb dX3_allLooks_25 (by decide) ?_
        exact ih_i4 (i4 + 1) ((q_acc 0 (fun r => popc (s_loo S r)) i4) + (popc (s_loo S i4))) (by first | rfl | simp [q_acc, q_or, q_cnt, q_any, nI_1, bI_t]) lt_i4 (by omega) ls (lv_sub hl [0, 1, 2] rfl)
  exact L_4 (8 + 1) 0 0 (rfl) (Nat.zero_le _) (by omega) ls (lv_sub hl [0, 1, 2] rfl)

set_option maxHeartbeats 4000000 in
set_option maxRecDepth 100000 in
theorem c_X3_guessers (l : Launch) (g : q_G) (q : Nat → Nat) (S : q_St) (h1_ : s_n S ≤ 10) : q_PM l yX3_guessers wsX3_guessers { frames := 0, cells := 0, slots := 0, locals := 0 } [.ref (q 0)] (q_B g (q_stW g q S)) (.int (nI (gueN S))) := by
  refine q_pm (cc := cX3_guessers) (maxL := 3) (ret := (some .int)) (by decide) rfl (Nat.le_of_ble_eq_true rfl) ?_
  intro p e s m args below meth c ls hx hb hml hown hts hr hlk hB hl
  obtain ⟨hP, hK, hN⟩ := hB
  have fl_24 := hts (.fieldLink RX3 24 "PubQuizzes$State" "guesses" "[I") (by decide +kernel)
  have fl_66 := hts (.fieldLink RX3 66 "PubQuizzes$State" "teams" "I") (by decide +kernel)
  have hi_X3 : ∀ w ∈ u_ws RX3 TX3 12, w ∈ wsX3_guessers := by decide +kernel
  have hl : lv_has ls 3 [(0, .ref (q 0))] := hl
  refine lv_iconst (v := 0) hx hb dX3_guessers_0 (by decide) ?_
  refine lv_istore_n (lv' := [(1, .int 0), (0, .ref (q 0))]) hx hb dX3_guessers_1 rfl hl (by decide) rfl (fun ls hl => ?_)
  refine lv_iconst (v := 0) hx hb dX3_guessers_2 (by decide) ?_
  refine lv_istore_n (lv' := [(2, .int 0), (1, .int 0), (0, .ref (q 0))]) hx hb dX3_guessers_3 rfl hl (by decide) rfl (fun ls hl => ?_)
  have L_4 : ∀ (n i4 : Nat) (y1_4 : Int32), y1_4 = nI (q_cnt (fun t => !decide (s_gue S t = -6)) i4) → i4 ≤ s_n S → s_n S < i4 + n → ∀ ls : Array Slot, lv_has ls 3 [(2, .int (nI i4)), (1, .int y1_4), (0, .ref (q 0))] → W p l e { frames := 0, cells := 0, slots := 0, locals := 0 } s m args below meth c s.heap [] 0 0 (MQ below (k2_QcV (.int (nI (gueN S)))) args s 0 0 (fun _ => False)) (F0 m 4 ls []) := by
    intro n
    induction n with
    | zero => intro i4 y1_4 ey1_4 hi_i4 hn_i4; exact absurd hn_i4 (by omega)
    | succ n ih_i4 =>
      intro i4 y1_4 ey1_4 hi_i4 hn_i4 ls hl
      subst ey1_4
      refine lv_iload_n hx hb dX3_guessers_4 rfl (lv_at hl 0 rfl) ?_
      refine lv_aload_n hx hb dX3_guessers_5 rfl (lv_at hl 2 rfl) ?_
      refine va_get (D := g.1) (ci := 2) (v := .int (nI (s_n S))) (C := RX3) (T := TX3) (N := 12) hx hb hts hi_X3 hown hK hP 0 rfl rfl 10 (by decide) fl_66 (fun _ h9 => h9) rfl dX3_guessers_6 ?_
      refine lv_icmp_ge (tgt := 37) hx hb dX3_guessers_9 (by decide) (fun c_9 => ?_) (fun c_9 => ?_)
      · skip
        have e_9 : i4 = s_n S := q_ge_T (by omega) hi_i4 c_9
        subst e_9
        refine lv_iload_n hx hb dX3_guessers_37 rfl (lv_at hl 1 rfl) ?_
        exact q_iret hx hb hr hlk dX3_guessers_38 (rfl)
      · skip
        have lt_i4 : i4 < s_n S := q_ge_F (by omega) hi_i4 c_9
        refine lv_iload_n hx hb dX3_guessers_12 rfl (lv_at hl 1 rfl) ?_
        refine lv_aload_n hx hb dX3_guessers_13 rfl (lv_at hl 2 rfl) ?_
        refine va_get (D := g.1) (ci := 2) (v := .ref (q 5)) (C := RX3) (T := TX3) (N := 12) hx hb hts hi_X3 hown hK hP 0 rfl rfl 4 (by decide) fl_24 (fun _ h9 => h9) rfl dX3_guessers_14 ?_
        refine lv_iload_n hx hb dX3_guessers_17 rfl (lv_at hl 0 rfl) ?_
        refine q_iald (j := i4) hx hb hK hP 5 0 rfl rfl (by omega) (by decide) dX3_guessers_18 ?_
        refine lv_bipush (v := (-6)) hx hb dX3_guessers_19 (by decide) ?_
        refine lv_icmp_ne (tgt := 28) hx hb dX3_guessers_21 (by decide) (fun c_21 => ?_) (fun c_21 => ?_)
        · skip
          refine lv_iconst (v := 1) hx hb dX3_guessers_28 (by decide) ?_
          refine lv_iadd hx hb dX3_guessers_29 ?_
          refine lv_istore_n (lv' := [(1, .int ((nI (q_cnt (fun t => !decide (s_gue S t = -6)) i4)) + 1)), (2, .int (nI i4)), (0, .ref (q 0))]) hx hb dX3_guessers_30 rfl hl (by decide) rfl (fun ls hl => ?_)
          refine lv_iinc (v := nI (i4 + 1)) (lv' := [(2, .int (nI (i4 + 1))), (1, .int ((nI (q_cnt (fun t => !decide (s_gue S t = -6)) i4)) + 1)), (0, .ref (q 0))]) hx hb dX3_guessers_31 hl (k := 1) rfl (nI_1 _) (by decide) rfl (fun ls hl => ?_)
          refine lv_goto (tgt := 4) hx hb dX3_guessers_34 (by decide) ?_
          exact ih_i4 (i4 + 1) ((nI (q_cnt (fun t => !decide (s_gue S t = -6)) i4)) + 1) (by first | rfl | simp [q_acc, q_or, q_cnt, q_any, nI_1, c_21]) lt_i4 (by omega) ls (lv_sub hl [0, 1, 2] rfl)
        · skip
          refine lv_iconst (v := 0) hx hb dX3_guessers_24 (by decide) ?_
          refine lv_goto (tgt := 29) hx hb dX3_guessers_25 (by decide) ?_
          refine lv_iadd hx hb dX3_guessers_29 ?_
          refine lv_istore_n (lv' := [(1, .int ((nI (q_cnt (fun t => !decide (s_gue S t = -6)) i4)) + 0)), (2, .int (nI i4)), (0, .ref (q 0))]) hx hb dX3_guessers_30 rfl hl (by decide) rfl (fun ls hl => ?_)
          refine lv_iinc (v := nI (i4 + 1)) (lv' := [(2, .int (nI (i4 + 1))), (1, .int ((nI (q_cnt (fun t => !decide (s_gue S t = -6)) i4)) + 0)), (0, .ref (q 0))]) hx hb dX3_guessers_31 hl (k := 1) rfl (nI_1 _) (by decide) rfl (fun ls hl => ?_)
          refine lv_goto (tgt := 4) hx hb dX3_guessers_34 (by decide) ?_
          exact ih_i4 (i4 + 1) ((nI (q_cnt (fun t => !decide (s_gue S t = -6)) i4)) + 0) (by first | rfl | simp [q_acc, q_or, q_cnt, q_any, nI_1, c_21]) lt_i4 (by omega) ls (lv_sub hl [0, 1, 2] rfl)
  exact L_4 (s_n S + 1) 0 0 (rfl) (Nat.zero_le _) (by omega) ls (lv_sub hl [0, 1, 2] rfl)

set_option maxHeartbeats 4000000 in
set_option maxRecDepth 100000 in
theorem c_X3_distanceOf (l : Launch) (g : q_G) (q : Nat → Nat) (S : q_St) (t : Nat) (h1_ : t < 10) : q_PM l yX3_distanceOf wsX3_distanceOf { frames := 1, cells := 0, slots := 0, locals := 40 } [.ref (q 0), .int (nI t)] (q_B g (q_stW g q S)) (.int (distS S t)) := by
  refine q_pm (cc := cX3_distanceOf) (maxL := 2) (ret := (some .int)) (by decide) rfl (Nat.le_of_ble_eq_true rfl) ?_
  intro p e s m args below meth c ls hx hb hml hown hts hr hlk hB hl
  obtain ⟨hP, hK, hN⟩ := hB
  have fl_24 := hts (.fieldLink RX3 24 "PubQuizzes$State" "guesses" "[I") (by decide +kernel)
  have fl_43 := hts (.fieldLink RX3 43 "PubQuizzes$State" "truth" "I") (by decide +kernel)
  have hi_X3 : ∀ w ∈ u_ws RX3 TX3 12, w ∈ wsX3_distanceOf := by decide +kernel
  have hl : lv_has ls 2 [(0, .ref (q 0)), (1, .int (nI t))] := hl
  refine lv_aload_n hx hb dX3_distanceOf_0 rfl (lv_at hl 0 rfl) ?_
  refine va_get (D := g.1) (ci := 2) (v := .int (s_tru S)) (C := RX3) (T := TX3) (N := 12) hx hb hts hi_X3 hown hK hP 0 rfl rfl 11 (by decide) fl_43 (fun _ h9 => h9) rfl dX3_distanceOf_1 ?_
  refine lv_bipush (v := (-6)) hx hb dX3_distanceOf_4 (by decide) ?_
  refine lv_icmp_eq (tgt := 20) hx hb dX3_distanceOf_6 (by decide) (fun c_6 => ?_) (fun c_6 => ?_)
  · skip
    refine lv_sipush (v := 10000) hx hb dX3_distanceOf_20 (by decide) ?_
    exact q_iret hx hb hr hlk dX3_distanceOf_23 (by simp only [distS, if_pos c_6])
  · skip
    refine lv_aload_n hx hb dX3_distanceOf_9 rfl (lv_at hl 0 rfl) ?_
    refine va_get (D := g.1) (ci := 2) (v := .ref (q 5)) (C := RX3) (T := TX3) (N := 12) hx hb hts hi_X3 hown hK hP 0 rfl rfl 4 (by decide) fl_24 (fun _ h9 => h9) rfl dX3_distanceOf_10 ?_
    refine lv_iload_n hx hb dX3_distanceOf_13 rfl (lv_at hl 1 rfl) ?_
    refine q_iald (j := t) hx hb hK hP 5 0 rfl rfl (by omega) (by decide) dX3_distanceOf_14 ?_
    refine lv_bipush (v := (-6)) hx hb dX3_distanceOf_15 (by decide) ?_
    refine lv_icmp_ne (tgt := 24) hx hb dX3_distanceOf_17 (by decide) (fun c_17 => ?_) (fun c_17 => ?_)
    · skip
      refine lv_aload_n hx hb dX3_distanceOf_24 rfl (lv_at hl 0 rfl) ?_
      refine va_get (D := g.1) (ci := 2) (v := .ref (q 5)) (C := RX3) (T := TX3) (N := 12) hx hb hts hi_X3 hown hK hP 0 rfl rfl 4 (by decide) fl_24 (fun _ h9 => h9) rfl dX3_distanceOf_25 ?_
      refine lv_iload_n hx hb dX3_distanceOf_28 rfl (lv_at hl 1 rfl) ?_
      refine q_iald (j := t) hx hb hK hP 5 0 rfl rfl (by omega) (by decide) dX3_distanceOf_29 ?_
      refine lv_aload_n hx hb dX3_distanceOf_30 rfl (lv_at hl 0 rfl) ?_
      refine va_get (D := g.1) (ci := 2) (v := .int (s_tru S)) (C := RX3) (T := TX3) (N := 12) hx hb hts hi_X3 hown hK hP 0 rfl rfl 11 (by decide) fl_43 (fun _ h9 => h9) rfl dX3_distanceOf_31 ?_
      refine lv_isub hx hb dX3_distanceOf_34 ?_
      refine va_mabs hx hb (hml.trans hl.1.symm) hown (hts (.methodLink RX3 127 Lib.Math.abs.name) (by decide +kernel)) (hts (.static Lib.Math.abs.name) (by decide +kernel)) (hts (.initialized "java/lang/Math") (by decide +kernel)) (hts (.code Lib.Math.abs.name Lib.Math.abs.code 1 (some .int)) (by decide +kernel)) (Nat.le_of_ble_eq_true rfl) (Nat.le_of_ble_eq_true rfl) (Nat.zero_le _) (Nat.zero_le _) dX3_distanceOf_35 ?_
      exact q_iret hx hb hr hlk dX3_distanceOf_38 (by simp only [distS, if_neg c_6, if_neg c_17])
    · skip
      refine lv_sipush (v := 10000) hx hb dX3_distanceOf_20 (by decide) ?_
      exact q_iret hx hb hr hlk dX3_distanceOf_23 (by simp only [distS, if_neg c_6, if_pos c_17])

set_option maxHeartbeats 4000000 in
set_option maxRecDepth 100000 in
theorem c_X3_isAhead (l : Launch) (g : q_G) (q : Nat → Nat) (S : q_St) (t : Nat) (o : Nat) (h1_ : t < 10) (h2_ : o < 10) : q_PM l yX3_isAhead wsX3_isAhead { frames := 3, cells := 0, slots := 0, locals := 69 } [.ref (q 0), .int (nI t), .int (nI o)] (q_B g (q_stW g q S)) (.int (bI (aheS S t o))) := by
  refine q_pm (cc := cX3_isAhead) (maxL := 4) (ret := (some .boolean)) (by decide) rfl (Nat.le_of_ble_eq_true rfl) ?_
  intro p e s m args below meth c ls hx hb hml hown hts hr hlk hB hl
  obtain ⟨hP, hK, hN⟩ := hB
  have hl : lv_has ls 4 [(0, .ref (q 0)), (1, .int (nI t)), (2, .int (nI o))] := hl
  refine lv_aload_n hx hb dX3_isAhead_0 rfl (lv_at hl 0 rfl) ?_
  refine lv_iload_n hx hb dX3_isAhead_1 rfl (lv_at hl 1 rfl) ?_
  refine q_V (As := [.int (nI t)]) (rest := []) ⟨hx, hb, hml, hown, hts⟩ (c_X3_scoreOf l g q S t (by omega)) (cwV 1 hts gX3_isAhead_X3_scoreOf rfl rfl rfl (by decide +kernel) ⟨Nat.le_of_ble_eq_true rfl, Nat.le_of_ble_eq_true rfl⟩) q_B_blind (va_recv hK hP (ci := 2) (q0 := 0) rfl rfl) (q_B_of hP hK hN) rfl hl.1 rfl (Nat.le_of_ble_eq_true rfl) dX3_isAhead_2 (Nat.zero_le _) (Nat.zero_le _) ?_
  refine lv_aload_n hx hb dX3_isAhead_5 rfl (lv_at hl 0 rfl) ?_
  refine lv_iload_n hx hb dX3_isAhead_6 rfl (lv_at hl 2 rfl) ?_
  refine q_V (As := [.int (nI o)]) (rest := [.int (scoS S t)]) ⟨hx, hb, hml, hown, hts⟩ (c_X3_scoreOf l g q S o (by omega)) (cwV 1 hts gX3_isAhead_X3_scoreOf rfl rfl rfl (by decide +kernel) ⟨Nat.le_of_ble_eq_true rfl, Nat.le_of_ble_eq_true rfl⟩) q_B_blind (va_recv hK hP (ci := 2) (q0 := 0) rfl rfl) (q_B_of hP hK hN) rfl hl.1 rfl (Nat.le_of_ble_eq_true rfl) dX3_isAhead_7 (Nat.zero_le _) (Nat.zero_le _) ?_
  refine lv_isub hx hb dX3_isAhead_10 ?_
  refine lv_istore_n (lv' := [(3, .int ((scoS S t) - (scoS S o))), (0, .ref (q 0)), (1, .int (nI t)), (2, .int (nI o))]) hx hb dX3_isAhead_11 rfl hl (by decide) rfl (fun ls hl => ?_)
  refine lv_iload_n hx hb dX3_isAhead_12 rfl (lv_at hl 0 rfl) ?_
  refine lv_if_gt (tgt := 33) hx hb dX3_isAhead_13 (by decide) (fun c_13 => ?_) (fun c_13 => ?_)
  · skip
    refine lv_iconst (v := 1) hx hb dX3_isAhead_33 (by decide) ?_
    refine lv_goto (tgt := 38) hx hb dX3_isAhead_34 (by decide) ?_
    exact q_zret hx hb hr hlk dX3_isAhead_38 (by first | rfl | simp [aheS, bI, c_13])
  · skip
    refine lv_iload_n hx hb dX3_isAhead_16 rfl (lv_at hl 0 rfl) ?_
    refine lv_if_ne (tgt := 37) hx hb dX3_isAhead_17 (by decide) (fun c_17 => ?_) (fun c_17 => ?_)
    · skip
      refine lv_iconst (v := 0) hx hb dX3_isAhead_37 (by decide) ?_
      exact q_zret hx hb hr hlk dX3_isAhead_38 (by first | rfl | simp [aheS, bI, c_13, c_17])
    · skip
      refine lv_aload_n hx hb dX3_isAhead_20 rfl (lv_at hl 1 rfl) ?_
      refine lv_iload_n hx hb dX3_isAhead_21 rfl (lv_at hl 2 rfl) ?_
      refine q_V (As := [.int (nI t)]) (rest := []) ⟨hx, hb, hml, hown, hts⟩ (c_X3_distanceOf l g q S t (by omega)) (cwV 1 hts gX3_isAhead_X3_distanceOf rfl rfl rfl (by decide +kernel) ⟨Nat.le_of_ble_eq_true rfl, Nat.le_of_ble_eq_true rfl⟩) q_B_blind (va_recv hK hP (ci := 2) (q0 := 0) rfl rfl) (q_B_of hP hK hN) rfl hl.1 rfl (Nat.le_of_ble_eq_true rfl) dX3_isAhead_22 (Nat.zero_le _) (Nat.zero_le _) ?_
      refine lv_aload_n hx hb dX3_isAhead_25 rfl (lv_at hl 1 rfl) ?_
      refine lv_iload_n hx hb dX3_isAhead_26 rfl (lv_at hl 3 rfl) ?_
      refine q_V (As := [.int (nI o)]) (rest := [.int (distS S t)]) ⟨hx, hb, hml, hown, hts⟩ (c_X3_distanceOf l g q S o (by omega)) (cwV 1 hts gX3_isAhead_X3_distanceOf rfl rfl rfl (by decide +kernel) ⟨Nat.le_of_ble_eq_true rfl, Nat.le_of_ble_eq_true rfl⟩) q_B_blind (va_recv hK hP (ci := 2) (q0 := 0) rfl rfl) (q_B_of hP hK hN) rfl hl.1 rfl (Nat.le_of_ble_eq_true rfl) dX3_isAhead_27 (Nat.zero_le _) (Nat.zero_le _) ?_
      refine lv_icmp_ge (tgt := 37) hx hb dX3_isAhead_30 (by decide) (fun c_30 => ?_) (fun c_30 => ?_)
      · skip
        refine lv_iconst (v := 0) hx hb dX3_isAhead_37 (by decide) ?_
        exact q_zret hx hb hr hlk dX3_isAhead_38 (by first | rfl | simp [aheS, bI, c_13, c_17, c_30])
      · skip
        refine lv_iconst (v := 1) hx hb dX3_isAhead_33 (by decide) ?_
        refine lv_goto (tgt := 38) hx hb dX3_isAhead_34 (by decide) ?_
        exact q_zret hx hb hr hlk dX3_isAhead_38 (by first | rfl | simp [aheS, bI, c_13, c_17, c_30])

set_option maxHeartbeats 4000000 in
set_option maxRecDepth 100000 in
theorem c_X3_rankOf (l : Launch) (g : q_G) (q : Nat → Nat) (S : q_St) (t : Nat) (h1_ : t < 10) (h2_ : s_n S ≤ 10) : q_PM l yX3_rankOf wsX3_rankOf { frames := 4, cells := 0, slots := 0, locals := 92 } [.ref (q 0), .int (nI t)] (q_B g (q_stW g q S)) (.int (nI (rnkS S t))) := by
  refine q_pm (cc := cX3_rankOf) (maxL := 4) (ret := (some .int)) (by decide) rfl (Nat.le_of_ble_eq_true rfl) ?_
  intro p e s m args below meth c ls hx hb hml hown hts hr hlk hB hl
  obtain ⟨hP, hK, hN⟩ := hB
  have fl_66 := hts (.fieldLink RX3 66 "PubQuizzes$State" "teams" "I") (by decide +kernel)
  have hi_X3 : ∀ w ∈ u_ws RX3 TX3 12, w ∈ wsX3_rankOf := by decide +kernel
  have hl : lv_has ls 4 [(0, .ref (q 0)), (1, .int (nI t))] := hl
  refine lv_iconst (v := 1) hx hb dX3_rankOf_0 (by decide) ?_
  refine lv_istore_n (lv' := [(2, .int 1), (0, .ref (q 0)), (1, .int (nI t))]) hx hb dX3_rankOf_1 rfl hl (by decide) rfl (fun ls hl => ?_)
  refine lv_iconst (v := 0) hx hb dX3_rankOf_2 (by decide) ?_
  refine lv_istore_n (lv' := [(3, .int 0), (2, .int 1), (0, .ref (q 0)), (1, .int (nI t))]) hx hb dX3_rankOf_3 rfl hl (by decide) rfl (fun ls hl => ?_)
  have L_4 : ∀ (n i4 : Nat) (y2_4 : Int32), y2_4 = nI (q_cnt (fun o => aheS S o t) i4 + 1) → i4 ≤ s_n S → s_n S < i4 + n → ∀ ls : Array Slot, lv_has ls 4 [(3, .int (nI i4)), (2, .int y2_4), (0, .ref (q 0)), (1, .int (nI t))] → W p l e { frames := 4, cells := 0, slots := 0, locals := 92 } s m args below meth c s.heap [] 0 0 (MQ below (k2_QcV (.int (nI (rnkS S t)))) args s 0 0 (fun _ => False)) (F0 m 4 ls []) := by
    intro n
    induction n with
    | zero => intro i4 y2_4 ey2_4 hi_i4 hn_i4; exact absurd hn_i4 (by omega)
    | succ n ih_i4 =>
      intro i4 y2_4 ey2_4 hi_i4 hn_i4 ls hl
      subst ey2_4
      refine lv_iload_n hx hb dX3_rankOf_4 rfl (lv_at hl 0 rfl) ?_
      refine lv_aload_n hx hb dX3_rankOf_5 rfl (lv_at hl 2 rfl) ?_
      refine va_get (D := g.1) (ci := 2) (v := .int (nI (s_n S))) (C := RX3) (T := TX3) (N := 12) hx hb hts hi_X3 hown hK hP 0 rfl rfl 10 (by decide) fl_66 (fun _ h9 => h9) rfl dX3_rankOf_6 ?_
      refine lv_icmp_ge (tgt := 35) hx hb dX3_rankOf_9 (by decide) (fun c_9 => ?_) (fun c_9 => ?_)
      · skip
        have e_9 : i4 = s_n S := q_ge_T (by omega) hi_i4 c_9
        subst e_9
        refine lv_iload_n hx hb dX3_rankOf_35 rfl (lv_at hl 1 rfl) ?_
        exact q_iret hx hb hr hlk dX3_rankOf_36 (rfl)
      · skip
        have lt_i4 : i4 < s_n S := q_ge_F (by omega) hi_i4 c_9
        refine lv_iload_n hx hb dX3_rankOf_12 rfl (lv_at hl 1 rfl) ?_
        refine lv_aload_n hx hb dX3_rankOf_13 rfl (lv_at hl 2 rfl) ?_
        refine lv_iload_n hx hb dX3_rankOf_14 rfl (lv_at hl 0 rfl) ?_
        refine lv_iload_n hx hb dX3_rankOf_15 rfl (lv_at hl 3 rfl) ?_
        refine q_V (As := [.int (nI i4), .int (nI t)]) (rest := [.int (nI (q_cnt (fun o => aheS S o t) i4 + 1))]) ⟨hx, hb, hml, hown, hts⟩ (c_X3_isAhead l g q S i4 t (by omega) (by omega)) (cwV 2 hts gX3_rankOf_X3_isAhead rfl rfl rfl (by decide +kernel) ⟨Nat.le_of_ble_eq_true rfl, Nat.le_of_ble_eq_true rfl⟩) q_B_blind (va_recv hK hP (ci := 2) (q0 := 0) rfl rfl) (q_B_of hP hK hN) rfl hl.1 rfl (Nat.le_of_ble_eq_true rfl) dX3_rankOf_16 (Nat.zero_le _) (Nat.zero_le _) ?_
        refine lv_if_eq (tgt := 26) hx hb dX3_rankOf_19 (by decide) (fun c_19 => ?_) (fun c_19 => ?_)
        · skip
          have c_19 : (aheS S i4 t) = false := bI_eq c_19
          refine lv_iconst (v := 0) hx hb dX3_rankOf_26 (by decide) ?_
          refine lv_iadd hx hb dX3_rankOf_27 ?_
          refine lv_istore_n (lv' := [(2, .int ((nI (q_cnt (fun o => aheS S o t) i4 + 1)) + 0)), (3, .int (nI i4)), (0, .ref (q 0)), (1, .int (nI t))]) hx hb dX3_rankOf_28 rfl hl (by decide) rfl (fun ls hl => ?_)
          refine lv_iinc (v := nI (i4 + 1)) (lv' := [(3, .int (nI (i4 + 1))), (2, .int ((nI (q_cnt (fun o => aheS S o t) i4 + 1)) + 0)), (0, .ref (q 0)), (1, .int (nI t))]) hx hb dX3_rankOf_29 hl (k := 1) rfl (nI_1 _) (by decide) rfl (fun ls hl => ?_)
          refine lv_goto (tgt := 4) hx hb dX3_rankOf_32 (by decide) ?_
          exact ih_i4 (i4 + 1) ((nI (q_cnt (fun o => aheS S o t) i4 + 1)) + 0) (by first | rfl | simp [q_acc, q_or, q_cnt, q_any, nI_1, c_19]) lt_i4 (by omega) ls (lv_sub hl [0, 1, 2, 3] rfl)
        · skip
          have c_19 : (aheS S i4 t) = true := bI_ne c_19
          refine lv_iconst (v := 1) hx hb dX3_rankOf_22 (by decide) ?_
          refine lv_goto (tgt := 27) hx hb dX3_rankOf_23 (by decide) ?_
          refine lv_iadd hx hb dX3_rankOf_27 ?_
          refine lv_istore_n (lv' := [(2, .int ((nI (q_cnt (fun o => aheS S o t) i4 + 1)) + 1)), (3, .int (nI i4)), (0, .ref (q 0)), (1, .int (nI t))]) hx hb dX3_rankOf_28 rfl hl (by decide) rfl (fun ls hl => ?_)
          refine lv_iinc (v := nI (i4 + 1)) (lv' := [(3, .int (nI (i4 + 1))), (2, .int ((nI (q_cnt (fun o => aheS S o t) i4 + 1)) + 1)), (0, .ref (q 0)), (1, .int (nI t))]) hx hb dX3_rankOf_29 hl (k := 1) rfl (nI_1 _) (by decide) rfl (fun ls hl => ?_)
          refine lv_goto (tgt := 4) hx hb dX3_rankOf_32 (by decide) ?_
          exact ih_i4 (i4 + 1) ((nI (q_cnt (fun o => aheS S o t) i4 + 1)) + 1) (by first | rfl | simp [q_acc, q_or, q_cnt, q_any, nI_1, c_19]) lt_i4 (by omega) ls (lv_sub hl [0, 1, 2, 3] rfl)
  exact L_4 (s_n S + 1) 0 1 (rfl) (Nat.zero_le _) (by omega) ls (lv_sub hl [0, 1, 2, 3] rfl)

set_option maxHeartbeats 4000000 in
set_option maxRecDepth 100000 in
theorem c_X3_tiedWith (l : Launch) (g : q_G) (q : Nat → Nat) (S : q_St) (t : Nat) (h1_ : t < 10) (h2_ : s_n S ≤ 10) : q_PM l yX3_tiedWith wsX3_tiedWith { frames := 4, cells := 0, slots := 0, locals := 92 } [.ref (q 0), .int (nI t)] (q_B g (q_stW g q S)) (.int (tieS S t)) := by
  refine q_pm (cc := cX3_tiedWith) (maxL := 4) (ret := (some .int)) (by decide) rfl (Nat.le_of_ble_eq_true rfl) ?_
  intro p e s m args below meth c ls hx hb hml hown hts hr hlk hB hl
  obtain ⟨hP, hK, hN⟩ := hB
  have fl_66 := hts (.fieldLink RX3 66 "PubQuizzes$State" "teams" "I") (by decide +kernel)
  have hi_X3 : ∀ w ∈ u_ws RX3 TX3 12, w ∈ wsX3_tiedWith := by decide +kernel
  have hl : lv_has ls 4 [(0, .ref (q 0)), (1, .int (nI t))] := hl
  refine lv_iconst (v := 0) hx hb dX3_tiedWith_0 (by decide) ?_
  refine lv_istore_n (lv' := [(2, .int 0), (0, .ref (q 0)), (1, .int (nI t))]) hx hb dX3_tiedWith_1 rfl hl (by decide) rfl (fun ls hl => ?_)
  refine lv_iconst (v := 0) hx hb dX3_tiedWith_2 (by decide) ?_
  refine lv_istore_n (lv' := [(3, .int 0), (2, .int 0), (0, .ref (q 0)), (1, .int (nI t))]) hx hb dX3_tiedWith_3 rfl hl (by decide) rfl (fun ls hl => ?_)
  have L_4 : ∀ (n i4 : Nat) (y2_4 : Int32), y2_4 = q_or (tie1 S t) i4 → i4 ≤ s_n S → s_n S < i4 + n → ∀ ls : Array Slot, lv_has ls 4 [(3, .int (nI i4)), (2, .int y2_4), (0, .ref (q 0)), (1, .int (nI t))] → W p l e { frames := 4, cells := 0, slots := 0, locals := 92 } s m args below meth c s.heap [] 0 0 (MQ below (k2_QcV (.int (tieS S t))) args s 0 0 (fun _ => False)) (F0 m 4 ls []) := by
    intro n
    induction n with
    | zero => intro i4 y2_4 ey2_4 hi_i4 hn_i4; exact absurd hn_i4 (by omega)
    | succ n ih_i4 =>
      intro i4 y2_4 ey2_4 hi_i4 hn_i4 ls hl
      subst ey2_4
      refine lv_iload_n hx hb dX3_tiedWith_4 rfl (lv_at hl 0 rfl) ?_
      refine lv_aload_n hx hb dX3_tiedWith_5 rfl (lv_at hl 2 rfl) ?_
      refine va_get (D := g.1) (ci := 2) (v := .int (nI (s_n S))) (C := RX3) (T := TX3) (N := 12) hx hb hts hi_X3 hown hK hP 0 rfl rfl 10 (by decide) fl_66 (fun _ h9 => h9) rfl dX3_tiedWith_6 ?_
      refine lv_icmp_ge (tgt := 47) hx hb dX3_tiedWith_9 (by decide) (fun c_9 => ?_) (fun c_9 => ?_)
      · skip
        have e_9 : i4 = s_n S := q_ge_T (by omega) hi_i4 c_9
        subst e_9
        refine lv_iload_n hx hb dX3_tiedWith_47 rfl (lv_at hl 1 rfl) ?_
        exact q_iret hx hb hr hlk dX3_tiedWith_48 (rfl)
      · skip
        have lt_i4 : i4 < s_n S := q_ge_F (by omega) hi_i4 c_9
        refine lv_iload_n hx hb dX3_tiedWith_12 rfl (lv_at hl 0 rfl) ?_
        refine lv_iload_n hx hb dX3_tiedWith_13 rfl (lv_at hl 3 rfl) ?_
        refine lv_icmp_eq (tgt := 41) hx hb dX3_tiedWith_14 (by decide) (fun c_14 => ?_) (fun c_14 => ?_)
        · skip
          refine lv_iinc (v := nI (i4 + 1)) (lv' := [(3, .int (nI (i4 + 1))), (2, .int (q_or (tie1 S t) i4)), (0, .ref (q 0)), (1, .int (nI t))]) hx hb dX3_tiedWith_41 hl (k := 0) rfl (nI_1 _) (by decide) rfl (fun ls hl => ?_)
          refine lv_goto (tgt := 4) hx hb dX3_tiedWith_44 (by decide) ?_
          exact ih_i4 (i4 + 1) (q_or (tie1 S t) i4) (by first | rfl | simp [q_acc, q_or, q_cnt, q_any, nI_1, tie1, c_14]) lt_i4 (by omega) ls (lv_sub hl [0, 1, 2, 3] rfl)
        · skip
          refine lv_aload_n hx hb dX3_tiedWith_17 rfl (lv_at hl 2 rfl) ?_
          refine lv_iload_n hx hb dX3_tiedWith_18 rfl (lv_at hl 0 rfl) ?_
          refine lv_iload_n hx hb dX3_tiedWith_19 rfl (lv_at hl 3 rfl) ?_
          refine q_V (As := [.int (nI i4), .int (nI t)]) (rest := []) ⟨hx, hb, hml, hown, hts⟩ (c_X3_isAhead l g q S i4 t (by omega) (by omega)) (cwV 2 hts gX3_tiedWith_X3_isAhead rfl rfl rfl (by decide +kernel) ⟨Nat.le_of_ble_eq_true rfl, Nat.le_of_ble_eq_true rfl⟩) q_B_blind (va_recv hK hP (ci := 2) (q0 := 0) rfl rfl) (q_B_of hP hK hN) rfl hl.1 rfl (Nat.le_of_ble_eq_true rfl) dX3_tiedWith_20 (Nat.zero_le _) (Nat.zero_le _) ?_
          refine lv_if_ne (tgt := 41) hx hb dX3_tiedWith_23 (by decide) (fun c_23 => ?_) (fun c_23 => ?_)
          · skip
            have c_23 : (aheS S i4 t) = true := bI_ne c_23
            refine lv_iinc (v := nI (i4 + 1)) (lv' := [(3, .int (nI (i4 + 1))), (2, .int (q_or (tie1 S t) i4)), (0, .ref (q 0)), (1, .int (nI t))]) hx hb dX3_tiedWith_41 hl (k := 0) rfl (nI_1 _) (by decide) rfl (fun ls hl => ?_)
            refine lv_goto (tgt := 4) hx hb dX3_tiedWith_44 (by decide) ?_
            exact ih_i4 (i4 + 1) (q_or (tie1 S t) i4) (by first | rfl | simp [q_acc, q_or, q_cnt, q_any, nI_1, tie1, c_14, c_23]) lt_i4 (by omega) ls (lv_sub hl [0, 1, 2, 3] rfl)
          · skip
            have c_23 : (aheS S i4 t) = false := bI_eq c_23
            refine lv_aload_n hx hb dX3_tiedWith_26 rfl (lv_at hl 2 rfl) ?_
            refine lv_iload_n hx hb dX3_tiedWith_27 rfl (lv_at hl 3 rfl) ?_
            refine lv_iload_n hx hb dX3_tiedWith_28 rfl (lv_at hl 0 rfl) ?_
            refine q_V (As := [.int (nI t), .int (nI i4)]) (rest := []) ⟨hx, hb, hml, hown, hts⟩ (c_X3_isAhead l g q S t i4 (by omega) (by omega)) (cwV 2 hts gX3_tiedWith_X3_isAhead rfl rfl rfl (by decide +kernel) ⟨Nat.le_of_ble_eq_true rfl, Nat.le_of_ble_eq_true rfl⟩) q_B_blind (va_recv hK hP (ci := 2) (q0 := 0) rfl rfl) (q_B_of hP hK hN) rfl hl.1 rfl (Nat.le_of_ble_eq_true rfl) dX3_tiedWith_29 (Nat.zero_le _) (Nat.zero_le _) ?_
            refine lv_if_ne (tgt := 41) hx hb dX3_tiedWith_32 (by decide) (fun c_32 => ?_) (fun c_32 => ?_)
            · skip
              have c_32 : (aheS S t i4) = true := bI_ne c_32
              refine lv_iinc (v := nI (i4 + 1)) (lv' := [(3, .int (nI (i4 + 1))), (2, .int (q_or (tie1 S t) i4)), (0, .ref (q 0)), (1, .int (nI t))]) hx hb dX3_tiedWith_41 hl (k := 0) rfl (nI_1 _) (by decide) rfl (fun ls hl => ?_)
              refine lv_goto (tgt := 4) hx hb dX3_tiedWith_44 (by decide) ?_
              exact ih_i4 (i4 + 1) (q_or (tie1 S t) i4) (by first | rfl | simp [q_acc, q_or, q_cnt, q_any, nI_1, tie1, c_14, c_23, c_32]) lt_i4 (by omega) ls (lv_sub hl [0, 1, 2, 3] rfl)
            · skip
              have c_32 : (aheS S t i4) = false := bI_eq c_32
              refine lv_iload_n hx hb dX3_tiedWith_35 rfl (lv_at hl 1 rfl) ?_
              refine lv_iconst (v := 1) hx hb dX3_tiedWith_36 (by decide) ?_
              refine lv_iload_n hx hb dX3_tiedWith_37 rfl (lv_at hl 0 rfl) ?_
              refine lv_ishl hx hb dX3_tiedWith_38 ?_
              refine lv_ior hx hb dX3_tiedWith_39 ?_
              refine lv_istore_n (lv' := [(2, .int ((q_or (tie1 S t) i4) ||| (1 <<< ((nI i4) &&& 31)))), (3, .int (nI i4)), (0, .ref (q 0)), (1, .int (nI t))]) hx hb dX3_tiedWith_40 rfl hl (by decide) rfl (fun ls hl => ?_)
              refine lv_iinc (v := nI (i4 + 1)) (lv' := [(3, .int (nI (i4 + 1))), (2, .int ((q_or (tie1 S t) i4) ||| (1 <<< ((nI i4) &&& 31)))), (0, .ref (q 0)), (1, .int (nI t))]) hx hb dX3_tiedWith_41 hl (k := 1) rfl (nI_1 _) (by decide) rfl (fun ls hl => ?_)
              refine lv_goto (tgt := 4) hx hb dX3_tiedWith_44 (by decide) ?_
              exact ih_i4 (i4 + 1) ((q_or (tie1 S t) i4) ||| (1 <<< ((nI i4) &&& 31))) (by first | rfl | simp [q_acc, q_or, q_cnt, q_any, nI_1, tie1, c_14, c_23, c_32]) lt_i4 (by omega) ls (lv_sub hl [0, 1, 2, 3] rfl)
  exact L_4 (s_n S + 1) 0 0 (rfl) (Nat.zero_le _) (by omega) ls (lv_sub hl [0, 1, 2, 3] rfl)

set_option maxHeartbeats 4000000 in
set_option maxRecDepth 100000 in
theorem c_X3_lowerIn (l : Launch) (x : Int32) (t : Nat) : q_PM l yX3_lowerIn wsX3_lowerIn { frames := 1, cells := 0, slots := 0, locals := 20 } [.int x, .int (nI t)] (fun _ => True) (.int (popc (lowM x t))) := by
  refine q_pm (cc := cX3_lowerIn) (maxL := 2) (ret := (some .int)) (by decide) rfl (Nat.le_of_ble_eq_true rfl) ?_
  intro p e s m args below meth c ls hx hb hml hown hts hr hlk _ hl
  have hl : lv_has ls 2 [(0, .int x), (1, .int (nI t))] := hl
  refine lv_iload_n hx hb dX3_lowerIn_0 rfl (lv_at hl 0 rfl) ?_
  refine lv_iconst (v := 1) hx hb dX3_lowerIn_1 (by decide) ?_
  refine lv_iload_n hx hb dX3_lowerIn_2 rfl (lv_at hl 1 rfl) ?_
  refine lv_ishl hx hb dX3_lowerIn_3 ?_
  refine lv_iconst (v := 1) hx hb dX3_lowerIn_4 (by decide) ?_
  refine lv_isub hx hb dX3_lowerIn_5 ?_
  refine lv_iand hx hb dX3_lowerIn_6 ?_
  refine q_S (As := [.int (x &&& ((1 <<< ((nI t) &&& 31)) - 1))]) (rest := []) ⟨hx, hb, hml, hown, hts⟩ (c_J6_bitCount_0f7a4 l (x &&& ((1 <<< ((nI t) &&& 31)) - 1)) ) (va_cwS 1 hts gX3_lowerIn_J6_bitCount_0f7a4 rfl rfl rfl (by decide +kernel) ⟨Nat.le_of_ble_eq_true rfl, Nat.le_of_ble_eq_true rfl⟩) q_Blind_t (fun _ _ _ => trivial) rfl hl.1 rfl (Nat.le_of_ble_eq_true rfl) dX3_lowerIn_7 (Nat.zero_le _) (Nat.zero_le _) ?_
  exact q_iret hx hb hr hlk dX3_lowerIn_10 (rfl)

set_option maxHeartbeats 4000000 in
set_option maxRecDepth 100000 in
theorem c_X3_placeOf (l : Launch) (g : q_G) (q : Nat → Nat) (S : q_St) (t : Nat) (h1_ : t < 10) (h2_ : s_n S ≤ 10) (h3_ : t ≤ s_n S) : q_PM l yX3_placeOf wsX3_placeOf { frames := 5, cells := 0, slots := 0, locals := 115 } [.ref (q 0), .int (nI t)] (q_B g (q_stW g q S)) (.int (plcS S t)) := by
  refine q_pm (cc := cX3_placeOf) (maxL := 2) (ret := (some .int)) (by decide) rfl (Nat.le_of_ble_eq_true rfl) ?_
  intro p e s m args below meth c ls hx hb hml hown hts hr hlk hB hl
  obtain ⟨hP, hK, hN⟩ := hB
  have hl : lv_has ls 2 [(0, .ref (q 0)), (1, .int (nI t))] := hl
  refine lv_aload_n hx hb dX3_placeOf_0 rfl (lv_at hl 0 rfl) ?_
  refine lv_iload_n hx hb dX3_placeOf_1 rfl (lv_at hl 1 rfl) ?_
  refine q_V (As := [.int (nI t)]) (rest := []) ⟨hx, hb, hml, hown, hts⟩ (c_X3_rankOf l g q S t (by omega) (by omega)) (cwV 1 hts gX3_placeOf_X3_rankOf rfl rfl rfl (by decide +kernel) ⟨Nat.le_of_ble_eq_true rfl, Nat.le_of_ble_eq_true rfl⟩) q_B_blind (va_recv hK hP (ci := 2) (q0 := 0) rfl rfl) (q_B_of hP hK hN) rfl hl.1 rfl (Nat.le_of_ble_eq_true rfl) dX3_placeOf_2 (Nat.zero_le _) (Nat.zero_le _) ?_
  refine lv_iconst (v := 1) hx hb dX3_placeOf_5 (by decide) ?_
  refine lv_isub hx hb dX3_placeOf_6 ?_
  refine lv_aload_n hx hb dX3_placeOf_7 rfl (lv_at hl 0 rfl) ?_
  refine lv_iload_n hx hb dX3_placeOf_8 rfl (lv_at hl 1 rfl) ?_
  refine q_V (As := [.int (nI t)]) (rest := [.int ((nI (rnkS S t)) - 1)]) ⟨hx, hb, hml, hown, hts⟩ (c_X3_tiedWith l g q S t (by omega) (by omega)) (cwV 1 hts gX3_placeOf_X3_tiedWith rfl rfl rfl (by decide +kernel) ⟨Nat.le_of_ble_eq_true rfl, Nat.le_of_ble_eq_true rfl⟩) q_B_blind (va_recv hK hP (ci := 2) (q0 := 0) rfl rfl) (q_B_of hP hK hN) rfl hl.1 rfl (Nat.le_of_ble_eq_true rfl) dX3_placeOf_9 (Nat.zero_le _) (Nat.zero_le _) ?_
  refine lv_iload_n hx hb dX3_placeOf_12 rfl (lv_at hl 1 rfl) ?_
  refine q_S (As := [.int (tieS S t), .int (nI t)]) (rest := [.int ((nI (rnkS S t)) - 1)]) ⟨hx, hb, hml, hown, hts⟩ (c_X3_lowerIn l (tieS S t) t ) (va_cwS 2 hts gX3_placeOf_X3_lowerIn rfl rfl rfl (by decide +kernel) ⟨Nat.le_of_ble_eq_true rfl, Nat.le_of_ble_eq_true rfl⟩) q_Blind_t (fun _ _ _ => trivial) rfl hl.1 rfl (Nat.le_of_ble_eq_true rfl) dX3_placeOf_13 (Nat.zero_le _) (Nat.zero_le _) ?_
  refine lv_iadd hx hb dX3_placeOf_16 ?_
  exact q_iret hx hb hr hlk dX3_placeOf_17 (by rw [tieS, q_lowC (tie1 S t) t (s_n S) h3_ h1_ h2_]; rfl)

set_option maxHeartbeats 4000000 in
set_option maxRecDepth 100000 in
theorem c_X3_entries (l : Launch) (g : q_G) (q : Nat → Nat) (S : q_St) (h1_ : s_n S ≤ 10) : q_PM l yX3_entries wsX3_entries { frames := 0, cells := 0, slots := 0, locals := 0 } [.ref (q 0)] (q_B g (q_stW g q S)) (.int (entS S)) := by
  refine q_pm (cc := cX3_entries) (maxL := 3) (ret := (some .int)) (by decide) rfl (Nat.le_of_ble_eq_true rfl) ?_
  intro p e s m args below meth c ls hx hb hml hown hts hr hlk hB hl
  obtain ⟨hP, hK, hN⟩ := hB
  have fl_15 := hts (.fieldLink RX3 15 "PubQuizzes$State" "paid" "[I") (by decide +kernel)
  have fl_66 := hts (.fieldLink RX3 66 "PubQuizzes$State" "teams" "I") (by decide +kernel)
  have hi_X3 : ∀ w ∈ u_ws RX3 TX3 12, w ∈ wsX3_entries := by decide +kernel
  have hl : lv_has ls 3 [(0, .ref (q 0))] := hl
  refine lv_iconst (v := 0) hx hb dX3_entries_0 (by decide) ?_
  refine lv_istore_n (lv' := [(1, .int 0), (0, .ref (q 0))]) hx hb dX3_entries_1 rfl hl (by decide) rfl (fun ls hl => ?_)
  refine lv_iconst (v := 0) hx hb dX3_entries_2 (by decide) ?_
  refine lv_istore_n (lv' := [(2, .int 0), (1, .int 0), (0, .ref (q 0))]) hx hb dX3_entries_3 rfl hl (by decide) rfl (fun ls hl => ?_)
  have L_4 : ∀ (n i4 : Nat) (y1_4 : Int32), y1_4 = q_acc 0 (s_paid S) i4 → i4 ≤ s_n S → s_n S < i4 + n → ∀ ls : Array Slot, lv_has ls 3 [(2, .int (nI i4)), (1, .int y1_4), (0, .ref (q 0))] → W p l e { frames := 0, cells := 0, slots := 0, locals := 0 } s m args below meth c s.heap [] 0 0 (MQ below (k2_QcV (.int (entS S))) args s 0 0 (fun _ => False)) (F0 m 4 ls []) := by
    intro n
    induction n with
    | zero => intro i4 y1_4 ey1_4 hi_i4 hn_i4; exact absurd hn_i4 (by omega)
    | succ n ih_i4 =>
      intro i4 y1_4 ey1_4 hi_i4 hn_i4 ls hl
      subst ey1_4
      refine lv_iload_n hx hb dX3_entries_4 rfl (lv_at hl 0 rfl) ?_
      refine lv_aload_n hx hb dX3_entries_5 rfl (lv_at hl 2 rfl) ?_
      refine va_get (D := g.1) (ci := 2) (v := .int (nI (s_n S))) (C := RX3) (T := TX3) (N := 12) hx hb hts hi_X3 hown hK hP 0 rfl rfl 10 (by decide) fl_66 (fun _ h9 => h9) rfl dX3_entries_6 ?_
      refine lv_icmp_ge (tgt := 27) hx hb dX3_entries_9 (by decide) (fun c_9 => ?_) (fun c_9 => ?_)
      · skip
        have e_9 : i4 = s_n S := q_ge_T (by omega) hi_i4 c_9
        subst e_9
        refine lv_iload_n hx hb dX3_entries_27 rfl (lv_at hl 1 rfl) ?_
        exact q_iret hx hb hr hlk dX3_entries_28 (rfl)
      · skip
        have lt_i4 : i4 < s_n S := q_ge_F (by omega) hi_i4 c_9
        refine lv_iload_n hx hb dX3_entries_12 rfl (lv_at hl 1 rfl) ?_
        refine lv_aload_n hx hb dX3_entries_13 rfl (lv_at hl 2 rfl) ?_
        refine va_get (D := g.1) (ci := 2) (v := .ref (q 2)) (C := RX3) (T := TX3) (N := 12) hx hb hts hi_X3 hown hK hP 0 rfl rfl 1 (by decide) fl_15 (fun _ h9 => h9) rfl dX3_entries_14 ?_
        refine lv_iload_n hx hb dX3_entries_17 rfl (lv_at hl 0 rfl) ?_
        refine q_iald (j := i4) hx hb hK hP 2 0 rfl rfl (by omega) (by decide) dX3_entries_18 ?_
        refine lv_iadd hx hb dX3_entries_19 ?_
        refine lv_istore_n (lv' := [(1, .int ((q_acc 0 (s_paid S) i4) + (s_paid S i4))), (2, .int (nI i4)), (0, .ref (q 0))]) hx hb dX3_entries_20 rfl hl (by decide) rfl (fun ls hl => ?_)
        refine lv_iinc (v := nI (i4 + 1)) (lv' := [(2, .int (nI (i4 + 1))), (1, .int ((q_acc 0 (s_paid S) i4) + (s_paid S i4))), (0, .ref (q 0))]) hx hb dX3_entries_21 hl (k := 1) rfl (nI_1 _) (by decide) rfl (fun ls hl => ?_)
        refine lv_goto (tgt := 4) hx hb dX3_entries_24 (by decide) ?_
        exact ih_i4 (i4 + 1) ((q_acc 0 (s_paid S) i4) + (s_paid S i4)) (by first | rfl | simp [q_acc, q_or, q_cnt, q_any, nI_1, bI_t]) lt_i4 (by omega) ls (lv_sub hl [0, 1, 2] rfl)
  exact L_4 (s_n S + 1) 0 0 (rfl) (Nat.zero_le _) (by omega) ls (lv_sub hl [0, 1, 2] rfl)

set_option maxHeartbeats 4000000 in
set_option maxRecDepth 100000 in
theorem c_X3_ofTheHouse (l : Launch) (g : q_G) (q : Nat → Nat) (S : q_St) (h1_ : s_n S ≤ 10) : q_PM l yX3_ofTheHouse wsX3_ofTheHouse { frames := 1, cells := 0, slots := 0, locals := 22 } [.ref (q 0)] (q_B g (q_stW g q S)) (.int (houS S)) := by
  refine q_pm (cc := cX3_ofTheHouse) (maxL := 1) (ret := (some .int)) (by decide) rfl (Nat.le_of_ble_eq_true rfl) ?_
  intro p e s m args below meth c ls hx hb hml hown hts hr hlk hB hl
  obtain ⟨hP, hK, hN⟩ := hB
  have fl_9 := hts (.fieldLink RX3 9 "PubQuizzes$State" "settings" "[I") (by decide +kernel)
  have hi_X3 : ∀ w ∈ u_ws RX3 TX3 12, w ∈ wsX3_ofTheHouse := by decide +kernel
  have hl : lv_has ls 1 [(0, .ref (q 0))] := hl
  refine lv_aload_n hx hb dX3_ofTheHouse_0 rfl (lv_at hl 0 rfl) ?_
  refine q_V (As := []) (rest := []) ⟨hx, hb, hml, hown, hts⟩ (c_X3_entries l g q S  (by omega)) (cwV 0 hts gX3_ofTheHouse_X3_entries rfl rfl rfl (by decide +kernel) ⟨Nat.le_of_ble_eq_true rfl, Nat.le_of_ble_eq_true rfl⟩) q_B_blind (va_recv hK hP (ci := 2) (q0 := 0) rfl rfl) (q_B_of hP hK hN) rfl hl.1 rfl (Nat.le_of_ble_eq_true rfl) dX3_ofTheHouse_1 (Nat.zero_le _) (Nat.zero_le _) ?_
  refine lv_aload_n hx hb dX3_ofTheHouse_4 rfl (lv_at hl 0 rfl) ?_
  refine va_get (D := g.1) (ci := 2) (v := .ref (q 1)) (C := RX3) (T := TX3) (N := 12) hx hb hts hi_X3 hown hK hP 0 rfl rfl 0 (by decide) fl_9 (fun _ h9 => h9) rfl dX3_ofTheHouse_5 ?_
  refine lv_iconst (v := 1) hx hb dX3_ofTheHouse_8 (by decide) ?_
  refine q_iald (j := 1) hx hb hK hP 1 0 rfl rfl (by omega) (by decide) dX3_ofTheHouse_9 ?_
  refine lv_imul hx hb dX3_ofTheHouse_10 ?_
  refine lv_bipush (v := 100) hx hb dX3_ofTheHouse_11 (by decide) ?_
  refine lv_idiv hx hb dX3_ofTheHouse_13 (by decide) ?_
  exact q_iret hx hb hr hlk dX3_ofTheHouse_14 (rfl)

set_option maxHeartbeats 4000000 in
set_option maxRecDepth 100000 in
theorem c_X3_pot (l : Launch) (g : q_G) (q : Nat → Nat) (S : q_St) (h1_ : s_n S ≤ 10) : q_PM l yX3_pot wsX3_pot { frames := 2, cells := 0, slots := 0, locals := 42 } [.ref (q 0)] (q_B g (q_stW g q S)) (.int (potS S)) := by
  refine q_pm (cc := cX3_pot) (maxL := 1) (ret := (some .int)) (by decide) rfl (Nat.le_of_ble_eq_true rfl) ?_
  intro p e s m args below meth c ls hx hb hml hown hts hr hlk hB hl
  obtain ⟨hP, hK, hN⟩ := hB
  have hl : lv_has ls 1 [(0, .ref (q 0))] := hl
  refine lv_aload_n hx hb dX3_pot_0 rfl (lv_at hl 0 rfl) ?_
  refine q_V (As := []) (rest := []) ⟨hx, hb, hml, hown, hts⟩ (c_X3_entries l g q S  (by omega)) (cwV 0 hts gX3_pot_X3_entries rfl rfl rfl (by decide +kernel) ⟨Nat.le_of_ble_eq_true rfl, Nat.le_of_ble_eq_true rfl⟩) q_B_blind (va_recv hK hP (ci := 2) (q0 := 0) rfl rfl) (q_B_of hP hK hN) rfl hl.1 rfl (Nat.le_of_ble_eq_true rfl) dX3_pot_1 (Nat.zero_le _) (Nat.zero_le _) ?_
  refine lv_aload_n hx hb dX3_pot_4 rfl (lv_at hl 0 rfl) ?_
  refine q_V (As := []) (rest := [.int (entS S)]) ⟨hx, hb, hml, hown, hts⟩ (c_X3_ofTheHouse l g q S  (by omega)) (cwV 0 hts gX3_pot_X3_ofTheHouse rfl rfl rfl (by decide +kernel) ⟨Nat.le_of_ble_eq_true rfl, Nat.le_of_ble_eq_true rfl⟩) q_B_blind (va_recv hK hP (ci := 2) (q0 := 0) rfl rfl) (q_B_of hP hK hN) rfl hl.1 rfl (Nat.le_of_ble_eq_true rfl) dX3_pot_5 (Nat.zero_le _) (Nat.zero_le _) ?_
  refine lv_isub hx hb dX3_pot_8 ?_
  exact q_iret hx hb hr hlk dX3_pot_9 (rfl)

set_option maxHeartbeats 4000000 in
set_option maxRecDepth 100000 in
theorem c_X3_prizeOfPlace (l : Launch) (g : q_G) (q : Nat → Nat) (S : q_St) (x : Int32) (h1_ : s_n S ≤ 10) : q_PM l yX3_prizeOfPlace wsX3_prizeOfPlace { frames := 3, cells := 0, slots := 0, locals := 62 } [.ref (q 0), .int x] (q_B g (q_stW g q S)) (.int (prpS S x)) := by
  refine q_pm (cc := cX3_prizeOfPlace) (maxL := 5) (ret := (some .int)) (by decide) rfl (Nat.le_of_ble_eq_true rfl) ?_
  intro p e s m args below meth c ls hx hb hml hown hts hr hlk hB hl
  obtain ⟨hP, hK, hN⟩ := hB
  have fl_66 := hts (.fieldLink RX3 66 "PubQuizzes$State" "teams" "I") (by decide +kernel)
  have hi_X3 : ∀ w ∈ u_ws RX3 TX3 12, w ∈ wsX3_prizeOfPlace := by decide +kernel
  have hl : lv_has ls 5 [(0, .ref (q 0)), (1, .int x)] := hl
  refine lv_aload_n hx hb dX3_prizeOfPlace_0 rfl (lv_at hl 0 rfl) ?_
  refine q_V (As := []) (rest := []) ⟨hx, hb, hml, hown, hts⟩ (c_X3_pot l g q S  (by omega)) (cwV 0 hts gX3_prizeOfPlace_X3_pot rfl rfl rfl (by decide +kernel) ⟨Nat.le_of_ble_eq_true rfl, Nat.le_of_ble_eq_true rfl⟩) q_B_blind (va_recv hK hP (ci := 2) (q0 := 0) rfl rfl) (q_B_of hP hK hN) rfl hl.1 rfl (Nat.le_of_ble_eq_true rfl) dX3_prizeOfPlace_1 (Nat.zero_le _) (Nat.zero_le _) ?_
  refine lv_istore_n (lv' := [(2, .int (potS S)), (0, .ref (q 0)), (1, .int x)]) hx hb dX3_prizeOfPlace_4 rfl hl (by decide) rfl (fun ls hl => ?_)
  refine lv_aload_n hx hb dX3_prizeOfPlace_5 rfl (lv_at hl 1 rfl) ?_
  refine va_get (D := g.1) (ci := 2) (v := .int (nI (s_n S))) (C := RX3) (T := TX3) (N := 12) hx hb hts hi_X3 hown hK hP 0 rfl rfl 10 (by decide) fl_66 (fun _ h9 => h9) rfl dX3_prizeOfPlace_6 ?_
  refine lv_iconst (v := 2) hx hb dX3_prizeOfPlace_9 (by decide) ?_
  refine lv_icmp_lt (tgt := 23) hx hb dX3_prizeOfPlace_10 (by decide) (fun c_10 => ?_) (fun c_10 => ?_)
  · skip
    refine lv_iconst (v := 0) hx hb dX3_prizeOfPlace_23 (by decide) ?_
    refine lv_istore_n (lv' := [(3, .int 0), (2, .int (potS S)), (0, .ref (q 0)), (1, .int x)]) hx hb dX3_prizeOfPlace_24 rfl hl (by decide) rfl (fun ls hl => ?_)
    refine lv_aload_n hx hb dX3_prizeOfPlace_25 rfl (lv_at hl 2 rfl) ?_
    refine va_get (D := g.1) (ci := 2) (v := .int (nI (s_n S))) (C := RX3) (T := TX3) (N := 12) hx hb hts hi_X3 hown hK hP 0 rfl rfl 10 (by decide) fl_66 (fun _ h9 => h9) rfl dX3_prizeOfPlace_26 ?_
    refine lv_iconst (v := 3) hx hb dX3_prizeOfPlace_29 (by decide) ?_
    refine lv_icmp_lt (tgt := 43) hx hb dX3_prizeOfPlace_30 (by decide) (fun c_30 => ?_) (fun c_30 => ?_)
    · skip
      refine lv_iconst (v := 0) hx hb dX3_prizeOfPlace_43 (by decide) ?_
      refine lv_istore (lv' := [(4, .int 0), (3, .int 0), (2, .int (potS S)), (0, .ref (q 0)), (1, .int x)]) hx hb dX3_prizeOfPlace_44 hl (by decide) rfl (fun ls hl => ?_)
      refine lv_iload_n hx hb dX3_prizeOfPlace_46 rfl (lv_at hl 4 rfl) ?_
      by_cases w_47_1 : x = 1
      · skip
        have tx_47 : (x : Int32).toInt = 1 := by rw [w_47_1]; decide
        refine lv_tableIn (tgt := 72) (off := 25) hx hb dX3_prizeOfPlace_47 (by rw [tx_47]; decide) (by rw [tx_47]; decide) (by rw [tx_47]; rfl) (by decide) ?_
        refine lv_iload_n hx hb dX3_prizeOfPlace_72 rfl (lv_at hl 2 rfl) ?_
        refine lv_iload_n hx hb dX3_prizeOfPlace_73 rfl (lv_at hl 1 rfl) ?_
        refine lv_isub hx hb dX3_prizeOfPlace_74 ?_
        refine lv_iload hx hb dX3_prizeOfPlace_75 (lv_at hl 0 rfl) ?_
        refine lv_isub hx hb dX3_prizeOfPlace_77 ?_
        exact q_iret hx hb hr hlk dX3_prizeOfPlace_78 (by simp only [prpS, secS, thiS, if_pos c_10, if_pos c_30, if_pos w_47_1])
      by_cases w_47_2 : x = 2
      · skip
        have tx_47 : (x : Int32).toInt = 2 := by rw [w_47_2]; decide
        refine lv_tableIn (tgt := 79) (off := 32) hx hb dX3_prizeOfPlace_47 (by rw [tx_47]; decide) (by rw [tx_47]; decide) (by rw [tx_47]; rfl) (by decide) ?_
        refine lv_iload_n hx hb dX3_prizeOfPlace_79 rfl (lv_at hl 1 rfl) ?_
        exact q_iret hx hb hr hlk dX3_prizeOfPlace_80 (by simp only [prpS, secS, thiS, if_pos c_10, if_pos c_30, if_neg w_47_1, if_pos w_47_2])
      by_cases w_47_3 : x = 3
      · skip
        have tx_47 : (x : Int32).toInt = 3 := by rw [w_47_3]; decide
        refine lv_tableIn (tgt := 81) (off := 34) hx hb dX3_prizeOfPlace_47 (by rw [tx_47]; decide) (by rw [tx_47]; decide) (by rw [tx_47]; rfl) (by decide) ?_
        refine lv_iload hx hb dX3_prizeOfPlace_81 (lv_at hl 0 rfl) ?_
        exact q_iret hx hb hr hlk dX3_prizeOfPlace_83 (by simp only [prpS, secS, thiS, if_pos c_10, if_pos c_30, if_neg w_47_1, if_neg w_47_2, if_pos w_47_3])
      have tw_47 := q_tab (n := 3) (lo := 1) (x := x) (by decide) (lt_s (p := fun k => ¬ x = nI (k + 1)) (lt_s (p := fun k => ¬ x = nI (k + 1)) (lt_s (p := fun k => ¬ x = nI (k + 1)) (lt_0) w_47_1) w_47_2) w_47_3)
      refine lv_tableOut (tgt := 84) hx hb dX3_prizeOfPlace_47 (by omega) (by decide) ?_
      refine lv_iconst (v := 0) hx hb dX3_prizeOfPlace_84 (by decide) ?_
      exact q_iret hx hb hr hlk dX3_prizeOfPlace_85 (by simp only [prpS, secS, thiS, if_pos c_10, if_pos c_30, if_neg w_47_1, if_neg w_47_2, if_neg w_47_3])
    · skip
      refine lv_iload_n hx hb dX3_prizeOfPlace_33 rfl (lv_at hl 1 rfl) ?_
      refine lv_bipush (v := 10) hx hb dX3_prizeOfPlace_34 (by decide) ?_
      refine lv_imul hx hb dX3_prizeOfPlace_36 ?_
      refine lv_bipush (v := 100) hx hb dX3_prizeOfPlace_37 (by decide) ?_
      refine lv_idiv hx hb dX3_prizeOfPlace_39 (by decide) ?_
      refine lv_goto (tgt := 44) hx hb dX3_prizeOfPlace_40 (by decide) ?_
      refine lv_istore (lv' := [(4, .int (((potS S) * 10) / 100)), (3, .int 0), (2, .int (potS S)), (0, .ref (q 0)), (1, .int x)]) hx hb dX3_prizeOfPlace_44 hl (by decide) rfl (fun ls hl => ?_)
      refine lv_iload_n hx hb dX3_prizeOfPlace_46 rfl (lv_at hl 4 rfl) ?_
      by_cases w_47_1 : x = 1
      · skip
        have tx_47 : (x : Int32).toInt = 1 := by rw [w_47_1]; decide
        refine lv_tableIn (tgt := 72) (off := 25) hx hb dX3_prizeOfPlace_47 (by rw [tx_47]; decide) (by rw [tx_47]; decide) (by rw [tx_47]; rfl) (by decide) ?_
        refine lv_iload_n hx hb dX3_prizeOfPlace_72 rfl (lv_at hl 2 rfl) ?_
        refine lv_iload_n hx hb dX3_prizeOfPlace_73 rfl (lv_at hl 1 rfl) ?_
        refine lv_isub hx hb dX3_prizeOfPlace_74 ?_
        refine lv_iload hx hb dX3_prizeOfPlace_75 (lv_at hl 0 rfl) ?_
        refine lv_isub hx hb dX3_prizeOfPlace_77 ?_
        exact q_iret hx hb hr hlk dX3_prizeOfPlace_78 (by simp only [prpS, secS, thiS, if_pos c_10, if_neg c_30, if_pos w_47_1])
      by_cases w_47_2 : x = 2
      · skip
        have tx_47 : (x : Int32).toInt = 2 := by rw [w_47_2]; decide
        refine lv_tableIn (tgt := 79) (off := 32) hx hb dX3_prizeOfPlace_47 (by rw [tx_47]; decide) (by rw [tx_47]; decide) (by rw [tx_47]; rfl) (by decide) ?_
        refine lv_iload_n hx hb dX3_prizeOfPlace_79 rfl (lv_at hl 1 rfl) ?_
        exact q_iret hx hb hr hlk dX3_prizeOfPlace_80 (by simp only [prpS, secS, thiS, if_pos c_10, if_neg c_30, if_neg w_47_1, if_pos w_47_2])
      by_cases w_47_3 : x = 3
      · skip
        have tx_47 : (x : Int32).toInt = 3 := by rw [w_47_3]; decide
        refine lv_tableIn (tgt := 81) (off := 34) hx hb dX3_prizeOfPlace_47 (by rw [tx_47]; decide) (by rw [tx_47]; decide) (by rw [tx_47]; rfl) (by decide) ?_
        refine lv_iload hx hb dX3_prizeOfPlace_81 (lv_at hl 0 rfl) ?_
        exact q_iret hx hb hr hlk dX3_prizeOfPlace_83 (by simp only [prpS, secS, thiS, if_pos c_10, if_neg c_30, if_neg w_47_1, if_neg w_47_2, if_pos w_47_3])
      have tw_47 := q_tab (n := 3) (lo := 1) (x := x) (by decide) (lt_s (p := fun k => ¬ x = nI (k + 1)) (lt_s (p := fun k => ¬ x = nI (k + 1)) (lt_s (p := fun k => ¬ x = nI (k + 1)) (lt_0) w_47_1) w_47_2) w_47_3)
      refine lv_tableOut (tgt := 84) hx hb dX3_prizeOfPlace_47 (by omega) (by decide) ?_
      refine lv_iconst (v := 0) hx hb dX3_prizeOfPlace_84 (by decide) ?_
      exact q_iret hx hb hr hlk dX3_prizeOfPlace_85 (by simp only [prpS, secS, thiS, if_pos c_10, if_neg c_30, if_neg w_47_1, if_neg w_47_2, if_neg w_47_3])
  · skip
    refine lv_iload_n hx hb dX3_prizeOfPlace_13 rfl (lv_at hl 0 rfl) ?_
    refine lv_bipush (v := 30) hx hb dX3_prizeOfPlace_14 (by decide) ?_
    refine lv_imul hx hb dX3_prizeOfPlace_16 ?_
    refine lv_bipush (v := 100) hx hb dX3_prizeOfPlace_17 (by decide) ?_
    refine lv_idiv hx hb dX3_prizeOfPlace_19 (by decide) ?_
    refine lv_goto (tgt := 24) hx hb dX3_prizeOfPlace_20 (by decide) ?_
    refine lv_istore_n (lv' := [(3, .int (((potS S) * 30) / 100)), (2, .int (potS S)), (0, .ref (q 0)), (1, .int x)]) hx hb dX3_prizeOfPlace_24 rfl hl (by decide) rfl (fun ls hl => ?_)
    refine lv_aload_n hx hb dX3_prizeOfPlace_25 rfl (lv_at hl 2 rfl) ?_
    refine va_get (D := g.1) (ci := 2) (v := .int (nI (s_n S))) (C := RX3) (T := TX3) (N := 12) hx hb hts hi_X3 hown hK hP 0 rfl rfl 10 (by decide) fl_66 (fun _ h9 => h9) rfl dX3_prizeOfPlace_26 ?_
    refine lv_iconst (v := 3) hx hb dX3_prizeOfPlace_29 (by decide) ?_
    refine lv_icmp_lt (tgt := 43) hx hb dX3_prizeOfPlace_30 (by decide) (fun c_30 => ?_) (fun c_30 => ?_)
    · skip
      refine lv_iconst (v := 0) hx hb dX3_prizeOfPlace_43 (by decide) ?_
      refine lv_istore (lv' := [(4, .int 0), (3, .int (((potS S) * 30) / 100)), (2, .int (potS S)), (0, .ref (q 0)), (1, .int x)]) hx hb dX3_prizeOfPlace_44 hl (by decide) rfl (fun ls hl => ?_)
      refine lv_iload_n hx hb dX3_prizeOfPlace_46 rfl (lv_at hl 4 rfl) ?_
      by_cases w_47_1 : x = 1
      · skip
        have tx_47 : (x : Int32).toInt = 1 := by rw [w_47_1]; decide
        refine lv_tableIn (tgt := 72) (off := 25) hx hb dX3_prizeOfPlace_47 (by rw [tx_47]; decide) (by rw [tx_47]; decide) (by rw [tx_47]; rfl) (by decide) ?_
        refine lv_iload_n hx hb dX3_prizeOfPlace_72 rfl (lv_at hl 2 rfl) ?_
        refine lv_iload_n hx hb dX3_prizeOfPlace_73 rfl (lv_at hl 1 rfl) ?_
        refine lv_isub hx hb dX3_prizeOfPlace_74 ?_
        refine lv_iload hx hb dX3_prizeOfPlace_75 (lv_at hl 0 rfl) ?_
        refine lv_isub hx hb dX3_prizeOfPlace_77 ?_
        exact q_iret hx hb hr hlk dX3_prizeOfPlace_78 (by simp only [prpS, secS, thiS, if_neg c_10, if_pos c_30, if_pos w_47_1])
      by_cases w_47_2 : x = 2
      · skip
        have tx_47 : (x : Int32).toInt = 2 := by rw [w_47_2]; decide
        refine lv_tableIn (tgt := 79) (off := 32) hx hb dX3_prizeOfPlace_47 (by rw [tx_47]; decide) (by rw [tx_47]; decide) (by rw [tx_47]; rfl) (by decide) ?_
        refine lv_iload_n hx hb dX3_prizeOfPlace_79 rfl (lv_at hl 1 rfl) ?_
        exact q_iret hx hb hr hlk dX3_prizeOfPlace_80 (by simp only [prpS, secS, thiS, if_neg c_10, if_pos c_30, if_neg w_47_1, if_pos w_47_2])
      by_cases w_47_3 : x = 3
      · skip
        have tx_47 : (x : Int32).toInt = 3 := by rw [w_47_3]; decide
        refine lv_tableIn (tgt := 81) (off := 34) hx hb dX3_prizeOfPlace_47 (by rw [tx_47]; decide) (by rw [tx_47]; decide) (by rw [tx_47]; rfl) (by decide) ?_
        refine lv_iload hx hb dX3_prizeOfPlace_81 (lv_at hl 0 rfl) ?_
        exact q_iret hx hb hr hlk dX3_prizeOfPlace_83 (by simp only [prpS, secS, thiS, if_neg c_10, if_pos c_30, if_neg w_47_1, if_neg w_47_2, if_pos w_47_3])
      have tw_47 := q_tab (n := 3) (lo := 1) (x := x) (by decide) (lt_s (p := fun k => ¬ x = nI (k + 1)) (lt_s (p := fun k => ¬ x = nI (k + 1)) (lt_s (p := fun k => ¬ x = nI (k + 1)) (lt_0) w_47_1) w_47_2) w_47_3)
      refine lv_tableOut (tgt := 84) hx hb dX3_prizeOfPlace_47 (by omega) (by decide) ?_
      refine lv_iconst (v := 0) hx hb dX3_prizeOfPlace_84 (by decide) ?_
      exact q_iret hx hb hr hlk dX3_prizeOfPlace_85 (by simp only [prpS, secS, thiS, if_neg c_10, if_pos c_30, if_neg w_47_1, if_neg w_47_2, if_neg w_47_3])
    · skip
      refine lv_iload_n hx hb dX3_prizeOfPlace_33 rfl (lv_at hl 1 rfl) ?_
      refine lv_bipush (v := 10) hx hb dX3_prizeOfPlace_34 (by decide) ?_
      refine lv_imul hx hb dX3_prizeOfPlace_36 ?_
      refine lv_bipush (v := 100) hx hb dX3_prizeOfPlace_37 (by decide) ?_
      refine lv_idiv hx hb dX3_prizeOfPlace_39 (by decide) ?_
      refine lv_goto (tgt := 44) hx hb dX3_prizeOfPlace_40 (by decide) ?_
      refine lv_istore (lv' := [(4, .int (((potS S) * 10) / 100)), (3, .int (((potS S) * 30) / 100)), (2, .int (potS S)), (0, .ref (q 0)), (1, .int x)]) hx hb dX3_prizeOfPlace_44 hl (by decide) rfl (fun ls hl => ?_)
      refine lv_iload_n hx hb dX3_prizeOfPlace_46 rfl (lv_at hl 4 rfl) ?_
      by_cases w_47_1 : x = 1
      · skip
        have tx_47 : (x : Int32).toInt = 1 := by rw [w_47_1]; decide
        refine lv_tableIn (tgt := 72) (off := 25) hx hb dX3_prizeOfPlace_47 (by rw [tx_47]; decide) (by rw [tx_47]; decide) (by rw [tx_47]; rfl) (by decide) ?_
        refine lv_iload_n hx hb dX3_prizeOfPlace_72 rfl (lv_at hl 2 rfl) ?_
        refine lv_iload_n hx hb dX3_prizeOfPlace_73 rfl (lv_at hl 1 rfl) ?_
        refine lv_isub hx hb dX3_prizeOfPlace_74 ?_
        refine lv_iload hx hb dX3_prizeOfPlace_75 (lv_at hl 0 rfl) ?_
        refine lv_isub hx hb dX3_prizeOfPlace_77 ?_
        exact q_iret hx hb hr hlk dX3_prizeOfPlace_78 (by simp only [prpS, secS, thiS, if_neg c_10, if_neg c_30, if_pos w_47_1])
      by_cases w_47_2 : x = 2
      · skip
        have tx_47 : (x : Int32).toInt = 2 := by rw [w_47_2]; decide
        refine lv_tableIn (tgt := 79) (off := 32) hx hb dX3_prizeOfPlace_47 (by rw [tx_47]; decide) (by rw [tx_47]; decide) (by rw [tx_47]; rfl) (by decide) ?_
        refine lv_iload_n hx hb dX3_prizeOfPlace_79 rfl (lv_at hl 1 rfl) ?_
        exact q_iret hx hb hr hlk dX3_prizeOfPlace_80 (by simp only [prpS, secS, thiS, if_neg c_10, if_neg c_30, if_neg w_47_1, if_pos w_47_2])
      by_cases w_47_3 : x = 3
      · skip
        have tx_47 : (x : Int32).toInt = 3 := by rw [w_47_3]; decide
        refine lv_tableIn (tgt := 81) (off := 34) hx hb dX3_prizeOfPlace_47 (by rw [tx_47]; decide) (by rw [tx_47]; decide) (by rw [tx_47]; rfl) (by decide) ?_
        refine lv_iload hx hb dX3_prizeOfPlace_81 (lv_at hl 0 rfl) ?_
        exact q_iret hx hb hr hlk dX3_prizeOfPlace_83 (by simp only [prpS, secS, thiS, if_neg c_10, if_neg c_30, if_neg w_47_1, if_neg w_47_2, if_pos w_47_3])
      have tw_47 := q_tab (n := 3) (lo := 1) (x := x) (by decide) (lt_s (p := fun k => ¬ x = nI (k + 1)) (lt_s (p := fun k => ¬ x = nI (k + 1)) (lt_s (p := fun k => ¬ x = nI (k + 1)) (lt_0) w_47_1) w_47_2) w_47_3)
      refine lv_tableOut (tgt := 84) hx hb dX3_prizeOfPlace_47 (by omega) (by decide) ?_
      refine lv_iconst (v := 0) hx hb dX3_prizeOfPlace_84 (by decide) ?_
      exact q_iret hx hb hr hlk dX3_prizeOfPlace_85 (by simp only [prpS, secS, thiS, if_neg c_10, if_neg c_30, if_neg w_47_1, if_neg w_47_2, if_neg w_47_3])
end
section
set_option maxHeartbeats 4000000 in
set_option maxRecDepth 100000 in
theorem c_X3_prizeOf (l : Launch) (g : q_G) (q : Nat → Nat) (S : q_St) (t : Nat) (h1_ : t < 10) (h2_ : s_n S ≤ 10) (h3_ : t ≤ s_n S) : q_PM l yX3_prizeOf wsX3_prizeOf { frames := 5, cells := 0, slots := 0, locals := 115 } [.ref (q 0), .int (nI t)] (q_B g (q_stW g q S)) (.int (przS S t)) := by
  refine q_pm (cc := cX3_prizeOf) (maxL := 7) (ret := (some .int)) (by decide) rfl (Nat.le_of_ble_eq_true rfl) ?_
  intro p e s m args below meth c ls hx hb hml hown hts hr hlk hB hl
  obtain ⟨hP, hK, hN⟩ := hB
  have hl : lv_has ls 7 [(0, .ref (q 0)), (1, .int (nI t))] := hl
  have hc1 := q_cnt_le (tie1 S t) (s_n S)
  have hc2 := q_cnt_le (fun o => aheS S o t) (s_n S)
  have hsh : shrN S t ≤ 11 := by unfold shrN; omega
  have hsh1 : 1 ≤ shrN S t := by unfold shrN; omega
  have hrk : rnkS S t ≤ 11 := by unfold rnkS; omega
  refine lv_aload_n hx hb dX3_prizeOf_0 rfl (lv_at hl 0 rfl) ?_
  refine lv_iload_n hx hb dX3_prizeOf_1 rfl (lv_at hl 1 rfl) ?_
  refine q_V (As := [.int (nI t)]) (rest := []) ⟨hx, hb, hml, hown, hts⟩ (c_X3_rankOf l g q S t (by omega) (by omega)) (cwV 1 hts gX3_prizeOf_X3_rankOf rfl rfl rfl (by decide +kernel) ⟨Nat.le_of_ble_eq_true rfl, Nat.le_of_ble_eq_true rfl⟩) q_B_blind (va_recv hK hP (ci := 2) (q0 := 0) rfl rfl) (q_B_of hP hK hN) rfl hl.1 rfl (Nat.le_of_ble_eq_true rfl) dX3_prizeOf_2 (Nat.zero_le _) (Nat.zero_le _) ?_
  refine lv_istore_n (lv' := [(2, .int (nI (rnkS S t))), (0, .ref (q 0)), (1, .int (nI t))]) hx hb dX3_prizeOf_5 rfl hl (by decide) rfl (fun ls hl => ?_)
  refine lv_aload_n hx hb dX3_prizeOf_6 rfl (lv_at hl 1 rfl) ?_
  refine lv_iload_n hx hb dX3_prizeOf_7 rfl (lv_at hl 2 rfl) ?_
  refine q_V (As := [.int (nI t)]) (rest := []) ⟨hx, hb, hml, hown, hts⟩ (c_X3_tiedWith l g q S t (by omega) (by omega)) (cwV 1 hts gX3_prizeOf_X3_tiedWith rfl rfl rfl (by decide +kernel) ⟨Nat.le_of_ble_eq_true rfl, Nat.le_of_ble_eq_true rfl⟩) q_B_blind (va_recv hK hP (ci := 2) (q0 := 0) rfl rfl) (q_B_of hP hK hN) rfl hl.1 rfl (Nat.le_of_ble_eq_true rfl) dX3_prizeOf_8 (Nat.zero_le _) (Nat.zero_le _) ?_
  refine lv_istore_n (lv' := [(3, .int (tieS S t)), (2, .int (nI (rnkS S t))), (0, .ref (q 0)), (1, .int (nI t))]) hx hb dX3_prizeOf_11 rfl hl (by decide) rfl (fun ls hl => ?_)
  refine lv_iconst (v := 1) hx hb dX3_prizeOf_12 (by decide) ?_
  refine lv_iload_n hx hb dX3_prizeOf_13 rfl (lv_at hl 0 rfl) ?_
  refine q_S (As := [.int (tieS S t)]) (rest := [.int 1]) ⟨hx, hb, hml, hown, hts⟩ (c_J6_bitCount_0f7a4 l (tieS S t) ) (va_cwS 1 hts gX3_prizeOf_J6_bitCount_0f7a4 rfl rfl rfl (by decide +kernel) ⟨Nat.le_of_ble_eq_true rfl, Nat.le_of_ble_eq_true rfl⟩) q_Blind_t (fun _ _ _ => trivial) rfl hl.1 rfl (Nat.le_of_ble_eq_true rfl) dX3_prizeOf_14 (Nat.zero_le _) (Nat.zero_le _) ?_
  refine lv_iadd hx hb dX3_prizeOf_17 ?_
  refine q_reI (show ((1 + (popc (tieS S t))) : Int32) = nI (shrN S t) from by rw [tieS, q_popN (tie1 S t) (s_n S) h2_, Int32.add_comm, nI_1]; rfl) ?_
  refine lv_istore (lv' := [(4, .int (nI (shrN S t))), (3, .int (tieS S t)), (2, .int (nI (rnkS S t))), (0, .ref (q 0)), (1, .int (nI t))]) hx hb dX3_prizeOf_18 hl (by decide) rfl (fun ls hl => ?_)
  refine lv_iload hx hb dX3_prizeOf_20 (lv_at hl 0 rfl) ?_
  refine lv_iconst (v := 1) hx hb dX3_prizeOf_22 (by decide) ?_
  refine lv_icmp_ge (tgt := 28) hx hb dX3_prizeOf_23 (by decide) (fun c_23 => ?_) (fun c_23 => ?_)
  · skip
    refine lv_iconst (v := 0) hx hb dX3_prizeOf_28 (by decide) ?_
    refine lv_istore (lv' := [(5, .int 0), (4, .int (nI (shrN S t))), (3, .int (tieS S t)), (2, .int (nI (rnkS S t))), (0, .ref (q 0)), (1, .int (nI t))]) hx hb dX3_prizeOf_29 hl (by decide) rfl (fun ls hl => ?_)
    refine lv_iload_n hx hb dX3_prizeOf_31 rfl (lv_at hl 3 rfl) ?_
    refine lv_istore (lv' := [(6, .int (nI (rnkS S t))), (5, .int 0), (4, .int (nI (shrN S t))), (3, .int (tieS S t)), (2, .int (nI (rnkS S t))), (0, .ref (q 0)), (1, .int (nI t))]) hx hb dX3_prizeOf_32 hl (by decide) rfl (fun ls hl => ?_)
    have L_34 : ∀ (n i34 : Nat) (y5_34 : Int32), y5_34 = sumP S t (i34 - rnkS S t) → rnkS S t ≤ i34 → i34 ≤ rnkS S t + shrN S t → rnkS S t + shrN S t < i34 + n → ∀ ls : Array Slot, lv_has ls 7 [(6, .int (nI i34)), (5, .int y5_34), (4, .int (nI (shrN S t))), (3, .int (tieS S t)), (2, .int (nI (rnkS S t))), (0, .ref (q 0)), (1, .int (nI t))] → W p l e { frames := 5, cells := 0, slots := 0, locals := 115 } s m args below meth c s.heap [] 0 0 (MQ below (k2_QcV (.int (przS S t))) args s 0 0 (fun _ => False)) (F0 m 34 ls []) := by
      intro n
      induction n with
      | zero => intro i34 y5_34 ey5_34 hs_i34 hi_i34 hn_i34; exact absurd hn_i34 (by omega)
      | succ n ih_i34 =>
        intro i34 y5_34 ey5_34 hs_i34 hi_i34 hn_i34 ls hl
        subst ey5_34
        refine lv_iload hx hb dX3_prizeOf_34 (lv_at hl 0 rfl) ?_
        refine lv_iload_n hx hb dX3_prizeOf_36 rfl (lv_at hl 4 rfl) ?_
        refine lv_iload hx hb dX3_prizeOf_37 (lv_at hl 2 rfl) ?_
        refine lv_iadd hx hb dX3_prizeOf_39 ?_
        refine q_reI (show (((nI (rnkS S t)) + (nI (shrN S t))) : Int32) = nI (rnkS S t + shrN S t) from nI_add _ _) ?_
        refine lv_icmp_ge (tgt := 60) hx hb dX3_prizeOf_40 (by decide) (fun c_40 => ?_) (fun c_40 => ?_)
        · skip
          have e_40 : i34 = rnkS S t + shrN S t := q_ge_T (by omega) hi_i34 c_40
          subst e_40
          rw [show rnkS S t + shrN S t - rnkS S t = shrN S t from Nat.add_sub_cancel_left _ _] at hl
          refine lv_iload hx hb dX3_prizeOf_60 (lv_at hl 1 rfl) ?_
          refine lv_iload hx hb dX3_prizeOf_62 (lv_at hl 2 rfl) ?_
          refine lv_irem hx hb dX3_prizeOf_64 (nI_ne0 hsh1 (by omega)) ?_
          refine lv_istore (lv' := [(6, .int ((sumP S t (shrN S t)) - (sumP S t (shrN S t)) / (nI (shrN S t)) * (nI (shrN S t)))), (5, .int (sumP S t (shrN S t))), (4, .int (nI (shrN S t))), (3, .int (tieS S t)), (2, .int (nI (rnkS S t))), (0, .ref (q 0)), (1, .int (nI t))]) hx hb dX3_prizeOf_65 hl (by decide) rfl (fun ls hl => ?_)
          refine lv_iload hx hb dX3_prizeOf_67 (lv_at hl 1 rfl) ?_
          refine lv_iload hx hb dX3_prizeOf_69 (lv_at hl 2 rfl) ?_
          refine lv_idiv hx hb dX3_prizeOf_71 (nI_ne0 hsh1 (by omega)) ?_
          refine lv_iload_n hx hb dX3_prizeOf_72 rfl (lv_at hl 3 rfl) ?_
          refine lv_iload_n hx hb dX3_prizeOf_73 rfl (lv_at hl 6 rfl) ?_
          refine q_S (As := [.int (tieS S t), .int (nI t)]) (rest := [.int ((sumP S t (shrN S t)) / (nI (shrN S t)))]) ⟨hx, hb, hml, hown, hts⟩ (c_X3_lowerIn l (tieS S t) t ) (va_cwS 2 hts gX3_prizeOf_X3_lowerIn rfl rfl rfl (by decide +kernel) ⟨Nat.le_of_ble_eq_true rfl, Nat.le_of_ble_eq_true rfl⟩) q_Blind_t (fun _ _ _ => trivial) rfl hl.1 rfl (Nat.le_of_ble_eq_true rfl) dX3_prizeOf_74 (Nat.zero_le _) (Nat.zero_le _) ?_
          refine q_reI (show (popc (lowM (tieS S t) t) : Int32) = nI (q_cnt (tie1 S t) t) from by rw [tieS, q_lowC (tie1 S t) t (s_n S) h3_ h1_ h2_]) ?_
          refine lv_iload hx hb dX3_prizeOf_77 (lv_at hl 0 rfl) ?_
          refine lv_icmp_ge (tgt := 86) hx hb dX3_prizeOf_79 (by decide) (fun c_79 => ?_) (fun c_79 => ?_)
          · skip
            refine lv_iconst (v := 0) hx hb dX3_prizeOf_86 (by decide) ?_
            refine lv_iadd hx hb dX3_prizeOf_87 ?_
            exact q_iret hx hb hr hlk dX3_prizeOf_88 (by simp only [przS, if_pos c_23, if_pos c_79])
          · skip
            refine lv_iconst (v := 1) hx hb dX3_prizeOf_82 (by decide) ?_
            refine lv_goto (tgt := 87) hx hb dX3_prizeOf_83 (by decide) ?_
            refine lv_iadd hx hb dX3_prizeOf_87 ?_
            exact q_iret hx hb hr hlk dX3_prizeOf_88 (by simp only [przS, if_pos c_23, if_neg c_79])
        · skip
          have lt_i34 : i34 < rnkS S t + shrN S t := q_ge_F (by omega) hi_i34 c_40
          refine lv_iload hx hb dX3_prizeOf_43 (lv_at hl 1 rfl) ?_
          refine lv_aload_n hx hb dX3_prizeOf_45 rfl (lv_at hl 5 rfl) ?_
          refine lv_iload hx hb dX3_prizeOf_46 (lv_at hl 0 rfl) ?_
          refine q_V (As := [.int (nI i34)]) (rest := [.int (sumP S t (i34 - rnkS S t))]) ⟨hx, hb, hml, hown, hts⟩ (c_X3_prizeOfPlace l g q S (nI i34) (by omega)) (cwV 1 hts gX3_prizeOf_X3_prizeOfPlace rfl rfl rfl (by decide +kernel) ⟨Nat.le_of_ble_eq_true rfl, Nat.le_of_ble_eq_true rfl⟩) q_B_blind (va_recv hK hP (ci := 2) (q0 := 0) rfl rfl) (q_B_of hP hK hN) rfl hl.1 rfl (Nat.le_of_ble_eq_true rfl) dX3_prizeOf_48 (Nat.zero_le _) (Nat.zero_le _) ?_
          refine lv_iadd hx hb dX3_prizeOf_51 ?_
          refine lv_istore (lv' := [(5, .int ((sumP S t (i34 - rnkS S t)) + (prpS S (nI i34)))), (6, .int (nI i34)), (4, .int (nI (shrN S t))), (3, .int (tieS S t)), (2, .int (nI (rnkS S t))), (0, .ref (q 0)), (1, .int (nI t))]) hx hb dX3_prizeOf_52 hl (by decide) rfl (fun ls hl => ?_)
          refine lv_iinc (v := nI (i34 + 1)) (lv' := [(6, .int (nI (i34 + 1))), (5, .int ((sumP S t (i34 - rnkS S t)) + (prpS S (nI i34)))), (4, .int (nI (shrN S t))), (3, .int (tieS S t)), (2, .int (nI (rnkS S t))), (0, .ref (q 0)), (1, .int (nI t))]) hx hb dX3_prizeOf_54 hl (k := 1) rfl (nI_1 _) (by decide) rfl (fun ls hl => ?_)
          refine lv_goto (tgt := 34) hx hb dX3_prizeOf_57 (by decide) ?_
          exact ih_i34 (i34 + 1) ((sumP S t (i34 - rnkS S t)) + (prpS S (nI i34))) (q_sumP S t i34 hs_i34) (by omega) lt_i34 (by omega) ls (lv_sub hl [0, 1, 2, 3, 4, 5, 6] rfl)
    exact L_34 (rnkS S t + shrN S t + 1) (rnkS S t) 0 (by rw [Nat.sub_self]; rfl) (Nat.le_refl _) (by omega) (by omega) ls (lv_sub hl [0, 1, 2, 3, 4, 5, 6] rfl)
  · skip
    exact absurd (nI_le hsh1 (by omega) : nI 1 ≤ nI (shrN S t)) c_23

set_option maxHeartbeats 4000000 in
set_option maxRecDepth 100000 in
theorem c_X3_scoreWithJokerOn (l : Launch) (g : q_G) (q : Nat → Nat) (S : q_St) (t : Nat) (j : Nat) (h1_ : t < 10) : q_PM l yX3_scoreWithJokerOn wsX3_scoreWithJokerOn { frames := 3, cells := 0, slots := 0, locals := 65 } [.ref (q 0), .int (nI t), .int (nI j)] (q_B g (q_stW g q S)) (.int (swjS S t (nI j))) := by
  refine q_pm (cc := cX3_scoreWithJokerOn) (maxL := 6) (ret := (some .int)) (by decide) rfl (Nat.le_of_ble_eq_true rfl) ?_
  intro p e s m args below meth c ls hx hb hml hown hts hr hlk hB hl
  obtain ⟨hP, hK, hN⟩ := hB
  have fl_9 := hts (.fieldLink RX3 9 "PubQuizzes$State" "settings" "[I") (by decide +kernel)
  have fl_21 := hts (.fieldLink RX3 21 "PubQuizzes$State" "fines" "[I") (by decide +kernel)
  have hi_X3 : ∀ w ∈ u_ws RX3 TX3 12, w ∈ wsX3_scoreWithJokerOn := by decide +kernel
  have hl : lv_has ls 6 [(0, .ref (q 0)), (1, .int (nI t)), (2, .int (nI j))] := hl
  refine lv_aload_n hx hb dX3_scoreWithJokerOn_0 rfl (lv_at hl 0 rfl) ?_
  refine va_get (D := g.1) (ci := 2) (v := .ref (q 1)) (C := RX3) (T := TX3) (N := 12) hx hb hts hi_X3 hown hK hP 0 rfl rfl 0 (by decide) fl_9 (fun _ h9 => h9) rfl dX3_scoreWithJokerOn_1 ?_
  refine lv_iconst (v := 3) hx hb dX3_scoreWithJokerOn_4 (by decide) ?_
  refine q_iald (j := 3) hx hb hK hP 1 0 rfl rfl (by omega) (by decide) dX3_scoreWithJokerOn_5 ?_
  refine lv_ineg hx hb dX3_scoreWithJokerOn_6 ?_
  refine lv_aload_n hx hb dX3_scoreWithJokerOn_7 rfl (lv_at hl 0 rfl) ?_
  refine va_get (D := g.1) (ci := 2) (v := .ref (q 4)) (C := RX3) (T := TX3) (N := 12) hx hb hts hi_X3 hown hK hP 0 rfl rfl 3 (by decide) fl_21 (fun _ h9 => h9) rfl dX3_scoreWithJokerOn_8 ?_
  refine lv_iload_n hx hb dX3_scoreWithJokerOn_11 rfl (lv_at hl 1 rfl) ?_
  refine q_iald (j := t) hx hb hK hP 4 0 rfl rfl (by omega) (by decide) dX3_scoreWithJokerOn_12 ?_
  refine lv_imul hx hb dX3_scoreWithJokerOn_13 ?_
  refine lv_istore_n (lv' := [(3, .int ((-(s_set S 3)) * (s_fin S t))), (0, .ref (q 0)), (1, .int (nI t)), (2, .int (nI j))]) hx hb dX3_scoreWithJokerOn_14 rfl hl (by decide) rfl (fun ls hl => ?_)
  refine lv_iconst (v := 0) hx hb dX3_scoreWithJokerOn_15 (by decide) ?_
  refine lv_istore (lv' := [(4, .int 0), (3, .int ((-(s_set S 3)) * (s_fin S t))), (0, .ref (q 0)), (1, .int (nI t)), (2, .int (nI j))]) hx hb dX3_scoreWithJokerOn_16 hl (by decide) rfl (fun ls hl => ?_)
  have L_18 : ∀ (n i18 : Nat) (y3_18 : Int32), y3_18 = q_acc (fineS S t) (wjS S t (nI j)) i18 → i18 ≤ 8 → 8 < i18 + n → ∀ ls : Array Slot, lv_has ls 6 [(4, .int (nI i18)), (3, .int y3_18), (0, .ref (q 0)), (1, .int (nI t)), (2, .int (nI j))] → W p l e { frames := 3, cells := 0, slots := 0, locals := 65 } s m args below meth c s.heap [] 0 0 (MQ below (k2_QcV (.int (swjS S t (nI j)))) args s 0 0 (fun _ => False)) (F0 m 18 ls []) := by
    intro n
    induction n with
    | zero => intro i18 y3_18 ey3_18 hi_i18 hn_i18; exact absurd hn_i18 (by omega)
    | succ n ih_i18 =>
      intro i18 y3_18 ey3_18 hi_i18 hn_i18 ls hl
      subst ey3_18
      refine lv_iload hx hb dX3_scoreWithJokerOn_18 (lv_at hl 0 rfl) ?_
      refine lv_bipush (v := 8) hx hb dX3_scoreWithJokerOn_20 (by decide) ?_
      refine lv_icmp_ge (tgt := 72) hx hb dX3_scoreWithJokerOn_22 (by decide) (fun c_22 => ?_) (fun c_22 => ?_)
      · skip
        have e_22 : i18 = 8 := q_ge_T (by omega) hi_i18 c_22
        subst e_22
        refine lv_iload_n hx hb dX3_scoreWithJokerOn_72 rfl (lv_at hl 1 rfl) ?_
        exact q_iret hx hb hr hlk dX3_scoreWithJokerOn_73 (rfl)
      · skip
        have lt_i18 : i18 < 8 := q_ge_F (by omega) hi_i18 c_22
        refine lv_aload_n hx hb dX3_scoreWithJokerOn_25 rfl (lv_at hl 2 rfl) ?_
        refine lv_iload_n hx hb dX3_scoreWithJokerOn_26 rfl (lv_at hl 3 rfl) ?_
        refine lv_iload hx hb dX3_scoreWithJokerOn_27 (lv_at hl 0 rfl) ?_
        refine q_V (As := [.int (nI t), .int (nI i18)]) (rest := []) ⟨hx, hb, hml, hown, hts⟩ (c_X3_isTold l g q S t i18 (by omega) (by omega)) (cwV 2 hts gX3_scoreWithJokerOn_X3_isTold rfl rfl rfl (by decide +kernel) ⟨Nat.le_of_ble_eq_true rfl, Nat.le_of_ble_eq_true rfl⟩) q_B_blind (va_recv hK hP (ci := 2) (q0 := 0) rfl rfl) (q_B_of hP hK hN) rfl hl.1 rfl (Nat.le_of_ble_eq_true rfl) dX3_scoreWithJokerOn_29 (Nat.zero_le _) (Nat.zero_le _) ?_
        refine lv_if_eq (tgt := 45) hx hb dX3_scoreWithJokerOn_32 (by decide) (fun c_32 => ?_) (fun c_32 => ?_)
        · skip
          have c_32 : (tldS S t i18) = false := bI_eq c_32
          refine lv_iconst (v := 0) hx hb dX3_scoreWithJokerOn_45 (by decide) ?_
          refine lv_istore (lv' := [(5, .int 0), (4, .int (nI i18)), (3, .int (q_acc (fineS S t) (wjS S t (nI j)) i18)), (0, .ref (q 0)), (1, .int (nI t)), (2, .int (nI j))]) hx hb dX3_scoreWithJokerOn_46 hl (by decide) rfl (fun ls hl => ?_)
          refine lv_iload_n hx hb dX3_scoreWithJokerOn_48 rfl (lv_at hl 2 rfl) ?_
          refine lv_iload hx hb dX3_scoreWithJokerOn_49 (lv_at hl 1 rfl) ?_
          refine lv_iload_n hx hb dX3_scoreWithJokerOn_51 rfl (lv_at hl 5 rfl) ?_
          refine lv_icmp_ne (tgt := 62) hx hb dX3_scoreWithJokerOn_52 (by decide) (fun c_52 => ?_) (fun c_52 => ?_)
          · skip
            refine lv_iload hx hb dX3_scoreWithJokerOn_62 (lv_at hl 0 rfl) ?_
            refine lv_iadd hx hb dX3_scoreWithJokerOn_64 ?_
            refine lv_istore_n (lv' := [(3, .int ((q_acc (fineS S t) (wjS S t (nI j)) i18) + 0)), (5, .int 0), (4, .int (nI i18)), (0, .ref (q 0)), (1, .int (nI t)), (2, .int (nI j))]) hx hb dX3_scoreWithJokerOn_65 rfl hl (by decide) rfl (fun ls hl => ?_)
            refine lv_iinc (v := nI (i18 + 1)) (lv' := [(4, .int (nI (i18 + 1))), (3, .int ((q_acc (fineS S t) (wjS S t (nI j)) i18) + 0)), (5, .int 0), (0, .ref (q 0)), (1, .int (nI t)), (2, .int (nI j))]) hx hb dX3_scoreWithJokerOn_66 hl (k := 2) rfl (nI_1 _) (by decide) rfl (fun ls hl => ?_)
            refine lv_goto (tgt := 18) hx hb dX3_scoreWithJokerOn_69 (by decide) ?_
            exact ih_i18 (i18 + 1) ((q_acc (fineS S t) (wjS S t (nI j)) i18) + 0) (by first | rfl | simp [q_acc, q_or, q_cnt, q_any, nI_1, wjS, c_32, c_52]) lt_i18 (by omega) ls (lv_sub hl [0, 1, 3, 4, 5] rfl)
          · skip
            refine lv_iconst (v := 2) hx hb dX3_scoreWithJokerOn_55 (by decide) ?_
            refine lv_iload hx hb dX3_scoreWithJokerOn_56 (lv_at hl 0 rfl) ?_
            refine lv_imul hx hb dX3_scoreWithJokerOn_58 ?_
            refine lv_goto (tgt := 64) hx hb dX3_scoreWithJokerOn_59 (by decide) ?_
            refine lv_iadd hx hb dX3_scoreWithJokerOn_64 ?_
            refine lv_istore_n (lv' := [(3, .int ((q_acc (fineS S t) (wjS S t (nI j)) i18) + (2 * 0))), (5, .int 0), (4, .int (nI i18)), (0, .ref (q 0)), (1, .int (nI t)), (2, .int (nI j))]) hx hb dX3_scoreWithJokerOn_65 rfl hl (by decide) rfl (fun ls hl => ?_)
            refine lv_iinc (v := nI (i18 + 1)) (lv' := [(4, .int (nI (i18 + 1))), (3, .int ((q_acc (fineS S t) (wjS S t (nI j)) i18) + (2 * 0))), (5, .int 0), (0, .ref (q 0)), (1, .int (nI t)), (2, .int (nI j))]) hx hb dX3_scoreWithJokerOn_66 hl (k := 2) rfl (nI_1 _) (by decide) rfl (fun ls hl => ?_)
            refine lv_goto (tgt := 18) hx hb dX3_scoreWithJokerOn_69 (by decide) ?_
            exact ih_i18 (i18 + 1) ((q_acc (fineS S t) (wjS S t (nI j)) i18) + (2 * 0)) (by first | rfl | simp [q_acc, q_or, q_cnt, q_any, nI_1, wjS, c_32, c_52]) lt_i18 (by omega) ls (lv_sub hl [0, 1, 3, 4, 5] rfl)
        · skip
          have c_32 : (tldS S t i18) = true := bI_ne c_32
          refine lv_aload_n hx hb dX3_scoreWithJokerOn_35 rfl (lv_at hl 2 rfl) ?_
          refine lv_iload_n hx hb dX3_scoreWithJokerOn_36 rfl (lv_at hl 3 rfl) ?_
          refine lv_iload hx hb dX3_scoreWithJokerOn_37 (lv_at hl 0 rfl) ?_
          refine q_V (As := [.int (nI t), .int (nI i18)]) (rest := []) ⟨hx, hb, hml, hown, hts⟩ (c_X3_markOf l g q S t i18 (by omega) (by omega)) (cwV 2 hts gX3_scoreWithJokerOn_X3_markOf rfl rfl rfl (by decide +kernel) ⟨Nat.le_of_ble_eq_true rfl, Nat.le_of_ble_eq_true rfl⟩) q_B_blind (va_recv hK hP (ci := 2) (q0 := 0) rfl rfl) (q_B_of hP hK hN) rfl hl.1 rfl (Nat.le_of_ble_eq_true rfl) dX3_scoreWithJokerOn_39 (Nat.zero_le _) (Nat.zero_le _) ?_
          refine lv_goto (tgt := 46) hx hb dX3_scoreWithJokerOn_42 (by decide) ?_
          refine lv_istore (lv' := [(5, .int (s_mar S (t * 8 + i18))), (4, .int (nI i18)), (3, .int (q_acc (fineS S t) (wjS S t (nI j)) i18)), (0, .ref (q 0)), (1, .int (nI t)), (2, .int (nI j))]) hx hb dX3_scoreWithJokerOn_46 hl (by decide) rfl (fun ls hl => ?_)
          refine lv_iload_n hx hb dX3_scoreWithJokerOn_48 rfl (lv_at hl 2 rfl) ?_
          refine lv_iload hx hb dX3_scoreWithJokerOn_49 (lv_at hl 1 rfl) ?_
          refine lv_iload_n hx hb dX3_scoreWithJokerOn_51 rfl (lv_at hl 5 rfl) ?_
          refine lv_icmp_ne (tgt := 62) hx hb dX3_scoreWithJokerOn_52 (by decide) (fun c_52 => ?_) (fun c_52 => ?_)
          · skip
            refine lv_iload hx hb dX3_scoreWithJokerOn_62 (lv_at hl 0 rfl) ?_
            refine lv_iadd hx hb dX3_scoreWithJokerOn_64 ?_
            refine lv_istore_n (lv' := [(3, .int ((q_acc (fineS S t) (wjS S t (nI j)) i18) + (s_mar S (t * 8 + i18)))), (5, .int (s_mar S (t * 8 + i18))), (4, .int (nI i18)), (0, .ref (q 0)), (1, .int (nI t)), (2, .int (nI j))]) hx hb dX3_scoreWithJokerOn_65 rfl hl (by decide) rfl (fun ls hl => ?_)
            refine lv_iinc (v := nI (i18 + 1)) (lv' := [(4, .int (nI (i18 + 1))), (3, .int ((q_acc (fineS S t) (wjS S t (nI j)) i18) + (s_mar S (t * 8 + i18)))), (5, .int (s_mar S (t * 8 + i18))), (0, .ref (q 0)), (1, .int (nI t)), (2, .int (nI j))]) hx hb dX3_scoreWithJokerOn_66 hl (k := 2) rfl (nI_1 _) (by decide) rfl (fun ls hl => ?_)
            refine lv_goto (tgt := 18) hx hb dX3_scoreWithJokerOn_69 (by decide) ?_
            exact ih_i18 (i18 + 1) ((q_acc (fineS S t) (wjS S t (nI j)) i18) + (s_mar S (t * 8 + i18))) (by first | rfl | simp [q_acc, q_or, q_cnt, q_any, nI_1, wjS, c_32, c_52]) lt_i18 (by omega) ls (lv_sub hl [0, 1, 3, 4, 5] rfl)
          · skip
            refine lv_iconst (v := 2) hx hb dX3_scoreWithJokerOn_55 (by decide) ?_
            refine lv_iload hx hb dX3_scoreWithJokerOn_56 (lv_at hl 0 rfl) ?_
            refine lv_imul hx hb dX3_scoreWithJokerOn_58 ?_
            refine lv_goto (tgt := 64) hx hb dX3_scoreWithJokerOn_59 (by decide) ?_
            refine lv_iadd hx hb dX3_scoreWithJokerOn_64 ?_
            refine lv_istore_n (lv' := [(3, .int ((q_acc (fineS S t) (wjS S t (nI j)) i18) + (2 * (s_mar S (t * 8 + i18))))), (5, .int (s_mar S (t * 8 + i18))), (4, .int (nI i18)), (0, .ref (q 0)), (1, .int (nI t)), (2, .int (nI j))]) hx hb dX3_scoreWithJokerOn_65 rfl hl (by decide) rfl (fun ls hl => ?_)
            refine lv_iinc (v := nI (i18 + 1)) (lv' := [(4, .int (nI (i18 + 1))), (3, .int ((q_acc (fineS S t) (wjS S t (nI j)) i18) + (2 * (s_mar S (t * 8 + i18))))), (5, .int (s_mar S (t * 8 + i18))), (0, .ref (q 0)), (1, .int (nI t)), (2, .int (nI j))]) hx hb dX3_scoreWithJokerOn_66 hl (k := 2) rfl (nI_1 _) (by decide) rfl (fun ls hl => ?_)
            refine lv_goto (tgt := 18) hx hb dX3_scoreWithJokerOn_69 (by decide) ?_
            exact ih_i18 (i18 + 1) ((q_acc (fineS S t) (wjS S t (nI j)) i18) + (2 * (s_mar S (t * 8 + i18)))) (by first | rfl | simp [q_acc, q_or, q_cnt, q_any, nI_1, wjS, c_32, c_52]) lt_i18 (by omega) ls (lv_sub hl [0, 1, 3, 4, 5] rfl)
  exact L_18 (8 + 1) 0 ((-(s_set S 3)) * (s_fin S t)) (rfl) (Nat.zero_le _) (by omega) ls (lv_sub hl [0, 1, 2, 3, 4] rfl)

set_option maxHeartbeats 4000000 in
set_option maxRecDepth 100000 in
theorem c_X3_bestRound (l : Launch) (g : q_G) (q : Nat → Nat) (S : q_St) (t : Nat) (h1_ : t < 10) : q_PM l yX3_bestRound wsX3_bestRound { frames := 4, cells := 0, slots := 0, locals := 90 } [.ref (q 0), .int (nI t)] (q_B g (q_stW g q S)) (.int (nI (besS S t 8))) := by
  refine q_pm (cc := cX3_bestRound) (maxL := 4) (ret := (some .int)) (by decide) rfl (Nat.le_of_ble_eq_true rfl) ?_
  intro p e s m args below meth c ls hx hb hml hown hts hr hlk hB hl
  obtain ⟨hP, hK, hN⟩ := hB
  have hl : lv_has ls 4 [(0, .ref (q 0)), (1, .int (nI t))] := hl
  refine lv_iconst (v := 0) hx hb dX3_bestRound_0 (by decide) ?_
  refine lv_istore_n (lv' := [(2, .int 0), (0, .ref (q 0)), (1, .int (nI t))]) hx hb dX3_bestRound_1 rfl hl (by decide) rfl (fun ls hl => ?_)
  refine lv_iconst (v := 1) hx hb dX3_bestRound_2 (by decide) ?_
  refine lv_istore_n (lv' := [(3, .int 1), (2, .int 0), (0, .ref (q 0)), (1, .int (nI t))]) hx hb dX3_bestRound_3 rfl hl (by decide) rfl (fun ls hl => ?_)
  have L_4 : ∀ (n i4 : Nat) (y2_4 : Int32), y2_4 = nI (besS S t i4) → 1 ≤ i4 → i4 ≤ 8 → 8 < i4 + n → ∀ ls : Array Slot, lv_has ls 4 [(3, .int (nI i4)), (2, .int y2_4), (0, .ref (q 0)), (1, .int (nI t))] → W p l e { frames := 4, cells := 0, slots := 0, locals := 90 } s m args below meth c s.heap [] 0 0 (MQ below (k2_QcV (.int (nI (besS S t 8)))) args s 0 0 (fun _ => False)) (F0 m 4 ls []) := by
    intro n
    induction n with
    | zero => intro i4 y2_4 ey2_4 hs_i4 hi_i4 hn_i4; exact absurd hn_i4 (by omega)
    | succ n ih_i4 =>
      intro i4 y2_4 ey2_4 hs_i4 hi_i4 hn_i4 ls hl
      subst ey2_4
      refine lv_iload_n hx hb dX3_bestRound_4 rfl (lv_at hl 0 rfl) ?_
      refine lv_bipush (v := 8) hx hb dX3_bestRound_5 (by decide) ?_
      refine lv_icmp_ge (tgt := 33) hx hb dX3_bestRound_7 (by decide) (fun c_7 => ?_) (fun c_7 => ?_)
      · skip
        have e_7 : i4 = 8 := q_ge_T (by omega) hi_i4 c_7
        subst e_7
        refine lv_iload_n hx hb dX3_bestRound_33 rfl (lv_at hl 1 rfl) ?_
        exact q_iret hx hb hr hlk dX3_bestRound_34 (rfl)
      · skip
        have lt_i4 : i4 < 8 := q_ge_F (by omega) hi_i4 c_7
        refine lv_aload_n hx hb dX3_bestRound_10 rfl (lv_at hl 2 rfl) ?_
        refine lv_iload_n hx hb dX3_bestRound_11 rfl (lv_at hl 3 rfl) ?_
        refine lv_iload_n hx hb dX3_bestRound_12 rfl (lv_at hl 0 rfl) ?_
        refine q_V (As := [.int (nI t), .int (nI i4)]) (rest := []) ⟨hx, hb, hml, hown, hts⟩ (c_X3_scoreWithJokerOn l g q S t i4 (by omega)) (cwV 2 hts gX3_bestRound_X3_scoreWithJokerOn rfl rfl rfl (by decide +kernel) ⟨Nat.le_of_ble_eq_true rfl, Nat.le_of_ble_eq_true rfl⟩) q_B_blind (va_recv hK hP (ci := 2) (q0 := 0) rfl rfl) (q_B_of hP hK hN) rfl hl.1 rfl (Nat.le_of_ble_eq_true rfl) dX3_bestRound_13 (Nat.zero_le _) (Nat.zero_le _) ?_
        refine lv_aload_n hx hb dX3_bestRound_16 rfl (lv_at hl 2 rfl) ?_
        refine lv_iload_n hx hb dX3_bestRound_17 rfl (lv_at hl 3 rfl) ?_
        refine lv_iload_n hx hb dX3_bestRound_18 rfl (lv_at hl 1 rfl) ?_
        refine q_V (As := [.int (nI t), .int (nI (besS S t i4))]) (rest := [.int (swjS S t (nI i4))]) ⟨hx, hb, hml, hown, hts⟩ (c_X3_scoreWithJokerOn l g q S t (besS S t i4) (by omega)) (cwV 2 hts gX3_bestRound_X3_scoreWithJokerOn rfl rfl rfl (by decide +kernel) ⟨Nat.le_of_ble_eq_true rfl, Nat.le_of_ble_eq_true rfl⟩) q_B_blind (va_recv hK hP (ci := 2) (q0 := 0) rfl rfl) (q_B_of hP hK hN) rfl hl.1 rfl (Nat.le_of_ble_eq_true rfl) dX3_bestRound_19 (Nat.zero_le _) (Nat.zero_le _) ?_
        refine lv_icmp_le (tgt := 27) hx hb dX3_bestRound_22 (by decide) (fun c_22 => ?_) (fun c_22 => ?_)
        · skip
          refine lv_iinc (v := nI (i4 + 1)) (lv' := [(3, .int (nI (i4 + 1))), (2, .int (nI (besS S t i4))), (0, .ref (q 0)), (1, .int (nI t))]) hx hb dX3_bestRound_27 hl (k := 0) rfl (nI_1 _) (by decide) rfl (fun ls hl => ?_)
          refine lv_goto (tgt := 4) hx hb dX3_bestRound_30 (by decide) ?_
          exact ih_i4 (i4 + 1) (nI (besS S t i4)) (by simp [besS, c_22]) (by omega) lt_i4 (by omega) ls (lv_sub hl [0, 1, 2, 3] rfl)
        · skip
          refine lv_iload_n hx hb dX3_bestRound_25 rfl (lv_at hl 0 rfl) ?_
          refine lv_istore_n (lv' := [(2, .int (nI i4)), (3, .int (nI i4)), (0, .ref (q 0)), (1, .int (nI t))]) hx hb dX3_bestRound_26 rfl hl (by decide) rfl (fun ls hl => ?_)
          refine lv_iinc (v := nI (i4 + 1)) (lv' := [(3, .int (nI (i4 + 1))), (2, .int (nI i4)), (0, .ref (q 0)), (1, .int (nI t))]) hx hb dX3_bestRound_27 hl (k := 1) rfl (nI_1 _) (by decide) rfl (fun ls hl => ?_)
          refine lv_goto (tgt := 4) hx hb dX3_bestRound_30 (by decide) ?_
          exact ih_i4 (i4 + 1) (nI i4) (by simp [besS, c_22]) (by omega) lt_i4 (by omega) ls (lv_sub hl [0, 1, 2, 3] rfl)
  exact L_4 (8 + 1) 1 0 (by simp [besS]; rfl) (Nat.le_refl _) (by omega) (by omega) ls (lv_sub hl [0, 1, 2, 3] rfl)

set_option maxHeartbeats 4000000 in
set_option maxRecDepth 100000 in
theorem c_X3_canHandIn (l : Launch) (g : q_G) (q : Nat → Nat) (S : q_St) (t : Nat) (r : Nat) (h1_ : t < 10) (h2_ : r < 8) : q_PM l yX3_canHandIn wsX3_canHandIn { frames := 2, cells := 0, slots := 0, locals := 43 } [.ref (q 0), .int (nI t), .int (nI r)] (q_B g (q_stW g q S)) (.int (bI (chiS S t r))) := by
  refine q_pm (cc := cX3_canHandIn) (maxL := 3) (ret := (some .boolean)) (by decide) rfl (Nat.le_of_ble_eq_true rfl) ?_
  intro p e s m args below meth c ls hx hb hml hown hts hr hlk hB hl
  obtain ⟨hP, hK, hN⟩ := hB
  have hl : lv_has ls 3 [(0, .ref (q 0)), (1, .int (nI t)), (2, .int (nI r))] := hl
  refine lv_aload_n hx hb dX3_canHandIn_0 rfl (lv_at hl 0 rfl) ?_
  refine lv_iload_n hx hb dX3_canHandIn_1 rfl (lv_at hl 2 rfl) ?_
  refine q_V (As := [.int (nI r)]) (rest := []) ⟨hx, hb, hml, hown, hts⟩ (c_X3_isOpen l g q S r (by omega)) (cwV 1 hts gX3_canHandIn_X3_isOpen rfl rfl rfl (by decide +kernel) ⟨Nat.le_of_ble_eq_true rfl, Nat.le_of_ble_eq_true rfl⟩) q_B_blind (va_recv hK hP (ci := 2) (q0 := 0) rfl rfl) (q_B_of hP hK hN) rfl hl.1 rfl (Nat.le_of_ble_eq_true rfl) dX3_canHandIn_2 (Nat.zero_le _) (Nat.zero_le _) ?_
  refine lv_if_eq (tgt := 21) hx hb dX3_canHandIn_5 (by decide) (fun c_5 => ?_) (fun c_5 => ?_)
  · skip
    have c_5 : (isOp S r) = false := bI_eq c_5
    refine lv_iconst (v := 0) hx hb dX3_canHandIn_21 (by decide) ?_
    exact q_zret hx hb hr hlk dX3_canHandIn_22 (by first | rfl | simp [chiS, bI, c_5])
  · skip
    have c_5 : (isOp S r) = true := bI_ne c_5
    refine lv_aload_n hx hb dX3_canHandIn_8 rfl (lv_at hl 0 rfl) ?_
    refine lv_iload_n hx hb dX3_canHandIn_9 rfl (lv_at hl 1 rfl) ?_
    refine lv_iload_n hx hb dX3_canHandIn_10 rfl (lv_at hl 2 rfl) ?_
    refine q_V (As := [.int (nI t), .int (nI r)]) (rest := []) ⟨hx, hb, hml, hown, hts⟩ (c_X3_hasSheet l g q S t r (by omega) (by omega)) (cwV 2 hts gX3_canHandIn_X3_hasSheet rfl rfl rfl (by decide +kernel) ⟨Nat.le_of_ble_eq_true rfl, Nat.le_of_ble_eq_true rfl⟩) q_B_blind (va_recv hK hP (ci := 2) (q0 := 0) rfl rfl) (q_B_of hP hK hN) rfl hl.1 rfl (Nat.le_of_ble_eq_true rfl) dX3_canHandIn_11 (Nat.zero_le _) (Nat.zero_le _) ?_
    refine lv_if_ne (tgt := 21) hx hb dX3_canHandIn_14 (by decide) (fun c_14 => ?_) (fun c_14 => ?_)
    · skip
      have c_14 : (hasS S t r) = true := bI_ne c_14
      refine lv_iconst (v := 0) hx hb dX3_canHandIn_21 (by decide) ?_
      exact q_zret hx hb hr hlk dX3_canHandIn_22 (by first | rfl | simp [chiS, bI, c_5, c_14])
    · skip
      have c_14 : (hasS S t r) = false := bI_eq c_14
      refine lv_iconst (v := 1) hx hb dX3_canHandIn_17 (by decide) ?_
      refine lv_goto (tgt := 22) hx hb dX3_canHandIn_18 (by decide) ?_
      exact q_zret hx hb hr hlk dX3_canHandIn_22 (by first | rfl | simp [chiS, bI, c_5, c_14])

set_option maxHeartbeats 4000000 in
set_option maxRecDepth 100000 in
theorem c_X3_greatestMark (l : Launch) (g : q_G) (q : Nat → Nat) (S : q_St) (t : Nat) (r : Nat) (h1_ : t < 10) (h2_ : r < 8) : q_PM l yX3_greatestMark wsX3_greatestMark { frames := 3, cells := 0, slots := 0, locals := 65 } [.ref (q 0), .int (nI t), .int (nI r)] (q_B g (q_stW g q S)) (.int (gmkS S t r)) := by
  refine q_pm (cc := cX3_greatestMark) (maxL := 3) (ret := (some .int)) (by decide) rfl (Nat.le_of_ble_eq_true rfl) ?_
  intro p e s m args below meth c ls hx hb hml hown hts hr hlk hB hl
  obtain ⟨hP, hK, hN⟩ := hB
  have hl : lv_has ls 3 [(0, .ref (q 0)), (1, .int (nI t)), (2, .int (nI r))] := hl
  refine lv_aload_n hx hb dX3_greatestMark_0 rfl (lv_at hl 0 rfl) ?_
  refine lv_iload_n hx hb dX3_greatestMark_1 rfl (lv_at hl 1 rfl) ?_
  refine lv_iload_n hx hb dX3_greatestMark_2 rfl (lv_at hl 2 rfl) ?_
  refine q_V (As := [.int (nI t), .int (nI r)]) (rest := []) ⟨hx, hb, hml, hown, hts⟩ (c_X3_isTold l g q S t r (by omega) (by omega)) (cwV 2 hts gX3_greatestMark_X3_isTold rfl rfl rfl (by decide +kernel) ⟨Nat.le_of_ble_eq_true rfl, Nat.le_of_ble_eq_true rfl⟩) q_B_blind (va_recv hK hP (ci := 2) (q0 := 0) rfl rfl) (q_B_of hP hK hN) rfl hl.1 rfl (Nat.le_of_ble_eq_true rfl) dX3_greatestMark_3 (Nat.zero_le _) (Nat.zero_le _) ?_
  refine lv_if_eq (tgt := 16) hx hb dX3_greatestMark_6 (by decide) (fun c_6 => ?_) (fun c_6 => ?_)
  · skip
    have c_6 : (tldS S t r) = false := bI_eq c_6
    refine lv_aload_n hx hb dX3_greatestMark_16 rfl (lv_at hl 0 rfl) ?_
    refine lv_iload_n hx hb dX3_greatestMark_17 rfl (lv_at hl 1 rfl) ?_
    refine lv_iload_n hx hb dX3_greatestMark_18 rfl (lv_at hl 2 rfl) ?_
    refine q_V (As := [.int (nI t), .int (nI r)]) (rest := []) ⟨hx, hb, hml, hown, hts⟩ (c_X3_hasSheet l g q S t r (by omega) (by omega)) (cwV 2 hts gX3_greatestMark_X3_hasSheet rfl rfl rfl (by decide +kernel) ⟨Nat.le_of_ble_eq_true rfl, Nat.le_of_ble_eq_true rfl⟩) q_B_blind (va_recv hK hP (ci := 2) (q0 := 0) rfl rfl) (q_B_of hP hK hN) rfl hl.1 rfl (Nat.le_of_ble_eq_true rfl) dX3_greatestMark_19 (Nat.zero_le _) (Nat.zero_le _) ?_
    refine lv_if_ne (tgt := 33) hx hb dX3_greatestMark_22 (by decide) (fun c_22 => ?_) (fun c_22 => ?_)
    · skip
      have c_22 : (hasS S t r) = true := bI_ne c_22
      refine lv_bipush (v := 10) hx hb dX3_greatestMark_33 (by decide) ?_
      refine lv_goto (tgt := 39) hx hb dX3_greatestMark_35 (by decide) ?_
      exact q_iret hx hb hr hlk dX3_greatestMark_39 (by first | rfl | simp [gmkS, c_6, c_22])
    · skip
      have c_22 : (hasS S t r) = false := bI_eq c_22
      refine lv_aload_n hx hb dX3_greatestMark_25 rfl (lv_at hl 0 rfl) ?_
      refine lv_iload_n hx hb dX3_greatestMark_26 rfl (lv_at hl 2 rfl) ?_
      refine q_V (As := [.int (nI r)]) (rest := []) ⟨hx, hb, hml, hown, hts⟩ (c_X3_isOpen l g q S r (by omega)) (cwV 1 hts gX3_greatestMark_X3_isOpen rfl rfl rfl (by decide +kernel) ⟨Nat.le_of_ble_eq_true rfl, Nat.le_of_ble_eq_true rfl⟩) q_B_blind (va_recv hK hP (ci := 2) (q0 := 0) rfl rfl) (q_B_of hP hK hN) rfl hl.1 rfl (Nat.le_of_ble_eq_true rfl) dX3_greatestMark_27 (Nat.zero_le _) (Nat.zero_le _) ?_
      refine lv_if_eq (tgt := 38) hx hb dX3_greatestMark_30 (by decide) (fun c_30 => ?_) (fun c_30 => ?_)
      · skip
        have c_30 : (isOp S r) = false := bI_eq c_30
        refine lv_iconst (v := 0) hx hb dX3_greatestMark_38 (by decide) ?_
        exact q_iret hx hb hr hlk dX3_greatestMark_39 (by first | rfl | simp [gmkS, c_6, c_22, c_30])
      · skip
        have c_30 : (isOp S r) = true := bI_ne c_30
        refine lv_bipush (v := 10) hx hb dX3_greatestMark_33 (by decide) ?_
        refine lv_goto (tgt := 39) hx hb dX3_greatestMark_35 (by decide) ?_
        exact q_iret hx hb hr hlk dX3_greatestMark_39 (by first | rfl | simp [gmkS, c_6, c_22, c_30])
  · skip
    have c_6 : (tldS S t r) = true := bI_ne c_6
    refine lv_aload_n hx hb dX3_greatestMark_9 rfl (lv_at hl 0 rfl) ?_
    refine lv_iload_n hx hb dX3_greatestMark_10 rfl (lv_at hl 1 rfl) ?_
    refine lv_iload_n hx hb dX3_greatestMark_11 rfl (lv_at hl 2 rfl) ?_
    refine q_V (As := [.int (nI t), .int (nI r)]) (rest := []) ⟨hx, hb, hml, hown, hts⟩ (c_X3_markOf l g q S t r (by omega) (by omega)) (cwV 2 hts gX3_greatestMark_X3_markOf rfl rfl rfl (by decide +kernel) ⟨Nat.le_of_ble_eq_true rfl, Nat.le_of_ble_eq_true rfl⟩) q_B_blind (va_recv hK hP (ci := 2) (q0 := 0) rfl rfl) (q_B_of hP hK hN) rfl hl.1 rfl (Nat.le_of_ble_eq_true rfl) dX3_greatestMark_12 (Nat.zero_le _) (Nat.zero_le _) ?_
    exact q_iret hx hb hr hlk dX3_greatestMark_15 (by first | rfl | simp [gmkS, c_6])

set_option maxHeartbeats 4000000 in
set_option maxRecDepth 100000 in
theorem c_X3_greatestScore (l : Launch) (g : q_G) (q : Nat → Nat) (S : q_St) (t : Nat) (h1_ : t < 10) : q_PM l yX3_greatestScore wsX3_greatestScore { frames := 4, cells := 0, slots := 0, locals := 87 } [.ref (q 0), .int (nI t)] (q_B g (q_stW g q S)) (.int (gscS S t)) := by
  refine q_pm (cc := cX3_greatestScore) (maxL := 5) (ret := (some .int)) (by decide) rfl (Nat.le_of_ble_eq_true rfl) ?_
  intro p e s m args below meth c ls hx hb hml hown hts hr hlk hB hl
  obtain ⟨hP, hK, hN⟩ := hB
  have fl_9 := hts (.fieldLink RX3 9 "PubQuizzes$State" "settings" "[I") (by decide +kernel)
  have fl_18 := hts (.fieldLink RX3 18 "PubQuizzes$State" "jokers" "[I") (by decide +kernel)
  have fl_21 := hts (.fieldLink RX3 21 "PubQuizzes$State" "fines" "[I") (by decide +kernel)
  have hi_X3 : ∀ w ∈ u_ws RX3 TX3 12, w ∈ wsX3_greatestScore := by decide +kernel
  have hl : lv_has ls 5 [(0, .ref (q 0)), (1, .int (nI t))] := hl
  refine lv_aload_n hx hb dX3_greatestScore_0 rfl (lv_at hl 0 rfl) ?_
  refine va_get (D := g.1) (ci := 2) (v := .ref (q 1)) (C := RX3) (T := TX3) (N := 12) hx hb hts hi_X3 hown hK hP 0 rfl rfl 0 (by decide) fl_9 (fun _ h9 => h9) rfl dX3_greatestScore_1 ?_
  refine lv_iconst (v := 3) hx hb dX3_greatestScore_4 (by decide) ?_
  refine q_iald (j := 3) hx hb hK hP 1 0 rfl rfl (by omega) (by decide) dX3_greatestScore_5 ?_
  refine lv_ineg hx hb dX3_greatestScore_6 ?_
  refine lv_aload_n hx hb dX3_greatestScore_7 rfl (lv_at hl 0 rfl) ?_
  refine va_get (D := g.1) (ci := 2) (v := .ref (q 4)) (C := RX3) (T := TX3) (N := 12) hx hb hts hi_X3 hown hK hP 0 rfl rfl 3 (by decide) fl_21 (fun _ h9 => h9) rfl dX3_greatestScore_8 ?_
  refine lv_iload_n hx hb dX3_greatestScore_11 rfl (lv_at hl 1 rfl) ?_
  refine q_iald (j := t) hx hb hK hP 4 0 rfl rfl (by omega) (by decide) dX3_greatestScore_12 ?_
  refine lv_imul hx hb dX3_greatestScore_13 ?_
  refine lv_istore_n (lv' := [(2, .int ((-(s_set S 3)) * (s_fin S t))), (0, .ref (q 0)), (1, .int (nI t))]) hx hb dX3_greatestScore_14 rfl hl (by decide) rfl (fun ls hl => ?_)
  refine lv_iconst (v := 0) hx hb dX3_greatestScore_15 (by decide) ?_
  refine lv_istore_n (lv' := [(3, .int 0), (2, .int ((-(s_set S 3)) * (s_fin S t))), (0, .ref (q 0)), (1, .int (nI t))]) hx hb dX3_greatestScore_16 rfl hl (by decide) rfl (fun ls hl => ?_)
  refine lv_iconst (v := 0) hx hb dX3_greatestScore_17 (by decide) ?_
  refine lv_istore (lv' := [(4, .int 0), (3, .int 0), (2, .int ((-(s_set S 3)) * (s_fin S t))), (0, .ref (q 0)), (1, .int (nI t))]) hx hb dX3_greatestScore_18 hl (by decide) rfl (fun ls hl => ?_)
  have L_20 : ∀ (n i20 : Nat) (y3_20 : Int32) (y2_20 : Int32), y3_20 = bI (q_any (cpj1 S t) i20) → y2_20 = q_acc (fineS S t) (fun r => withJ S t r (gmkS S t r)) i20 → i20 ≤ 8 → 8 < i20 + n → ∀ ls : Array Slot, lv_has ls 5 [(4, .int (nI i20)), (3, .int y3_20), (2, .int y2_20), (0, .ref (q 0)), (1, .int (nI t))] → W p l e { frames := 4, cells := 0, slots := 0, locals := 87 } s m args below meth c s.heap [] 0 0 (MQ below (k2_QcV (.int (gscS S t))) args s 0 0 (fun _ => False)) (F0 m 20 ls []) := by
    intro n
    induction n with
    | zero => intro i20 y3_20 y2_20 ey3_20 ey2_20 hi_i20 hn_i20; exact absurd hn_i20 (by omega)
    | succ n ih_i20 =>
      intro i20 y3_20 y2_20 ey3_20 ey2_20 hi_i20 hn_i20 ls hl
      subst ey3_20
      subst ey2_20
      refine lv_iload hx hb dX3_greatestScore_20 (lv_at hl 0 rfl) ?_
      refine lv_bipush (v := 8) hx hb dX3_greatestScore_22 (by decide) ?_
      refine lv_icmp_ge (tgt := 79) hx hb dX3_greatestScore_24 (by decide) (fun c_24 => ?_) (fun c_24 => ?_)
      · skip
        have e_24 : i20 = 8 := q_ge_T (by omega) hi_i20 c_24
        subst e_24
        refine lv_iload_n hx hb dX3_greatestScore_79 rfl (lv_at hl 1 rfl) ?_
        refine lv_if_eq (tgt := 90) hx hb dX3_greatestScore_80 (by decide) (fun c_80 => ?_) (fun c_80 => ?_)
        · skip
          have c_80 : (q_any (cpj1 S t) 8) = false := bI_eq c_80
          refine lv_iload_n hx hb dX3_greatestScore_90 rfl (lv_at hl 2 rfl) ?_
          exact q_iret hx hb hr hlk dX3_greatestScore_91 (by first | rfl | simp [gscS, c_80])
        · skip
          have c_80 : (q_any (cpj1 S t) 8) = true := bI_ne c_80
          refine lv_iload_n hx hb dX3_greatestScore_83 rfl (lv_at hl 2 rfl) ?_
          refine lv_bipush (v := 10) hx hb dX3_greatestScore_84 (by decide) ?_
          refine lv_iadd hx hb dX3_greatestScore_86 ?_
          refine lv_goto (tgt := 91) hx hb dX3_greatestScore_87 (by decide) ?_
          exact q_iret hx hb hr hlk dX3_greatestScore_91 (by first | rfl | simp [gscS, c_80])
      · skip
        have lt_i20 : i20 < 8 := q_ge_F (by omega) hi_i20 c_24
        refine lv_iload_n hx hb dX3_greatestScore_27 rfl (lv_at hl 2 rfl) ?_
        refine lv_aload_n hx hb dX3_greatestScore_28 rfl (lv_at hl 3 rfl) ?_
        refine lv_iload_n hx hb dX3_greatestScore_29 rfl (lv_at hl 4 rfl) ?_
        refine lv_iload hx hb dX3_greatestScore_30 (lv_at hl 0 rfl) ?_
        refine lv_aload_n hx hb dX3_greatestScore_32 rfl (lv_at hl 3 rfl) ?_
        refine lv_iload_n hx hb dX3_greatestScore_33 rfl (lv_at hl 4 rfl) ?_
        refine lv_iload hx hb dX3_greatestScore_34 (lv_at hl 0 rfl) ?_
        refine q_V (As := [.int (nI t), .int (nI i20)]) (rest := [.int (nI i20), .int (nI t), .ref (q 0), .int (q_acc (fineS S t) (fun r => withJ S t r (gmkS S t r)) i20)]) ⟨hx, hb, hml, hown, hts⟩ (c_X3_greatestMark l g q S t i20 (by omega) (by omega)) (cwV 2 hts gX3_greatestScore_X3_greatestMark rfl rfl rfl (by decide +kernel) ⟨Nat.le_of_ble_eq_true rfl, Nat.le_of_ble_eq_true rfl⟩) q_B_blind (va_recv hK hP (ci := 2) (q0 := 0) rfl rfl) (q_B_of hP hK hN) rfl hl.1 rfl (Nat.le_of_ble_eq_true rfl) dX3_greatestScore_36 (Nat.zero_le _) (Nat.zero_le _) ?_
        refine q_V (As := [.int (nI t), .int (nI i20), .int (gmkS S t i20)]) (rest := [.int (q_acc (fineS S t) (fun r => withJ S t r (gmkS S t r)) i20)]) ⟨hx, hb, hml, hown, hts⟩ (c_X3_withJoker l g q S t i20 (gmkS S t i20) (by omega)) (cwV 3 hts gX3_greatestScore_X3_withJoker rfl rfl rfl (by decide +kernel) ⟨Nat.le_of_ble_eq_true rfl, Nat.le_of_ble_eq_true rfl⟩) q_B_blind (va_recv hK hP (ci := 2) (q0 := 0) rfl rfl) (q_B_of hP hK hN) rfl hl.1 rfl (Nat.le_of_ble_eq_true rfl) dX3_greatestScore_39 (Nat.zero_le _) (Nat.zero_le _) ?_
        refine lv_iadd hx hb dX3_greatestScore_42 ?_
        refine lv_istore_n (lv' := [(2, .int ((q_acc (fineS S t) (fun r => withJ S t r (gmkS S t r)) i20) + (withJ S t i20 (gmkS S t i20)))), (4, .int (nI i20)), (3, .int (bI (q_any (cpj1 S t) i20))), (0, .ref (q 0)), (1, .int (nI t))]) hx hb dX3_greatestScore_43 rfl hl (by decide) rfl (fun ls hl => ?_)
        refine lv_iload_n hx hb dX3_greatestScore_44 rfl (lv_at hl 2 rfl) ?_
        refine lv_aload_n hx hb dX3_greatestScore_45 rfl (lv_at hl 3 rfl) ?_
        refine va_get (D := g.1) (ci := 2) (v := .ref (q 3)) (C := RX3) (T := TX3) (N := 12) hx hb hts hi_X3 hown hK hP 0 rfl rfl 2 (by decide) fl_18 (fun _ h9 => h9) rfl dX3_greatestScore_46 ?_
        refine lv_iload_n hx hb dX3_greatestScore_49 rfl (lv_at hl 4 rfl) ?_
        refine q_iald (j := t) hx hb hK hP 3 0 rfl rfl (by omega) (by decide) dX3_greatestScore_50 ?_
        refine lv_bipush (v := (-6)) hx hb dX3_greatestScore_51 (by decide) ?_
        refine lv_icmp_ne (tgt := 70) hx hb dX3_greatestScore_53 (by decide) (fun c_53 => ?_) (fun c_53 => ?_)
        · skip
          refine lv_iconst (v := 0) hx hb dX3_greatestScore_70 (by decide) ?_
          refine lv_ior hx hb dX3_greatestScore_71 ?_
          refine lv_istore_n (lv' := [(3, .int ((bI (q_any (cpj1 S t) i20)) ||| 0)), (2, .int ((q_acc (fineS S t) (fun r => withJ S t r (gmkS S t r)) i20) + (withJ S t i20 (gmkS S t i20)))), (4, .int (nI i20)), (0, .ref (q 0)), (1, .int (nI t))]) hx hb dX3_greatestScore_72 rfl hl (by decide) rfl (fun ls hl => ?_)
          refine lv_iinc (v := nI (i20 + 1)) (lv' := [(4, .int (nI (i20 + 1))), (3, .int ((bI (q_any (cpj1 S t) i20)) ||| 0)), (2, .int ((q_acc (fineS S t) (fun r => withJ S t r (gmkS S t r)) i20) + (withJ S t i20 (gmkS S t i20)))), (0, .ref (q 0)), (1, .int (nI t))]) hx hb dX3_greatestScore_73 hl (k := 2) rfl (nI_1 _) (by decide) rfl (fun ls hl => ?_)
          refine lv_goto (tgt := 20) hx hb dX3_greatestScore_76 (by decide) ?_
          exact ih_i20 (i20 + 1) ((bI (q_any (cpj1 S t) i20)) ||| 0) ((q_acc (fineS S t) (fun r => withJ S t r (gmkS S t r)) i20) + (withJ S t i20 (gmkS S t i20))) (by first | rfl | simp [q_acc, q_any, cpj1, bI_o1, bI_o0, bI_t, c_53]) (by first | rfl | simp [q_acc, q_any, cpj1, bI_o1, bI_o0, bI_t, c_53]) lt_i20 (by omega) ls (lv_sub hl [0, 1, 2, 3, 4] rfl)
        · skip
          refine lv_aload_n hx hb dX3_greatestScore_56 rfl (lv_at hl 3 rfl) ?_
          refine lv_iload_n hx hb dX3_greatestScore_57 rfl (lv_at hl 4 rfl) ?_
          refine lv_iload hx hb dX3_greatestScore_58 (lv_at hl 1 rfl) ?_
          refine q_V (As := [.int (nI t), .int (nI i20)]) (rest := [.int (bI (q_any (cpj1 S t) i20))]) ⟨hx, hb, hml, hown, hts⟩ (c_X3_canHandIn l g q S t i20 (by omega) (by omega)) (cwV 2 hts gX3_greatestScore_X3_canHandIn rfl rfl rfl (by decide +kernel) ⟨Nat.le_of_ble_eq_true rfl, Nat.le_of_ble_eq_true rfl⟩) q_B_blind (va_recv hK hP (ci := 2) (q0 := 0) rfl rfl) (q_B_of hP hK hN) rfl hl.1 rfl (Nat.le_of_ble_eq_true rfl) dX3_greatestScore_60 (Nat.zero_le _) (Nat.zero_le _) ?_
          refine lv_if_eq (tgt := 70) hx hb dX3_greatestScore_63 (by decide) (fun c_63 => ?_) (fun c_63 => ?_)
          · skip
            have c_63 : (chiS S t i20) = false := bI_eq c_63
            refine lv_iconst (v := 0) hx hb dX3_greatestScore_70 (by decide) ?_
            refine lv_ior hx hb dX3_greatestScore_71 ?_
            refine lv_istore_n (lv' := [(3, .int ((bI (q_any (cpj1 S t) i20)) ||| 0)), (2, .int ((q_acc (fineS S t) (fun r => withJ S t r (gmkS S t r)) i20) + (withJ S t i20 (gmkS S t i20)))), (4, .int (nI i20)), (0, .ref (q 0)), (1, .int (nI t))]) hx hb dX3_greatestScore_72 rfl hl (by decide) rfl (fun ls hl => ?_)
            refine lv_iinc (v := nI (i20 + 1)) (lv' := [(4, .int (nI (i20 + 1))), (3, .int ((bI (q_any (cpj1 S t) i20)) ||| 0)), (2, .int ((q_acc (fineS S t) (fun r => withJ S t r (gmkS S t r)) i20) + (withJ S t i20 (gmkS S t i20)))), (0, .ref (q 0)), (1, .int (nI t))]) hx hb dX3_greatestScore_73 hl (k := 2) rfl (nI_1 _) (by decide) rfl (fun ls hl => ?_)
            refine lv_goto (tgt := 20) hx hb dX3_greatestScore_76 (by decide) ?_
            exact ih_i20 (i20 + 1) ((bI (q_any (cpj1 S t) i20)) ||| 0) ((q_acc (fineS S t) (fun r => withJ S t r (gmkS S t r)) i20) + (withJ S t i20 (gmkS S t i20))) (by first | rfl | simp [q_acc, q_any, cpj1, bI_o1, bI_o0, bI_t, c_53, c_63]) (by first | rfl | simp [q_acc, q_any, cpj1, bI_o1, bI_o0, bI_t, c_53, c_63]) lt_i20 (by omega) ls (lv_sub hl [0, 1, 2, 3, 4] rfl)
          · skip
            have c_63 : (chiS S t i20) = true := bI_ne c_63
            refine lv_iconst (v := 1) hx hb dX3_greatestScore_66 (by decide) ?_
            refine lv_goto (tgt := 71) hx hb dX3_greatestScore_67 (by decide) ?_
            refine lv_ior hx hb dX3_greatestScore_71 ?_
            refine lv_istore_n (lv' := [(3, .int ((bI (q_any (cpj1 S t) i20)) ||| 1)), (2, .int ((q_acc (fineS S t) (fun r => withJ S t r (gmkS S t r)) i20) + (withJ S t i20 (gmkS S t i20)))), (4, .int (nI i20)), (0, .ref (q 0)), (1, .int (nI t))]) hx hb dX3_greatestScore_72 rfl hl (by decide) rfl (fun ls hl => ?_)
            refine lv_iinc (v := nI (i20 + 1)) (lv' := [(4, .int (nI (i20 + 1))), (3, .int ((bI (q_any (cpj1 S t) i20)) ||| 1)), (2, .int ((q_acc (fineS S t) (fun r => withJ S t r (gmkS S t r)) i20) + (withJ S t i20 (gmkS S t i20)))), (0, .ref (q 0)), (1, .int (nI t))]) hx hb dX3_greatestScore_73 hl (k := 2) rfl (nI_1 _) (by decide) rfl (fun ls hl => ?_)
            refine lv_goto (tgt := 20) hx hb dX3_greatestScore_76 (by decide) ?_
            exact ih_i20 (i20 + 1) ((bI (q_any (cpj1 S t) i20)) ||| 1) ((q_acc (fineS S t) (fun r => withJ S t r (gmkS S t r)) i20) + (withJ S t i20 (gmkS S t i20))) (by first | rfl | simp [q_acc, q_any, cpj1, bI_o1, bI_o0, bI_t, c_53, c_63]) (by first | rfl | simp [q_acc, q_any, cpj1, bI_o1, bI_o0, bI_t, c_53, c_63]) lt_i20 (by omega) ls (lv_sub hl [0, 1, 2, 3, 4] rfl)
  exact L_20 (8 + 1) 0 0 ((-(s_set S 3)) * (s_fin S t)) (rfl) (rfl) (Nat.zero_le _) (by omega) ls (lv_sub hl [0, 1, 2, 3, 4] rfl)

set_option maxHeartbeats 4000000 in
set_option maxRecDepth 100000 in
theorem c_X3_canReachOthers (l : Launch) (g : q_G) (q : Nat → Nat) (S : q_St) (t : Nat) (h1_ : t < 10) (h2_ : s_n S ≤ 10) : q_PM l yX3_canReachOthers wsX3_canReachOthers { frames := 5, cells := 0, slots := 0, locals := 111 } [.ref (q 0), .int (nI t)] (q_B g (q_stW g q S)) (.int (bI (croS S t))) := by
  refine q_pm (cc := cX3_canReachOthers) (maxL := 4) (ret := (some .boolean)) (by decide) rfl (Nat.le_of_ble_eq_true rfl) ?_
  intro p e s m args below meth c ls hx hb hml hown hts hr hlk hB hl
  obtain ⟨hP, hK, hN⟩ := hB
  have fl_66 := hts (.fieldLink RX3 66 "PubQuizzes$State" "teams" "I") (by decide +kernel)
  have hi_X3 : ∀ w ∈ u_ws RX3 TX3 12, w ∈ wsX3_canReachOthers := by decide +kernel
  have hl : lv_has ls 4 [(0, .ref (q 0)), (1, .int (nI t))] := hl
  refine lv_aload_n hx hb dX3_canReachOthers_0 rfl (lv_at hl 0 rfl) ?_
  refine lv_iload_n hx hb dX3_canReachOthers_1 rfl (lv_at hl 1 rfl) ?_
  refine q_V (As := [.int (nI t)]) (rest := []) ⟨hx, hb, hml, hown, hts⟩ (c_X3_greatestScore l g q S t (by omega)) (cwV 1 hts gX3_canReachOthers_X3_greatestScore rfl rfl rfl (by decide +kernel) ⟨Nat.le_of_ble_eq_true rfl, Nat.le_of_ble_eq_true rfl⟩) q_B_blind (va_recv hK hP (ci := 2) (q0 := 0) rfl rfl) (q_B_of hP hK hN) rfl hl.1 rfl (Nat.le_of_ble_eq_true rfl) dX3_canReachOthers_2 (Nat.zero_le _) (Nat.zero_le _) ?_
  refine lv_istore_n (lv' := [(2, .int (gscS S t)), (0, .ref (q 0)), (1, .int (nI t))]) hx hb dX3_canReachOthers_5 rfl hl (by decide) rfl (fun ls hl => ?_)
  refine lv_iconst (v := 0) hx hb dX3_canReachOthers_6 (by decide) ?_
  refine lv_istore_n (lv' := [(3, .int 0), (2, .int (gscS S t)), (0, .ref (q 0)), (1, .int (nI t))]) hx hb dX3_canReachOthers_7 rfl hl (by decide) rfl (fun ls hl => ?_)
  have L_8 : ∀ (n i8 : Nat), (q_any (cro1 S t) i8 = false) → i8 ≤ s_n S → s_n S < i8 + n → ∀ ls : Array Slot, lv_has ls 4 [(3, .int (nI i8)), (2, .int (gscS S t)), (0, .ref (q 0)), (1, .int (nI t))] → W p l e { frames := 5, cells := 0, slots := 0, locals := 111 } s m args below meth c s.heap [] 0 0 (MQ below (k2_QcV (.int (bI (croS S t)))) args s 0 0 (fun _ => False)) (F0 m 8 ls []) := by
    intro n
    induction n with
    | zero => intro i8 hf hi_i8 hn_i8; exact absurd hn_i8 (by omega)
    | succ n ih_i8 =>
      intro i8 hf hi_i8 hn_i8 ls hl
      refine lv_iload_n hx hb dX3_canReachOthers_8 rfl (lv_at hl 0 rfl) ?_
      refine lv_aload_n hx hb dX3_canReachOthers_9 rfl (lv_at hl 2 rfl) ?_
      refine va_get (D := g.1) (ci := 2) (v := .int (nI (s_n S))) (C := RX3) (T := TX3) (N := 12) hx hb hts hi_X3 hown hK hP 0 rfl rfl 10 (by decide) fl_66 (fun _ h9 => h9) rfl dX3_canReachOthers_10 ?_
      refine lv_icmp_ge (tgt := 38) hx hb dX3_canReachOthers_13 (by decide) (fun c_13 => ?_) (fun c_13 => ?_)
      · skip
        have e_13 : i8 = s_n S := q_ge_T (by omega) hi_i8 c_13
        rw [e_13] at hf
        refine lv_iconst (v := 1) hx hb dX3_canReachOthers_38 (by decide) ?_
        exact q_zret hx hb hr hlk dX3_canReachOthers_39 (by simp [croS, bI, hf])
      · skip
        have lt_i8 : i8 < s_n S := q_ge_F (by omega) hi_i8 c_13
        refine lv_iload_n hx hb dX3_canReachOthers_16 rfl (lv_at hl 0 rfl) ?_
        refine lv_iload_n hx hb dX3_canReachOthers_17 rfl (lv_at hl 3 rfl) ?_
        refine lv_icmp_eq (tgt := 32) hx hb dX3_canReachOthers_18 (by decide) (fun c_18 => ?_) (fun c_18 => ?_)
        · skip
          refine lv_iinc (v := nI (i8 + 1)) (lv' := [(3, .int (nI (i8 + 1))), (2, .int (gscS S t)), (0, .ref (q 0)), (1, .int (nI t))]) hx hb dX3_canReachOthers_32 hl (k := 0) rfl (nI_1 _) (by decide) rfl (fun ls hl => ?_)
          refine lv_goto (tgt := 8) hx hb dX3_canReachOthers_35 (by decide) ?_
          exact ih_i8 (i8 + 1) (by simp [q_any, hf, cro1, c_18]) lt_i8 (by omega) ls (lv_sub hl [0, 1, 2, 3] rfl)
        · skip
          refine lv_aload_n hx hb dX3_canReachOthers_21 rfl (lv_at hl 2 rfl) ?_
          refine lv_iload_n hx hb dX3_canReachOthers_22 rfl (lv_at hl 0 rfl) ?_
          refine q_V (As := [.int (nI i8)]) (rest := []) ⟨hx, hb, hml, hown, hts⟩ (c_X3_scoreOf l g q S i8 (by omega)) (cwV 1 hts gX3_canReachOthers_X3_scoreOf rfl rfl rfl (by decide +kernel) ⟨Nat.le_of_ble_eq_true rfl, Nat.le_of_ble_eq_true rfl⟩) q_B_blind (va_recv hK hP (ci := 2) (q0 := 0) rfl rfl) (q_B_of hP hK hN) rfl hl.1 rfl (Nat.le_of_ble_eq_true rfl) dX3_canReachOthers_23 (Nat.zero_le _) (Nat.zero_le _) ?_
          refine lv_iload_n hx hb dX3_canReachOthers_26 rfl (lv_at hl 1 rfl) ?_
          refine lv_icmp_le (tgt := 32) hx hb dX3_canReachOthers_27 (by decide) (fun c_27 => ?_) (fun c_27 => ?_)
          · skip
            refine lv_iinc (v := nI (i8 + 1)) (lv' := [(3, .int (nI (i8 + 1))), (2, .int (gscS S t)), (0, .ref (q 0)), (1, .int (nI t))]) hx hb dX3_canReachOthers_32 hl (k := 0) rfl (nI_1 _) (by decide) rfl (fun ls hl => ?_)
            refine lv_goto (tgt := 8) hx hb dX3_canReachOthers_35 (by decide) ?_
            exact ih_i8 (i8 + 1) (by simp [q_any, hf, cro1, c_18, c_27]) lt_i8 (by omega) ls (lv_sub hl [0, 1, 2, 3] rfl)
          · skip
            refine lv_iconst (v := 0) hx hb dX3_canReachOthers_30 (by decide) ?_
            exact q_zret hx hb hr hlk dX3_canReachOthers_31 (by simp [croS, bI, q_any_t lt_i8 (f := cro1 S t) (by simp [cro1, c_18, c_27])])
  exact L_8 (s_n S + 1) 0 (rfl) (Nat.zero_le _) (by omega) ls (lv_sub hl [0, 1, 2, 3] rfl)

set_option maxHeartbeats 4000000 in
set_option maxRecDepth 100000 in
theorem c_X3_wrongMarksToldBy (l : Launch) (g : q_G) (q : Nat → Nat) (S : q_St) (k : Nat) (h1_ : s_n S ≤ 10) : q_PM l yX3_wrongMarksToldBy wsX3_wrongMarksToldBy { frames := 4, cells := 0, slots := 0, locals := 87 } [.ref (q 0), .int (nI k)] (q_B g (q_stW g q S)) (.int (nI (wmtA S k (s_n S)))) := by
  refine q_pm (cc := cX3_wrongMarksToldBy) (maxL := 5) (ret := (some .int)) (by decide) rfl (Nat.le_of_ble_eq_true rfl) ?_
  intro p e s m args below meth c ls hx hb hml hown hts hr hlk hB hl
  obtain ⟨hP, hK, hN⟩ := hB
  have fl_66 := hts (.fieldLink RX3 66 "PubQuizzes$State" "teams" "I") (by decide +kernel)
  have hi_X3 : ∀ w ∈ u_ws RX3 TX3 12, w ∈ wsX3_wrongMarksToldBy := by decide +kernel
  have hl : lv_has ls 5 [(0, .ref (q 0)), (1, .int (nI k))] := hl
  refine lv_iconst (v := 0) hx hb dX3_wrongMarksToldBy_0 (by decide) ?_
  refine lv_istore_n (lv' := [(2, .int 0), (0, .ref (q 0)), (1, .int (nI k))]) hx hb dX3_wrongMarksToldBy_1 rfl hl (by decide) rfl (fun ls hl => ?_)
  refine lv_iconst (v := 0) hx hb dX3_wrongMarksToldBy_2 (by decide) ?_
  refine lv_istore_n (lv' := [(3, .int 0), (2, .int 0), (0, .ref (q 0)), (1, .int (nI k))]) hx hb dX3_wrongMarksToldBy_3 rfl hl (by decide) rfl (fun ls hl => ?_)
  have L_4 : ∀ (n i4 : Nat) (y2_4 : Int32), y2_4 = nI (wmtA S k i4) → i4 ≤ s_n S → s_n S < i4 + n → ∀ ls : Array Slot, lv_has ls 5 [(3, .int (nI i4)), (2, .int y2_4), (0, .ref (q 0)), (1, .int (nI k))] → W p l e { frames := 4, cells := 0, slots := 0, locals := 87 } s m args below meth c s.heap [] 0 0 (MQ below (k2_QcV (.int (nI (wmtA S k (s_n S))))) args s 0 0 (fun _ => False)) (F0 m 4 ls []) := by
    intro n
    induction n with
    | zero => intro i4 y2_4 ey2_4 hi_i4 hn_i4; exact absurd hn_i4 (by omega)
    | succ n ih_i4 =>
      intro i4 y2_4 ey2_4 hi_i4 hn_i4 ls hl
      subst ey2_4
      refine lv_iload_n hx hb dX3_wrongMarksToldBy_4 rfl (lv_at hl 0 rfl) ?_
      refine lv_aload_n hx hb dX3_wrongMarksToldBy_5 rfl (lv_at hl 2 rfl) ?_
      refine va_get (D := g.1) (ci := 2) (v := .int (nI (s_n S))) (C := RX3) (T := TX3) (N := 12) hx hb hts hi_X3 hown hK hP 0 rfl rfl 10 (by decide) fl_66 (fun _ h9 => h9) rfl dX3_wrongMarksToldBy_6 ?_
      refine lv_icmp_ge (tgt := 63) hx hb dX3_wrongMarksToldBy_9 (by decide) (fun c_9 => ?_) (fun c_9 => ?_)
      · skip
        have e_9 : i4 = s_n S := q_ge_T (by omega) hi_i4 c_9
        subst e_9
        refine lv_iload_n hx hb dX3_wrongMarksToldBy_63 rfl (lv_at hl 1 rfl) ?_
        exact q_iret hx hb hr hlk dX3_wrongMarksToldBy_64 (rfl)
      · skip
        have lt_i4 : i4 < s_n S := q_ge_F (by omega) hi_i4 c_9
        refine lv_iconst (v := 0) hx hb dX3_wrongMarksToldBy_12 (by decide) ?_
        refine lv_istore (lv' := [(4, .int 0), (3, .int (nI i4)), (2, .int (nI (wmtA S k i4))), (0, .ref (q 0)), (1, .int (nI k))]) hx hb dX3_wrongMarksToldBy_13 hl (by decide) rfl (fun ls hl => ?_)
        have L_15 : ∀ (n i15 : Nat) (y2_15 : Int32), y2_15 = nI (wmtA S k i4 + q_cnt (wmt1 S k i4) i15) → i15 ≤ 8 → 8 < i15 + n → ∀ ls : Array Slot, lv_has ls 5 [(4, .int (nI i15)), (3, .int (nI i4)), (2, .int y2_15), (0, .ref (q 0)), (1, .int (nI k))] → W p l e { frames := 4, cells := 0, slots := 0, locals := 87 } s m args below meth c s.heap [] 0 0 (MQ below (k2_QcV (.int (nI (wmtA S k (s_n S))))) args s 0 0 (fun _ => False)) (F0 m 15 ls []) := by
          intro n
          induction n with
          | zero => intro i15 y2_15 ey2_15 hi_i15 hn_i15; exact absurd hn_i15 (by omega)
          | succ n ih_i15 =>
            intro i15 y2_15 ey2_15 hi_i15 hn_i15 ls hl
            subst ey2_15
            refine lv_iload hx hb dX3_wrongMarksToldBy_15 (lv_at hl 0 rfl) ?_
            refine lv_bipush (v := 8) hx hb dX3_wrongMarksToldBy_17 (by decide) ?_
            refine lv_icmp_ge (tgt := 57) hx hb dX3_wrongMarksToldBy_19 (by decide) (fun c_19 => ?_) (fun c_19 => ?_)
            · skip
              have e_19 : i15 = 8 := q_ge_T (by omega) hi_i15 c_19
              subst e_19
              refine lv_iinc (v := nI (i4 + 1)) (lv' := [(3, .int (nI (i4 + 1))), (4, .int (nI 8)), (2, .int (nI (wmtA S k i4 + q_cnt (wmt1 S k i4) 8))), (0, .ref (q 0)), (1, .int (nI k))]) hx hb dX3_wrongMarksToldBy_57 hl (k := 1) rfl (nI_1 _) (by decide) rfl (fun ls hl => ?_)
              refine lv_goto (tgt := 4) hx hb dX3_wrongMarksToldBy_60 (by decide) ?_
              exact ih_i4 (i4 + 1) (nI (wmtA S k i4 + q_cnt (wmt1 S k i4) 8)) (by first | rfl | simp [q_acc, q_or, q_cnt, q_any, nI_1, bI_t]) lt_i4 (by omega) ls (lv_sub hl [0, 2, 3, 4] rfl)
            · skip
              have lt_i15 : i15 < 8 := q_ge_F (by omega) hi_i15 c_19
              refine lv_iload_n hx hb dX3_wrongMarksToldBy_22 rfl (lv_at hl 2 rfl) ?_
              refine lv_aload_n hx hb dX3_wrongMarksToldBy_23 rfl (lv_at hl 3 rfl) ?_
              refine lv_iload_n hx hb dX3_wrongMarksToldBy_24 rfl (lv_at hl 1 rfl) ?_
              refine lv_iload hx hb dX3_wrongMarksToldBy_25 (lv_at hl 0 rfl) ?_
              refine q_V (As := [.int (nI i4), .int (nI i15)]) (rest := [.int (nI (wmtA S k i4 + q_cnt (wmt1 S k i4) i15))]) ⟨hx, hb, hml, hown, hts⟩ (c_X3_markerOf l g q S i4 i15 (by omega) (by omega)) (cwV 2 hts gX3_wrongMarksToldBy_X3_markerOf rfl rfl rfl (by decide +kernel) ⟨Nat.le_of_ble_eq_true rfl, Nat.le_of_ble_eq_true rfl⟩) q_B_blind (va_recv hK hP (ci := 2) (q0 := 0) rfl rfl) (q_B_of hP hK hN) rfl hl.1 rfl (Nat.le_of_ble_eq_true rfl) dX3_wrongMarksToldBy_27 (Nat.zero_le _) (Nat.zero_le _) ?_
              refine lv_iload_n hx hb dX3_wrongMarksToldBy_30 rfl (lv_at hl 4 rfl) ?_
              refine lv_icmp_ne (tgt := 48) hx hb dX3_wrongMarksToldBy_31 (by decide) (fun c_31 => ?_) (fun c_31 => ?_)
              · skip
                refine lv_iconst (v := 0) hx hb dX3_wrongMarksToldBy_48 (by decide) ?_
                refine lv_iadd hx hb dX3_wrongMarksToldBy_49 ?_
                refine lv_istore_n (lv' := [(2, .int ((nI (wmtA S k i4 + q_cnt (wmt1 S k i4) i15)) + 0)), (4, .int (nI i15)), (3, .int (nI i4)), (0, .ref (q 0)), (1, .int (nI k))]) hx hb dX3_wrongMarksToldBy_50 rfl hl (by decide) rfl (fun ls hl => ?_)
                refine lv_iinc (v := nI (i15 + 1)) (lv' := [(4, .int (nI (i15 + 1))), (2, .int ((nI (wmtA S k i4 + q_cnt (wmt1 S k i4) i15)) + 0)), (3, .int (nI i4)), (0, .ref (q 0)), (1, .int (nI k))]) hx hb dX3_wrongMarksToldBy_51 hl (k := 1) rfl (nI_1 _) (by decide) rfl (fun ls hl => ?_)
                refine lv_goto (tgt := 15) hx hb dX3_wrongMarksToldBy_54 (by decide) ?_
                exact ih_i15 (i15 + 1) ((nI (wmtA S k i4 + q_cnt (wmt1 S k i4) i15)) + 0) (by simp [wmtA, q_cnt, wmt1, nI_1, Nat.add_assoc, c_31]) lt_i15 (by omega) ls (lv_sub hl [0, 2, 1, 3, 4] rfl)
              · skip
                refine lv_aload_n hx hb dX3_wrongMarksToldBy_34 rfl (lv_at hl 3 rfl) ?_
                refine lv_iload_n hx hb dX3_wrongMarksToldBy_35 rfl (lv_at hl 1 rfl) ?_
                refine lv_iload hx hb dX3_wrongMarksToldBy_36 (lv_at hl 0 rfl) ?_
                refine q_V (As := [.int (nI i4), .int (nI i15)]) (rest := [.int (nI (wmtA S k i4 + q_cnt (wmt1 S k i4) i15))]) ⟨hx, hb, hml, hown, hts⟩ (c_X3_isWrong l g q S i4 i15 (by omega) (by omega)) (cwV 2 hts gX3_wrongMarksToldBy_X3_isWrong rfl rfl rfl (by decide +kernel) ⟨Nat.le_of_ble_eq_true rfl, Nat.le_of_ble_eq_true rfl⟩) q_B_blind (va_recv hK hP (ci := 2) (q0 := 0) rfl rfl) (q_B_of hP hK hN) rfl hl.1 rfl (Nat.le_of_ble_eq_true rfl) dX3_wrongMarksToldBy_38 (Nat.zero_le _) (Nat.zero_le _) ?_
                refine lv_if_eq (tgt := 48) hx hb dX3_wrongMarksToldBy_41 (by decide) (fun c_41 => ?_) (fun c_41 => ?_)
                · skip
                  have c_41 : (wroS S i4 i15) = false := bI_eq c_41
                  refine lv_iconst (v := 0) hx hb dX3_wrongMarksToldBy_48 (by decide) ?_
                  refine lv_iadd hx hb dX3_wrongMarksToldBy_49 ?_
                  refine lv_istore_n (lv' := [(2, .int ((nI (wmtA S k i4 + q_cnt (wmt1 S k i4) i15)) + 0)), (4, .int (nI i15)), (3, .int (nI i4)), (0, .ref (q 0)), (1, .int (nI k))]) hx hb dX3_wrongMarksToldBy_50 rfl hl (by decide) rfl (fun ls hl => ?_)
                  refine lv_iinc (v := nI (i15 + 1)) (lv' := [(4, .int (nI (i15 + 1))), (2, .int ((nI (wmtA S k i4 + q_cnt (wmt1 S k i4) i15)) + 0)), (3, .int (nI i4)), (0, .ref (q 0)), (1, .int (nI k))]) hx hb dX3_wrongMarksToldBy_51 hl (k := 1) rfl (nI_1 _) (by decide) rfl (fun ls hl => ?_)
                  refine lv_goto (tgt := 15) hx hb dX3_wrongMarksToldBy_54 (by decide) ?_
                  exact ih_i15 (i15 + 1) ((nI (wmtA S k i4 + q_cnt (wmt1 S k i4) i15)) + 0) (by simp [wmtA, q_cnt, wmt1, nI_1, Nat.add_assoc, c_31, c_41]) lt_i15 (by omega) ls (lv_sub hl [0, 2, 1, 3, 4] rfl)
                · skip
                  have c_41 : (wroS S i4 i15) = true := bI_ne c_41
                  refine lv_iconst (v := 1) hx hb dX3_wrongMarksToldBy_44 (by decide) ?_
                  refine lv_goto (tgt := 49) hx hb dX3_wrongMarksToldBy_45 (by decide) ?_
                  refine lv_iadd hx hb dX3_wrongMarksToldBy_49 ?_
                  refine lv_istore_n (lv' := [(2, .int ((nI (wmtA S k i4 + q_cnt (wmt1 S k i4) i15)) + 1)), (4, .int (nI i15)), (3, .int (nI i4)), (0, .ref (q 0)), (1, .int (nI k))]) hx hb dX3_wrongMarksToldBy_50 rfl hl (by decide) rfl (fun ls hl => ?_)
                  refine lv_iinc (v := nI (i15 + 1)) (lv' := [(4, .int (nI (i15 + 1))), (2, .int ((nI (wmtA S k i4 + q_cnt (wmt1 S k i4) i15)) + 1)), (3, .int (nI i4)), (0, .ref (q 0)), (1, .int (nI k))]) hx hb dX3_wrongMarksToldBy_51 hl (k := 1) rfl (nI_1 _) (by decide) rfl (fun ls hl => ?_)
                  refine lv_goto (tgt := 15) hx hb dX3_wrongMarksToldBy_54 (by decide) ?_
                  exact ih_i15 (i15 + 1) ((nI (wmtA S k i4 + q_cnt (wmt1 S k i4) i15)) + 1) (by simp [wmtA, q_cnt, wmt1, nI_1, Nat.add_assoc, c_31, c_41]) lt_i15 (by omega) ls (lv_sub hl [0, 2, 1, 3, 4] rfl)
        exact L_15 (8 + 1) 0 (nI (wmtA S k i4)) (rfl) (Nat.zero_le _) (by omega) ls (lv_sub hl [0, 1, 2, 3, 4] rfl)
  exact L_4 (s_n S + 1) 0 0 (rfl) (Nat.zero_le _) (by omega) ls (lv_sub hl [0, 1, 2, 3] rfl)

set_option maxHeartbeats 4000000 in
set_option maxRecDepth 100000 in
theorem c_X3_scoreIfLooked (l : Launch) (g : q_G) (q : Nat → Nat) (S : q_St) (t : Nat) (h1_ : t < 10) (h2_ : s_n S ≤ 10) : q_PM l yX3_scoreIfLooked wsX3_scoreIfLooked { frames := 5, cells := 0, slots := 0, locals := 111 } [.ref (q 0), .int (nI t)] (q_B g (q_stW g q S)) (.int (silS S t)) := by
  refine q_pm (cc := cX3_scoreIfLooked) (maxL := 5) (ret := (some .int)) (by decide) rfl (Nat.le_of_ble_eq_true rfl) ?_
  intro p e s m args below meth c ls hx hb hml hown hts hr hlk hB hl
  obtain ⟨hP, hK, hN⟩ := hB
  have fl_9 := hts (.fieldLink RX3 9 "PubQuizzes$State" "settings" "[I") (by decide +kernel)
  have hi_X3 : ∀ w ∈ u_ws RX3 TX3 12, w ∈ wsX3_scoreIfLooked := by decide +kernel
  have hl : lv_has ls 5 [(0, .ref (q 0)), (1, .int (nI t))] := hl
  refine lv_aload_n hx hb dX3_scoreIfLooked_0 rfl (lv_at hl 0 rfl) ?_
  refine lv_iload_n hx hb dX3_scoreIfLooked_1 rfl (lv_at hl 1 rfl) ?_
  refine q_V (As := [.int (nI t)]) (rest := []) ⟨hx, hb, hml, hown, hts⟩ (c_X3_scoreOf l g q S t (by omega)) (cwV 1 hts gX3_scoreIfLooked_X3_scoreOf rfl rfl rfl (by decide +kernel) ⟨Nat.le_of_ble_eq_true rfl, Nat.le_of_ble_eq_true rfl⟩) q_B_blind (va_recv hK hP (ci := 2) (q0 := 0) rfl rfl) (q_B_of hP hK hN) rfl hl.1 rfl (Nat.le_of_ble_eq_true rfl) dX3_scoreIfLooked_2 (Nat.zero_le _) (Nat.zero_le _) ?_
  refine lv_aload_n hx hb dX3_scoreIfLooked_5 rfl (lv_at hl 0 rfl) ?_
  refine va_get (D := g.1) (ci := 2) (v := .ref (q 1)) (C := RX3) (T := TX3) (N := 12) hx hb hts hi_X3 hown hK hP 0 rfl rfl 0 (by decide) fl_9 (fun _ h9 => h9) rfl dX3_scoreIfLooked_6 ?_
  refine lv_iconst (v := 3) hx hb dX3_scoreIfLooked_9 (by decide) ?_
  refine q_iald (j := 3) hx hb hK hP 1 0 rfl rfl (by omega) (by decide) dX3_scoreIfLooked_10 ?_
  refine lv_aload_n hx hb dX3_scoreIfLooked_11 rfl (lv_at hl 0 rfl) ?_
  refine lv_iload_n hx hb dX3_scoreIfLooked_12 rfl (lv_at hl 1 rfl) ?_
  refine q_V (As := [.int (nI t)]) (rest := [.int (s_set S 3), .int (scoS S t)]) ⟨hx, hb, hml, hown, hts⟩ (c_X3_wrongMarksToldBy l g q S t (by omega)) (cwV 1 hts gX3_scoreIfLooked_X3_wrongMarksToldBy rfl rfl rfl (by decide +kernel) ⟨Nat.le_of_ble_eq_true rfl, Nat.le_of_ble_eq_true rfl⟩) q_B_blind (va_recv hK hP (ci := 2) (q0 := 0) rfl rfl) (q_B_of hP hK hN) rfl hl.1 rfl (Nat.le_of_ble_eq_true rfl) dX3_scoreIfLooked_13 (Nat.zero_le _) (Nat.zero_le _) ?_
  refine lv_imul hx hb dX3_scoreIfLooked_16 ?_
  refine lv_isub hx hb dX3_scoreIfLooked_17 ?_
  refine lv_istore_n (lv' := [(2, .int ((scoS S t) - ((s_set S 3) * (nI (wmtA S t (s_n S)))))), (0, .ref (q 0)), (1, .int (nI t))]) hx hb dX3_scoreIfLooked_18 rfl hl (by decide) rfl (fun ls hl => ?_)
  refine lv_iconst (v := 0) hx hb dX3_scoreIfLooked_19 (by decide) ?_
  refine lv_istore_n (lv' := [(3, .int 0), (2, .int ((scoS S t) - ((s_set S 3) * (nI (wmtA S t (s_n S)))))), (0, .ref (q 0)), (1, .int (nI t))]) hx hb dX3_scoreIfLooked_20 rfl hl (by decide) rfl (fun ls hl => ?_)
  have L_21 : ∀ (n i21 : Nat) (y2_21 : Int32), y2_21 = q_acc (scoS S t - s_set S 3 * nI (wmtA S t (s_n S))) (sil1 S t) i21 → i21 ≤ 8 → 8 < i21 + n → ∀ ls : Array Slot, lv_has ls 5 [(3, .int (nI i21)), (2, .int y2_21), (0, .ref (q 0)), (1, .int (nI t))] → W p l e { frames := 5, cells := 0, slots := 0, locals := 111 } s m args below meth c s.heap [] 0 0 (MQ below (k2_QcV (.int (silS S t))) args s 0 0 (fun _ => False)) (F0 m 21 ls []) := by
    intro n
    induction n with
    | zero => intro i21 y2_21 ey2_21 hi_i21 hn_i21; exact absurd hn_i21 (by omega)
    | succ n ih_i21 =>
      intro i21 y2_21 ey2_21 hi_i21 hn_i21 ls hl
      subst ey2_21
      refine lv_iload_n hx hb dX3_scoreIfLooked_21 rfl (lv_at hl 0 rfl) ?_
      refine lv_bipush (v := 8) hx hb dX3_scoreIfLooked_22 (by decide) ?_
      refine lv_icmp_ge (tgt := 68) hx hb dX3_scoreIfLooked_24 (by decide) (fun c_24 => ?_) (fun c_24 => ?_)
      · skip
        have e_24 : i21 = 8 := q_ge_T (by omega) hi_i21 c_24
        subst e_24
        refine lv_iload_n hx hb dX3_scoreIfLooked_68 rfl (lv_at hl 1 rfl) ?_
        exact q_iret hx hb hr hlk dX3_scoreIfLooked_69 (rfl)
      · skip
        have lt_i21 : i21 < 8 := q_ge_F (by omega) hi_i21 c_24
        refine lv_aload_n hx hb dX3_scoreIfLooked_27 rfl (lv_at hl 2 rfl) ?_
        refine lv_iload_n hx hb dX3_scoreIfLooked_28 rfl (lv_at hl 3 rfl) ?_
        refine lv_iload_n hx hb dX3_scoreIfLooked_29 rfl (lv_at hl 0 rfl) ?_
        refine q_V (As := [.int (nI t), .int (nI i21)]) (rest := []) ⟨hx, hb, hml, hown, hts⟩ (c_X3_isWrong l g q S t i21 (by omega) (by omega)) (cwV 2 hts gX3_scoreIfLooked_X3_isWrong rfl rfl rfl (by decide +kernel) ⟨Nat.le_of_ble_eq_true rfl, Nat.le_of_ble_eq_true rfl⟩) q_B_blind (va_recv hK hP (ci := 2) (q0 := 0) rfl rfl) (q_B_of hP hK hN) rfl hl.1 rfl (Nat.le_of_ble_eq_true rfl) dX3_scoreIfLooked_30 (Nat.zero_le _) (Nat.zero_le _) ?_
        refine lv_if_eq (tgt := 62) hx hb dX3_scoreIfLooked_33 (by decide) (fun c_33 => ?_) (fun c_33 => ?_)
        · skip
          have c_33 : (wroS S t i21) = false := bI_eq c_33
          refine lv_iinc (v := nI (i21 + 1)) (lv' := [(3, .int (nI (i21 + 1))), (2, .int (q_acc (scoS S t - s_set S 3 * nI (wmtA S t (s_n S))) (sil1 S t) i21)), (0, .ref (q 0)), (1, .int (nI t))]) hx hb dX3_scoreIfLooked_62 hl (k := 0) rfl (nI_1 _) (by decide) rfl (fun ls hl => ?_)
          refine lv_goto (tgt := 21) hx hb dX3_scoreIfLooked_65 (by decide) ?_
          exact ih_i21 (i21 + 1) (q_acc (scoS S t - s_set S 3 * nI (wmtA S t (s_n S))) (sil1 S t) i21) (by first | rfl | simp [q_acc, q_or, q_cnt, q_any, nI_1, sil1, c_33]) lt_i21 (by omega) ls (lv_sub hl [0, 1, 2, 3] rfl)
        · skip
          have c_33 : (wroS S t i21) = true := bI_ne c_33
          refine lv_aload_n hx hb dX3_scoreIfLooked_36 rfl (lv_at hl 2 rfl) ?_
          refine lv_iload_n hx hb dX3_scoreIfLooked_37 rfl (lv_at hl 3 rfl) ?_
          refine lv_iload_n hx hb dX3_scoreIfLooked_38 rfl (lv_at hl 0 rfl) ?_
          refine q_V (As := [.int (nI t), .int (nI i21)]) (rest := []) ⟨hx, hb, hml, hown, hts⟩ (c_X3_trueMark l g q S t i21 (by omega) (by omega)) (cwV 2 hts gX3_scoreIfLooked_X3_trueMark rfl rfl rfl (by decide +kernel) ⟨Nat.le_of_ble_eq_true rfl, Nat.le_of_ble_eq_true rfl⟩) q_B_blind (va_recv hK hP (ci := 2) (q0 := 0) rfl rfl) (q_B_of hP hK hN) rfl hl.1 rfl (Nat.le_of_ble_eq_true rfl) dX3_scoreIfLooked_39 (Nat.zero_le _) (Nat.zero_le _) ?_
          refine lv_aload_n hx hb dX3_scoreIfLooked_42 rfl (lv_at hl 2 rfl) ?_
          refine lv_iload_n hx hb dX3_scoreIfLooked_43 rfl (lv_at hl 3 rfl) ?_
          refine lv_iload_n hx hb dX3_scoreIfLooked_44 rfl (lv_at hl 0 rfl) ?_
          refine q_V (As := [.int (nI t), .int (nI i21)]) (rest := [.int (truM S t i21)]) ⟨hx, hb, hml, hown, hts⟩ (c_X3_markOf l g q S t i21 (by omega) (by omega)) (cwV 2 hts gX3_scoreIfLooked_X3_markOf rfl rfl rfl (by decide +kernel) ⟨Nat.le_of_ble_eq_true rfl, Nat.le_of_ble_eq_true rfl⟩) q_B_blind (va_recv hK hP (ci := 2) (q0 := 0) rfl rfl) (q_B_of hP hK hN) rfl hl.1 rfl (Nat.le_of_ble_eq_true rfl) dX3_scoreIfLooked_45 (Nat.zero_le _) (Nat.zero_le _) ?_
          refine lv_isub hx hb dX3_scoreIfLooked_48 ?_
          refine lv_istore (lv' := [(4, .int ((truM S t i21) - (s_mar S (t * 8 + i21)))), (3, .int (nI i21)), (2, .int (q_acc (scoS S t - s_set S 3 * nI (wmtA S t (s_n S))) (sil1 S t) i21)), (0, .ref (q 0)), (1, .int (nI t))]) hx hb dX3_scoreIfLooked_49 hl (by decide) rfl (fun ls hl => ?_)
          refine lv_iload_n hx hb dX3_scoreIfLooked_51 rfl (lv_at hl 2 rfl) ?_
          refine lv_aload_n hx hb dX3_scoreIfLooked_52 rfl (lv_at hl 3 rfl) ?_
          refine lv_iload_n hx hb dX3_scoreIfLooked_53 rfl (lv_at hl 4 rfl) ?_
          refine lv_iload_n hx hb dX3_scoreIfLooked_54 rfl (lv_at hl 1 rfl) ?_
          refine lv_iload hx hb dX3_scoreIfLooked_55 (lv_at hl 0 rfl) ?_
          refine q_V (As := [.int (nI t), .int (nI i21), .int ((truM S t i21) - (s_mar S (t * 8 + i21)))]) (rest := [.int (q_acc (scoS S t - s_set S 3 * nI (wmtA S t (s_n S))) (sil1 S t) i21)]) ⟨hx, hb, hml, hown, hts⟩ (c_X3_withJoker l g q S t i21 ((truM S t i21) - (s_mar S (t * 8 + i21))) (by omega)) (cwV 3 hts gX3_scoreIfLooked_X3_withJoker rfl rfl rfl (by decide +kernel) ⟨Nat.le_of_ble_eq_true rfl, Nat.le_of_ble_eq_true rfl⟩) q_B_blind (va_recv hK hP (ci := 2) (q0 := 0) rfl rfl) (q_B_of hP hK hN) rfl hl.1 rfl (Nat.le_of_ble_eq_true rfl) dX3_scoreIfLooked_57 (Nat.zero_le _) (Nat.zero_le _) ?_
          refine lv_iadd hx hb dX3_scoreIfLooked_60 ?_
          refine lv_istore_n (lv' := [(2, .int ((q_acc (scoS S t - s_set S 3 * nI (wmtA S t (s_n S))) (sil1 S t) i21) + (withJ S t i21 ((truM S t i21) - (s_mar S (t * 8 + i21)))))), (4, .int ((truM S t i21) - (s_mar S (t * 8 + i21)))), (3, .int (nI i21)), (0, .ref (q 0)), (1, .int (nI t))]) hx hb dX3_scoreIfLooked_61 rfl hl (by decide) rfl (fun ls hl => ?_)
          refine lv_iinc (v := nI (i21 + 1)) (lv' := [(3, .int (nI (i21 + 1))), (2, .int ((q_acc (scoS S t - s_set S 3 * nI (wmtA S t (s_n S))) (sil1 S t) i21) + (withJ S t i21 ((truM S t i21) - (s_mar S (t * 8 + i21)))))), (4, .int ((truM S t i21) - (s_mar S (t * 8 + i21)))), (0, .ref (q 0)), (1, .int (nI t))]) hx hb dX3_scoreIfLooked_62 hl (k := 2) rfl (nI_1 _) (by decide) rfl (fun ls hl => ?_)
          refine lv_goto (tgt := 21) hx hb dX3_scoreIfLooked_65 (by decide) ?_
          exact ih_i21 (i21 + 1) ((q_acc (scoS S t - s_set S 3 * nI (wmtA S t (s_n S))) (sil1 S t) i21) + (withJ S t i21 ((truM S t i21) - (s_mar S (t * 8 + i21))))) (by first | rfl | simp [q_acc, q_or, q_cnt, q_any, nI_1, sil1, c_33]) lt_i21 (by omega) ls (lv_sub hl [0, 1, 3, 4] rfl)
  exact L_21 (8 + 1) 0 ((scoS S t) - ((s_set S 3) * (nI (wmtA S t (s_n S))))) (rfl) (Nat.zero_le _) (by omega) ls (lv_sub hl [0, 1, 2, 3] rfl)
end
section
/-! ===== lN n to 2^64: shifts, and, or, masks, one bit ===== -/
theorem wb_tb (n : Nat) : (lN n).toBitVec = BitVec.ofNat 64 n := rfl
theorem wb_inj {a b : Int64} (h : a.toBitVec = b.toBitVec) : a = b := Int64.toBitVec_inj.mp h
theorem wb_tn {n : Nat} (h : n < 2 ^ 64) : (lN n).toBitVec.toNat = n := by rw [wb_tb, BitVec.toNat_ofNat, Nat.mod_eq_of_lt h]
theorem wb_of (x : Int64) : ∃ n, n < 2 ^ 64 ∧ x = lN n := ⟨x.toBitVec.toNat, x.toBitVec.isLt, wb_inj (by rw [wb_tb]; simp)⟩
theorem wb_of32 (x : Int32) : ∃ n, n < 2 ^ 32 ∧ x = nI n := ⟨x.toBitVec.toNat, x.toBitVec.isLt, Int32.toBitVec_inj.mp (by show _ = BitVec.ofNat 32 _; simp)⟩
theorem wb_c : ∀ k, k < 64 → ((nI k).toInt64 &&& 63) = lN k := by decide +kernel
theorem wb_cu : ∀ k, k < 64 → ((nI k).toInt64.toUInt64 &&& Int64.toUInt64 63) = UInt64.ofNat k := by decide +kernel
theorem wb_sm : ∀ k, k < 64 → (BitVec.ofNat 64 k).smod 64 = BitVec.ofNat 64 k := by decide +kernel
theorem wb_pw {a b : Nat} (h : a ≤ b) : 2 ^ b = 2 ^ a * 2 ^ (b - a) := by rw [← Nat.pow_add]; congr 1; omega
theorem wb_lt2 {a b : Nat} (h : a < b) : 2 ^ a < 2 ^ b := Nat.pow_lt_pow_right (by decide) h
theorem wb_mod (n : Nat) : lN n = lN (n % 2 ^ 64) := wb_inj (by rw [wb_tb, wb_tb]; apply BitVec.eq_of_toNat_eq; rw [BitVec.toNat_ofNat, BitVec.toNat_ofNat, Nat.mod_mod])
theorem wb_shr {n k : Nat} (hn : n < 2 ^ 64) (hk : k < 64) : ((lN n).toUInt64 >>> ((nI k).toInt64.toUInt64 &&& Int64.toUInt64 63)).toInt64 = lN (n / 2 ^ k) := by
  rw [wb_cu k hk]
  apply wb_inj
  apply BitVec.eq_of_toNat_eq
  show ((lN n).toUInt64 >>> UInt64.ofNat k).toNat = (BitVec.ofNat 64 _).toNat
  have h1 : (UInt64.ofNat k).toNat = k := by
    show (BitVec.ofNat 64 k).toNat = k
    rw [BitVec.toNat_ofNat, Nat.mod_eq_of_lt (by omega)]
  have h2 : (lN n).toUInt64.toNat = n := wb_tn hn
  rw [UInt64.toNat_shiftRight, h1, h2, Nat.mod_eq_of_lt hk, Nat.shiftRight_eq_div_pow, BitVec.toNat_ofNat, Nat.mod_eq_of_lt (Nat.lt_of_le_of_lt (Nat.div_le_self _ _) hn)]
theorem wb_shl (n : Nat) {k : Nat} (hk : k < 64) : lN n <<< ((nI k).toInt64 &&& 63) = lN (n * 2 ^ k) := by
  rw [wb_c k hk]
  apply wb_inj
  rw [Int64.toBitVec_shiftLeft, wb_tb, wb_tb, wb_tb, wb_sm k hk]
  apply BitVec.eq_of_toNat_eq
  rw [BitVec.shiftLeft_eq', BitVec.toNat_shiftLeft, BitVec.toNat_ofNat, BitVec.toNat_ofNat, BitVec.toNat_ofNat, Nat.mod_eq_of_lt (show k < 2 ^ 64 by omega), Nat.shiftLeft_eq, Nat.mul_mod, Nat.mod_mod, ← Nat.mul_mod]
theorem wb_and {a b : Nat} (ha : a < 2 ^ 64) (hb : b < 2 ^ 64) : lN a &&& lN b = lN (a &&& b) := by
  apply wb_inj
  rw [Int64.toBitVec_and, wb_tb, wb_tb, wb_tb]
  apply BitVec.eq_of_toNat_eq
  rw [BitVec.toNat_and, BitVec.toNat_ofNat, BitVec.toNat_ofNat, BitVec.toNat_ofNat, Nat.mod_eq_of_lt ha, Nat.mod_eq_of_lt hb, Nat.mod_eq_of_lt (Nat.and_lt_two_pow _ hb)]
theorem wb_or {a b : Nat} (ha : a < 2 ^ 64) (hb : b < 2 ^ 64) : lN a ||| lN b = lN (a ||| b) := by
  apply wb_inj
  rw [Int64.toBitVec_or, wb_tb, wb_tb, wb_tb]
  apply BitVec.eq_of_toNat_eq
  rw [BitVec.toNat_or, BitVec.toNat_ofNat, BitVec.toNat_ofNat, BitVec.toNat_ofNat, Nat.mod_eq_of_lt ha, Nat.mod_eq_of_lt hb, Nat.mod_eq_of_lt (Nat.or_lt_two_pow ha hb)]
theorem wb_mask {n k : Nat} (hn : n < 2 ^ 64) (hk : k < 64) : lN n &&& lN (2 ^ k - 1) = lN (n % 2 ^ k) := by
  rw [wb_and hn (by have := wb_lt2 hk; omega), Nat.and_two_pow_sub_one_eq_mod]
theorem wb_a1 {n : Nat} (hn : n < 2 ^ 64) : lN n &&& 1 = lN (n % 2) := wb_mask (k := 1) hn (by decide)
end
section
/-! the pad: what it tells -/
def q_pdW (g : q_G) (u w : Nat) (C : Nat → Int32) (n : Nat) : va_W := [(u, .inr (1, [.ref w, .int (nI n)])), (w, .inl (g.2 0, 80, .inl C))]
def isDg (x : Int32) : Bool := !decide (x < 48) && !decide (57 < x)
def isSg (x : Int32) : Bool := decide (x = 45) || isDg x
def sgv (x : Int32) : Int32 := if isDg x = true then x - 48 else 15
def wsg (w : Int64) (k : Nat) (x : Int32) : Int64 := w ||| (x.toInt64 <<< (((4 : Int32) * nI k).toInt64 &&& 63))
def sigs (C : Nat → Int32) : Nat → Int64
  | 0 => 0
  | n + 1 => wsg (sigs C n) n (sgv (C n))
def lead (f : Nat → Bool) : Nat → Nat
  | 0 => 0
  | n + 1 => if lead f n = n ∧ f n = true then n + 1 else lead f n
theorem lead_le (f : Nat → Bool) : ∀ n : Nat, lead f n ≤ n
  | 0 => Nat.le_refl 0
  | n + 1 => by
    have h := lead_le f n
    unfold lead
    split <;> omega
theorem lead_s {f : Nat → Bool} {n : Nat} (h : lead f n = n) (hf : f n = true) : lead f (n + 1) = n + 1 := by
  unfold lead
  rw [if_pos ⟨h, hf⟩]
theorem lead_stop {f : Nat → Bool} {i : Nat} (h : lead f i = i) (hf : f i = false) : ∀ {n : Nat}, i ≤ n → lead f n = i
  | 0, hn => by have e : i = 0 := by omega
                subst e; rfl
  | n + 1, hn => by
    rcases Nat.lt_or_ge i (n + 1) with c | c
    · have e := lead_stop h hf (n := n) (by omega)
      unfold lead
      rw [e]
      rw [if_neg]
      rintro ⟨e1, e2⟩
      subst e1
      rw [hf] at e2; cases e2
    · have e : i = n + 1 := by omega
      subst e; exact h
def pdf (C : Nat → Int32) (k : Nat) : Bool := decide (k < 10) && isSg (C k)
def fauI (C : Nat → Int32) (n : Nat) : Int32 := if lead (pdf C) n = 10 ∧ n = 10 then -6 else nI (lead (pdf C) n)
def tshP (C : Nat → Int32) (n : Nat) : Bool := decide (fauI C n = -6)
def tkyP (C : Nat → Int32) (n : Nat) : Bool := tshP C n && !q_any (fun k => !isDg (C k)) 10
theorem pdf_le {C : Nat → Int32} {n : Nat} (h : lead (pdf C) n = n) : n ≤ 10 := by
  cases n with
  | zero => omega
  | succ n =>
    unfold lead at h
    split at h
    · next c =>
      have := c.2
      simp [pdf] at this
      omega
    · have := lead_le (pdf C) n
      omega
theorem fau_stop {C : Nat → Int32} {i n : Nat} (h : lead (pdf C) i = i) (hf : pdf C i = false) (hn : i < n) : fauI C n = nI i := by
  unfold fauI
  rw [lead_stop h hf (Nat.le_of_lt hn), if_neg]
  have := pdf_le h
  omega
theorem fau_end {C : Nat → Int32} {n : Nat} (h : lead (pdf C) n = n) (hn : n < 10) : fauI C n = nI n := by
  unfold fauI
  rw [h, if_neg (by omega)]
theorem fau_none {C : Nat → Int32} {n : Nat} (h : lead (pdf C) n = n) (hn : ¬ n < 10) : fauI C n = -6 := by
  have := pdf_le h
  unfold fauI
  rw [h, if_pos (by omega)]
/-- characters told by a number: what is left after k of them -/
def sh8 (x : Int64) : Nat → Int64
  | 0 => x
  | k + 1 => ((sh8 x k).toUInt64 >>> ((8 : Int32).toInt64.toUInt64 &&& Int64.toUInt64 63)).toInt64
def chok (x : Int64) : Bool := !decide ((x &&& 255).toInt32 < 33) && decide ((x &&& 255).toInt32 ≤ 126)
def chN (x : Int64) (k : Nat) : Nat → Nat
  | 0 => k
  | f + 1 => if sh8 x k = 0 then k else if chok (sh8 x k) = true then chN x (k + 1) f else 0
theorem sh8_lN {n : Nat} (hn : n < 2 ^ 64) : ∀ k : Nat, sh8 (lN n) k = lN (n / 256 ^ k)
  | 0 => by rw [Nat.pow_zero, Nat.div_one]; rfl
  | k + 1 => by
    have h := sh8_lN hn k
    have h2 := wb_shr (n := n / 256 ^ k) (k := 8) (Nat.lt_of_le_of_lt (Nat.div_le_self _ _) hn) (by decide)
    unfold sh8
    rw [h, show (8 : Int32) = nI 8 from rfl, h2, Nat.div_div_eq_div_mul, show 256 ^ (k + 1) = 256 ^ k * 2 ^ 8 from Nat.pow_succ ..]
theorem sh8_8 (x : Int64) : sh8 x 8 = 0 := by
  obtain ⟨n, hn, rfl⟩ := wb_of x
  rw [sh8_lN hn, Nat.div_eq_of_lt (show n < 256 ^ 8 from hn)]
  rfl
theorem ch_0 {x : Int64} {k f : Nat} (h : sh8 x k = 0) : chN x k f = k := by
  cases f with
  | zero => rfl
  | succ f => simp [chN, h]
theorem ch_b {x : Int64} {k f : Nat} (h : ¬ sh8 x k = 0) (hc : chok (sh8 x k) = false) : chN x k (f + 1) = 0 := by simp [chN, h, hc]
theorem ch_s {x : Int64} {k f : Nat} (h : ¬ sh8 x k = 0) (hc : chok (sh8 x k) = true) : chN x k (f + 1) = chN x (k + 1) f := by simp [chN, h, hc]
theorem ch_ok0 {x : Int64} (h : x &&& 255 = 0) : chok x = false := by simp only [chok, h]; decide
theorem chok_1 {x : Int64} (h : (x &&& 255).toInt32 < 33) : chok x = false := by
  unfold chok; rw [decide_eq_true h]; rfl
theorem chok_2 {x : Int64} (h : ¬ (x &&& 255).toInt32 ≤ 126) : chok x = false := by
  unfold chok; rw [decide_eq_false h]; exact Bool.and_false _
theorem chok_3 {x : Int64} (h : ¬ (x &&& 255).toInt32 < 33) (h2 : (x &&& 255).toInt32 ≤ 126) : chok x = true := by
  unfold chok; rw [decide_eq_false h, decide_eq_true h2]; rfl
theorem ch_nz {x : Int64} (h : ¬ x &&& 255 = 0) : ¬ x = 0 := by rintro rfl; exact h (by decide)

set_option maxHeartbeats 4000000 in
set_option maxRecDepth 100000 in
theorem c_X1_isDigit (l : Launch) (x : Int32) : q_PM l yX1_isDigit wsX1_isDigit { frames := 0, cells := 0, slots := 0, locals := 0 } [.int x] (fun _ => True) (.int (bI (isDg x))) := by
  refine q_pm (cc := cX1_isDigit) (maxL := 1) (ret := (some .boolean)) (by decide) rfl (Nat.le_of_ble_eq_true rfl) ?_
  intro p e s m args below meth c ls hx hb hml hown hts hr hlk _ hl
  have hl : lv_has ls 1 [(0, .int x)] := hl
  refine lv_iload_n hx hb dX1_isDigit_0 rfl (lv_at hl 0 rfl) ?_
  refine lv_bipush (v := 48) hx hb dX1_isDigit_1 (by decide) ?_
  refine lv_icmp_lt (tgt := 16) hx hb dX1_isDigit_3 (by decide) (fun c_3 => ?_) (fun c_3 => ?_)
  · skip
    refine lv_iconst (v := 0) hx hb dX1_isDigit_16 (by decide) ?_
    exact q_zret hx hb hr hlk dX1_isDigit_17 (by simp [isDg, bI, c_3])
  · skip
    refine lv_iload_n hx hb dX1_isDigit_6 rfl (lv_at hl 0 rfl) ?_
    refine lv_bipush (v := 57) hx hb dX1_isDigit_7 (by decide) ?_
    refine lv_icmp_gt (tgt := 16) hx hb dX1_isDigit_9 (by decide) (fun c_9 => ?_) (fun c_9 => ?_)
    · skip
      refine lv_iconst (v := 0) hx hb dX1_isDigit_16 (by decide) ?_
      exact q_zret hx hb hr hlk dX1_isDigit_17 (by simp [isDg, bI, c_3, c_9])
    · skip
      refine lv_iconst (v := 1) hx hb dX1_isDigit_12 (by decide) ?_
      refine lv_goto (tgt := 17) hx hb dX1_isDigit_13 (by decide) ?_
      exact q_zret hx hb hr hlk dX1_isDigit_17 (by simp [isDg, bI, c_3, c_9])

set_option maxHeartbeats 4000000 in
set_option maxRecDepth 100000 in
theorem c_X1_isSign (l : Launch) (x : Int32) : q_PM l yX1_isSign wsX1_isSign { frames := 1, cells := 0, slots := 0, locals := 20 } [.int x] (fun _ => True) (.int (bI (isSg x))) := by
  refine q_pm (cc := cX1_isSign) (maxL := 1) (ret := (some .boolean)) (by decide) rfl (Nat.le_of_ble_eq_true rfl) ?_
  intro p e s m args below meth c ls hx hb hml hown hts hr hlk _ hl
  have hl : lv_has ls 1 [(0, .int x)] := hl
  refine lv_iload_n hx hb dX1_isSign_0 rfl (lv_at hl 0 rfl) ?_
  refine lv_bipush (v := 45) hx hb dX1_isSign_1 (by decide) ?_
  refine lv_icmp_eq (tgt := 13) hx hb dX1_isSign_3 (by decide) (fun c_3 => ?_) (fun c_3 => ?_)
  · skip
    refine lv_iconst (v := 1) hx hb dX1_isSign_13 (by decide) ?_
    refine lv_goto (tgt := 18) hx hb dX1_isSign_14 (by decide) ?_
    exact q_zret hx hb hr hlk dX1_isSign_18 (by simp [isSg, bI, c_3])
  · skip
    refine lv_iload_n hx hb dX1_isSign_6 rfl (lv_at hl 0 rfl) ?_
    refine q_S (As := [.int x]) (rest := []) ⟨hx, hb, hml, hown, hts⟩ (c_X1_isDigit l x ) (va_cwS 1 hts gX1_isSign_X1_isDigit rfl rfl rfl (by decide +kernel) ⟨Nat.le_of_ble_eq_true rfl, Nat.le_of_ble_eq_true rfl⟩) q_Blind_t (fun _ _ _ => trivial) rfl hl.1 rfl (Nat.le_of_ble_eq_true rfl) dX1_isSign_7 (Nat.zero_le _) (Nat.zero_le _) ?_
    refine lv_if_eq (tgt := 17) hx hb dX1_isSign_10 (by decide) (fun c_10 => ?_) (fun c_10 => ?_)
    · skip
      have c_10 : (isDg x) = false := bI_eq c_10
      refine lv_iconst (v := 0) hx hb dX1_isSign_17 (by decide) ?_
      exact q_zret hx hb hr hlk dX1_isSign_18 (by simp [isSg, bI, c_3, c_10])
    · skip
      have c_10 : (isDg x) = true := bI_ne c_10
      refine lv_iconst (v := 1) hx hb dX1_isSign_13 (by decide) ?_
      refine lv_goto (tgt := 18) hx hb dX1_isSign_14 (by decide) ?_
      exact q_zret hx hb hr hlk dX1_isSign_18 (by simp [isSg, bI, c_3, c_10])

set_option maxHeartbeats 4000000 in
set_option maxRecDepth 100000 in
theorem c_X2_withSign (l : Launch) (w : Int64) (k : Nat) (x : Int32) : q_PM l yX2_withSign wsX2_withSign { frames := 0, cells := 0, slots := 0, locals := 0 } [.long w, .int (nI k), .int x] (fun _ => True) (.long (wsg w k x)) := by
  refine q_pm (cc := cX2_withSign) (maxL := 4) (ret := (some .long)) (by decide) rfl (Nat.le_of_ble_eq_true rfl) ?_
  intro p e s m args below meth c ls hx hb hml hown hts hr hlk _ hl
  have hl : lv_has ls 4 [(0, .long w), (2, .int (nI k)), (3, .int x)] := hl
  refine lv_lload_n hx hb dX2_withSign_0 rfl (lv_at hl 0 rfl) ?_
  refine lv_iload_n hx hb dX2_withSign_1 rfl (lv_at hl 2 rfl) ?_
  refine lv_i2l (v := x.toInt64) hx hb dX2_withSign_2 rfl ?_
  refine lv_iconst (v := 4) hx hb dX2_withSign_3 (by decide) ?_
  refine lv_iload_n hx hb dX2_withSign_4 rfl (lv_at hl 1 rfl) ?_
  refine lv_imul hx hb dX2_withSign_5 ?_
  refine lv_lshl (v := (x.toInt64) <<< ((4 * (nI k)).toInt64 &&& 63)) hx hb dX2_withSign_6 rfl ?_
  refine lv_lor hx hb dX2_withSign_7 ?_
  exact q_lret hx hb hr hlk dX2_withSign_8 (rfl)

set_option maxHeartbeats 4000000 in
set_option maxRecDepth 100000 in
theorem c_X1_length (l : Launch) (g : q_G) (u w : Nat) (C : Nat → Int32) (n : Nat) : q_PM l yX1_length wsX1_length { frames := 0, cells := 0, slots := 0, locals := 0 } [.ref u] (q_B g (q_pdW g u w C n)) (.int (nI n)) := by
  refine q_pm (cc := cX1_length) (maxL := 1) (ret := (some .int)) (by decide) rfl (Nat.le_of_ble_eq_true rfl) ?_
  intro p e s m args below meth c ls hx hb hml hown hts hr hlk hB hl
  obtain ⟨hP, hK, hN⟩ := hB
  have fl_17 := hts (.fieldLink RX1 17 "PubQuizzes$Pad" "length" "I") (by decide +kernel)
  have hi_X1 : ∀ w ∈ u_ws RX1 TX1 2, w ∈ wsX1_length := by decide +kernel
  have hl : lv_has ls 1 [(0, .ref u)] := hl
  refine lv_aload_n hx hb dX1_length_0 rfl (lv_at hl 0 rfl) ?_
  refine va_get (D := g.1) (ci := 1) (v := .int (nI n)) (C := RX1) (T := TX1) (N := 2) hx hb hts hi_X1 hown hK hP 0 rfl rfl 1 (by decide) fl_17 (fun _ h9 => h9) rfl dX1_length_1 ?_
  exact q_iret hx hb hr hlk dX1_length_4 (rfl)

set_option maxHeartbeats 4000000 in
set_option maxRecDepth 100000 in
theorem c_X1_faultIndex (l : Launch) (g : q_G) (u w : Nat) (C : Nat → Int32) (n : Nat) (h1_ : n ≤ 80) : q_PM l yX1_faultIndex wsX1_faultIndex { frames := 2, cells := 0, slots := 0, locals := 40 } [.ref u] (q_B g (q_pdW g u w C n)) (.int (fauI C n)) := by
  refine q_pm (cc := cX1_faultIndex) (maxL := 2) (ret := (some .int)) (by decide) rfl (Nat.le_of_ble_eq_true rfl) ?_
  intro p e s m args below meth c ls hx hb hml hown hts hr hlk hB hl
  obtain ⟨hP, hK, hN⟩ := hB
  have fl_11 := hts (.fieldLink RX1 11 "PubQuizzes$Pad" "codes" "[I") (by decide +kernel)
  have fl_17 := hts (.fieldLink RX1 17 "PubQuizzes$Pad" "length" "I") (by decide +kernel)
  have hi_X1 : ∀ w ∈ u_ws RX1 TX1 2, w ∈ wsX1_faultIndex := by decide +kernel
  have hl : lv_has ls 2 [(0, .ref u)] := hl
  refine lv_iconst (v := 0) hx hb dX1_faultIndex_0 (by decide) ?_
  refine lv_istore_n (lv' := [(1, .int 0), (0, .ref u)]) hx hb dX1_faultIndex_1 rfl hl (by decide) rfl (fun ls hl => ?_)
  have L_2 : ∀ (fu i2 : Nat), (lead (pdf C) i2 = i2) → i2 ≤ n → n < i2 + fu → ∀ ls : Array Slot, lv_has ls 2 [(1, .int (nI i2)), (0, .ref u)] → W p l e { frames := 2, cells := 0, slots := 0, locals := 40 } s m args below meth c s.heap [] 0 0 (MQ below (k2_QcV (.int (fauI C n))) args s 0 0 (fun _ => False)) (F0 m 2 ls []) := by
    intro fu
    induction fu with
    | zero => intro i2 hf hi_i2 hn_i2; exact absurd hn_i2 (by omega)
    | succ fu ih_i2 =>
      intro i2 hf hi_i2 hn_i2 ls hl
      refine lv_iload_n hx hb dX1_faultIndex_2 rfl (lv_at hl 0 rfl) ?_
      refine lv_aload_n hx hb dX1_faultIndex_3 rfl (lv_at hl 1 rfl) ?_
      refine va_get (D := g.1) (ci := 1) (v := .int (nI n)) (C := RX1) (T := TX1) (N := 2) hx hb hts hi_X1 hown hK hP 0 rfl rfl 1 (by decide) fl_17 (fun _ h9 => h9) rfl dX1_faultIndex_4 ?_
      refine lv_icmp_ge (tgt := 42) hx hb dX1_faultIndex_7 (by decide) (fun c_7 => ?_) (fun c_7 => ?_)
      · skip
        have e_7 : i2 = n := q_ge_T (by omega) hi_i2 c_7
        rw [e_7] at hf
        refine lv_aload_n hx hb dX1_faultIndex_42 rfl (lv_at hl 1 rfl) ?_
        refine va_get (D := g.1) (ci := 1) (v := .int (nI n)) (C := RX1) (T := TX1) (N := 2) hx hb hts hi_X1 hown hK hP 0 rfl rfl 1 (by decide) fl_17 (fun _ h9 => h9) rfl dX1_faultIndex_43 ?_
        refine lv_bipush (v := 10) hx hb dX1_faultIndex_46 (by decide) ?_
        refine lv_icmp_ge (tgt := 58) hx hb dX1_faultIndex_48 (by decide) (fun c_48 => ?_) (fun c_48 => ?_)
        · skip
          have c_48 := (nI_leI (a := 10) (by decide) (by omega)).mp c_48
          refine lv_bipush (v := (-6)) hx hb dX1_faultIndex_58 (by decide) ?_
          exact q_iret hx hb hr hlk dX1_faultIndex_60 (by first | exact (fau_end hf c_48N).symm | exact (fau_none hf (by omega)).symm)
        · skip
          have c_48N : n < 10 := Nat.lt_of_not_le fun q => c_48 (nI_le q (by omega))
          refine lv_aload_n hx hb dX1_faultIndex_51 rfl (lv_at hl 1 rfl) ?_
          refine va_get (D := g.1) (ci := 1) (v := .int (nI n)) (C := RX1) (T := TX1) (N := 2) hx hb hts hi_X1 hown hK hP 0 rfl rfl 1 (by decide) fl_17 (fun _ h9 => h9) rfl dX1_faultIndex_52 ?_
          refine lv_goto (tgt := 60) hx hb dX1_faultIndex_55 (by decide) ?_
          exact q_iret hx hb hr hlk dX1_faultIndex_60 (by first | exact (fau_end hf c_48N).symm | exact (fau_none hf (by omega)).symm)
      · skip
        have lt_i2 : i2 < n := q_ge_F (by omega) hi_i2 c_7
        refine lv_iload_n hx hb dX1_faultIndex_10 rfl (lv_at hl 0 rfl) ?_
        refine lv_bipush (v := 80) hx hb dX1_faultIndex_11 (by decide) ?_
        refine lv_icmp_ge (tgt := 42) hx hb dX1_faultIndex_13 (by decide) (fun c_13 => ?_) (fun c_13 => ?_)
        · skip
          exact absurd ((nI_leI (a := 80) (by decide) (by omega)).mp c_13) (by omega)
        · skip
          refine lv_iload_n hx hb dX1_faultIndex_16 rfl (lv_at hl 0 rfl) ?_
          refine lv_bipush (v := 10) hx hb dX1_faultIndex_17 (by decide) ?_
          refine lv_icmp_ge (tgt := 34) hx hb dX1_faultIndex_19 (by decide) (fun c_19 => ?_) (fun c_19 => ?_)
          · skip
            have c_19 := (nI_leI (a := 10) (by decide) (by omega)).mp c_19
            refine lv_iload_n hx hb dX1_faultIndex_34 rfl (lv_at hl 0 rfl) ?_
            exact q_iret hx hb hr hlk dX1_faultIndex_35 (by first | exact (fau_stop hf (by simp [pdf]; omega) lt_i2).symm | exact (fau_stop hf (by simp [pdf, c_13, c_19]) lt_i2).symm)
          · skip
            have c_19N : ¬ 10 ≤ i2 := fun q => c_19 (nI_le q (by omega))
            refine lv_aload_n hx hb dX1_faultIndex_22 rfl (lv_at hl 1 rfl) ?_
            refine va_get (D := g.1) (ci := 1) (v := .ref w) (C := RX1) (T := TX1) (N := 2) hx hb hts hi_X1 hown hK hP 0 rfl rfl 0 (by decide) fl_11 (fun _ h9 => h9) rfl dX1_faultIndex_23 ?_
            refine lv_iload_n hx hb dX1_faultIndex_26 rfl (lv_at hl 0 rfl) ?_
            refine q_iald (j := i2) hx hb hK hP 1 0 rfl rfl (by omega) (by decide) dX1_faultIndex_27 ?_
            refine q_S (As := [.int (C i2)]) (rest := []) ⟨hx, hb, hml, hown, hts⟩ (c_X1_isSign l (C i2) ) (va_cwS 1 hts gX1_faultIndex_X1_isSign rfl rfl rfl (by decide +kernel) ⟨Nat.le_of_ble_eq_true rfl, Nat.le_of_ble_eq_true rfl⟩) q_Blind_t (fun _ _ _ => trivial) rfl hl.1 rfl (Nat.le_of_ble_eq_true rfl) dX1_faultIndex_28 (Nat.zero_le _) (Nat.zero_le _) ?_
            refine lv_if_ne (tgt := 36) hx hb dX1_faultIndex_31 (by decide) (fun c_31 => ?_) (fun c_31 => ?_)
            · skip
              have c_31 : (isSg (C i2)) = true := bI_ne c_31
              refine lv_iinc (v := nI (i2 + 1)) (lv' := [(1, .int (nI (i2 + 1))), (0, .ref u)]) hx hb dX1_faultIndex_36 hl (k := 0) rfl (nI_1 _) (by decide) rfl (fun ls hl => ?_)
              refine lv_goto (tgt := 2) hx hb dX1_faultIndex_39 (by decide) ?_
              exact ih_i2 (i2 + 1) (lead_s hf (by simp [pdf, c_31]; omega)) lt_i2 (by omega) ls (lv_sub hl [0, 1] rfl)
            · skip
              have c_31 : (isSg (C i2)) = false := bI_eq c_31
              refine lv_iload_n hx hb dX1_faultIndex_34 rfl (lv_at hl 0 rfl) ?_
              exact q_iret hx hb hr hlk dX1_faultIndex_35 (by first | exact (fau_stop hf (by simp [pdf]; omega) lt_i2).symm | exact (fau_stop hf (by simp [pdf, c_13, c_19, c_31]) lt_i2).symm)
  exact L_2 (n + 1) 0 (rfl) (Nat.zero_le _) (by omega) ls (lv_sub hl [0, 1] rfl)

set_option maxHeartbeats 4000000 in
set_option maxRecDepth 100000 in
theorem c_X1_tellsSheet (l : Launch) (g : q_G) (u w : Nat) (C : Nat → Int32) (n : Nat) (h1_ : n ≤ 80) : q_PM l yX1_tellsSheet wsX1_tellsSheet { frames := 3, cells := 0, slots := 0, locals := 61 } [.ref u] (q_B g (q_pdW g u w C n)) (.int (bI (tshP C n))) := by
  refine q_pm (cc := cX1_tellsSheet) (maxL := 1) (ret := (some .boolean)) (by decide) rfl (Nat.le_of_ble_eq_true rfl) ?_
  intro p e s m args below meth c ls hx hb hml hown hts hr hlk hB hl
  obtain ⟨hP, hK, hN⟩ := hB
  have hl : lv_has ls 1 [(0, .ref u)] := hl
  refine lv_aload_n hx hb dX1_tellsSheet_0 rfl (lv_at hl 0 rfl) ?_
  refine q_V (As := []) (rest := []) ⟨hx, hb, hml, hown, hts⟩ (c_X1_faultIndex l g u w C n  (by omega)) (cwV 0 hts gX1_tellsSheet_X1_faultIndex rfl rfl rfl (by decide +kernel) ⟨Nat.le_of_ble_eq_true rfl, Nat.le_of_ble_eq_true rfl⟩) q_B_blind (va_recv hK hP (ci := 1) (q0 := 0) rfl rfl) (q_B_of hP hK hN) rfl hl.1 rfl (Nat.le_of_ble_eq_true rfl) dX1_tellsSheet_1 (Nat.zero_le _) (Nat.zero_le _) ?_
  refine lv_bipush (v := (-6)) hx hb dX1_tellsSheet_4 (by decide) ?_
  refine lv_icmp_ne (tgt := 13) hx hb dX1_tellsSheet_6 (by decide) (fun c_6 => ?_) (fun c_6 => ?_)
  · skip
    refine lv_iconst (v := 0) hx hb dX1_tellsSheet_13 (by decide) ?_
    exact q_zret hx hb hr hlk dX1_tellsSheet_14 (by simp [tshP, bI, c_6])
  · skip
    refine lv_iconst (v := 1) hx hb dX1_tellsSheet_9 (by decide) ?_
    refine lv_goto (tgt := 14) hx hb dX1_tellsSheet_10 (by decide) ?_
    exact q_zret hx hb hr hlk dX1_tellsSheet_14 (by simp [tshP, bI, c_6])

set_option maxHeartbeats 4000000 in
set_option maxRecDepth 100000 in
theorem c_X1_tellsKey (l : Launch) (g : q_G) (u w : Nat) (C : Nat → Int32) (n : Nat) (h1_ : n ≤ 80) : q_PM l yX1_tellsKey wsX1_tellsKey { frames := 4, cells := 0, slots := 0, locals := 81 } [.ref u] (q_B g (q_pdW g u w C n)) (.int (bI (tkyP C n))) := by
  refine q_pm (cc := cX1_tellsKey) (maxL := 2) (ret := (some .boolean)) (by decide) rfl (Nat.le_of_ble_eq_true rfl) ?_
  intro p e s m args below meth c ls hx hb hml hown hts hr hlk hB hl
  obtain ⟨hP, hK, hN⟩ := hB
  have fl_11 := hts (.fieldLink RX1 11 "PubQuizzes$Pad" "codes" "[I") (by decide +kernel)
  have hi_X1 : ∀ w ∈ u_ws RX1 TX1 2, w ∈ wsX1_tellsKey := by decide +kernel
  have hl : lv_has ls 2 [(0, .ref u)] := hl
  refine lv_aload_n hx hb dX1_tellsKey_0 rfl (lv_at hl 0 rfl) ?_
  refine q_V (As := []) (rest := []) ⟨hx, hb, hml, hown, hts⟩ (c_X1_tellsSheet l g u w C n  (by omega)) (cwV 0 hts gX1_tellsKey_X1_tellsSheet rfl rfl rfl (by decide +kernel) ⟨Nat.le_of_ble_eq_true rfl, Nat.le_of_ble_eq_true rfl⟩) q_B_blind (va_recv hK hP (ci := 1) (q0 := 0) rfl rfl) (q_B_of hP hK hN) rfl hl.1 rfl (Nat.le_of_ble_eq_true rfl) dX1_tellsKey_1 (Nat.zero_le _) (Nat.zero_le _) ?_
  refine lv_if_ne (tgt := 9) hx hb dX1_tellsKey_4 (by decide) (fun c_4 => ?_) (fun c_4 => ?_)
  · skip
    have c_4 : (tshP C n) = true := bI_ne c_4
    refine lv_iconst (v := 0) hx hb dX1_tellsKey_9 (by decide) ?_
    refine lv_istore_n (lv' := [(1, .int 0), (0, .ref u)]) hx hb dX1_tellsKey_10 rfl hl (by decide) rfl (fun ls hl => ?_)
    have L_11 : ∀ (fu i11 : Nat), (q_any (fun k => !isDg (C k)) i11 = false) → i11 ≤ 10 → 10 < i11 + fu → ∀ ls : Array Slot, lv_has ls 2 [(1, .int (nI i11)), (0, .ref u)] → W p l e { frames := 4, cells := 0, slots := 0, locals := 81 } s m args below meth c s.heap [] 0 0 (MQ below (k2_QcV (.int (bI (tkyP C n)))) args s 0 0 (fun _ => False)) (F0 m 11 ls []) := by
      intro fu
      induction fu with
      | zero => intro i11 hf hi_i11 hn_i11; exact absurd hn_i11 (by omega)
      | succ fu ih_i11 =>
        intro i11 hf hi_i11 hn_i11 ls hl
        refine lv_iload_n hx hb dX1_tellsKey_11 rfl (lv_at hl 0 rfl) ?_
        refine lv_bipush (v := 10) hx hb dX1_tellsKey_12 (by decide) ?_
        refine lv_icmp_ge (tgt := 37) hx hb dX1_tellsKey_14 (by decide) (fun c_14 => ?_) (fun c_14 => ?_)
        · skip
          have e_14 : i11 = 10 := q_ge_T (by omega) hi_i11 c_14
          rw [e_14] at hf
          refine lv_iconst (v := 1) hx hb dX1_tellsKey_37 (by decide) ?_
          exact q_zret hx hb hr hlk dX1_tellsKey_38 (by simp [tkyP, bI, hf, c_4])
        · skip
          have lt_i11 : i11 < 10 := q_ge_F (by omega) hi_i11 c_14
          refine lv_aload_n hx hb dX1_tellsKey_17 rfl (lv_at hl 1 rfl) ?_
          refine va_get (D := g.1) (ci := 1) (v := .ref w) (C := RX1) (T := TX1) (N := 2) hx hb hts hi_X1 hown hK hP 0 rfl rfl 0 (by decide) fl_11 (fun _ h9 => h9) rfl dX1_tellsKey_18 ?_
          refine lv_iload_n hx hb dX1_tellsKey_21 rfl (lv_at hl 0 rfl) ?_
          refine q_iald (j := i11) hx hb hK hP 1 0 rfl rfl (by omega) (by decide) dX1_tellsKey_22 ?_
          refine q_S (As := [.int (C i11)]) (rest := []) ⟨hx, hb, hml, hown, hts⟩ (c_X1_isDigit l (C i11) ) (va_cwS 1 hts gX1_tellsKey_X1_isDigit rfl rfl rfl (by decide +kernel) ⟨Nat.le_of_ble_eq_true rfl, Nat.le_of_ble_eq_true rfl⟩) q_Blind_t (fun _ _ _ => trivial) rfl hl.1 rfl (Nat.le_of_ble_eq_true rfl) dX1_tellsKey_23 (Nat.zero_le _) (Nat.zero_le _) ?_
          refine lv_if_ne (tgt := 31) hx hb dX1_tellsKey_26 (by decide) (fun c_26 => ?_) (fun c_26 => ?_)
          · skip
            have c_26 : (isDg (C i11)) = true := bI_ne c_26
            refine lv_iinc (v := nI (i11 + 1)) (lv' := [(1, .int (nI (i11 + 1))), (0, .ref u)]) hx hb dX1_tellsKey_31 hl (k := 0) rfl (nI_1 _) (by decide) rfl (fun ls hl => ?_)
            refine lv_goto (tgt := 11) hx hb dX1_tellsKey_34 (by decide) ?_
            exact ih_i11 (i11 + 1) (by simp [q_any, hf, c_4, c_26]) lt_i11 (by omega) ls (lv_sub hl [0, 1] rfl)
          · skip
            have c_26 : (isDg (C i11)) = false := bI_eq c_26
            refine lv_iconst (v := 0) hx hb dX1_tellsKey_29 (by decide) ?_
            exact q_zret hx hb hr hlk dX1_tellsKey_30 (by simp [tkyP, bI, q_any_t lt_i11 (f := fun k => !isDg (C k)) (by simp [c_26])])
    exact L_11 (10 + 1) 0 (rfl) (Nat.zero_le _) (by omega) ls (lv_sub hl [0, 1] rfl)
  · skip
    have c_4 : (tshP C n) = false := bI_eq c_4
    refine lv_iconst (v := 0) hx hb dX1_tellsKey_7 (by decide) ?_
    exact q_zret hx hb hr hlk dX1_tellsKey_8 (by simp [tkyP, bI, c_4])

set_option maxHeartbeats 4000000 in
set_option maxRecDepth 100000 in
theorem c_X1_signs (l : Launch) (g : q_G) (u w : Nat) (C : Nat → Int32) (n : Nat) : q_PM l yX1_signs wsX1_signs { frames := 1, cells := 0, slots := 0, locals := 23 } [.ref u] (q_B g (q_pdW g u w C n)) (.long (sigs C 10)) := by
  refine q_pm (cc := cX1_signs) (maxL := 5) (ret := (some .long)) (by decide) rfl (Nat.le_of_ble_eq_true rfl) ?_
  intro p e s m args below meth c ls hx hb hml hown hts hr hlk hB hl
  obtain ⟨hP, hK, hN⟩ := hB
  have fl_11 := hts (.fieldLink RX1 11 "PubQuizzes$Pad" "codes" "[I") (by decide +kernel)
  have hi_X1 : ∀ w ∈ u_ws RX1 TX1 2, w ∈ wsX1_signs := by decide +kernel
  have hl : lv_has ls 5 [(0, .ref u)] := hl
  refine lv_lconst (v := 0) hx hb dX1_signs_0 (by decide) ?_
  refine lv_lstore_n (lv' := [(1, .long 0), (0, .ref u)]) hx hb dX1_signs_1 rfl hl (by decide) rfl (fun ls hl => ?_)
  refine lv_iconst (v := 0) hx hb dX1_signs_2 (by decide) ?_
  refine lv_istore_n (lv' := [(3, .int 0), (1, .long 0), (0, .ref u)]) hx hb dX1_signs_3 rfl hl (by decide) rfl (fun ls hl => ?_)
  have L_4 : ∀ (fu i4 : Nat) (y1_4 : Int64), y1_4 = sigs C i4 → i4 ≤ 10 → 10 < i4 + fu → ∀ ls : Array Slot, lv_has ls 5 [(3, .int (nI i4)), (1, .long y1_4), (0, .ref u)] → W p l e { frames := 1, cells := 0, slots := 0, locals := 23 } s m args below meth c s.heap [] 0 0 (MQ below (k2_QcV (.long (sigs C 10))) args s 0 0 (fun _ => False)) (F0 m 4 ls []) := by
    intro fu
    induction fu with
    | zero => intro i4 y1_4 ey1_4 hi_i4 hn_i4; exact absurd hn_i4 (by omega)
    | succ fu ih_i4 =>
      intro i4 y1_4 ey1_4 hi_i4 hn_i4 ls hl
      subst ey1_4
      refine lv_iload_n hx hb dX1_signs_4 rfl (lv_at hl 0 rfl) ?_
      refine lv_bipush (v := 10) hx hb dX1_signs_5 (by decide) ?_
      refine lv_icmp_ge (tgt := 52) hx hb dX1_signs_7 (by decide) (fun c_7 => ?_) (fun c_7 => ?_)
      · skip
        have e_7 : i4 = 10 := q_ge_T (by omega) hi_i4 c_7
        subst e_7
        refine lv_lload_n hx hb dX1_signs_52 rfl (lv_at hl 1 rfl) ?_
        exact q_lret hx hb hr hlk dX1_signs_53 (rfl)
      · skip
        have lt_i4 : i4 < 10 := q_ge_F (by omega) hi_i4 c_7
        refine lv_aload_n hx hb dX1_signs_10 rfl (lv_at hl 2 rfl) ?_
        refine va_get (D := g.1) (ci := 1) (v := .ref w) (C := RX1) (T := TX1) (N := 2) hx hb hts hi_X1 hown hK hP 0 rfl rfl 0 (by decide) fl_11 (fun _ h9 => h9) rfl dX1_signs_11 ?_
        refine lv_iload_n hx hb dX1_signs_14 rfl (lv_at hl 0 rfl) ?_
        refine q_iald (j := i4) hx hb hK hP 1 0 rfl rfl (by omega) (by decide) dX1_signs_15 ?_
        refine q_S (As := [.int (C i4)]) (rest := []) ⟨hx, hb, hml, hown, hts⟩ (c_X1_isDigit l (C i4) ) (va_cwS 1 hts gX1_signs_X1_isDigit rfl rfl rfl (by decide +kernel) ⟨Nat.le_of_ble_eq_true rfl, Nat.le_of_ble_eq_true rfl⟩) q_Blind_t (fun _ _ _ => trivial) rfl hl.1 rfl (Nat.le_of_ble_eq_true rfl) dX1_signs_16 (Nat.zero_le _) (Nat.zero_le _) ?_
        refine lv_if_eq (tgt := 34) hx hb dX1_signs_19 (by decide) (fun c_19 => ?_) (fun c_19 => ?_)
        · skip
          have c_19 : (isDg (C i4)) = false := bI_eq c_19
          refine lv_bipush (v := 15) hx hb dX1_signs_34 (by decide) ?_
          refine lv_istore (lv' := [(4, .int 15), (3, .int (nI i4)), (1, .long (sigs C i4)), (0, .ref u)]) hx hb dX1_signs_36 hl (by decide) rfl (fun ls hl => ?_)
          refine lv_lload_n hx hb dX1_signs_38 rfl (lv_at hl 2 rfl) ?_
          refine lv_iload_n hx hb dX1_signs_39 rfl (lv_at hl 1 rfl) ?_
          refine lv_iload hx hb dX1_signs_40 (lv_at hl 0 rfl) ?_
          refine q_S (As := [.long (sigs C i4), .int (nI i4), .int 15]) (rest := []) ⟨hx, hb, hml, hown, hts⟩ (c_X2_withSign l (sigs C i4) i4 15 ) (va_cwS 3 hts gX1_signs_X2_withSign rfl rfl rfl (by decide +kernel) ⟨Nat.le_of_ble_eq_true rfl, Nat.le_of_ble_eq_true rfl⟩) q_Blind_t (fun _ _ _ => trivial) rfl hl.1 rfl (Nat.le_of_ble_eq_true rfl) dX1_signs_42 (Nat.zero_le _) (Nat.zero_le _) ?_
          refine lv_lstore_n (lv' := [(1, .long (wsg (sigs C i4) i4 15)), (4, .int 15), (3, .int (nI i4)), (0, .ref u)]) hx hb dX1_signs_45 rfl hl (by decide) rfl (fun ls hl => ?_)
          refine lv_iinc (v := nI (i4 + 1)) (lv' := [(3, .int (nI (i4 + 1))), (1, .long (wsg (sigs C i4) i4 15)), (4, .int 15), (0, .ref u)]) hx hb dX1_signs_46 hl (k := 2) rfl (nI_1 _) (by decide) rfl (fun ls hl => ?_)
          refine lv_goto (tgt := 4) hx hb dX1_signs_49 (by decide) ?_
          exact ih_i4 (i4 + 1) (wsg (sigs C i4) i4 15) (by simp only [sigs, sgv, if_neg (Bool.eq_false_iff.mp c_19)]) lt_i4 (by omega) ls (lv_sub hl [0, 1, 3] rfl)
        · skip
          have c_19 : (isDg (C i4)) = true := bI_ne c_19
          refine lv_aload_n hx hb dX1_signs_22 rfl (lv_at hl 2 rfl) ?_
          refine va_get (D := g.1) (ci := 1) (v := .ref w) (C := RX1) (T := TX1) (N := 2) hx hb hts hi_X1 hown hK hP 0 rfl rfl 0 (by decide) fl_11 (fun _ h9 => h9) rfl dX1_signs_23 ?_
          refine lv_iload_n hx hb dX1_signs_26 rfl (lv_at hl 0 rfl) ?_
          refine q_iald (j := i4) hx hb hK hP 1 0 rfl rfl (by omega) (by decide) dX1_signs_27 ?_
          refine lv_bipush (v := 48) hx hb dX1_signs_28 (by decide) ?_
          refine lv_isub hx hb dX1_signs_30 ?_
          refine lv_goto (tgt := 36) hx hb dX1_signs_31 (by decide) ?_
          refine lv_istore (lv' := [(4, .int ((C i4) - 48)), (3, .int (nI i4)), (1, .long (sigs C i4)), (0, .ref u)]) hx hb dX1_signs_36 hl (by decide) rfl (fun ls hl => ?_)
          refine lv_lload_n hx hb dX1_signs_38 rfl (lv_at hl 2 rfl) ?_
          refine lv_iload_n hx hb dX1_signs_39 rfl (lv_at hl 1 rfl) ?_
          refine lv_iload hx hb dX1_signs_40 (lv_at hl 0 rfl) ?_
          refine q_S (As := [.long (sigs C i4), .int (nI i4), .int ((C i4) - 48)]) (rest := []) ⟨hx, hb, hml, hown, hts⟩ (c_X2_withSign l (sigs C i4) i4 ((C i4) - 48) ) (va_cwS 3 hts gX1_signs_X2_withSign rfl rfl rfl (by decide +kernel) ⟨Nat.le_of_ble_eq_true rfl, Nat.le_of_ble_eq_true rfl⟩) q_Blind_t (fun _ _ _ => trivial) rfl hl.1 rfl (Nat.le_of_ble_eq_true rfl) dX1_signs_42 (Nat.zero_le _) (Nat.zero_le _) ?_
          refine lv_lstore_n (lv' := [(1, .long (wsg (sigs C i4) i4 ((C i4) - 48))), (4, .int ((C i4) - 48)), (3, .int (nI i4)), (0, .ref u)]) hx hb dX1_signs_45 rfl hl (by decide) rfl (fun ls hl => ?_)
          refine lv_iinc (v := nI (i4 + 1)) (lv' := [(3, .int (nI (i4 + 1))), (1, .long (wsg (sigs C i4) i4 ((C i4) - 48))), (4, .int ((C i4) - 48)), (0, .ref u)]) hx hb dX1_signs_46 hl (k := 2) rfl (nI_1 _) (by decide) rfl (fun ls hl => ?_)
          refine lv_goto (tgt := 4) hx hb dX1_signs_49 (by decide) ?_
          exact ih_i4 (i4 + 1) (wsg (sigs C i4) i4 ((C i4) - 48)) (by simp only [sigs, sgv, if_pos c_19]) lt_i4 (by omega) ls (lv_sub hl [0, 1, 3] rfl)
  exact L_4 (10 + 1) 0 0 (rfl) (Nat.zero_le _) (by omega) ls (lv_sub hl [0, 1, 2] rfl)

set_option maxHeartbeats 4000000 in
set_option maxRecDepth 100000 in
theorem c_X1_charactersIn (l : Launch) (x : Int64) : q_PM l yX1_charactersIn wsX1_charactersIn { frames := 0, cells := 0, slots := 0, locals := 0 } [.long x] (fun _ => True) (.int (nI (chN x 0 8))) := by
  refine q_pm (cc := cX1_charactersIn) (maxL := 6) (ret := (some .int)) (by decide) rfl (Nat.le_of_ble_eq_true rfl) ?_
  intro p e s m args below meth c ls hx hb hml hown hts hr hlk _ hl
  have hl : lv_has ls 6 [(0, .long x)] := hl
  refine lv_lload_n hx hb dX1_charactersIn_0 rfl (lv_at hl 0 rfl) ?_
  refine lv_lstore_n (lv' := [(2, .long x), (0, .long x)]) hx hb dX1_charactersIn_1 rfl hl (by decide) rfl (fun ls hl => ?_)
  refine lv_iconst (v := 0) hx hb dX1_charactersIn_2 (by decide) ?_
  refine lv_istore (lv' := [(4, .int 0), (2, .long x), (0, .long x)]) hx hb dX1_charactersIn_3 hl (by decide) rfl (fun ls hl => ?_)
  have L_5 : ∀ (fu i5 : Nat) (y2_5 : Int64), y2_5 = sh8 x i5 → (chN x i5 (8 - i5) = chN x 0 8) → i5 ≤ 8 → 8 < i5 + fu → ∀ ls : Array Slot, lv_has ls 6 [(4, .int (nI i5)), (2, .long y2_5), (0, .long x)] → W p l e { frames := 0, cells := 0, slots := 0, locals := 0 } s m args below meth c s.heap [] 0 0 (MQ below (k2_QcV (.int (nI (chN x 0 8)))) args s 0 0 (fun _ => False)) (F0 m 5 ls []) := by
    intro fu
    induction fu with
    | zero => intro i5 y2_5 ey2_5 hf hi_i5 hn_i5; exact absurd hn_i5 (by omega)
    | succ fu ih_i5 =>
      intro i5 y2_5 ey2_5 hf hi_i5 hn_i5 ls hl
      subst ey2_5
      refine lv_iload hx hb dX1_charactersIn_5 (lv_at hl 0 rfl) ?_
      refine lv_bipush (v := 8) hx hb dX1_charactersIn_7 (by decide) ?_
      refine lv_icmp_ge (tgt := 57) hx hb dX1_charactersIn_9 (by decide) (fun c_9 => ?_) (fun c_9 => ?_)
      · skip
        have e_9 : i5 = 8 := q_ge_T (by omega) hi_i5 c_9
        subst e_9
        rw [sh8_8] at hl
        have hz := ch_0 (f := 0) (sh8_8 x)
        refine lv_lload_n hx hb dX1_charactersIn_57 rfl (lv_at hl 1 rfl) ?_
        refine lv_lconst (v := 0) hx hb dX1_charactersIn_58 (by decide) ?_
        refine W.lcmp hx hb dX1_charactersIn_59 ?_
        refine lv_if_ne (tgt := 68) hx hb dX1_charactersIn_60 (by decide) (fun c_60 => ?_) (fun c_60 => ?_)
        · skip
          exact absurd c_60 (by decide)
        · skip
          refine lv_iload hx hb dX1_charactersIn_63 (lv_at hl 0 rfl) ?_
          refine lv_goto (tgt := 69) hx hb dX1_charactersIn_65 (by decide) ?_
          exact q_iret hx hb hr hlk dX1_charactersIn_69 (by first | rw [← hf, ch_0 c_60] | rw [← hf, hz] | (rw [← hf, show 8 - i5 = (8 - (i5 + 1)) + 1 from by omega, ch_b c_60 (ch_ok0 c_19)]; first | done | rfl) | (exact absurd rfl c_60))
      · skip
        have lt_i5 : i5 < 8 := q_ge_F (by omega) hi_i5 c_9
        refine lv_lload_n hx hb dX1_charactersIn_12 rfl (lv_at hl 1 rfl) ?_
        refine lv_ldc2 (v := 255) hx hb hown (hts (.constantLong RX1 15 (255)) (by decide +kernel)) dX1_charactersIn_13 ?_
        refine lv_land hx hb dX1_charactersIn_16 ?_
        refine lv_lconst (v := 0) hx hb dX1_charactersIn_17 (by decide) ?_
        refine W.lcmp hx hb dX1_charactersIn_18 ?_
        refine lv_if_eq (tgt := 57) hx hb dX1_charactersIn_19 (by decide) (fun c_19 => ?_) (fun c_19 => ?_)
        · skip
          have c_19 := q_cmp_e c_19
          refine lv_lload_n hx hb dX1_charactersIn_57 rfl (lv_at hl 1 rfl) ?_
          refine lv_lconst (v := 0) hx hb dX1_charactersIn_58 (by decide) ?_
          refine W.lcmp hx hb dX1_charactersIn_59 ?_
          refine lv_if_ne (tgt := 68) hx hb dX1_charactersIn_60 (by decide) (fun c_60 => ?_) (fun c_60 => ?_)
          · skip
            have c_60 := q_cmp_n c_60
            refine lv_iconst (v := 0) hx hb dX1_charactersIn_68 (by decide) ?_
            exact q_iret hx hb hr hlk dX1_charactersIn_69 (by first | rw [← hf, ch_0 c_60] | rw [← hf, hz] | (rw [← hf, show 8 - i5 = (8 - (i5 + 1)) + 1 from by omega, ch_b c_60 (ch_ok0 c_19)]; first | done | rfl) | (exact absurd rfl c_60))
          · skip
            have c_60 := q_cmp_e c_60
            refine lv_iload hx hb dX1_charactersIn_63 (lv_at hl 0 rfl) ?_
            refine lv_goto (tgt := 69) hx hb dX1_charactersIn_65 (by decide) ?_
            exact q_iret hx hb hr hlk dX1_charactersIn_69 (by first | rw [← hf, ch_0 c_60] | rw [← hf, hz] | (rw [← hf, show 8 - i5 = (8 - (i5 + 1)) + 1 from by omega, ch_b c_60 (ch_ok0 c_19)]; first | done | rfl) | (exact absurd rfl c_60))
        · skip
          have c_19 := q_cmp_n c_19
          refine lv_lload_n hx hb dX1_charactersIn_22 rfl (lv_at hl 1 rfl) ?_
          refine lv_ldc2 (v := 255) hx hb hown (hts (.constantLong RX1 15 (255)) (by decide +kernel)) dX1_charactersIn_23 ?_
          refine lv_land hx hb dX1_charactersIn_26 ?_
          refine lv_l2i (v := ((sh8 x i5) &&& 255).toInt32) hx hb dX1_charactersIn_27 rfl ?_
          refine lv_istore (lv' := [(5, .int (((sh8 x i5) &&& 255).toInt32)), (4, .int (nI i5)), (2, .long (sh8 x i5)), (0, .long x)]) hx hb dX1_charactersIn_28 hl (by decide) rfl (fun ls hl => ?_)
          refine lv_iload hx hb dX1_charactersIn_30 (lv_at hl 0 rfl) ?_
          refine lv_bipush (v := 33) hx hb dX1_charactersIn_32 (by decide) ?_
          refine lv_icmp_lt (tgt := 44) hx hb dX1_charactersIn_34 (by decide) (fun c_34 => ?_) (fun c_34 => ?_)
          · skip
            refine lv_iconst (v := 0) hx hb dX1_charactersIn_44 (by decide) ?_
            exact q_iret hx hb hr hlk dX1_charactersIn_45 (by first | (rw [← hf, show 8 - i5 = (8 - (i5 + 1)) + 1 from by omega, ch_b (ch_nz c_19) (chok_1 c_34)]; first | done | rfl) | (rw [← hf, show 8 - i5 = (8 - (i5 + 1)) + 1 from by omega, ch_b (ch_nz c_19) (chok_2 c_41)]; first | done | rfl))
          · skip
            refine lv_iload hx hb dX1_charactersIn_37 (lv_at hl 0 rfl) ?_
            refine lv_bipush (v := 126) hx hb dX1_charactersIn_39 (by decide) ?_
            refine lv_icmp_le (tgt := 46) hx hb dX1_charactersIn_41 (by decide) (fun c_41 => ?_) (fun c_41 => ?_)
            · skip
              refine lv_lload_n hx hb dX1_charactersIn_46 rfl (lv_at hl 2 rfl) ?_
              refine lv_bipush (v := 8) hx hb dX1_charactersIn_47 (by decide) ?_
              refine lv_lushr (v := ((sh8 x i5).toUInt64 >>> ((8 : Int32).toInt64.toUInt64 &&& Int64.toUInt64 63)).toInt64) hx hb dX1_charactersIn_49 rfl ?_
              refine lv_lstore_n (lv' := [(2, .long (((sh8 x i5).toUInt64 >>> ((8 : Int32).toInt64.toUInt64 &&& Int64.toUInt64 63)).toInt64)), (5, .int (((sh8 x i5) &&& 255).toInt32)), (4, .int (nI i5)), (0, .long x)]) hx hb dX1_charactersIn_50 rfl hl (by decide) rfl (fun ls hl => ?_)
              refine lv_iinc (v := nI (i5 + 1)) (lv' := [(4, .int (nI (i5 + 1))), (2, .long (((sh8 x i5).toUInt64 >>> ((8 : Int32).toInt64.toUInt64 &&& Int64.toUInt64 63)).toInt64)), (5, .int (((sh8 x i5) &&& 255).toInt32)), (0, .long x)]) hx hb dX1_charactersIn_51 hl (k := 2) rfl (nI_1 _) (by decide) rfl (fun ls hl => ?_)
              refine lv_goto (tgt := 5) hx hb dX1_charactersIn_54 (by decide) ?_
              exact ih_i5 (i5 + 1) (((sh8 x i5).toUInt64 >>> ((8 : Int32).toInt64.toUInt64 &&& Int64.toUInt64 63)).toInt64) (rfl) (by rw [← hf, show 8 - i5 = (8 - (i5 + 1)) + 1 from by omega, ch_s (ch_nz c_19) (chok_3 c_34 c_41)]) lt_i5 (by omega) ls (lv_sub hl [0, 1, 3] rfl)
            · skip
              refine lv_iconst (v := 0) hx hb dX1_charactersIn_44 (by decide) ?_
              exact q_iret hx hb hr hlk dX1_charactersIn_45 (by first | (rw [← hf, show 8 - i5 = (8 - (i5 + 1)) + 1 from by omega, ch_b (ch_nz c_19) (chok_1 c_34)]; first | done | rfl) | (rw [← hf, show 8 - i5 = (8 - (i5 + 1)) + 1 from by omega, ch_b (ch_nz c_19) (chok_2 c_41)]; first | done | rfl))
  exact L_5 (8 + 1) 0 x (rfl) (rfl) (Nat.zero_le _) (by omega) ls (lv_sub hl [0, 1, 2] rfl)
end
section
/-! the whole of the class: its world, blocks of it, and methods that write in it -/
def u_set (S : q_St) (f : Nat → Int32) : q_St := (f, S.2)
def u_paid (S : q_St) (f : Nat → Int32) : q_St := (S.1, f, S.2.2)
def u_jok (S : q_St) (f : Nat → Int32) : q_St := (S.1, S.2.1, f, S.2.2.2)
def u_fin (S : q_St) (f : Nat → Int32) : q_St := (S.1, S.2.1, S.2.2.1, f, S.2.2.2.2)
def u_gue (S : q_St) (f : Nat → Int32) : q_St := (S.1, S.2.1, S.2.2.1, S.2.2.2.1, f, S.2.2.2.2.2)
def u_key (S : q_St) (f : Nat → Int64) : q_St := (S.1, S.2.1, S.2.2.1, S.2.2.2.1, S.2.2.2.2.1, f, S.2.2.2.2.2.2)
def u_she (S : q_St) (f : Nat → Int64) : q_St := (S.1, S.2.1, S.2.2.1, S.2.2.2.1, S.2.2.2.2.1, S.2.2.2.2.2.1, f, S.2.2.2.2.2.2.2)
def u_mar (S : q_St) (f : Nat → Int32) : q_St := (S.1, S.2.1, S.2.2.1, S.2.2.2.1, S.2.2.2.2.1, S.2.2.2.2.2.1, S.2.2.2.2.2.2.1, f, S.2.2.2.2.2.2.2.2)
def u_mkr (S : q_St) (f : Nat → Int32) : q_St := (S.1, S.2.1, S.2.2.1, S.2.2.2.1, S.2.2.2.2.1, S.2.2.2.2.2.1, S.2.2.2.2.2.2.1, S.2.2.2.2.2.2.2.1, f, S.2.2.2.2.2.2.2.2.2)
def u_loo (S : q_St) (f : Nat → Int32) : q_St := (S.1, S.2.1, S.2.2.1, S.2.2.2.1, S.2.2.2.2.1, S.2.2.2.2.2.1, S.2.2.2.2.2.2.1, S.2.2.2.2.2.2.2.1, S.2.2.2.2.2.2.2.2.1, f, S.2.2.2.2.2.2.2.2.2.2)
def u_n (S : q_St) (n : Nat) : q_St := (S.1, S.2.1, S.2.2.1, S.2.2.2.1, S.2.2.2.2.1, S.2.2.2.2.2.1, S.2.2.2.2.2.2.1, S.2.2.2.2.2.2.2.1, S.2.2.2.2.2.2.2.2.1, S.2.2.2.2.2.2.2.2.2.1, n, s_tru S)
def u_tru (S : q_St) (x : Int32) : q_St := (S.1, S.2.1, S.2.2.1, S.2.2.2.1, S.2.2.2.2.1, S.2.2.2.2.2.1, S.2.2.2.2.2.2.1, S.2.2.2.2.2.2.2.1, S.2.2.2.2.2.2.2.2.1, S.2.2.2.2.2.2.2.2.2.1, s_n S, x)
abbrev q_CV : Type := q_St × (Nat → q_St) × Nat × Nat × (Nat → Int32) × Nat × (Nat → Int32)
abbrev v_now (V : q_CV) : q_St := V.1
abbrev v_sx (V : q_CV) : Nat → q_St := V.2.1
abbrev v_nxt (V : q_CV) : Nat := V.2.2.1
abbrev v_hl (V : q_CV) : Nat := V.2.2.2.1
abbrev v_pc (V : q_CV) : Nat → Int32 := V.2.2.2.2.1
abbrev v_pl (V : q_CV) : Nat := V.2.2.2.2.2.1
abbrev v_sav (V : q_CV) : Nat → Int32 := V.2.2.2.2.2.2
def w_now (V : q_CV) (S : q_St) : q_CV := (S, V.2)
def w_sx (V : q_CV) (X : Nat → q_St) : q_CV := (V.1, X, V.2.2)
def w_nxt (V : q_CV) (n : Nat) : q_CV := (V.1, V.2.1, n, V.2.2.2)
def w_hl (V : q_CV) (n : Nat) : q_CV := (V.1, V.2.1, V.2.2.1, n, V.2.2.2.2)
def w_pc (V : q_CV) (f : Nat → Int32) : q_CV := (V.1, V.2.1, V.2.2.1, V.2.2.2.1, f, V.2.2.2.2.2)
def w_pl (V : q_CV) (n : Nat) : q_CV := (V.1, V.2.1, V.2.2.1, V.2.2.2.1, V.2.2.2.2.1, n, V.2.2.2.2.2.2)
def w_sav (V : q_CV) (f : Nat → Int32) : q_CV := (V.1, V.2.1, V.2.2.1, V.2.2.2.1, V.2.2.2.2.1, V.2.2.2.2.2.1, f)
def q_poolW (g : q_G) (a : Nat → Nat → Nat) (X : Nat → q_St) : Nat → Nat → va_W
  | _, 0 => []
  | i, n + 1 => q_stW g (a i) (X i) ++ q_poolW g a X (i + 1) n
def q_E (g : q_G) (a : Nat → Nat → Nat) (b : Nat → Nat) (V : q_CV) : va_W := [(b 0, .inr (3, [.ref (a 0 0), .ref (b 3), .ref (b 1), .ref (b 5), .ref (b 6)])), (b 1, .inr (1, [.ref (b 2), .int (nI (v_pl V))])), (b 2, .inl (g.2 0, 80, .inl (v_pc V))), (b 3, .inr (0, [.ref (b 4), .int (nI (v_nxt V)), .int (nI (v_hl V))])), (b 4, .inl (g.2 4, 6, .inr (.inr (.inr (.inr (fun i => some (a (i + 1) 0))))))), (b 5, .inl (g.2 4, 2, .inr (.inr (.inr (.inr (fun i => some (a (i + 7) 0))))))), (b 6, .inl (g.2 2, 2, .inl (v_sav V)))]
def q_pqW (g : q_G) (a : Nat → Nat → Nat) (b : Nat → Nat) (V : q_CV) : va_W := q_E g a b V ++ (q_stW g (a 0) (v_now V) ++ q_poolW g a (v_sx V) 1 8)
def q_blk (V : q_CV) (i : Nat) : q_St := if i = 0 then v_now V else v_sx V i
/-! its cells, by blocks -/
theorem q_P_mem {D : va_G} {cl : List vw_C} {ws : va_W} {H : Heap} : va_P D cl ws H ↔ ∀ q ∈ ws, va_at D cl q H :=
  ⟨fun h q hq => by
    obtain ⟨k, hk⟩ := List.getElem?_of_mem hq
    exact h k q hk, fun h k q hk => h q (List.mem_of_getElem? hk)⟩
theorem q_P_app {D : va_G} {cl : List vw_C} {w1 w2 : va_W} {H : Heap} : va_P D cl (w1 ++ w2) H ↔ va_P D cl w1 H ∧ va_P D cl w2 H := by
  simp only [q_P_mem, List.mem_append]
  exact ⟨fun h => ⟨fun q hq => h q (Or.inl hq), fun q hq => h q (Or.inr hq)⟩, fun h q hq => hq.elim (h.1 q) (h.2 q)⟩
theorem q_poolP {D : va_G} {cl : List vw_C} {g : q_G} {a : Nat → Nat → Nat} {X : Nat → q_St} {H : Heap} : ∀ (n i : Nat), va_P D cl (q_poolW g a X i n) H ↔ ∀ j, i ≤ j → j < i + n → va_P D cl (q_stW g (a j) (X j)) H
  | 0, i => ⟨fun _ j h1 h2 => absurd h2 (by omega), fun _ k q hk => by simp [q_poolW] at hk⟩
  | n + 1, i => by
    show va_P D cl (q_stW g (a i) (X i) ++ q_poolW g a X (i + 1) n) H ↔ _
    rw [q_P_app, q_poolP n (i + 1)]
    refine ⟨fun h j h1 h2 => ?_, fun h => ⟨h i (Nat.le_refl i) (by omega), fun j h1 h2 => h j (by omega) (by omega)⟩⟩
    rcases Nat.lt_or_ge i j with c | c
    · exact h.2 j c (by omega)
    · have e : j = i := by omega
      subst e; exact h.1
theorem q_pqP {D : va_G} {cl : List vw_C} {g : q_G} {a : Nat → Nat → Nat} {b : Nat → Nat} {V : q_CV} {H : Heap} : va_P D cl (q_pqW g a b V) H ↔ va_P D cl (q_E g a b V) H ∧ ∀ j, j < 9 → va_P D cl (q_stW g (a j) (q_blk V j)) H := by
  unfold q_pqW
  rw [q_P_app, q_P_app, q_poolP 8 1]
  refine and_congr_right fun _ => ⟨fun h j hj => ?_, fun h => ⟨h 0 (by omega), fun j h1 h2 => ?_⟩⟩
  · unfold q_blk
    split
    · next e => subst e; exact h.1
    · exact h.2 j (by omega) (by omega)
  · have h3 := h j (by omega)
    unfold q_blk at h3
    rwa [if_neg (by omega)] at h3
theorem q_nowP {D : va_G} {cl : List vw_C} {g : q_G} {a : Nat → Nat → Nat} {b : Nat → Nat} {V : q_CV} {H : Heap} (h : va_P D cl (q_pqW g a b V) H) : va_P D cl (q_stW g (a 0) (v_now V)) H := (q_pqP.mp h).2 0 (by omega)
theorem q_padP {D : va_G} {cl : List vw_C} {g : q_G} {a : Nat → Nat → Nat} {b : Nat → Nat} {V : q_CV} {H : Heap} (h : va_P D cl (q_pqW g a b V) H) : va_P D cl (q_pdW g (b 1) (b 2) (v_pc V) (v_pl V)) H := h.sub [1, 2] rfl
theorem q_hisP {D : va_G} {cl : List vw_C} {g : q_G} {a : Nat → Nat → Nat} {b : Nat → Nat} {V : q_CV} {H : Heap} (h : va_P D cl (q_pqW g a b V) H) : va_P D cl [(b 3, .inr (0, [.ref (b 4), .int (nI (v_nxt V)), .int (nI (v_hl V))]))] H := h.sub [3] rfl
/-! its addresses -/
def q_inj (a : Nat → Nat → Nat) (b : Nat → Nat) : Prop := (∀ i k j l, i < 9 → k < 11 → j < 9 → l < 11 → a i k = a j l → i = j ∧ k = l) ∧ (∀ i k j, i < 9 → k < 11 → j < 7 → a i k ≠ b j) ∧ ∀ i j, i < 7 → j < 7 → b i = b j → i = j
def q_adr (a : Nat → Nat → Nat) (b : Nat → Nat) (q : Nat) : Prop := (∃ i k, i < 9 ∧ k < 11 ∧ q = a i k) ∨ ∃ j, j < 7 ∧ q = b j
theorem q_st_at {g : q_G} {q : Nat → Nat} {S : q_St} {k : Nat} {x : Nat × va_E} (h : (q_stW g q S)[k]? = some x) : k < 11 ∧ x.1 = q k := by
  match k, h with
  | 0, h => cases h; exact ⟨by omega, rfl⟩
  | 1, h => cases h; exact ⟨by omega, rfl⟩
  | 2, h => cases h; exact ⟨by omega, rfl⟩
  | 3, h => cases h; exact ⟨by omega, rfl⟩
  | 4, h => cases h; exact ⟨by omega, rfl⟩
  | 5, h => cases h; exact ⟨by omega, rfl⟩
  | 6, h => cases h; exact ⟨by omega, rfl⟩
  | 7, h => cases h; exact ⟨by omega, rfl⟩
  | 8, h => cases h; exact ⟨by omega, rfl⟩
  | 9, h => cases h; exact ⟨by omega, rfl⟩
  | 10, h => cases h; exact ⟨by omega, rfl⟩
  | k + 11, h => simp [q_stW] at h
theorem q_E_at {g : q_G} {a : Nat → Nat → Nat} {b : Nat → Nat} {V : q_CV} {k : Nat} {x : Nat × va_E} (h : (q_E g a b V)[k]? = some x) : k < 7 ∧ x.1 = b k := by
  match k, h with
  | 0, h => cases h; exact ⟨by omega, rfl⟩
  | 1, h => cases h; exact ⟨by omega, rfl⟩
  | 2, h => cases h; exact ⟨by omega, rfl⟩
  | 3, h => cases h; exact ⟨by omega, rfl⟩
  | 4, h => cases h; exact ⟨by omega, rfl⟩
  | 5, h => cases h; exact ⟨by omega, rfl⟩
  | 6, h => cases h; exact ⟨by omega, rfl⟩
  | k + 7, h => simp [q_E] at h
theorem q_stW_len (g : q_G) (q : Nat → Nat) (S : q_St) : (q_stW g q S).length = 11 := rfl
theorem q_E_len (g : q_G) (a : Nat → Nat → Nat) (b : Nat → Nat) (V : q_CV) : (q_E g a b V).length = 7 := rfl
theorem q_pool_at {g : q_G} {a : Nat → Nat → Nat} {X : Nat → q_St} : ∀ (n i k : Nat) (x : Nat × va_E), (q_poolW g a X i n)[k]? = some x → k < 11 * n ∧ x.1 = a (i + k / 11) (k % 11)
  | 0, i, k, x, h => by simp [q_poolW] at h
  | n + 1, i, k, x, h => by
    have h : (q_stW g (a i) (X i) ++ q_poolW g a X (i + 1) n)[k]? = some x := h
    rcases Nat.lt_or_ge k 11 with c | c
    · rw [List.getElem?_append_left (by rw [q_stW_len]; exact c)] at h
      have := (q_st_at h).2
      rw [this, Nat.div_eq_of_lt c, Nat.mod_eq_of_lt c]
      exact ⟨by omega, rfl⟩
    · rw [List.getElem?_append_right (by rw [q_stW_len]; exact c), q_stW_len] at h
      obtain ⟨h1, h2⟩ := q_pool_at n (i + 1) (k - 11) x h
      refine ⟨by omega, ?_⟩
      rw [h2]
      have e1 : i + 1 + (k - 11) / 11 = i + k / 11 := by omega
      have e2 : (k - 11) % 11 = k % 11 := by omega
      rw [e1, e2]
theorem q_pq_at {g : q_G} {a : Nat → Nat → Nat} {b : Nat → Nat} {V : q_CV} {k : Nat} {x : Nat × va_E} (h : (q_pqW g a b V)[k]? = some x) : (k < 7 ∧ x.1 = b k) ∨ (7 ≤ k ∧ k < 106 ∧ x.1 = a ((k - 7) / 11) ((k - 7) % 11)) := by
  unfold q_pqW at h
  rcases Nat.lt_or_ge k 7 with c | c
  · rw [List.getElem?_append_left (by rw [q_E_len]; exact c)] at h
    exact Or.inl (q_E_at h)
  · rw [List.getElem?_append_right (by rw [q_E_len]; exact c), q_E_len] at h
    rcases Nat.lt_or_ge (k - 7) 11 with d | d
    · rw [List.getElem?_append_left (by rw [q_stW_len]; exact d)] at h
      have := (q_st_at h).2
      refine Or.inr ⟨c, by omega, ?_⟩
      rw [this, Nat.div_eq_of_lt d, Nat.mod_eq_of_lt d]
    · rw [List.getElem?_append_right (by rw [q_stW_len]; exact d), q_stW_len] at h
      obtain ⟨h1, h2⟩ := q_pool_at 8 1 _ x h
      refine Or.inr ⟨c, by omega, ?_⟩
      rw [h2]
      have e1 : 1 + (k - 7 - 11) / 11 = (k - 7) / 11 := by omega
      have e2 : (k - 7 - 11) % 11 = (k - 7) % 11 := by omega
      rw [e1, e2]
theorem q_D {g : q_G} {a : Nat → Nat → Nat} {b : Nat → Nat} {V : q_CV} {A : Nat → Prop} (hI : q_inj a b) (hA : ∀ q, q_adr a b q → A q) : va_D A (q_pqW g a b V) := by
  refine ⟨fun i j p q hi hj hpq => ?_, fun k q hk => ?_⟩
  · rcases q_pq_at hi with ⟨h1, h2⟩ | ⟨h1, h1', h2⟩ <;> rcases q_pq_at hj with ⟨h3, h4⟩ | ⟨h3, h3', h4⟩
    · exact hI.2.2 i j h1 h3 (by rw [← h2, ← h4, hpq])
    · exact absurd (by rw [← h2, ← h4, hpq]) (hI.2.1 ((j - 7) / 11) ((j - 7) % 11) i (by omega) (by omega) h1)
    · exact absurd (by rw [← h2, ← h4, hpq]) (hI.2.1 ((i - 7) / 11) ((i - 7) % 11) j (by omega) (by omega) h3)
    · have := hI.1 ((i - 7) / 11) ((i - 7) % 11) ((j - 7) / 11) ((j - 7) % 11) (by omega) (by omega) (by omega) (by omega) (by rw [← h2, ← h4, hpq])
      omega
  · rcases q_pq_at hk with ⟨h1, h2⟩ | ⟨h1, h1', h2⟩
    · exact hA _ (Or.inr ⟨k, h1, h2⟩)
    · exact hA _ (Or.inl ⟨(k - 7) / 11, (k - 7) % 11, by omega, by omega, h2⟩)
/-! one block copied over another one -/
def q_two (a : Nat → Nat → Nat) (i j : Nat) (q : Nat) : Prop := ∃ k, k < 11 ∧ (q = a i k ∨ q = a j k)
theorem q_two_D {g : q_G} {a : Nat → Nat → Nat} {b : Nat → Nat} {S1 S2 : q_St} (hI : q_inj a b) {i j : Nat} (hi : i < 9) (hj : j < 9) (hij : i ≠ j) : va_D (q_two a i j) (q_stW g (a i) S1 ++ q_stW g (a j) S2) := by
  have key : ∀ (k : Nat) (x : Nat × va_E), (q_stW g (a i) S1 ++ q_stW g (a j) S2)[k]? = some x → (k < 11 ∧ x.1 = a i k) ∨ (11 ≤ k ∧ k < 22 ∧ x.1 = a j (k - 11)) := by
    intro k x h
    rcases Nat.lt_or_ge k 11 with c | c
    · rw [List.getElem?_append_left (by rw [q_stW_len]; exact c)] at h
      exact Or.inl (q_st_at h)
    · rw [List.getElem?_append_right (by rw [q_stW_len]; exact c), q_stW_len] at h
      have := q_st_at h
      exact Or.inr ⟨c, by omega, this.2⟩
  refine ⟨fun k l p q hk hl hpq => ?_, fun k q hk => ?_⟩
  · rcases key k p hk with ⟨h1, h2⟩ | ⟨h1, h1', h2⟩ <;> rcases key l q hl with ⟨h3, h4⟩ | ⟨h3, h3', h4⟩
    · exact (hI.1 i k i l hi h1 hi h3 (by rw [← h2, ← h4, hpq])).2
    · exact absurd (hI.1 i k j (l - 11) hi h1 hj (by omega) (by rw [← h2, ← h4, hpq])).1 hij
    · exact absurd (hI.1 i l j (k - 11) hi h3 hj (by omega) (by rw [← h2, ← h4, hpq])).1 hij
    · have := (hI.1 j (k - 11) j (l - 11) hj (by omega) hj (by omega) (by rw [← h2, ← h4, hpq])).2
      omega
  · rcases key k q hk with ⟨h1, h2⟩ | ⟨h1, h1', h2⟩
    · exact ⟨k, h1, Or.inl h2⟩
    · exact ⟨k - 11, by omega, Or.inr h2⟩
def v_copy (V : q_CV) (i j : Nat) : q_CV := if j = 0 then w_now V (q_blk V i) else w_sx V (va_up (v_sx V) j (q_blk V i))
theorem q_copyJ {D : va_G} {cl : List vw_C} {g : q_G} {a : Nat → Nat → Nat} {b : Nat → Nat} {V : q_CV} {H H1 : Heap} (hI : q_inj a b) (hP : va_P D cl (q_pqW g a b V) H) {i j : Nat} (hi : i < 9) (hj : j < 9) (h1 : va_P D cl (q_stW g (a i) (q_blk V i) ++ q_stW g (a j) (q_blk V i)) H1) (hF : ∀ q : Nat, q < H.size → ¬ q_two a i j q → H1[q]? = H[q]?) : va_P D cl (q_pqW g a b (v_copy V i j)) H1 := by
  rw [q_P_app] at h1
  have hP' := q_pqP.mp hP
  refine q_pqP.mpr ⟨?_, fun l hl => ?_⟩
  · have e : q_E g a b (v_copy V i j) = q_E g a b V := by unfold v_copy; split <;> rfl
    rw [e]
    refine hP'.1.kept fun k q hk => hF q.1 (va_at.lt (hP'.1 k q hk)) ?_
    rintro ⟨m, hm, h | h⟩
    · exact hI.2.1 i m k hi hm (q_E_at hk).1 (by rw [← h, (q_E_at hk).2])
    · exact hI.2.1 j m k hj hm (q_E_at hk).1 (by rw [← h, (q_E_at hk).2])
  · have e : q_blk (v_copy V i j) l = if l = j then q_blk V i else q_blk V l := by
      unfold v_copy
      by_cases hj0 : j = 0
      · subst hj0
        rw [if_pos rfl]
        by_cases hl0 : l = 0
        · subst hl0; rfl
        · simp [q_blk, hl0, w_now]
      · rw [if_neg hj0]
        by_cases hl0 : l = 0
        · subst hl0
          rw [if_neg (fun h => hj0 h.symm)]
          rfl
        · by_cases hlj : l = j
          · subst hlj
            show (if l = 0 then v_now V else va_up (v_sx V) l (q_blk V i) l) = _
            rw [if_neg hl0, if_pos rfl]; exact if_pos rfl
          · show (if l = 0 then v_now V else va_up (v_sx V) j (q_blk V i) l) = _
            rw [if_neg hl0, if_neg hlj]
            show va_up (v_sx V) j (q_blk V i) l = if l = 0 then v_now V else v_sx V l
            rw [if_neg hl0]; exact if_neg hlj
    rw [e]
    by_cases hlj : l = j
    · rw [if_pos hlj, hlj]; exact h1.2
    · rw [if_neg hlj]
      by_cases hli : l = i
      · rw [hli]; exact h1.1
      · refine (hP'.2 l hl).kept fun k q hk => hF q.1 (va_at.lt (hP'.2 l hl k q hk)) ?_
        obtain ⟨hk1, hk2⟩ := q_st_at hk
        rintro ⟨m, hm, h | h⟩
        · exact hli (hI.1 l k i m hl hk1 hi hm (by rw [← hk2, h])).1
        · exact hlj (hI.1 l k j m hl hk1 hj hm (by rw [← hk2, h])).1
theorem q_two_adr {a : Nat → Nat → Nat} {b : Nat → Nat} {i j q : Nat} (hi : i < 9) (hj : j < 9) (h : q_two a i j q) : q_adr a b q := by
  obtain ⟨k, hk, h | h⟩ := h
  · exact Or.inl ⟨i, k, hi, hk, h⟩
  · exact Or.inl ⟨j, k, hj, hk, h⟩
/-! methods that write -/
def q_QM (g : q_G) (A : Nat → Prop) (W1 : va_W) (r : Option Value) : Array Value → State → Outcome → State → Prop := fun _ st o t => o = .returned r ∧ va_P g.1 vwCl W1 t.heap ∧ va_F A st t
theorem q_mm {l : Launch} {y : MethodName} {ws ws' : List Cond} {rm : Room} {cc : ByteArray} {maxL mc ms : Nat} {ret : Option FieldType} {vs : List Value} {B : State → Prop} {Qc : Array Value → State → Outcome → State → Prop} {free : Addr → Prop} (hy : plainName y.cls = true) (hw : ws = Cond.code y cc maxL ret :: ws') (hn : (lg_sl vs).length ≤ maxL)
    (body : ∀ (p : Program) (e : Env) (s : State) (m : MethodId) (args : Array Value) (below : List Frame) (meth : Method) (c : Code) (ls : Array Slot), p.tables.exec = Jvm.exec → c.code = cc → c.maxLocals = maxL → s.vm.findClass y.cls = some m.cls → (∀ w ∈ ws, w.before args s = true) → meth.sig.returnType = ret → meth.locks = false → meth.name = y.name → B s → args = vs.toArray → lv_has ls maxL (lv_args 0 vs) → W p l e rm s m args below meth c s.heap [] 0 0 (MQ below Qc args s mc ms free) (F0 m 0 ls [])) : Met l y ws rm (va_Pc vs B) Qc mc ms free := by
  refine Met.ofW (cc := cc) (maxL := maxL) (ret := ret) hy hw ?_
  intro p e s m args below meth c s₁ X hml hv
  obtain ⟨rfl, hB⟩ := hv
  rw [lg_entry_eq]
  exact body p e s m _ below meth c _ X.exec X.bytes hml (findClass_of_methodNamed X.named) (atoms_spec (ws := ws) X.pre) X.returns X.notSynchronized (name_of_methodNamed X.named X.method).1 hB rfl (lv_entry vs hn)
section QM
variable {p : Program} {l : Launch} {e : Env} {R : Room} {s : State} {m : MethodId} {args : Array Value} {below : List Frame} {meth : Method} {c : Code} {H H0 : Heap} {locs : List Loc} {cells slots mc ms : Nat} {Q : State → Prop}
variable {cc bytes : ByteArray} {nL maxL index n c2 s2 : Nat} {Ts ws ws' : List Cond} {own C : String} {y : MethodName} {ret : Option FieldType} {rm : Room} {b : Addr} {As rest st st2 : List Value} {ls : Array Slot} {pc : Nat} {r : Option Value} {B : State → Prop} {g : q_G} {A A0 : Nat → Prop} {W1 W2 : va_W} {a : Array Value}
theorem q_callM (hr : CallRun p l e R s m args below meth c H locs cells slots mc ms (F0 m pc ls st) rest (q_QM g A W1 r a) A) (hS : va_S A0 H0 H locs) (hA : ∀ q, A q → A0 q) (hst2 : r.toList ++ rest = st2) (hc2 : cells + mc = c2) (hs2 : slots + ms = s2)
    (kk : ∀ (H1 : Heap) (locs1 : List Loc), va_P g.1 vwCl W1 H1 → (∀ q : Nat, q < H.size → ¬ A q → H1[q]? = H[q]?) → va_S A0 H0 H1 locs1 → H.size ≤ H1.size → W p l e R s m args below meth c H1 locs1 c2 s2 Q (F0 m (pc + 3) ls st2)) : W p l e R s m args below meth c H locs cells slots Q (F0 m pc ls st) := by
  subst hst2; subst hc2; subst hs2
  intro T hT X
  obtain ⟨v, st₀, t, T', L, h0, X', hL, e1, ⟨hv, hp, hz, hk⟩, sg⟩ := hr T hT X
  cases hv
  rw [h0] at hz hk
  obtain ⟨t2, a1, b1⟩ := kk T'.heap (locs ++ L) (by rw [e1]; exact hp) (fun q h1 h2 => by rw [e1]; exact hk q h1 h2)
    ⟨Nat.le_trans hS.1 (by rw [e1]; exact hz), fun q h1 h2 => by rw [e1, hk q (Nat.lt_of_lt_of_le h1 hS.1) (fun z => h2 (hA q z))]; exact hS.2.1 q h1 h2, fun q hq => by
      rcases List.mem_append.mp hq with h | h
      · exact hS.2.2 q h
      · exact hA _ (hL q h)⟩ (by rw [e1]; exact hz) T' rfl X'
  exact ⟨t2, sg t2 a1, b1⟩
theorem q_VM (S : CallFix p m c cc nL s args Ts own) (hM : Met l y ws rm (va_Pc (.ref b :: As) B) (q_QM g A W1 r) mc ms A) (cw : CallW R s args own C index y bytes maxL ret ws rm mc ms n) (hbl : q_Blind B) (hrec : ∃ cell : Cell, H[b]? = some cell ∧ cell.vm.isStatics = false ∧ s.vm.findClass C = some cell.cls) (hB : ∀ U : State, U.heap = H → s.WarmedH U.vm → B U)
    (hn : As.length = n) (hsize : ls.size = nL) (hst : st = As.reverse ++ .ref b :: rest) (hW : (rest.map fun v => v.category).sum ≤ 8) (hdg : decode cc pc = .ok (.invokevirtual index, 3)) (hc : cells + mc ≤ R.cells) (hs : slots + ms ≤ R.slots) (hS : va_S A0 H0 H locs) (hA : ∀ q, A q → A0 q) (hst2 : r.toList ++ rest = st2) (hc2 : cells + mc = c2) (hs2 : slots + ms = s2)
    (kk : ∀ (H1 : Heap) (locs1 : List Loc), va_P g.1 vwCl W1 H1 → (∀ q : Nat, q < H.size → ¬ A q → H1[q]? = H[q]?) → va_S A0 H0 H1 locs1 → H.size ≤ H1.size → W p l e R s m args below meth c H1 locs1 c2 s2 Q (F0 m (pc + 3) ls st2)) : W p l e R s m args below meth c H locs cells slots Q (F0 m pc ls st) := by
  subst hst
  exact q_callM (W.runV S hM cw ⟨fun a U gg mk h => ⟨h.1, hbl a U gg mk h.2⟩, hrec, fun U h1 h2 => ⟨rfl, hB U h1 h2⟩⟩ rfl hn hsize rfl (lv_room (pc := pc) (ls := ls) (rest := As.reverse ++ .ref b :: rest) hW) hdg ⟨hc, hs⟩) hS hA hst2 hc2 hs2 kk
theorem q_SM (S : CallFix p m c cc nL s args Ts own) (hM : Met l y ws rm (va_Pc As B) (q_QM g A W1 r) mc ms A) (cw : CallB R s args own index y bytes maxL ret ws rm mc ms n ∧ (Cond.static y).before args s = true) (hbl : q_Blind B) (hB : ∀ U : State, U.heap = H → s.WarmedH U.vm → B U)
    (hn : As.length = n) (hsize : ls.size = nL) (hst : st = As.reverse ++ rest) (hW : (rest.map fun v => v.category).sum ≤ 8) (hdg : decode cc pc = .ok (.invokestatic index, 3)) (hc : cells + mc ≤ R.cells) (hs : slots + ms ≤ R.slots) (hS : va_S A0 H0 H locs) (hA : ∀ q, A q → A0 q) (hst2 : r.toList ++ rest = st2) (hc2 : cells + mc = c2) (hs2 : slots + ms = s2)
    (kk : ∀ (H1 : Heap) (locs1 : List Loc), va_P g.1 vwCl W1 H1 → (∀ q : Nat, q < H.size → ¬ A q → H1[q]? = H[q]?) → va_S A0 H0 H1 locs1 → H.size ≤ H1.size → W p l e R s m args below meth c H1 locs1 c2 s2 Q (F0 m (pc + 3) ls st2)) : W p l e R s m args below meth c H locs cells slots Q (F0 m pc ls st) := by
  subst hst
  exact q_callM (W.runS S hM cw ⟨fun a U gg mk h => ⟨h.1, hbl a U gg mk h.2⟩, fun U h1 h2 => ⟨rfl, hB U h1 h2⟩⟩ rfl hn hsize rfl (lv_room (pc := pc) (ls := ls) (rest := As.reverse ++ rest) hW) hdg ⟨hc, hs⟩) hS hA hst2 hc2 hs2 kk
theorem q_miret {v r : Int32} (hx : p.tables.exec = Jvm.exec) (hb : c.code = cc) (hr : meth.sig.returnType = some .int) (hlk : meth.locks = false) (hdg : decode cc pc = .ok (.ireturn, 1)) (hP : va_P g.1 vwCl W1 H) (hS : va_S A s.heap H locs) (hv : v = r) (hW : W1 = W2) : W p l e R s m args below meth c H locs cells slots (MQ below (q_QM g A W2 (some (.int r))) args s cells slots A) (F0 m pc ls [.int v]) := by
  subst hv; subst hW
  exact W.iret hx hb hr (fun _ ht _ => ⟨rfl, by rw [ht]; exact hP, hS.F ht⟩) hS.2.2 hdg hlk
theorem q_mzret {v : Int32} {b : Bool} (hx : p.tables.exec = Jvm.exec) (hb : c.code = cc) (hr : meth.sig.returnType = some .boolean) (hlk : meth.locks = false) (hdg : decode cc pc = .ok (.ireturn, 1)) (hP : va_P g.1 vwCl W1 H) (hS : va_S A s.heap H locs) (hv : v = bI b) (hW : W1 = W2) : W p l e R s m args below meth c H locs cells slots (MQ below (q_QM g A W2 (some (.int (bI b)))) args s cells slots A) (F0 m pc ls [.int v]) := by
  subst hv; subst hW
  exact W.zret hx hb hr (bI_nar b) (fun _ ht _ => ⟨rfl, by rw [ht]; exact hP, hS.F ht⟩) hS.2.2 hdg hlk
theorem q_mvret (hx : p.tables.exec = Jvm.exec) (hb : c.code = cc) (hr : meth.sig.returnType = none) (hlk : meth.locks = false) (hdg : decode cc pc = .ok (.return_, 1)) (hP : va_P g.1 vwCl W1 H) (hS : va_S A s.heap H locs) (hW : W1 = W2) : W p l e R s m args below meth c H locs cells slots (MQ below (q_QM g A W2 none) args s cells slots A) (F0 m pc ls []) := by
  subst hW
  exact W.vret hx hb hr (fun _ ht _ => ⟨rfl, by rw [ht]; exact hP, hS.F ht⟩) hS.2.2 hdg hlk
end QM
theorem q_cell_i {cA : ClassId} {n : Nat} {f f' : Nat → Int32} (h : ∀ j, j < n → f j = f' j) : vp_cell cA (n, .inl f) = vp_cell cA (n, .inl f') := by
  rw [vp_cell_i, vp_cell_i]
  unfold arrV
  congr 1
  exact congrArg Array.ofFn (funext fun j => congrArg Value.int (h j.val j.isLt))
theorem q_cell_l {cA : ClassId} {n : Nat} {f f' : Nat → Int64} (h : ∀ j, j < n → f j = f' j) : vp_cell cA (n, .inr (.inl f)) = vp_cell cA (n, .inr (.inl f')) := by
  rw [vp_cell_l, vp_cell_l]
  unfold arrV
  congr 1
  exact congrArg Array.ofFn (funext fun j => congrArg Value.long (h j.val j.isLt))
/-- two states whose cells hold the same -/
def q_stE (S T : q_St) : Prop := (∀ j, j < 4 → s_set S j = s_set T j) ∧ (∀ j, j < 10 → s_paid S j = s_paid T j) ∧ (∀ j, j < 10 → s_jok S j = s_jok T j) ∧ (∀ j, j < 10 → s_fin S j = s_fin T j) ∧ (∀ j, j < 10 → s_gue S j = s_gue T j) ∧ (∀ j, j < 8 → s_key S j = s_key T j) ∧ (∀ j, j < 80 → s_she S j = s_she T j) ∧ (∀ j, j < 80 → s_mar S j = s_mar T j) ∧ (∀ j, j < 80 → s_mkr S j = s_mkr T j) ∧ (∀ j, j < 8 → s_loo S j = s_loo T j) ∧ s_n S = s_n T ∧ s_tru S = s_tru T
theorem q_st_eqv {D : va_G} {cl : List vw_C} {g : q_G} {q : Nat → Nat} {S T : q_St} {H : Heap} (h : q_stE S T) (hP : va_P D cl (q_stW g q S) H) : va_P D cl (q_stW g q T) H := by
  obtain ⟨h1, h2, h3, h4, h5, h6, h7, h8, h9, h10, h11, h12⟩ := h
  intro k x hk
  match k, hk with
  | 0, hk =>
    cases hk
    have hx := hP 0 _ rfl
    have e : q_stF q T = q_stF q S := by unfold q_stF; rw [h11, h12]
    rw [e]; exact hx
  | 1, hk => cases hk; exact (hP 1 _ rfl).trans (congrArg some (q_cell_i h1))
  | 2, hk => cases hk; exact (hP 2 _ rfl).trans (congrArg some (q_cell_i h2))
  | 3, hk => cases hk; exact (hP 3 _ rfl).trans (congrArg some (q_cell_i h3))
  | 4, hk => cases hk; exact (hP 4 _ rfl).trans (congrArg some (q_cell_i h4))
  | 5, hk => cases hk; exact (hP 5 _ rfl).trans (congrArg some (q_cell_i h5))
  | 6, hk => cases hk; exact (hP 6 _ rfl).trans (congrArg some (q_cell_l h6))
  | 7, hk => cases hk; exact (hP 7 _ rfl).trans (congrArg some (q_cell_l h7))
  | 8, hk => cases hk; exact (hP 8 _ rfl).trans (congrArg some (q_cell_i h8))
  | 9, hk => cases hk; exact (hP 9 _ rfl).trans (congrArg some (q_cell_i h9))
  | 10, hk => cases hk; exact (hP 10 _ rfl).trans (congrArg some (q_cell_i h10))
  | k + 11, hk => simp [q_stW] at hk
end
section
/-! stores and copies at indexes that are counts -/
section Q2
variable {p : Program} {l : Launch} {e : Env} {R : Room} {s : State} {m : MethodId} {args : Array Value} {below : List Frame} {meth : Method} {c : Code} {H H0 : Heap} {locs : List Loc} {cells slots : Nat} {Q : State → Prop}
variable {cc : ByteArray} {pc : Nat} {ls : Array Slot} {rest : List Value} {a a0 : Addr} {D : va_G} {cl : List vw_C} {tys : List (ClassId × FieldType)} {ws : va_W} {A : Nat → Prop}
theorem q_iast (hx : p.tables.exec = Jvm.exec) (hb : c.code = cc) (hK : va_K D cl tys s) (hP : va_P D cl ws H) (hD : va_D A ws) (hS : va_S A H0 H locs) (q0 t0 : Nat) {cA : ClassId} {n : Nat} {f : Nat → Int32} (ha : ws[q0]? = some (a, .inl (cA, n, .inl f))) (ht : tys[t0]? = some (cA, .int)) {j : Nat} {x : Int32} (hj : j < n) (hn : n < 2 ^ 31) (hdg : decode cc pc = .ok (.iastore, 1))
    (kk : ∀ (H1 : Heap) (locs1 : List Loc), va_P D cl (ws.set q0 (a, .inl (cA, n, .inl (upd f j x)))) H1 → va_S A H0 H1 locs1 → W p l e R s m args below meth c H1 locs1 cells slots Q (F0 m (pc + 1) ls rest)) : W p l e R s m args below meth c H locs cells slots Q (F0 m pc ls (.int x :: .int (nI j) :: .ref a :: rest)) := by
  have h := nI_clamp (Nat.lt_trans hj hn)
  exact va_iast hx hb hK hP hD hS q0 t0 ha ht (vp_in_nI hj hn) hdg fun H1 locs1 h1 _ h3 => kk H1 locs1 (by rw [h] at h1; exact h1) h3
theorem q_last (hx : p.tables.exec = Jvm.exec) (hb : c.code = cc) (hK : va_K D cl tys s) (hP : va_P D cl ws H) (hD : va_D A ws) (hS : va_S A H0 H locs) (q0 t0 : Nat) {cA : ClassId} {n : Nat} {f : Nat → Int64} (ha : ws[q0]? = some (a, .inl (cA, n, .inr (.inl f)))) (ht : tys[t0]? = some (cA, .long)) {j : Nat} {x : Int64} (hj : j < n) (hn : n < 2 ^ 31) (hdg : decode cc pc = .ok (.lastore, 1))
    (kk : ∀ (H1 : Heap) (locs1 : List Loc), va_P D cl (ws.set q0 (a, .inl (cA, n, .inr (.inl (vp_updL f j x))))) H1 → va_S A H0 H1 locs1 → W p l e R s m args below meth c H1 locs1 cells slots Q (F0 m (pc + 1) ls rest)) : W p l e R s m args below meth c H locs cells slots Q (F0 m pc ls (.long x :: .int (nI j) :: .ref a :: rest)) := by
  have h := nI_clamp (Nat.lt_trans hj hn)
  exact va_last hx hb hK hP hD hS q0 t0 ha ht (vp_in_nI hj hn) hdg fun H1 locs1 h1 _ h3 => kk H1 locs1 (by rw [h] at h1; exact h1) h3
theorem q_zast (hx : p.tables.exec = Jvm.exec) (hb : c.code = cc) (hK : va_K D cl tys s) (hP : va_P D cl ws H) (hD : va_D A ws) (hS : va_S A H0 H locs) (q0 t0 : Nat) {cA : ClassId} {n : Nat} {f : Nat → Int32} (ha : ws[q0]? = some (a, .inl (cA, n, .inl f))) (ht : tys[t0]? = some (cA, .boolean)) {j : Nat} {x y : Int32} (hv : vp_nar .boolean x = y) (hj : j < n) (hn : n < 2 ^ 31) (hdg : decode cc pc = .ok (.bastore, 1))
    (kk : ∀ (H1 : Heap) (locs1 : List Loc), va_P D cl (ws.set q0 (a, .inl (cA, n, .inl (upd f j y)))) H1 → va_S A H0 H1 locs1 → W p l e R s m args below meth c H1 locs1 cells slots Q (F0 m (pc + 1) ls rest)) : W p l e R s m args below meth c H locs cells slots Q (F0 m pc ls (.int x :: .int (nI j) :: .ref a :: rest)) := by
  have h := nI_clamp (Nat.lt_trans hj hn)
  exact va_zast hx hb hK hP hD hS q0 t0 ha ht (vp_in_nI hj hn) hdg fun H1 locs1 h1 _ h3 => kk H1 locs1 (by rw [h, hv] at h1; exact h1) h3
theorem q_cast (hx : p.tables.exec = Jvm.exec) (hb : c.code = cc) (hK : va_K D cl tys s) (hP : va_P D cl ws H) (hD : va_D A ws) (hS : va_S A H0 H locs) (q0 t0 : Nat) {cA : ClassId} {n : Nat} {f : Nat → Int32} (ha : ws[q0]? = some (a, .inl (cA, n, .inl f))) (ht : tys[t0]? = some (cA, .char)) {j : Nat} {x y : Int32} (hv : vp_nar .char x = y) (hj : j < n) (hn : n < 2 ^ 31) (hdg : decode cc pc = .ok (.castore, 1))
    (kk : ∀ (H1 : Heap) (locs1 : List Loc), va_P D cl (ws.set q0 (a, .inl (cA, n, .inl (upd f j y)))) H1 → va_S A H0 H1 locs1 → W p l e R s m args below meth c H1 locs1 cells slots Q (F0 m (pc + 1) ls rest)) : W p l e R s m args below meth c H locs cells slots Q (F0 m pc ls (.int x :: .int (nI j) :: .ref a :: rest)) := by
  have h := nI_clamp (Nat.lt_trans hj hn)
  exact va_cast hx hb hK hP hD hS q0 t0 ha ht (vp_in_nI hj hn) hdg fun H1 locs1 h1 _ h3 => kk H1 locs1 (by rw [h, hv] at h1; exact h1) h3
theorem q_aald (hx : p.tables.exec = Jvm.exec) (hb : c.code = cc) (hK : va_K D cl tys s) (hP : va_P D cl ws H) (q0 t0 : Nat) {cA : ClassId} {C : String} {n : Nat} {f : Nat → Option Nat} (ha : ws[q0]? = some (a, .inl (cA, n, .inr (.inr (.inr (.inr f)))))) (ht : tys[t0]? = some (cA, .object C)) {j z : Nat} (hv : f j = some z) (hj : j < n) (hn : n < 2 ^ 31) (hdg : decode cc pc = .ok (.aaload, 1))
    (kk : W p l e R s m args below meth c H locs cells slots Q (F0 m (pc + 1) ls (.ref z :: rest))) : W p l e R s m args below meth c H locs cells slots Q (F0 m pc ls (.int (nI j) :: .ref a :: rest)) := by
  refine va_aldq hx hb hK hP q0 t0 ha ht (vp_in_nI hj hn) hdg ?_
  rw [nI_clamp (Nat.lt_trans hj hn), hv]; exact kk
theorem q_cpi (hx : p.tables.exec = Jvm.exec) (hb : c.code = cc) (hml : c.maxLocals = ls.size) {own : String} {index : Nat} (hown : s.vm.findClass own = some m.cls) (hlink : (Cond.methodLink own index arraycopyName).before args s = true) (hnat : (Cond.native arraycopyName).before args s = true) (hstat : (Cond.static arraycopyName).before args s = true) (hini : (Cond.initialized "java/lang/System").before args s = true)
    (hK : va_K D cl tys s) (hP : va_P D cl ws H) (hD : va_D A ws) (hS : va_S A H0 H locs) (q0 q1 t0 : Nat) {c0 : ClassId} {n0 n1 : Nat} {f g : Nat → Int32} (ha0 : ws[q0]? = some (a0, .inl (c0, n0, .inl f))) (ha1 : ws[q1]? = some (a, .inl (c0, n1, .inl g))) (ht0 : tys[t0]? = some (c0, .int))
    {N : Nat} (hN : N < 2 ^ 31) (h4 : N ≤ n0) (h5 : N ≤ n1) (hframes : 1 ≤ R.frames) (hlocals : (rest.map fun v => v.category).sum + (nativeFrameWords "java/lang/System" "arraycopy" 5 + 11) ≤ R.locals) (hdg : decode cc pc = .ok (.invokestatic index, 3))
    (kk : ∀ (H1 : Heap) (locs1 : List Loc), va_P D cl (ws.set q1 (a, .inl (c0, n1, .inl (va_cpy f g 0 0 N)))) H1 → va_S A H0 H1 locs1 → W p l e R s m args below meth c H1 locs1 cells slots Q (F0 m (pc + 3) ls rest)) : W p l e R s m args below meth c H locs cells slots Q (F0 m pc ls (.int (nI N) :: .int 0 :: .ref a :: .int 0 :: .ref a0 :: rest)) := by
  have h := nI_clamp hN
  have h0 : (0 : Int32).toNatClampNeg = 0 := by decide
  exact va_copyi hx hb hml hown hlink hnat hstat hini hK hP hD hS q0 q1 t0 t0 ha0 ha1 ht0 ht0 rfl (by decide) (by decide) (nI_pos hN) (by rw [h, h0]; omega) (by rw [h, h0]; omega) (fun _ _ => rfl) hframes hlocals hdg fun H1 locs1 h1 _ h3 => kk H1 locs1 (by rw [h, h0] at h1; exact h1) h3
theorem q_cpl (hx : p.tables.exec = Jvm.exec) (hb : c.code = cc) (hml : c.maxLocals = ls.size) {own : String} {index : Nat} (hown : s.vm.findClass own = some m.cls) (hlink : (Cond.methodLink own index arraycopyName).before args s = true) (hnat : (Cond.native arraycopyName).before args s = true) (hstat : (Cond.static arraycopyName).before args s = true) (hini : (Cond.initialized "java/lang/System").before args s = true)
    (hK : va_K D cl tys s) (hP : va_P D cl ws H) (hD : va_D A ws) (hS : va_S A H0 H locs) (q0 q1 t0 : Nat) {c0 : ClassId} {n0 n1 : Nat} {f g : Nat → Int64} (ha0 : ws[q0]? = some (a0, .inl (c0, n0, .inr (.inl f)))) (ha1 : ws[q1]? = some (a, .inl (c0, n1, .inr (.inl g)))) (ht0 : tys[t0]? = some (c0, .long))
    {N : Nat} (hN : N < 2 ^ 31) (h4 : N ≤ n0) (h5 : N ≤ n1) (hframes : 1 ≤ R.frames) (hlocals : (rest.map fun v => v.category).sum + (nativeFrameWords "java/lang/System" "arraycopy" 5 + 11) ≤ R.locals) (hdg : decode cc pc = .ok (.invokestatic index, 3))
    (kk : ∀ (H1 : Heap) (locs1 : List Loc), va_P D cl (ws.set q1 (a, .inl (c0, n1, .inr (.inl (va_cpy f g 0 0 N))))) H1 → va_S A H0 H1 locs1 → W p l e R s m args below meth c H1 locs1 cells slots Q (F0 m (pc + 3) ls rest)) : W p l e R s m args below meth c H locs cells slots Q (F0 m pc ls (.int (nI N) :: .int 0 :: .ref a :: .int 0 :: .ref a0 :: rest)) := by
  have h := nI_clamp hN
  have h0 : (0 : Int32).toNatClampNeg = 0 := by decide
  exact va_copyl hx hb hml hown hlink hnat hstat hini hK hP hD hS q0 q1 t0 t0 ha0 ha1 ht0 ht0 rfl (by decide) (by decide) (nI_pos hN) (by rw [h, h0]; omega) (by rw [h, h0]; omega) (fun _ _ => rfl) hframes hlocals hdg fun H1 locs1 h1 _ h3 => kk H1 locs1 (by rw [h, h0] at h1; exact h1) h3
end Q2
theorem isTm_t {S : q_St} {t : Nat} (h : t < s_n S) (hn : s_n S ≤ 10) : isTm S (nI t) = true := by
  have h1 := nI_pos (n := t) (by omega)
  have h2 : ¬ nI (s_n S) ≤ nI t := fun q => by have := (nI_leI (by omega) (by omega)).mp q; omega
  have h3 : ¬ (10 : Int32) ≤ nI t := fun q => by have := (nI_leI (a := 10) (by decide) (by omega)).mp q; omega
  simp only [isTm, h1, h2, h3, decide_false]; rfl
theorem isTm_of {S : q_St} {x : Int32} (hn : s_n S ≤ 10) (h : isTm S x = true) : ∃ t : Nat, t < s_n S ∧ t < 10 ∧ x = nI t := by
  simp only [isTm, Bool.and_eq_true, Bool.not_eq_true', decide_eq_false_iff_not] at h
  obtain ⟨⟨h1, h2⟩, h3⟩ := h
  obtain ⟨t, ht, rfl⟩ := nI_of h1
  have h4 : t < s_n S := by
    rcases Nat.lt_or_ge t (s_n S) with q | q
    · exact q
    · exact absurd (nI_le q ht) h2
  exact ⟨t, h4, by omega, rfl⟩
end
section
theorem q_cpy0 {f g : Nat → Int64} {n j : Nat} (h : j < n) : va_cpy f g 0 0 n j = f j := by
  unfold va_cpy
  rw [if_pos ⟨Nat.zero_le j, by omega⟩]
  congr 1
  omega

set_option maxHeartbeats 2000000 in
set_option maxRecDepth 100000 in
theorem c_X3_copy (l : Launch) (g : q_G) (a : Nat → Nat → Nat) (b : Nat → Nat) (i j : Nat) (S T : q_St) (hI : q_inj a b) (hi : i < 9) (hj : j < 9) (hij : i ≠ j) : Met l yX3_copy wsX3_copy { frames := 1, cells := 0, slots := 0, locals := 40 } (va_Pc [.ref (a i 0), .ref (a j 0)] (q_B g (q_stW g (a i) S ++ q_stW g (a j) T))) (q_QM g (q_two a i j) (q_stW g (a i) S ++ q_stW g (a j) S) (none)) 0 0 (q_two a i j) := by
  refine q_mm (cc := cX3_copy) (maxL := 2) (ret := none) (by decide) rfl (Nat.le_of_ble_eq_true rfl) ?_
  intro p e s m args below meth c ls hx hb hml hown hts hr hlk hnm hB hag hl
  obtain ⟨hP, hK, hN⟩ := hB
  have hS : va_S (q_two a i j) s.heap s.heap [] := va_S.rf
  have hP : va_P g.1 vwCl (q_stW g (a i) S ++ q_stW g (a j) T) s.heap := hP
  have hD : va_D (q_two a i j) (q_stW g (a i) S ++ q_stW g (a j) T) := q_two_D hI hi hj hij
  have fl_9 := hts (.fieldLink RX3 9 "PubQuizzes$State" "settings" "[I") (by decide +kernel)
  have fl_15 := hts (.fieldLink RX3 15 "PubQuizzes$State" "paid" "[I") (by decide +kernel)
  have fl_18 := hts (.fieldLink RX3 18 "PubQuizzes$State" "jokers" "[I") (by decide +kernel)
  have fl_21 := hts (.fieldLink RX3 21 "PubQuizzes$State" "fines" "[I") (by decide +kernel)
  have fl_24 := hts (.fieldLink RX3 24 "PubQuizzes$State" "guesses" "[I") (by decide +kernel)
  have fl_27 := hts (.fieldLink RX3 27 "PubQuizzes$State" "keys" "[J") (by decide +kernel)
  have fl_31 := hts (.fieldLink RX3 31 "PubQuizzes$State" "sheets" "[J") (by decide +kernel)
  have fl_34 := hts (.fieldLink RX3 34 "PubQuizzes$State" "marks" "[I") (by decide +kernel)
  have fl_37 := hts (.fieldLink RX3 37 "PubQuizzes$State" "markers" "[I") (by decide +kernel)
  have fl_40 := hts (.fieldLink RX3 40 "PubQuizzes$State" "looked" "[I") (by decide +kernel)
  have fl_43 := hts (.fieldLink RX3 43 "PubQuizzes$State" "truth" "I") (by decide +kernel)
  have fl_66 := hts (.fieldLink RX3 66 "PubQuizzes$State" "teams" "I") (by decide +kernel)
  have hi_X3 : ∀ w ∈ u_ws RX3 TX3 12, w ∈ wsX3_copy := by decide +kernel
  have hl : lv_has ls 2 [(0, .ref (a i 0)), (1, .ref (a j 0))] := hl
  refine lv_aload_n hx hb dX3_copy_0 rfl (lv_at hl 0 rfl) ?_
  refine lv_ifnull hx hb dX3_copy_1 ?_
  refine lv_aload_n hx hb dX3_copy_4 rfl (lv_at hl 1 rfl) ?_
  refine lv_ifnonnull (tgt := 9) hx hb dX3_copy_5 (by decide) ?_
  refine lv_aload_n hx hb dX3_copy_9 rfl (lv_at hl 0 rfl) ?_
  refine va_get (D := g.1) (ci := 2) (v := .ref (a i 1)) (C := RX3) (T := TX3) (N := 12) hx hb hts hi_X3 hown hK hP 0 rfl rfl 0 (by decide) fl_9 (fun _ h9 => h9) rfl dX3_copy_10 ?_
  refine lv_iconst (v := 0) hx hb dX3_copy_13 (by decide) ?_
  refine lv_aload_n hx hb dX3_copy_14 rfl (lv_at hl 1 rfl) ?_
  refine va_get (D := g.1) (ci := 2) (v := .ref (a j 1)) (C := RX3) (T := TX3) (N := 12) hx hb hts hi_X3 hown hK hP 11 rfl rfl 0 (by decide) fl_9 (fun _ h9 => h9) rfl dX3_copy_15 ?_
  refine lv_iconst (v := 0) hx hb dX3_copy_18 (by decide) ?_
  refine lv_iconst (v := 4) hx hb dX3_copy_19 (by decide) ?_
  refine q_cpi (N := 4) hx hb (hml.trans hl.1.symm) hown (hts (.methodLink RX3 60 arraycopyName) (by decide +kernel)) (hts (.native arraycopyName) (by decide +kernel)) (hts (.static arraycopyName) (by decide +kernel)) (hts (.initialized "java/lang/System") (by decide +kernel)) hK hP hD hS 1 12 0 rfl rfl rfl (by decide) (by decide) (by decide) (Nat.le_of_ble_eq_true rfl) (Nat.le_of_ble_eq_true rfl) dX3_copy_20 (fun H locs hP hS => ?_)
  have hP : va_P g.1 vwCl (q_stW g (a i) S ++ q_stW g (a j) (u_set T (va_cpy (s_set S) (s_set T) 0 0 4))) H := hP
  have hD : va_D (q_two a i j) (q_stW g (a i) S ++ q_stW g (a j) (u_set T (va_cpy (s_set S) (s_set T) 0 0 4))) := q_two_D hI hi hj hij
  refine lv_aload_n hx hb dX3_copy_23 rfl (lv_at hl 0 rfl) ?_
  refine va_get (D := g.1) (ci := 2) (v := .ref (a i 2)) (C := RX3) (T := TX3) (N := 12) hx hb hts hi_X3 hown hK hP 0 rfl rfl 1 (by decide) fl_15 (fun _ h9 => h9) rfl dX3_copy_24 ?_
  refine lv_iconst (v := 0) hx hb dX3_copy_27 (by decide) ?_
  refine lv_aload_n hx hb dX3_copy_28 rfl (lv_at hl 1 rfl) ?_
  refine va_get (D := g.1) (ci := 2) (v := .ref (a j 2)) (C := RX3) (T := TX3) (N := 12) hx hb hts hi_X3 hown hK hP 11 rfl rfl 1 (by decide) fl_15 (fun _ h9 => h9) rfl dX3_copy_29 ?_
  refine lv_iconst (v := 0) hx hb dX3_copy_32 (by decide) ?_
  refine lv_bipush (v := 10) hx hb dX3_copy_33 (by decide) ?_
  refine q_cpi (N := 10) hx hb (hml.trans hl.1.symm) hown (hts (.methodLink RX3 60 arraycopyName) (by decide +kernel)) (hts (.native arraycopyName) (by decide +kernel)) (hts (.static arraycopyName) (by decide +kernel)) (hts (.initialized "java/lang/System") (by decide +kernel)) hK hP hD hS 2 13 0 rfl rfl rfl (by decide) (by decide) (by decide) (Nat.le_of_ble_eq_true rfl) (Nat.le_of_ble_eq_true rfl) dX3_copy_35 (fun H locs hP hS => ?_)
  have hP : va_P g.1 vwCl (q_stW g (a i) S ++ q_stW g (a j) (u_paid (u_set T (va_cpy (s_set S) (s_set T) 0 0 4)) (va_cpy (s_paid S) (s_paid T) 0 0 10))) H := hP
  have hD : va_D (q_two a i j) (q_stW g (a i) S ++ q_stW g (a j) (u_paid (u_set T (va_cpy (s_set S) (s_set T) 0 0 4)) (va_cpy (s_paid S) (s_paid T) 0 0 10))) := q_two_D hI hi hj hij
  refine lv_aload_n hx hb dX3_copy_38 rfl (lv_at hl 0 rfl) ?_
  refine va_get (D := g.1) (ci := 2) (v := .ref (a i 3)) (C := RX3) (T := TX3) (N := 12) hx hb hts hi_X3 hown hK hP 0 rfl rfl 2 (by decide) fl_18 (fun _ h9 => h9) rfl dX3_copy_39 ?_
  refine lv_iconst (v := 0) hx hb dX3_copy_42 (by decide) ?_
  refine lv_aload_n hx hb dX3_copy_43 rfl (lv_at hl 1 rfl) ?_
  refine va_get (D := g.1) (ci := 2) (v := .ref (a j 3)) (C := RX3) (T := TX3) (N := 12) hx hb hts hi_X3 hown hK hP 11 rfl rfl 2 (by decide) fl_18 (fun _ h9 => h9) rfl dX3_copy_44 ?_
  refine lv_iconst (v := 0) hx hb dX3_copy_47 (by decide) ?_
  refine lv_bipush (v := 10) hx hb dX3_copy_48 (by decide) ?_
  refine q_cpi (N := 10) hx hb (hml.trans hl.1.symm) hown (hts (.methodLink RX3 60 arraycopyName) (by decide +kernel)) (hts (.native arraycopyName) (by decide +kernel)) (hts (.static arraycopyName) (by decide +kernel)) (hts (.initialized "java/lang/System") (by decide +kernel)) hK hP hD hS 3 14 0 rfl rfl rfl (by decide) (by decide) (by decide) (Nat.le_of_ble_eq_true rfl) (Nat.le_of_ble_eq_true rfl) dX3_copy_50 (fun H locs hP hS => ?_)
  have hP : va_P g.1 vwCl (q_stW g (a i) S ++ q_stW g (a j) (u_jok (u_paid (u_set T (va_cpy (s_set S) (s_set T) 0 0 4)) (va_cpy (s_paid S) (s_paid T) 0 0 10)) (va_cpy (s_jok S) (s_jok T) 0 0 10))) H := hP
  have hD : va_D (q_two a i j) (q_stW g (a i) S ++ q_stW g (a j) (u_jok (u_paid (u_set T (va_cpy (s_set S) (s_set T) 0 0 4)) (va_cpy (s_paid S) (s_paid T) 0 0 10)) (va_cpy (s_jok S) (s_jok T) 0 0 10))) := q_two_D hI hi hj hij
  refine lv_aload_n hx hb dX3_copy_53 rfl (lv_at hl 0 rfl) ?_
  refine va_get (D := g.1) (ci := 2) (v := .ref (a i 4)) (C := RX3) (T := TX3) (N := 12) hx hb hts hi_X3 hown hK hP 0 rfl rfl 3 (by decide) fl_21 (fun _ h9 => h9) rfl dX3_copy_54 ?_
  refine lv_iconst (v := 0) hx hb dX3_copy_57 (by decide) ?_
  refine lv_aload_n hx hb dX3_copy_58 rfl (lv_at hl 1 rfl) ?_
  refine va_get (D := g.1) (ci := 2) (v := .ref (a j 4)) (C := RX3) (T := TX3) (N := 12) hx hb hts hi_X3 hown hK hP 11 rfl rfl 3 (by decide) fl_21 (fun _ h9 => h9) rfl dX3_copy_59 ?_
  refine lv_iconst (v := 0) hx hb dX3_copy_62 (by decide) ?_
  refine lv_bipush (v := 10) hx hb dX3_copy_63 (by decide) ?_
  refine q_cpi (N := 10) hx hb (hml.trans hl.1.symm) hown (hts (.methodLink RX3 60 arraycopyName) (by decide +kernel)) (hts (.native arraycopyName) (by decide +kernel)) (hts (.static arraycopyName) (by decide +kernel)) (hts (.initialized "java/lang/System") (by decide +kernel)) hK hP hD hS 4 15 0 rfl rfl rfl (by decide) (by decide) (by decide) (Nat.le_of_ble_eq_true rfl) (Nat.le_of_ble_eq_true rfl) dX3_copy_65 (fun H locs hP hS => ?_)
  have hP : va_P g.1 vwCl (q_stW g (a i) S ++ q_stW g (a j) (u_fin (u_jok (u_paid (u_set T (va_cpy (s_set S) (s_set T) 0 0 4)) (va_cpy (s_paid S) (s_paid T) 0 0 10)) (va_cpy (s_jok S) (s_jok T) 0 0 10)) (va_cpy (s_fin S) (s_fin T) 0 0 10))) H := hP
  have hD : va_D (q_two a i j) (q_stW g (a i) S ++ q_stW g (a j) (u_fin (u_jok (u_paid (u_set T (va_cpy (s_set S) (s_set T) 0 0 4)) (va_cpy (s_paid S) (s_paid T) 0 0 10)) (va_cpy (s_jok S) (s_jok T) 0 0 10)) (va_cpy (s_fin S) (s_fin T) 0 0 10))) := q_two_D hI hi hj hij
  refine lv_aload_n hx hb dX3_copy_68 rfl (lv_at hl 0 rfl) ?_
  refine va_get (D := g.1) (ci := 2) (v := .ref (a i 5)) (C := RX3) (T := TX3) (N := 12) hx hb hts hi_X3 hown hK hP 0 rfl rfl 4 (by decide) fl_24 (fun _ h9 => h9) rfl dX3_copy_69 ?_
  refine lv_iconst (v := 0) hx hb dX3_copy_72 (by decide) ?_
  refine lv_aload_n hx hb dX3_copy_73 rfl (lv_at hl 1 rfl) ?_
  refine va_get (D := g.1) (ci := 2) (v := .ref (a j 5)) (C := RX3) (T := TX3) (N := 12) hx hb hts hi_X3 hown hK hP 11 rfl rfl 4 (by decide) fl_24 (fun _ h9 => h9) rfl dX3_copy_74 ?_
  refine lv_iconst (v := 0) hx hb dX3_copy_77 (by decide) ?_
  refine lv_bipush (v := 10) hx hb dX3_copy_78 (by decide) ?_
  refine q_cpi (N := 10) hx hb (hml.trans hl.1.symm) hown (hts (.methodLink RX3 60 arraycopyName) (by decide +kernel)) (hts (.native arraycopyName) (by decide +kernel)) (hts (.static arraycopyName) (by decide +kernel)) (hts (.initialized "java/lang/System") (by decide +kernel)) hK hP hD hS 5 16 0 rfl rfl rfl (by decide) (by decide) (by decide) (Nat.le_of_ble_eq_true rfl) (Nat.le_of_ble_eq_true rfl) dX3_copy_80 (fun H locs hP hS => ?_)
  have hP : va_P g.1 vwCl (q_stW g (a i) S ++ q_stW g (a j) (u_gue (u_fin (u_jok (u_paid (u_set T (va_cpy (s_set S) (s_set T) 0 0 4)) (va_cpy (s_paid S) (s_paid T) 0 0 10)) (va_cpy (s_jok S) (s_jok T) 0 0 10)) (va_cpy (s_fin S) (s_fin T) 0 0 10)) (va_cpy (s_gue S) (s_gue T) 0 0 10))) H := hP
  have hD : va_D (q_two a i j) (q_stW g (a i) S ++ q_stW g (a j) (u_gue (u_fin (u_jok (u_paid (u_set T (va_cpy (s_set S) (s_set T) 0 0 4)) (va_cpy (s_paid S) (s_paid T) 0 0 10)) (va_cpy (s_jok S) (s_jok T) 0 0 10)) (va_cpy (s_fin S) (s_fin T) 0 0 10)) (va_cpy (s_gue S) (s_gue T) 0 0 10))) := q_two_D hI hi hj hij
  refine lv_aload_n hx hb dX3_copy_83 rfl (lv_at hl 0 rfl) ?_
  refine va_get (D := g.1) (ci := 2) (v := .ref (a i 6)) (C := RX3) (T := TX3) (N := 12) hx hb hts hi_X3 hown hK hP 0 rfl rfl 5 (by decide) fl_27 (fun _ h9 => h9) rfl dX3_copy_84 ?_
  refine lv_iconst (v := 0) hx hb dX3_copy_87 (by decide) ?_
  refine lv_aload_n hx hb dX3_copy_88 rfl (lv_at hl 1 rfl) ?_
  refine va_get (D := g.1) (ci := 2) (v := .ref (a j 6)) (C := RX3) (T := TX3) (N := 12) hx hb hts hi_X3 hown hK hP 11 rfl rfl 5 (by decide) fl_27 (fun _ h9 => h9) rfl dX3_copy_89 ?_
  refine lv_iconst (v := 0) hx hb dX3_copy_92 (by decide) ?_
  refine lv_bipush (v := 8) hx hb dX3_copy_93 (by decide) ?_
  refine q_cpl (N := 8) hx hb (hml.trans hl.1.symm) hown (hts (.methodLink RX3 60 arraycopyName) (by decide +kernel)) (hts (.native arraycopyName) (by decide +kernel)) (hts (.static arraycopyName) (by decide +kernel)) (hts (.initialized "java/lang/System") (by decide +kernel)) hK hP hD hS 6 17 1 rfl rfl rfl (by decide) (by decide) (by decide) (Nat.le_of_ble_eq_true rfl) (Nat.le_of_ble_eq_true rfl) dX3_copy_95 (fun H locs hP hS => ?_)
  have hP : va_P g.1 vwCl (q_stW g (a i) S ++ q_stW g (a j) (u_key (u_gue (u_fin (u_jok (u_paid (u_set T (va_cpy (s_set S) (s_set T) 0 0 4)) (va_cpy (s_paid S) (s_paid T) 0 0 10)) (va_cpy (s_jok S) (s_jok T) 0 0 10)) (va_cpy (s_fin S) (s_fin T) 0 0 10)) (va_cpy (s_gue S) (s_gue T) 0 0 10)) (va_cpy (s_key S) (s_key T) 0 0 8))) H := hP
  have hD : va_D (q_two a i j) (q_stW g (a i) S ++ q_stW g (a j) (u_key (u_gue (u_fin (u_jok (u_paid (u_set T (va_cpy (s_set S) (s_set T) 0 0 4)) (va_cpy (s_paid S) (s_paid T) 0 0 10)) (va_cpy (s_jok S) (s_jok T) 0 0 10)) (va_cpy (s_fin S) (s_fin T) 0 0 10)) (va_cpy (s_gue S) (s_gue T) 0 0 10)) (va_cpy (s_key S) (s_key T) 0 0 8))) := q_two_D hI hi hj hij
  refine lv_aload_n hx hb dX3_copy_98 rfl (lv_at hl 0 rfl) ?_
  refine va_get (D := g.1) (ci := 2) (v := .ref (a i 7)) (C := RX3) (T := TX3) (N := 12) hx hb hts hi_X3 hown hK hP 0 rfl rfl 6 (by decide) fl_31 (fun _ h9 => h9) rfl dX3_copy_99 ?_
  refine lv_iconst (v := 0) hx hb dX3_copy_102 (by decide) ?_
  refine lv_aload_n hx hb dX3_copy_103 rfl (lv_at hl 1 rfl) ?_
  refine va_get (D := g.1) (ci := 2) (v := .ref (a j 7)) (C := RX3) (T := TX3) (N := 12) hx hb hts hi_X3 hown hK hP 11 rfl rfl 6 (by decide) fl_31 (fun _ h9 => h9) rfl dX3_copy_104 ?_
  refine lv_iconst (v := 0) hx hb dX3_copy_107 (by decide) ?_
  refine lv_bipush (v := 80) hx hb dX3_copy_108 (by decide) ?_
  refine q_cpl (N := 80) hx hb (hml.trans hl.1.symm) hown (hts (.methodLink RX3 60 arraycopyName) (by decide +kernel)) (hts (.native arraycopyName) (by decide +kernel)) (hts (.static arraycopyName) (by decide +kernel)) (hts (.initialized "java/lang/System") (by decide +kernel)) hK hP hD hS 7 18 1 rfl rfl rfl (by decide) (by decide) (by decide) (Nat.le_of_ble_eq_true rfl) (Nat.le_of_ble_eq_true rfl) dX3_copy_110 (fun H locs hP hS => ?_)
  have hP : va_P g.1 vwCl (q_stW g (a i) S ++ q_stW g (a j) (u_she (u_key (u_gue (u_fin (u_jok (u_paid (u_set T (va_cpy (s_set S) (s_set T) 0 0 4)) (va_cpy (s_paid S) (s_paid T) 0 0 10)) (va_cpy (s_jok S) (s_jok T) 0 0 10)) (va_cpy (s_fin S) (s_fin T) 0 0 10)) (va_cpy (s_gue S) (s_gue T) 0 0 10)) (va_cpy (s_key S) (s_key T) 0 0 8)) (va_cpy (s_she S) (s_she T) 0 0 80))) H := hP
  have hD : va_D (q_two a i j) (q_stW g (a i) S ++ q_stW g (a j) (u_she (u_key (u_gue (u_fin (u_jok (u_paid (u_set T (va_cpy (s_set S) (s_set T) 0 0 4)) (va_cpy (s_paid S) (s_paid T) 0 0 10)) (va_cpy (s_jok S) (s_jok T) 0 0 10)) (va_cpy (s_fin S) (s_fin T) 0 0 10)) (va_cpy (s_gue S) (s_gue T) 0 0 10)) (va_cpy (s_key S) (s_key T) 0 0 8)) (va_cpy (s_she S) (s_she T) 0 0 80))) := q_two_D hI hi hj hij
  refine lv_aload_n hx hb dX3_copy_113 rfl (lv_at hl 0 rfl) ?_
  refine va_get (D := g.1) (ci := 2) (v := .ref (a i 8)) (C := RX3) (T := TX3) (N := 12) hx hb hts hi_X3 hown hK hP 0 rfl rfl 7 (by decide) fl_34 (fun _ h9 => h9) rfl dX3_copy_114 ?_
  refine lv_iconst (v := 0) hx hb dX3_copy_117 (by decide) ?_
  refine lv_aload_n hx hb dX3_copy_118 rfl (lv_at hl 1 rfl) ?_
  refine va_get (D := g.1) (ci := 2) (v := .ref (a j 8)) (C := RX3) (T := TX3) (N := 12) hx hb hts hi_X3 hown hK hP 11 rfl rfl 7 (by decide) fl_34 (fun _ h9 => h9) rfl dX3_copy_119 ?_
  refine lv_iconst (v := 0) hx hb dX3_copy_122 (by decide) ?_
  refine lv_bipush (v := 80) hx hb dX3_copy_123 (by decide) ?_
  refine q_cpi (N := 80) hx hb (hml.trans hl.1.symm) hown (hts (.methodLink RX3 60 arraycopyName) (by decide +kernel)) (hts (.native arraycopyName) (by decide +kernel)) (hts (.static arraycopyName) (by decide +kernel)) (hts (.initialized "java/lang/System") (by decide +kernel)) hK hP hD hS 8 19 0 rfl rfl rfl (by decide) (by decide) (by decide) (Nat.le_of_ble_eq_true rfl) (Nat.le_of_ble_eq_true rfl) dX3_copy_125 (fun H locs hP hS => ?_)
  have hP : va_P g.1 vwCl (q_stW g (a i) S ++ q_stW g (a j) (u_mar (u_she (u_key (u_gue (u_fin (u_jok (u_paid (u_set T (va_cpy (s_set S) (s_set T) 0 0 4)) (va_cpy (s_paid S) (s_paid T) 0 0 10)) (va_cpy (s_jok S) (s_jok T) 0 0 10)) (va_cpy (s_fin S) (s_fin T) 0 0 10)) (va_cpy (s_gue S) (s_gue T) 0 0 10)) (va_cpy (s_key S) (s_key T) 0 0 8)) (va_cpy (s_she S) (s_she T) 0 0 80)) (va_cpy (s_mar S) (s_mar T) 0 0 80))) H := hP
  have hD : va_D (q_two a i j) (q_stW g (a i) S ++ q_stW g (a j) (u_mar (u_she (u_key (u_gue (u_fin (u_jok (u_paid (u_set T (va_cpy (s_set S) (s_set T) 0 0 4)) (va_cpy (s_paid S) (s_paid T) 0 0 10)) (va_cpy (s_jok S) (s_jok T) 0 0 10)) (va_cpy (s_fin S) (s_fin T) 0 0 10)) (va_cpy (s_gue S) (s_gue T) 0 0 10)) (va_cpy (s_key S) (s_key T) 0 0 8)) (va_cpy (s_she S) (s_she T) 0 0 80)) (va_cpy (s_mar S) (s_mar T) 0 0 80))) := q_two_D hI hi hj hij
  refine lv_aload_n hx hb dX3_copy_128 rfl (lv_at hl 0 rfl) ?_
  refine va_get (D := g.1) (ci := 2) (v := .ref (a i 9)) (C := RX3) (T := TX3) (N := 12) hx hb hts hi_X3 hown hK hP 0 rfl rfl 8 (by decide) fl_37 (fun _ h9 => h9) rfl dX3_copy_129 ?_
  refine lv_iconst (v := 0) hx hb dX3_copy_132 (by decide) ?_
  refine lv_aload_n hx hb dX3_copy_133 rfl (lv_at hl 1 rfl) ?_
  refine va_get (D := g.1) (ci := 2) (v := .ref (a j 9)) (C := RX3) (T := TX3) (N := 12) hx hb hts hi_X3 hown hK hP 11 rfl rfl 8 (by decide) fl_37 (fun _ h9 => h9) rfl dX3_copy_134 ?_
  refine lv_iconst (v := 0) hx hb dX3_copy_137 (by decide) ?_
  refine lv_bipush (v := 80) hx hb dX3_copy_138 (by decide) ?_
  refine q_cpi (N := 80) hx hb (hml.trans hl.1.symm) hown (hts (.methodLink RX3 60 arraycopyName) (by decide +kernel)) (hts (.native arraycopyName) (by decide +kernel)) (hts (.static arraycopyName) (by decide +kernel)) (hts (.initialized "java/lang/System") (by decide +kernel)) hK hP hD hS 9 20 0 rfl rfl rfl (by decide) (by decide) (by decide) (Nat.le_of_ble_eq_true rfl) (Nat.le_of_ble_eq_true rfl) dX3_copy_140 (fun H locs hP hS => ?_)
  have hP : va_P g.1 vwCl (q_stW g (a i) S ++ q_stW g (a j) (u_mkr (u_mar (u_she (u_key (u_gue (u_fin (u_jok (u_paid (u_set T (va_cpy (s_set S) (s_set T) 0 0 4)) (va_cpy (s_paid S) (s_paid T) 0 0 10)) (va_cpy (s_jok S) (s_jok T) 0 0 10)) (va_cpy (s_fin S) (s_fin T) 0 0 10)) (va_cpy (s_gue S) (s_gue T) 0 0 10)) (va_cpy (s_key S) (s_key T) 0 0 8)) (va_cpy (s_she S) (s_she T) 0 0 80)) (va_cpy (s_mar S) (s_mar T) 0 0 80)) (va_cpy (s_mkr S) (s_mkr T) 0 0 80))) H := hP
  have hD : va_D (q_two a i j) (q_stW g (a i) S ++ q_stW g (a j) (u_mkr (u_mar (u_she (u_key (u_gue (u_fin (u_jok (u_paid (u_set T (va_cpy (s_set S) (s_set T) 0 0 4)) (va_cpy (s_paid S) (s_paid T) 0 0 10)) (va_cpy (s_jok S) (s_jok T) 0 0 10)) (va_cpy (s_fin S) (s_fin T) 0 0 10)) (va_cpy (s_gue S) (s_gue T) 0 0 10)) (va_cpy (s_key S) (s_key T) 0 0 8)) (va_cpy (s_she S) (s_she T) 0 0 80)) (va_cpy (s_mar S) (s_mar T) 0 0 80)) (va_cpy (s_mkr S) (s_mkr T) 0 0 80))) := q_two_D hI hi hj hij
  refine lv_aload_n hx hb dX3_copy_143 rfl (lv_at hl 0 rfl) ?_
  refine va_get (D := g.1) (ci := 2) (v := .ref (a i 10)) (C := RX3) (T := TX3) (N := 12) hx hb hts hi_X3 hown hK hP 0 rfl rfl 9 (by decide) fl_40 (fun _ h9 => h9) rfl dX3_copy_144 ?_
  refine lv_iconst (v := 0) hx hb dX3_copy_147 (by decide) ?_
  refine lv_aload_n hx hb dX3_copy_148 rfl (lv_at hl 1 rfl) ?_
  refine va_get (D := g.1) (ci := 2) (v := .ref (a j 10)) (C := RX3) (T := TX3) (N := 12) hx hb hts hi_X3 hown hK hP 11 rfl rfl 9 (by decide) fl_40 (fun _ h9 => h9) rfl dX3_copy_149 ?_
  refine lv_iconst (v := 0) hx hb dX3_copy_152 (by decide) ?_
  refine lv_bipush (v := 8) hx hb dX3_copy_153 (by decide) ?_
  refine q_cpi (N := 8) hx hb (hml.trans hl.1.symm) hown (hts (.methodLink RX3 60 arraycopyName) (by decide +kernel)) (hts (.native arraycopyName) (by decide +kernel)) (hts (.static arraycopyName) (by decide +kernel)) (hts (.initialized "java/lang/System") (by decide +kernel)) hK hP hD hS 10 21 0 rfl rfl rfl (by decide) (by decide) (by decide) (Nat.le_of_ble_eq_true rfl) (Nat.le_of_ble_eq_true rfl) dX3_copy_155 (fun H locs hP hS => ?_)
  have hP : va_P g.1 vwCl (q_stW g (a i) S ++ q_stW g (a j) (u_loo (u_mkr (u_mar (u_she (u_key (u_gue (u_fin (u_jok (u_paid (u_set T (va_cpy (s_set S) (s_set T) 0 0 4)) (va_cpy (s_paid S) (s_paid T) 0 0 10)) (va_cpy (s_jok S) (s_jok T) 0 0 10)) (va_cpy (s_fin S) (s_fin T) 0 0 10)) (va_cpy (s_gue S) (s_gue T) 0 0 10)) (va_cpy (s_key S) (s_key T) 0 0 8)) (va_cpy (s_she S) (s_she T) 0 0 80)) (va_cpy (s_mar S) (s_mar T) 0 0 80)) (va_cpy (s_mkr S) (s_mkr T) 0 0 80)) (va_cpy (s_loo S) (s_loo T) 0 0 8))) H := hP
  have hD : va_D (q_two a i j) (q_stW g (a i) S ++ q_stW g (a j) (u_loo (u_mkr (u_mar (u_she (u_key (u_gue (u_fin (u_jok (u_paid (u_set T (va_cpy (s_set S) (s_set T) 0 0 4)) (va_cpy (s_paid S) (s_paid T) 0 0 10)) (va_cpy (s_jok S) (s_jok T) 0 0 10)) (va_cpy (s_fin S) (s_fin T) 0 0 10)) (va_cpy (s_gue S) (s_gue T) 0 0 10)) (va_cpy (s_key S) (s_key T) 0 0 8)) (va_cpy (s_she S) (s_she T) 0 0 80)) (va_cpy (s_mar S) (s_mar T) 0 0 80)) (va_cpy (s_mkr S) (s_mkr T) 0 0 80)) (va_cpy (s_loo S) (s_loo T) 0 0 8))) := q_two_D hI hi hj hij
  refine lv_aload_n hx hb dX3_copy_158 rfl (lv_at hl 1 rfl) ?_
  refine lv_aload_n hx hb dX3_copy_159 rfl (lv_at hl 0 rfl) ?_
  refine va_get (D := g.1) (ci := 2) (v := .int (nI (s_n S))) (C := RX3) (T := TX3) (N := 12) hx hb hts hi_X3 hown hK hP 0 rfl rfl 10 (by decide) fl_66 (fun _ h9 => h9) rfl dX3_copy_160 ?_
  refine va_put (D := g.1) (ci := 2) (v := .int (nI (s_n S))) (ty := .int) (C := RX3) (T := TX3) (N := 12) hx hb hts hi_X3 tyX3 tyX3_ok nmX3 hown hK hP hD hS 11 rfl rfl 10 (by decide) fl_66 (fun _ h9 => h9) rfl (by decide +kernel) rfl rfl (Nat.le_of_ble_eq_true rfl) dX3_copy_163 (fun H locs hP _ hS => ?_)
  have hP : va_P g.1 vwCl (q_stW g (a i) S ++ q_stW g (a j) (u_n (u_loo (u_mkr (u_mar (u_she (u_key (u_gue (u_fin (u_jok (u_paid (u_set T (va_cpy (s_set S) (s_set T) 0 0 4)) (va_cpy (s_paid S) (s_paid T) 0 0 10)) (va_cpy (s_jok S) (s_jok T) 0 0 10)) (va_cpy (s_fin S) (s_fin T) 0 0 10)) (va_cpy (s_gue S) (s_gue T) 0 0 10)) (va_cpy (s_key S) (s_key T) 0 0 8)) (va_cpy (s_she S) (s_she T) 0 0 80)) (va_cpy (s_mar S) (s_mar T) 0 0 80)) (va_cpy (s_mkr S) (s_mkr T) 0 0 80)) (va_cpy (s_loo S) (s_loo T) 0 0 8)) (s_n S))) H := hP
  have hD : va_D (q_two a i j) (q_stW g (a i) S ++ q_stW g (a j) (u_n (u_loo (u_mkr (u_mar (u_she (u_key (u_gue (u_fin (u_jok (u_paid (u_set T (va_cpy (s_set S) (s_set T) 0 0 4)) (va_cpy (s_paid S) (s_paid T) 0 0 10)) (va_cpy (s_jok S) (s_jok T) 0 0 10)) (va_cpy (s_fin S) (s_fin T) 0 0 10)) (va_cpy (s_gue S) (s_gue T) 0 0 10)) (va_cpy (s_key S) (s_key T) 0 0 8)) (va_cpy (s_she S) (s_she T) 0 0 80)) (va_cpy (s_mar S) (s_mar T) 0 0 80)) (va_cpy (s_mkr S) (s_mkr T) 0 0 80)) (va_cpy (s_loo S) (s_loo T) 0 0 8)) (s_n S))) := q_two_D hI hi hj hij
  refine lv_aload_n hx hb dX3_copy_166 rfl (lv_at hl 1 rfl) ?_
  refine lv_aload_n hx hb dX3_copy_167 rfl (lv_at hl 0 rfl) ?_
  refine va_get (D := g.1) (ci := 2) (v := .int (s_tru S)) (C := RX3) (T := TX3) (N := 12) hx hb hts hi_X3 hown hK hP 0 rfl rfl 11 (by decide) fl_43 (fun _ h9 => h9) rfl dX3_copy_168 ?_
  refine va_put (D := g.1) (ci := 2) (v := .int (s_tru S)) (ty := .int) (C := RX3) (T := TX3) (N := 12) hx hb hts hi_X3 tyX3 tyX3_ok nmX3 hown hK hP hD hS 11 rfl rfl 11 (by decide) fl_43 (fun _ h9 => h9) rfl (by decide +kernel) rfl rfl (Nat.le_of_ble_eq_true rfl) dX3_copy_171 (fun H locs hP _ hS => ?_)
  have hP : va_P g.1 vwCl (q_stW g (a i) S ++ q_stW g (a j) (u_tru (u_n (u_loo (u_mkr (u_mar (u_she (u_key (u_gue (u_fin (u_jok (u_paid (u_set T (va_cpy (s_set S) (s_set T) 0 0 4)) (va_cpy (s_paid S) (s_paid T) 0 0 10)) (va_cpy (s_jok S) (s_jok T) 0 0 10)) (va_cpy (s_fin S) (s_fin T) 0 0 10)) (va_cpy (s_gue S) (s_gue T) 0 0 10)) (va_cpy (s_key S) (s_key T) 0 0 8)) (va_cpy (s_she S) (s_she T) 0 0 80)) (va_cpy (s_mar S) (s_mar T) 0 0 80)) (va_cpy (s_mkr S) (s_mkr T) 0 0 80)) (va_cpy (s_loo S) (s_loo T) 0 0 8)) (s_n S)) (s_tru S))) H := hP
  have hD : va_D (q_two a i j) (q_stW g (a i) S ++ q_stW g (a j) (u_tru (u_n (u_loo (u_mkr (u_mar (u_she (u_key (u_gue (u_fin (u_jok (u_paid (u_set T (va_cpy (s_set S) (s_set T) 0 0 4)) (va_cpy (s_paid S) (s_paid T) 0 0 10)) (va_cpy (s_jok S) (s_jok T) 0 0 10)) (va_cpy (s_fin S) (s_fin T) 0 0 10)) (va_cpy (s_gue S) (s_gue T) 0 0 10)) (va_cpy (s_key S) (s_key T) 0 0 8)) (va_cpy (s_she S) (s_she T) 0 0 80)) (va_cpy (s_mar S) (s_mar T) 0 0 80)) (va_cpy (s_mkr S) (s_mkr T) 0 0 80)) (va_cpy (s_loo S) (s_loo T) 0 0 8)) (s_n S)) (s_tru S))) := q_two_D hI hi hj hij
  have hP4 := q_P_app.mp hP
  have hP5 : va_P g.1 vwCl (q_stW g (a j) S) H := by
    refine q_st_eqv ?_ hP4.2
    exact ⟨fun k hk => sb_cpy0 hk, fun k hk => sb_cpy0 hk, fun k hk => sb_cpy0 hk, fun k hk => sb_cpy0 hk, fun k hk => sb_cpy0 hk, fun k hk => q_cpy0 hk, fun k hk => q_cpy0 hk, fun k hk => sb_cpy0 hk, fun k hk => sb_cpy0 hk, fun k hk => sb_cpy0 hk, rfl, rfl⟩
  have hP : va_P g.1 vwCl (q_stW g (a i) S ++ q_stW g (a j) S) H := q_P_app.mpr ⟨hP4.1, hP5⟩
  exact q_mvret hx hb hr hlk dX3_copy_174 hP hS (rfl)

set_option maxHeartbeats 4000000 in
set_option maxRecDepth 100000 in
theorem c_X0_length (l : Launch) (g : q_G) (u w k n : Nat) : q_PM l yX0_length wsX0_length { frames := 0, cells := 0, slots := 0, locals := 0 } [.ref u] (q_B g ([(u, .inr (0, [.ref w, .int (nI k), .int (nI n)]))])) (.int (nI n)) := by
  refine q_pm (cc := cX0_length) (maxL := 1) (ret := (some .int)) (by decide) rfl (Nat.le_of_ble_eq_true rfl) ?_
  intro p e s m args below meth c ls hx hb hml hown hts hr hlk hB hl
  obtain ⟨hP, hK, hN⟩ := hB
  have fl_16 := hts (.fieldLink RX0 16 "PubQuizzes$History" "length" "I") (by decide +kernel)
  have hi_X0 : ∀ w ∈ u_ws RX0 TX0 3, w ∈ wsX0_length := by decide +kernel
  have hl : lv_has ls 1 [(0, .ref u)] := hl
  refine lv_aload_n hx hb dX0_length_0 rfl (lv_at hl 0 rfl) ?_
  refine va_get (D := g.1) (ci := 0) (v := .int (nI n)) (C := RX0) (T := TX0) (N := 3) hx hb hts hi_X0 hown hK hP 0 rfl rfl 2 (by decide) fl_16 (fun _ h9 => h9) rfl dX0_length_1 ?_
  exact q_iret hx hb hr hlk dX0_length_4 (rfl)
end
section
/-! the history and the pad, as they change -/
def v_rec (V : q_CV) : q_CV := w_hl (w_nxt (w_sx V (va_up (v_sx V) (v_nxt V + 1) (v_now V))) (if v_nxt V = 5 then 0 else v_nxt V + 1)) (if v_hl V < 6 then v_hl V + 1 else 6)
def v_prv (V : q_CV) : Nat := if v_nxt V = 0 then 5 else v_nxt V - 1
def v_und (V : q_CV) : q_CV := w_hl (w_nxt (w_now V (v_sx V (v_prv V + 1))) (v_prv V)) (v_hl V - 1)
def v_app (V : q_CV) (x : Int64) (k : Nat) : q_CV := if v_pl V + k ≤ 80 then w_pl (w_pc V (fun i => if v_pl V ≤ i ∧ i < v_pl V + k then (sh8 x (v_pl V + k - 1 - i) &&& 255).toInt32 else v_pc V i)) (v_pl V + k) else V
def v_fin (V : q_CV) (t : Nat) : q_CV := w_now V (u_fin (v_now V) (upd (s_fin (v_now V)) t (s_fin (v_now V) t + 1)))
theorem v_recM {n : Nat} (h : n ≤ 6) : (if (6 : Int32) < nI (n + 1) then (6 : Int32) else nI (n + 1)) = nI (if n < 6 then n + 1 else 6) := by
  by_cases c : n < 6
  · rw [if_pos c, if_neg]
    exact nI_nlt (a := 6) (b := n + 1) (by omega) (by omega)
  · have e : n = 6 := by omega
    subst e; decide

set_option maxHeartbeats 2000000 in
set_option maxRecDepth 100000 in
theorem c_X1_clear (l : Launch) (g : q_G) (a : Nat → Nat → Nat) (b : Nat → Nat) (V : q_CV) (hI : q_inj a b) : Met l yX1_clear wsX1_clear { frames := 0, cells := 0, slots := 0, locals := 0 } (va_Pc [.ref (b 1)] (q_B g (q_pqW g a b V))) (q_QM g (q_adr a b) (q_pqW g a b (w_pl V 0)) (none)) 0 0 (q_adr a b) := by
  refine q_mm (cc := cX1_clear) (maxL := 1) (ret := none) (by decide) rfl (Nat.le_of_ble_eq_true rfl) ?_
  intro p e s m args below meth c ls hx hb hml hown hts hr hlk hnm hB hag hl
  obtain ⟨hP, hK, hN⟩ := hB
  have hS : va_S (q_adr a b) s.heap s.heap [] := va_S.rf
  have hP : va_P g.1 vwCl (q_pqW g a b V) s.heap := hP
  have hD : va_D (q_adr a b) (q_pqW g a b V) := q_D hI (fun _ h => h)
  have fl_17 := hts (.fieldLink RX1 17 "PubQuizzes$Pad" "length" "I") (by decide +kernel)
  have hi_X1 : ∀ w ∈ u_ws RX1 TX1 2, w ∈ wsX1_clear := by decide +kernel
  have hl : lv_has ls 1 [(0, .ref (b 1))] := hl
  refine lv_aload_n hx hb dX1_clear_0 rfl (lv_at hl 0 rfl) ?_
  refine lv_iconst (v := 0) hx hb dX1_clear_1 (by decide) ?_
  refine va_put (D := g.1) (ci := 1) (v := .int 0) (ty := .int) (C := RX1) (T := TX1) (N := 2) hx hb hts hi_X1 tyX1 tyX1_ok nmX1 hown hK hP hD hS 1 rfl rfl 1 (by decide) fl_17 (fun _ h9 => h9) rfl (by decide +kernel) rfl rfl (Nat.le_of_ble_eq_true rfl) dX1_clear_2 (fun H locs hP _ hS => ?_)
  have hP : va_P g.1 vwCl (q_pqW g a b (w_pl V 0)) H := hP
  have hD : va_D (q_adr a b) (q_pqW g a b (w_pl V 0)) := q_D hI (fun _ h => h)
  exact q_mvret hx hb hr hlk dX1_clear_5 hP hS (rfl)

set_option maxHeartbeats 2000000 in
set_option maxRecDepth 100000 in
theorem c_X3_addFine (l : Launch) (g : q_G) (a : Nat → Nat → Nat) (b : Nat → Nat) (V : q_CV) (hI : q_inj a b) (t : Nat) (h1_ : t < s_n (v_now V)) (h2_ : s_n (v_now V) ≤ 10) : Met l yX3_addFine wsX3_addFine { frames := 1, cells := 0, slots := 0, locals := 21 } (va_Pc [.ref (a 0 0), .int (nI t)] (q_B g (q_pqW g a b V))) (q_QM g (q_adr a b) (q_pqW g a b (v_fin V t)) (none)) 0 0 (q_adr a b) := by
  refine q_mm (cc := cX3_addFine) (maxL := 2) (ret := none) (by decide) rfl (Nat.le_of_ble_eq_true rfl) ?_
  intro p e s m args below meth c ls hx hb hml hown hts hr hlk hnm hB hag hl
  obtain ⟨hP, hK, hN⟩ := hB
  have hS : va_S (q_adr a b) s.heap s.heap [] := va_S.rf
  have hP : va_P g.1 vwCl (q_pqW g a b V) s.heap := hP
  have hD : va_D (q_adr a b) (q_pqW g a b V) := q_D hI (fun _ h => h)
  have fl_21 := hts (.fieldLink RX3 21 "PubQuizzes$State" "fines" "[I") (by decide +kernel)
  have hi_X3 : ∀ w ∈ u_ws RX3 TX3 12, w ∈ wsX3_addFine := by decide +kernel
  have hl : lv_has ls 2 [(0, .ref (a 0 0)), (1, .int (nI t))] := hl
  refine lv_aload_n hx hb dX3_addFine_0 rfl (lv_at hl 0 rfl) ?_
  refine lv_iload_n hx hb dX3_addFine_1 rfl (lv_at hl 1 rfl) ?_
  refine q_V (As := [.int (nI t)]) (rest := []) ⟨hx, hb, hml, hown, hts⟩ (c_X3_isTeam l g (a 0) (v_now V) (nI t) ) (cwV 1 hts gX3_addFine_X3_isTeam rfl rfl rfl (by decide +kernel) ⟨Nat.le_of_ble_eq_true rfl, Nat.le_of_ble_eq_true rfl⟩) q_B_blind (va_recv hK (q_nowP hP) (ci := 2) (q0 := 0) rfl rfl) (q_B_of (q_nowP hP) hK hN) rfl hl.1 rfl (Nat.le_of_ble_eq_true rfl) dX3_addFine_2 (Nat.zero_le _) (Nat.zero_le _) ?_
  refine lv_if_eq (tgt := 18) hx hb dX3_addFine_5 (by decide) (fun c_5 => ?_) (fun c_5 => ?_)
  · skip
    have c_5 : (isTm (v_now V) (nI t)) = false := bI_eq c_5
    exact absurd c_5 (by rw [isTm_t h1_ h2_]; decide)
  · skip
    have c_5 : (isTm (v_now V) (nI t)) = true := bI_ne c_5
    refine lv_aload_n hx hb dX3_addFine_8 rfl (lv_at hl 0 rfl) ?_
    refine va_get (D := g.1) (ci := 2) (v := .ref (a 0 4)) (C := RX3) (T := TX3) (N := 12) hx hb hts hi_X3 hown hK hP 7 rfl rfl 3 (by decide) fl_21 (fun _ h9 => h9) rfl dX3_addFine_9 ?_
    refine lv_iload_n hx hb dX3_addFine_12 rfl (lv_at hl 1 rfl) ?_
    refine lv_dup2_11 hx hb dX3_addFine_13 rfl rfl ?_
    refine q_iald (j := t) hx hb hK hP 11 0 rfl rfl (by omega) (by decide) dX3_addFine_14 ?_
    refine lv_iconst (v := 1) hx hb dX3_addFine_15 (by decide) ?_
    refine lv_iadd hx hb dX3_addFine_16 ?_
    refine q_iast (j := t) hx hb hK hP hD hS 11 0 rfl rfl (by omega) (by decide) dX3_addFine_17 (fun H locs hP hS => ?_)
    have hP : va_P g.1 vwCl (q_pqW g a b (w_now V (u_fin (v_now V) (upd (s_fin (v_now V)) t ((s_fin (v_now V) t) + 1))))) H := hP
    have hD : va_D (q_adr a b) (q_pqW g a b (w_now V (u_fin (v_now V) (upd (s_fin (v_now V)) t ((s_fin (v_now V) t) + 1))))) := q_D hI (fun _ h => h)
    exact q_mvret hx hb hr hlk dX3_addFine_18 hP hS (rfl)

set_option maxHeartbeats 2000000 in
set_option maxRecDepth 100000 in
theorem c_X0_record (l : Launch) (g : q_G) (a : Nat → Nat → Nat) (b : Nat → Nat) (V : q_CV) (hI : q_inj a b) (h1_ : v_nxt V < 6) (h2_ : v_hl V ≤ 6) : Met l yX0_record wsX0_record { frames := 2, cells := 0, slots := 0, locals := 61 } (va_Pc [.ref (b 3), .ref (a 0 0)] (q_B g (q_pqW g a b V))) (q_QM g (q_adr a b) (q_pqW g a b (v_rec V)) (none)) 0 0 (q_adr a b) := by
  refine q_mm (cc := cX0_record) (maxL := 2) (ret := none) (by decide) rfl (Nat.le_of_ble_eq_true rfl) ?_
  intro p e s m args below meth c ls hx hb hml hown hts hr hlk hnm hB hag hl
  obtain ⟨hP, hK, hN⟩ := hB
  have hS : va_S (q_adr a b) s.heap s.heap [] := va_S.rf
  have hP : va_P g.1 vwCl (q_pqW g a b V) s.heap := hP
  have hD : va_D (q_adr a b) (q_pqW g a b V) := q_D hI (fun _ h => h)
  have fl_11 := hts (.fieldLink RX0 11 "PubQuizzes$History" "states" "[LPubQuizzes$State;") (by decide +kernel)
  have fl_16 := hts (.fieldLink RX0 16 "PubQuizzes$History" "length" "I") (by decide +kernel)
  have fl_20 := hts (.fieldLink RX0 20 "PubQuizzes$History" "next" "I") (by decide +kernel)
  have hi_X0 : ∀ w ∈ u_ws RX0 TX0 3, w ∈ wsX0_record := by decide +kernel
  have hl : lv_has ls 2 [(0, .ref (b 3)), (1, .ref (a 0 0))] := hl
  refine lv_aload_n hx hb dX0_record_0 rfl (lv_at hl 0 rfl) ?_
  refine va_get (D := g.1) (ci := 0) (v := .int (nI (v_nxt V))) (C := RX0) (T := TX0) (N := 3) hx hb hts hi_X0 hown hK hP 3 rfl rfl 1 (by decide) fl_20 (fun _ h9 => h9) rfl dX0_record_1 ?_
  refine lv_if_lt (tgt := 16) hx hb dX0_record_4 (by decide) (fun c_4 => ?_) (fun c_4 => ?_)
  · skip
    exact absurd c_4 (nI_pos (by omega))
  · skip
    refine lv_aload_n hx hb dX0_record_7 rfl (lv_at hl 0 rfl) ?_
    refine va_get (D := g.1) (ci := 0) (v := .int (nI (v_nxt V))) (C := RX0) (T := TX0) (N := 3) hx hb hts hi_X0 hown hK hP 3 rfl rfl 1 (by decide) fl_20 (fun _ h9 => h9) rfl dX0_record_8 ?_
    refine lv_bipush (v := 6) hx hb dX0_record_11 (by decide) ?_
    refine lv_icmp_lt (tgt := 17) hx hb dX0_record_13 (by decide) (fun c_13 => ?_) (fun c_13 => ?_)
    · skip
      refine lv_aload_n hx hb dX0_record_17 rfl (lv_at hl 1 rfl) ?_
      refine lv_aload_n hx hb dX0_record_18 rfl (lv_at hl 0 rfl) ?_
      refine va_get (D := g.1) (ci := 0) (v := .ref (b 4)) (C := RX0) (T := TX0) (N := 3) hx hb hts hi_X0 hown hK hP 3 rfl rfl 0 (by decide) fl_11 (fun _ h9 => h9) rfl dX0_record_19 ?_
      refine lv_aload_n hx hb dX0_record_22 rfl (lv_at hl 0 rfl) ?_
      refine va_get (D := g.1) (ci := 0) (v := .int (nI (v_nxt V))) (C := RX0) (T := TX0) (N := 3) hx hb hts hi_X0 hown hK hP 3 rfl rfl 1 (by decide) fl_20 (fun _ h9 => h9) rfl dX0_record_23 ?_
      refine q_aald (j := (v_nxt V)) (z := a ((v_nxt V) + 1) 0) hx hb hK hP 4 4 rfl rfl rfl (by omega) (by decide) dX0_record_26 ?_
      have hBk := (q_pqP.mp hP).2
      have hP2 : va_P g.1 vwCl (q_stW g (a 0) (q_blk V 0) ++ q_stW g (a ((v_nxt V) + 1)) (q_blk V ((v_nxt V) + 1))) s.heap := q_P_app.mpr ⟨hBk 0 (by omega), hBk ((v_nxt V) + 1) (by omega)⟩
      refine q_SM (As := [.ref (a 0 0), .ref (a ((v_nxt V) + 1) 0)]) (rest := []) (st2 := []) ⟨hx, hb, hml, hown, hts⟩ (c_X3_copy l g a b 0 ((v_nxt V) + 1) _ _ hI (by omega) (by omega) (by omega)) (va_cwS 2 hts gX0_record_X3_copy rfl rfl rfl (by decide +kernel) ⟨Nat.le_of_ble_eq_true rfl, Nat.le_of_ble_eq_true rfl⟩) q_B_blind (q_B_of hP2 hK hN) rfl hl.1 rfl (Nat.le_of_ble_eq_true rfl) dX0_record_27 (Nat.zero_le _) (Nat.zero_le _) hS (fun _ h => q_two_adr (by omega) (by omega) h) rfl rfl rfl (fun H locs hP3 hF3 hS _ => ?_)
      have hP := q_copyJ hI hP (by omega) (by omega) hP3 hF3
      rw [show v_copy V 0 ((v_nxt V) + 1) = w_sx V (va_up (v_sx V) (v_nxt V + 1) (v_now V)) from if_neg (Nat.succ_ne_zero _)] at hP
      have hP : va_P g.1 vwCl (q_pqW g a b (w_sx V (va_up (v_sx V) (v_nxt V + 1) (v_now V)))) H := hP
      have hD : va_D (q_adr a b) (q_pqW g a b (w_sx V (va_up (v_sx V) (v_nxt V + 1) (v_now V)))) := q_D hI (fun _ h => h)
      refine lv_aload_n hx hb dX0_record_30 rfl (lv_at hl 0 rfl) ?_
      refine lv_aload_n hx hb dX0_record_31 rfl (lv_at hl 0 rfl) ?_
      refine va_get (D := g.1) (ci := 0) (v := .int (nI (v_nxt V))) (C := RX0) (T := TX0) (N := 3) hx hb hts hi_X0 hown hK hP 3 rfl rfl 1 (by decide) fl_20 (fun _ h9 => h9) rfl dX0_record_32 ?_
      refine lv_iconst (v := 5) hx hb dX0_record_35 (by decide) ?_
      refine lv_icmp_ne (tgt := 43) hx hb dX0_record_36 (by decide) (fun c_36 => ?_) (fun c_36 => ?_)
      · skip
        have c_36 : ¬ v_nxt V = 5 := fun q => c_36 (by rw [q]; rfl)
        refine lv_aload_n hx hb dX0_record_43 rfl (lv_at hl 0 rfl) ?_
        refine va_get (D := g.1) (ci := 0) (v := .int (nI (v_nxt V))) (C := RX0) (T := TX0) (N := 3) hx hb hts hi_X0 hown hK hP 3 rfl rfl 1 (by decide) fl_20 (fun _ h9 => h9) rfl dX0_record_44 ?_
        refine lv_iconst (v := 1) hx hb dX0_record_47 (by decide) ?_
        refine lv_iadd hx hb dX0_record_48 ?_
        refine q_reI (show (((nI (v_nxt V)) + 1) : Int32) = nI (if v_nxt V = 5 then 0 else v_nxt V + 1) from by first | (rw [if_neg c_36, nI_1]) | (rw [if_pos c_36]; rfl)) ?_
        refine va_put (D := g.1) (ci := 0) (v := .int (nI (if v_nxt V = 5 then 0 else v_nxt V + 1))) (ty := .int) (C := RX0) (T := TX0) (N := 3) hx hb hts hi_X0 tyX0 tyX0_ok nmX0 hown hK hP hD hS 3 rfl rfl 1 (by decide) fl_20 (fun _ h9 => h9) rfl (by decide +kernel) rfl rfl (Nat.le_of_ble_eq_true rfl) dX0_record_49 (fun H locs hP _ hS => ?_)
        have hP : va_P g.1 vwCl (q_pqW g a b (w_nxt (w_sx V (va_up (v_sx V) (v_nxt V + 1) (v_now V))) (if v_nxt V = 5 then 0 else v_nxt V + 1))) H := hP
        have hD : va_D (q_adr a b) (q_pqW g a b (w_nxt (w_sx V (va_up (v_sx V) (v_nxt V + 1) (v_now V))) (if v_nxt V = 5 then 0 else v_nxt V + 1))) := q_D hI (fun _ h => h)
        refine lv_aload_n hx hb dX0_record_52 rfl (lv_at hl 0 rfl) ?_
        refine lv_aload_n hx hb dX0_record_53 rfl (lv_at hl 0 rfl) ?_
        refine va_get (D := g.1) (ci := 0) (v := .int (nI (v_hl V))) (C := RX0) (T := TX0) (N := 3) hx hb hts hi_X0 hown hK hP 3 rfl rfl 2 (by decide) fl_16 (fun _ h9 => h9) rfl dX0_record_54 ?_
        refine lv_iconst (v := 1) hx hb dX0_record_57 (by decide) ?_
        refine lv_iadd hx hb dX0_record_58 ?_
        refine lv_bipush (v := 6) hx hb dX0_record_59 (by decide) ?_
        refine q_reI (show (6 : Int32) = 6 from rfl) ?_
        refine va_mmin hx hb (hml.trans hl.1.symm) hown (hts (.methodLink RX0 27 Lib.Math.min.name) (by decide +kernel)) (hts (.static Lib.Math.min.name) (by decide +kernel)) (hts (.initialized "java/lang/Math") (by decide +kernel)) (hts (.code Lib.Math.min.name Lib.Math.min.code 2 (some .int)) (by decide +kernel)) (Nat.le_of_ble_eq_true rfl) (Nat.le_of_ble_eq_true rfl) (Nat.zero_le _) (Nat.zero_le _) dX0_record_61 ?_
        refine q_reI (show ((if 6 < ((nI (v_hl V)) + 1) then 6 else ((nI (v_hl V)) + 1)) : Int32) = nI (if v_hl V < 6 then v_hl V + 1 else 6) from by rw [nI_1]; exact v_recM h2_) ?_
        refine va_put (D := g.1) (ci := 0) (v := .int (nI (if v_hl V < 6 then v_hl V + 1 else 6))) (ty := .int) (C := RX0) (T := TX0) (N := 3) hx hb hts hi_X0 tyX0 tyX0_ok nmX0 hown hK hP hD hS 3 rfl rfl 2 (by decide) fl_16 (fun _ h9 => h9) rfl (by decide +kernel) rfl rfl (Nat.le_of_ble_eq_true rfl) dX0_record_64 (fun H locs hP _ hS => ?_)
        have hP : va_P g.1 vwCl (q_pqW g a b (w_hl (w_nxt (w_sx V (va_up (v_sx V) (v_nxt V + 1) (v_now V))) (if v_nxt V = 5 then 0 else v_nxt V + 1)) (if v_hl V < 6 then v_hl V + 1 else 6))) H := hP
        have hD : va_D (q_adr a b) (q_pqW g a b (w_hl (w_nxt (w_sx V (va_up (v_sx V) (v_nxt V + 1) (v_now V))) (if v_nxt V = 5 then 0 else v_nxt V + 1)) (if v_hl V < 6 then v_hl V + 1 else 6))) := q_D hI (fun _ h => h)
        exact q_mvret hx hb hr hlk dX0_record_67 hP hS (rfl)
      · skip
        have c_36 : v_nxt V = 5 := (nI_eq (by omega) (by decide)).mp (show nI (v_nxt V) = nI 5 from c_36)
        refine lv_iconst (v := 0) hx hb dX0_record_39 (by decide) ?_
        refine lv_goto (tgt := 49) hx hb dX0_record_40 (by decide) ?_
        refine q_reI (show (0 : Int32) = nI (if v_nxt V = 5 then 0 else v_nxt V + 1) from by first | (rw [if_neg c_36, nI_1]) | (rw [if_pos c_36]; rfl)) ?_
        refine va_put (D := g.1) (ci := 0) (v := .int (nI (if v_nxt V = 5 then 0 else v_nxt V + 1))) (ty := .int) (C := RX0) (T := TX0) (N := 3) hx hb hts hi_X0 tyX0 tyX0_ok nmX0 hown hK hP hD hS 3 rfl rfl 1 (by decide) fl_20 (fun _ h9 => h9) rfl (by decide +kernel) rfl rfl (Nat.le_of_ble_eq_true rfl) dX0_record_49 (fun H locs hP _ hS => ?_)
        have hP : va_P g.1 vwCl (q_pqW g a b (w_nxt (w_sx V (va_up (v_sx V) (v_nxt V + 1) (v_now V))) (if v_nxt V = 5 then 0 else v_nxt V + 1))) H := hP
        have hD : va_D (q_adr a b) (q_pqW g a b (w_nxt (w_sx V (va_up (v_sx V) (v_nxt V + 1) (v_now V))) (if v_nxt V = 5 then 0 else v_nxt V + 1))) := q_D hI (fun _ h => h)
        refine lv_aload_n hx hb dX0_record_52 rfl (lv_at hl 0 rfl) ?_
        refine lv_aload_n hx hb dX0_record_53 rfl (lv_at hl 0 rfl) ?_
        refine va_get (D := g.1) (ci := 0) (v := .int (nI (v_hl V))) (C := RX0) (T := TX0) (N := 3) hx hb hts hi_X0 hown hK hP 3 rfl rfl 2 (by decide) fl_16 (fun _ h9 => h9) rfl dX0_record_54 ?_
        refine lv_iconst (v := 1) hx hb dX0_record_57 (by decide) ?_
        refine lv_iadd hx hb dX0_record_58 ?_
        refine lv_bipush (v := 6) hx hb dX0_record_59 (by decide) ?_
        refine q_reI (show (6 : Int32) = 6 from rfl) ?_
        refine va_mmin hx hb (hml.trans hl.1.symm) hown (hts (.methodLink RX0 27 Lib.Math.min.name) (by decide +kernel)) (hts (.static Lib.Math.min.name) (by decide +kernel)) (hts (.initialized "java/lang/Math") (by decide +kernel)) (hts (.code Lib.Math.min.name Lib.Math.min.code 2 (some .int)) (by decide +kernel)) (Nat.le_of_ble_eq_true rfl) (Nat.le_of_ble_eq_true rfl) (Nat.zero_le _) (Nat.zero_le _) dX0_record_61 ?_
        refine q_reI (show ((if 6 < ((nI (v_hl V)) + 1) then 6 else ((nI (v_hl V)) + 1)) : Int32) = nI (if v_hl V < 6 then v_hl V + 1 else 6) from by rw [nI_1]; exact v_recM h2_) ?_
        refine va_put (D := g.1) (ci := 0) (v := .int (nI (if v_hl V < 6 then v_hl V + 1 else 6))) (ty := .int) (C := RX0) (T := TX0) (N := 3) hx hb hts hi_X0 tyX0 tyX0_ok nmX0 hown hK hP hD hS 3 rfl rfl 2 (by decide) fl_16 (fun _ h9 => h9) rfl (by decide +kernel) rfl rfl (Nat.le_of_ble_eq_true rfl) dX0_record_64 (fun H locs hP _ hS => ?_)
        have hP : va_P g.1 vwCl (q_pqW g a b (w_hl (w_nxt (w_sx V (va_up (v_sx V) (v_nxt V + 1) (v_now V))) (if v_nxt V = 5 then 0 else v_nxt V + 1)) (if v_hl V < 6 then v_hl V + 1 else 6))) H := hP
        have hD : va_D (q_adr a b) (q_pqW g a b (w_hl (w_nxt (w_sx V (va_up (v_sx V) (v_nxt V + 1) (v_now V))) (if v_nxt V = 5 then 0 else v_nxt V + 1)) (if v_hl V < 6 then v_hl V + 1 else 6))) := q_D hI (fun _ h => h)
        exact q_mvret hx hb hr hlk dX0_record_67 hP hS (rfl)
    · skip
      exact absurd (nI_lt h1_ (by decide) : nI (v_nxt V) < nI 6) c_13

set_option maxHeartbeats 2000000 in
set_option maxRecDepth 100000 in
theorem c_X0_takeBack (l : Launch) (g : q_G) (a : Nat → Nat → Nat) (b : Nat → Nat) (V : q_CV) (hI : q_inj a b) (h1_ : v_nxt V < 6) (h2_ : 1 ≤ v_hl V) (h3_ : v_hl V ≤ 6) : Met l yX0_takeBack wsX0_takeBack { frames := 2, cells := 0, slots := 0, locals := 61 } (va_Pc [.ref (b 3), .ref (a 0 0)] (q_B g (q_pqW g a b V))) (q_QM g (q_adr a b) (q_pqW g a b (v_und V)) (none)) 0 0 (q_adr a b) := by
  refine q_mm (cc := cX0_takeBack) (maxL := 3) (ret := none) (by decide) rfl (Nat.le_of_ble_eq_true rfl) ?_
  intro p e s m args below meth c ls hx hb hml hown hts hr hlk hnm hB hag hl
  obtain ⟨hP, hK, hN⟩ := hB
  have hS : va_S (q_adr a b) s.heap s.heap [] := va_S.rf
  have hP : va_P g.1 vwCl (q_pqW g a b V) s.heap := hP
  have hD : va_D (q_adr a b) (q_pqW g a b V) := q_D hI (fun _ h => h)
  have fl_11 := hts (.fieldLink RX0 11 "PubQuizzes$History" "states" "[LPubQuizzes$State;") (by decide +kernel)
  have fl_16 := hts (.fieldLink RX0 16 "PubQuizzes$History" "length" "I") (by decide +kernel)
  have fl_20 := hts (.fieldLink RX0 20 "PubQuizzes$History" "next" "I") (by decide +kernel)
  have hi_X0 : ∀ w ∈ u_ws RX0 TX0 3, w ∈ wsX0_takeBack := by decide +kernel
  have hl : lv_has ls 3 [(0, .ref (b 3)), (1, .ref (a 0 0))] := hl
  have hpv : v_prv V < 6 := by unfold v_prv; split <;> omega
  refine lv_aload_n hx hb dX0_takeBack_0 rfl (lv_at hl 0 rfl) ?_
  refine va_get (D := g.1) (ci := 0) (v := .int (nI (v_nxt V))) (C := RX0) (T := TX0) (N := 3) hx hb hts hi_X0 hown hK hP 3 rfl rfl 1 (by decide) fl_20 (fun _ h9 => h9) rfl dX0_takeBack_1 ?_
  refine lv_if_ne (tgt := 11) hx hb dX0_takeBack_4 (by decide) (fun c_4 => ?_) (fun c_4 => ?_)
  · skip
    have c_4 : ¬ v_nxt V = 0 := fun q => c_4 (by rw [q]; rfl)
    refine lv_aload_n hx hb dX0_takeBack_11 rfl (lv_at hl 0 rfl) ?_
    refine va_get (D := g.1) (ci := 0) (v := .int (nI (v_nxt V))) (C := RX0) (T := TX0) (N := 3) hx hb hts hi_X0 hown hK hP 3 rfl rfl 1 (by decide) fl_20 (fun _ h9 => h9) rfl dX0_takeBack_12 ?_
    refine lv_iconst (v := 1) hx hb dX0_takeBack_15 (by decide) ?_
    refine lv_isub hx hb dX0_takeBack_16 ?_
    refine q_reI (show (((nI (v_nxt V)) - 1) : Int32) = nI (v_prv V) from by first | (unfold v_prv; rw [if_neg c_4]; exact pk_sub (b := 1) (by omega)) | (unfold v_prv; rw [if_pos c_4]; rfl)) ?_
    refine lv_istore_n (lv' := [(2, .int (nI (v_prv V))), (0, .ref (b 3)), (1, .ref (a 0 0))]) hx hb dX0_takeBack_17 rfl hl (by decide) rfl (fun ls hl => ?_)
    refine lv_aload_n hx hb dX0_takeBack_18 rfl (lv_at hl 1 rfl) ?_
    refine va_get (D := g.1) (ci := 0) (v := .int (nI (v_hl V))) (C := RX0) (T := TX0) (N := 3) hx hb hts hi_X0 hown hK hP 3 rfl rfl 2 (by decide) fl_16 (fun _ h9 => h9) rfl dX0_takeBack_19 ?_
    refine lv_if_eq (tgt := 35) hx hb dX0_takeBack_22 (by decide) (fun c_22 => ?_) (fun c_22 => ?_)
    · skip
      exact absurd c_22 (nI_ne0 h2_ (by omega))
    · skip
      refine lv_iload_n hx hb dX0_takeBack_25 rfl (lv_at hl 0 rfl) ?_
      refine lv_if_lt (tgt := 35) hx hb dX0_takeBack_26 (by decide) (fun c_26 => ?_) (fun c_26 => ?_)
      · skip
        exact absurd c_26 (nI_pos (by omega))
      · skip
        refine lv_iload_n hx hb dX0_takeBack_29 rfl (lv_at hl 0 rfl) ?_
        refine lv_bipush (v := 6) hx hb dX0_takeBack_30 (by decide) ?_
        refine lv_icmp_lt (tgt := 36) hx hb dX0_takeBack_32 (by decide) (fun c_32 => ?_) (fun c_32 => ?_)
        · skip
          refine lv_aload_n hx hb dX0_takeBack_36 rfl (lv_at hl 1 rfl) ?_
          refine va_get (D := g.1) (ci := 0) (v := .ref (b 4)) (C := RX0) (T := TX0) (N := 3) hx hb hts hi_X0 hown hK hP 3 rfl rfl 0 (by decide) fl_11 (fun _ h9 => h9) rfl dX0_takeBack_37 ?_
          refine lv_iload_n hx hb dX0_takeBack_40 rfl (lv_at hl 0 rfl) ?_
          refine q_aald (j := (v_prv V)) (z := a ((v_prv V) + 1) 0) hx hb hK hP 4 4 rfl rfl rfl (by omega) (by decide) dX0_takeBack_41 ?_
          refine lv_aload_n hx hb dX0_takeBack_42 rfl (lv_at hl 2 rfl) ?_
          have hBk := (q_pqP.mp hP).2
          have hP2 : va_P g.1 vwCl (q_stW g (a ((v_prv V) + 1)) (q_blk V ((v_prv V) + 1)) ++ q_stW g (a 0) (q_blk V 0)) s.heap := q_P_app.mpr ⟨hBk ((v_prv V) + 1) (by omega), hBk 0 (by omega)⟩
          refine q_SM (As := [.ref (a ((v_prv V) + 1) 0), .ref (a 0 0)]) (rest := []) (st2 := []) ⟨hx, hb, hml, hown, hts⟩ (c_X3_copy l g a b ((v_prv V) + 1) 0 _ _ hI (by omega) (by omega) (by omega)) (va_cwS 2 hts gX0_takeBack_X3_copy rfl rfl rfl (by decide +kernel) ⟨Nat.le_of_ble_eq_true rfl, Nat.le_of_ble_eq_true rfl⟩) q_B_blind (q_B_of hP2 hK hN) rfl hl.1 rfl (Nat.le_of_ble_eq_true rfl) dX0_takeBack_43 (Nat.zero_le _) (Nat.zero_le _) hS (fun _ h => q_two_adr (by omega) (by omega) h) rfl rfl rfl (fun H locs hP3 hF3 hS _ => ?_)
          have hP := q_copyJ hI hP (by omega) (by omega) hP3 hF3
          rw [show v_copy V ((v_prv V) + 1) 0 = w_now V (v_sx V (v_prv V + 1)) from rfl] at hP
          have hP : va_P g.1 vwCl (q_pqW g a b (w_now V (v_sx V (v_prv V + 1)))) H := hP
          have hD : va_D (q_adr a b) (q_pqW g a b (w_now V (v_sx V (v_prv V + 1)))) := q_D hI (fun _ h => h)
          refine lv_aload_n hx hb dX0_takeBack_46 rfl (lv_at hl 1 rfl) ?_
          refine lv_iload_n hx hb dX0_takeBack_47 rfl (lv_at hl 0 rfl) ?_
          refine va_put (D := g.1) (ci := 0) (v := .int (nI (v_prv V))) (ty := .int) (C := RX0) (T := TX0) (N := 3) hx hb hts hi_X0 tyX0 tyX0_ok nmX0 hown hK hP hD hS 3 rfl rfl 1 (by decide) fl_20 (fun _ h9 => h9) rfl (by decide +kernel) rfl rfl (Nat.le_of_ble_eq_true rfl) dX0_takeBack_48 (fun H locs hP _ hS => ?_)
          have hP : va_P g.1 vwCl (q_pqW g a b (w_nxt (w_now V (v_sx V (v_prv V + 1))) (v_prv V))) H := hP
          have hD : va_D (q_adr a b) (q_pqW g a b (w_nxt (w_now V (v_sx V (v_prv V + 1))) (v_prv V))) := q_D hI (fun _ h => h)
          refine lv_aload_n hx hb dX0_takeBack_51 rfl (lv_at hl 1 rfl) ?_
          refine lv_dup hx hb dX0_takeBack_52 rfl ?_
          refine va_get (D := g.1) (ci := 0) (v := .int (nI (v_hl V))) (C := RX0) (T := TX0) (N := 3) hx hb hts hi_X0 hown hK hP 3 rfl rfl 2 (by decide) fl_16 (fun _ h9 => h9) rfl dX0_takeBack_53 ?_
          refine lv_iconst (v := 1) hx hb dX0_takeBack_56 (by decide) ?_
          refine lv_isub hx hb dX0_takeBack_57 ?_
          refine q_reI (show (((nI (v_hl V)) - 1) : Int32) = nI (v_hl V - 1) from pk_sub (b := 1) (by omega)) ?_
          refine va_put (D := g.1) (ci := 0) (v := .int (nI (v_hl V - 1))) (ty := .int) (C := RX0) (T := TX0) (N := 3) hx hb hts hi_X0 tyX0 tyX0_ok nmX0 hown hK hP hD hS 3 rfl rfl 2 (by decide) fl_16 (fun _ h9 => h9) rfl (by decide +kernel) rfl rfl (Nat.le_of_ble_eq_true rfl) dX0_takeBack_58 (fun H locs hP _ hS => ?_)
          have hP : va_P g.1 vwCl (q_pqW g a b (w_hl (w_nxt (w_now V (v_sx V (v_prv V + 1))) (v_prv V)) (v_hl V - 1))) H := hP
          have hD : va_D (q_adr a b) (q_pqW g a b (w_hl (w_nxt (w_now V (v_sx V (v_prv V + 1))) (v_prv V)) (v_hl V - 1))) := q_D hI (fun _ h => h)
          exact q_mvret hx hb hr hlk dX0_takeBack_61 hP hS (rfl)
        · skip
          exact absurd (nI_lt hpv (by decide) : nI (v_prv V) < nI 6) c_32
  · skip
    have c_4 : v_nxt V = 0 := (nI_eq (by omega) (by decide)).mp (show nI (v_nxt V) = nI 0 from c_4)
    refine lv_iconst (v := 5) hx hb dX0_takeBack_7 (by decide) ?_
    refine lv_goto (tgt := 17) hx hb dX0_takeBack_8 (by decide) ?_
    refine q_reI (show (5 : Int32) = nI (v_prv V) from by first | (unfold v_prv; rw [if_neg c_4]; exact pk_sub (b := 1) (by omega)) | (unfold v_prv; rw [if_pos c_4]; rfl)) ?_
    refine lv_istore_n (lv' := [(2, .int (nI (v_prv V))), (0, .ref (b 3)), (1, .ref (a 0 0))]) hx hb dX0_takeBack_17 rfl hl (by decide) rfl (fun ls hl => ?_)
    refine lv_aload_n hx hb dX0_takeBack_18 rfl (lv_at hl 1 rfl) ?_
    refine va_get (D := g.1) (ci := 0) (v := .int (nI (v_hl V))) (C := RX0) (T := TX0) (N := 3) hx hb hts hi_X0 hown hK hP 3 rfl rfl 2 (by decide) fl_16 (fun _ h9 => h9) rfl dX0_takeBack_19 ?_
    refine lv_if_eq (tgt := 35) hx hb dX0_takeBack_22 (by decide) (fun c_22 => ?_) (fun c_22 => ?_)
    · skip
      exact absurd c_22 (nI_ne0 h2_ (by omega))
    · skip
      refine lv_iload_n hx hb dX0_takeBack_25 rfl (lv_at hl 0 rfl) ?_
      refine lv_if_lt (tgt := 35) hx hb dX0_takeBack_26 (by decide) (fun c_26 => ?_) (fun c_26 => ?_)
      · skip
        exact absurd c_26 (nI_pos (by omega))
      · skip
        refine lv_iload_n hx hb dX0_takeBack_29 rfl (lv_at hl 0 rfl) ?_
        refine lv_bipush (v := 6) hx hb dX0_takeBack_30 (by decide) ?_
        refine lv_icmp_lt (tgt := 36) hx hb dX0_takeBack_32 (by decide) (fun c_32 => ?_) (fun c_32 => ?_)
        · skip
          refine lv_aload_n hx hb dX0_takeBack_36 rfl (lv_at hl 1 rfl) ?_
          refine va_get (D := g.1) (ci := 0) (v := .ref (b 4)) (C := RX0) (T := TX0) (N := 3) hx hb hts hi_X0 hown hK hP 3 rfl rfl 0 (by decide) fl_11 (fun _ h9 => h9) rfl dX0_takeBack_37 ?_
          refine lv_iload_n hx hb dX0_takeBack_40 rfl (lv_at hl 0 rfl) ?_
          refine q_aald (j := (v_prv V)) (z := a ((v_prv V) + 1) 0) hx hb hK hP 4 4 rfl rfl rfl (by omega) (by decide) dX0_takeBack_41 ?_
          refine lv_aload_n hx hb dX0_takeBack_42 rfl (lv_at hl 2 rfl) ?_
          have hBk := (q_pqP.mp hP).2
          have hP2 : va_P g.1 vwCl (q_stW g (a ((v_prv V) + 1)) (q_blk V ((v_prv V) + 1)) ++ q_stW g (a 0) (q_blk V 0)) s.heap := q_P_app.mpr ⟨hBk ((v_prv V) + 1) (by omega), hBk 0 (by omega)⟩
          refine q_SM (As := [.ref (a ((v_prv V) + 1) 0), .ref (a 0 0)]) (rest := []) (st2 := []) ⟨hx, hb, hml, hown, hts⟩ (c_X3_copy l g a b ((v_prv V) + 1) 0 _ _ hI (by omega) (by omega) (by omega)) (va_cwS 2 hts gX0_takeBack_X3_copy rfl rfl rfl (by decide +kernel) ⟨Nat.le_of_ble_eq_true rfl, Nat.le_of_ble_eq_true rfl⟩) q_B_blind (q_B_of hP2 hK hN) rfl hl.1 rfl (Nat.le_of_ble_eq_true rfl) dX0_takeBack_43 (Nat.zero_le _) (Nat.zero_le _) hS (fun _ h => q_two_adr (by omega) (by omega) h) rfl rfl rfl (fun H locs hP3 hF3 hS _ => ?_)
          have hP := q_copyJ hI hP (by omega) (by omega) hP3 hF3
          rw [show v_copy V ((v_prv V) + 1) 0 = w_now V (v_sx V (v_prv V + 1)) from rfl] at hP
          have hP : va_P g.1 vwCl (q_pqW g a b (w_now V (v_sx V (v_prv V + 1)))) H := hP
          have hD : va_D (q_adr a b) (q_pqW g a b (w_now V (v_sx V (v_prv V + 1)))) := q_D hI (fun _ h => h)
          refine lv_aload_n hx hb dX0_takeBack_46 rfl (lv_at hl 1 rfl) ?_
          refine lv_iload_n hx hb dX0_takeBack_47 rfl (lv_at hl 0 rfl) ?_
          refine va_put (D := g.1) (ci := 0) (v := .int (nI (v_prv V))) (ty := .int) (C := RX0) (T := TX0) (N := 3) hx hb hts hi_X0 tyX0 tyX0_ok nmX0 hown hK hP hD hS 3 rfl rfl 1 (by decide) fl_20 (fun _ h9 => h9) rfl (by decide +kernel) rfl rfl (Nat.le_of_ble_eq_true rfl) dX0_takeBack_48 (fun H locs hP _ hS => ?_)
          have hP : va_P g.1 vwCl (q_pqW g a b (w_nxt (w_now V (v_sx V (v_prv V + 1))) (v_prv V))) H := hP
          have hD : va_D (q_adr a b) (q_pqW g a b (w_nxt (w_now V (v_sx V (v_prv V + 1))) (v_prv V))) := q_D hI (fun _ h => h)
          refine lv_aload_n hx hb dX0_takeBack_51 rfl (lv_at hl 1 rfl) ?_
          refine lv_dup hx hb dX0_takeBack_52 rfl ?_
          refine va_get (D := g.1) (ci := 0) (v := .int (nI (v_hl V))) (C := RX0) (T := TX0) (N := 3) hx hb hts hi_X0 hown hK hP 3 rfl rfl 2 (by decide) fl_16 (fun _ h9 => h9) rfl dX0_takeBack_53 ?_
          refine lv_iconst (v := 1) hx hb dX0_takeBack_56 (by decide) ?_
          refine lv_isub hx hb dX0_takeBack_57 ?_
          refine q_reI (show (((nI (v_hl V)) - 1) : Int32) = nI (v_hl V - 1) from pk_sub (b := 1) (by omega)) ?_
          refine va_put (D := g.1) (ci := 0) (v := .int (nI (v_hl V - 1))) (ty := .int) (C := RX0) (T := TX0) (N := 3) hx hb hts hi_X0 tyX0 tyX0_ok nmX0 hown hK hP hD hS 3 rfl rfl 2 (by decide) fl_16 (fun _ h9 => h9) rfl (by decide +kernel) rfl rfl (Nat.le_of_ble_eq_true rfl) dX0_takeBack_58 (fun H locs hP _ hS => ?_)
          have hP : va_P g.1 vwCl (q_pqW g a b (w_hl (w_nxt (w_now V (v_sx V (v_prv V + 1))) (v_prv V)) (v_hl V - 1))) H := hP
          have hD : va_D (q_adr a b) (q_pqW g a b (w_hl (w_nxt (w_now V (v_sx V (v_prv V + 1))) (v_prv V)) (v_hl V - 1))) := q_D hI (fun _ h => h)
          exact q_mvret hx hb hr hlk dX0_takeBack_61 hP hS (rfl)
        · skip
          exact absurd (nI_lt hpv (by decide) : nI (v_prv V) < nI 6) c_32
end
section
/-! characters laid behind those of the pad, from the last one on -/
def apf (C : Nat → Int32) (x : Int64) (n : Nat) (i : Nat) : Nat → Int32 := fun p => if n - i ≤ p ∧ p < n then (sh8 x (n - 1 - p) &&& 255).toInt32 else C p
theorem apf_0 (C : Nat → Int32) (x : Int64) (n : Nat) : apf C x n 0 = C := by
  funext p
  unfold apf
  rw [if_neg (by omega)]
theorem apf_s (C : Nat → Int32) (x : Int64) (n i : Nat) (h : i < n) : upd (apf C x n i) (n - i - 1) (sh8 x i &&& 255).toInt32 = apf C x n (i + 1) := by
  funext p
  unfold upd apf
  by_cases c : p = n - i - 1
  · rw [if_pos c, if_pos (by omega), c, show n - 1 - (n - i - 1) = i from by omega]
  · rw [if_neg c]
    by_cases d : n - i ≤ p ∧ p < n
    · rw [if_pos d, if_pos (by omega)]
    · rw [if_neg d, if_neg (by omega)]
theorem ap_T {n k i : Nat} (h : n + k < 2 ^ 30) (hi : i ≤ k) (c : nI (n + k - i) - 1 < nI n) : i = k := by
  rcases Nat.lt_or_ge i k with q | q
  · rw [show nI (n + k - i) - 1 = nI (n + k - i - 1) from pk_sub (b := 1) (by omega)] at c
    have := (nI_ltI (by omega) (by omega)).mp c
    omega
  · omega
theorem ap_F {n k i : Nat} (h : n + k < 2 ^ 30) (hi : i ≤ k) (c : ¬ nI (n + k - i) - 1 < nI n) : i < k := by
  rcases Nat.lt_or_ge i k with q | q
  · exact q
  · refine absurd ?_ c
    rw [show n + k - i = n from by omega, Int32.lt_iff_toInt_lt, show nI n - 1 = nI n - nI 1 from rfl, pk_sub_toInt (by omega) (by decide), nI_toInt (by omega)]
    omega
theorem ap_N {m : Nat} (h : m < 2 ^ 30) (h1 : 1 ≤ m) : ¬ nI m - 1 < 0 := by
  rw [show nI m - 1 = nI (m - 1) from pk_sub (b := 1) h1]
  exact nI_pos (by omega)
theorem ap_S {m k i : Nat} (h : i < k) : nI (m + k - i) - 1 + (-1) = nI (m + k - (i + 1)) - 1 := by
  have h2 : nI (m + k - i) = nI (m + k - (i + 1)) + 1 := by rw [nI_1]; congr 1; omega
  rw [h2]
  generalize nI (m + k - (i + 1)) = z
  rw [Int32.add_sub_cancel, Int32.sub_eq_add_neg]
def v_appk (V : q_CV) (x : Int64) (k : Nat) : q_CV := w_pl (w_pc V (apf (v_pc V) x (v_pl V + k) k)) (v_pl V + k)
def v_apk (V : q_CV) (x : Int64) (k : Nat) : q_CV := if v_pl V + k ≤ 80 then v_appk V x k else V

set_option maxHeartbeats 2000000 in
set_option maxRecDepth 100000 in
theorem c_X1_append (l : Launch) (g : q_G) (a : Nat → Nat → Nat) (b : Nat → Nat) (V : q_CV) (hI : q_inj a b) (x : Int64) (k : Nat) (h1_ : v_pl V ≤ 80) (h2_ : k ≤ 8) : Met l yX1_append wsX1_append { frames := 0, cells := 0, slots := 0, locals := 0 } (va_Pc [.ref (b 1), .long x, .int (nI k)] (q_B g (q_pqW g a b V))) (q_QM g (q_adr a b) (q_pqW g a b (v_apk V x k)) (some (.int (bI (decide (v_pl V + k ≤ 80)))))) 0 0 (q_adr a b) := by
  refine q_mm (cc := cX1_append) (maxL := 8) (ret := (some .boolean)) (by decide) rfl (Nat.le_of_ble_eq_true rfl) ?_
  intro p e s m args below meth c ls hx hb hml hown hts hr hlk hnm hB hag hl
  obtain ⟨hP, hK, hN⟩ := hB
  have hS : va_S (q_adr a b) s.heap s.heap [] := va_S.rf
  have hP : va_P g.1 vwCl (q_pqW g a b V) s.heap := hP
  have hD : va_D (q_adr a b) (q_pqW g a b V) := q_D hI (fun _ h => h)
  have fl_11 := hts (.fieldLink RX1 11 "PubQuizzes$Pad" "codes" "[I") (by decide +kernel)
  have fl_17 := hts (.fieldLink RX1 17 "PubQuizzes$Pad" "length" "I") (by decide +kernel)
  have hi_X1 : ∀ w ∈ u_ws RX1 TX1 2, w ∈ wsX1_append := by decide +kernel
  have hl : lv_has ls 8 [(0, .ref (b 1)), (1, .long x), (3, .int (nI k))] := hl
  refine lv_aload_n hx hb dX1_append_0 rfl (lv_at hl 0 rfl) ?_
  refine va_get (D := g.1) (ci := 1) (v := .int (nI (v_pl V))) (C := RX1) (T := TX1) (N := 2) hx hb hts hi_X1 hown hK hP 1 rfl rfl 1 (by decide) fl_17 (fun _ h9 => h9) rfl dX1_append_1 ?_
  refine lv_iload_n hx hb dX1_append_4 rfl (lv_at hl 2 rfl) ?_
  refine lv_iadd hx hb dX1_append_5 ?_
  refine q_reI (show (((nI (v_pl V)) + (nI k)) : Int32) = nI (v_pl V + k) from nI_add _ _) ?_
  refine lv_istore (lv' := [(4, .int (nI (v_pl V + k))), (0, .ref (b 1)), (1, .long x), (3, .int (nI k))]) hx hb dX1_append_6 hl (by decide) rfl (fun ls hl => ?_)
  refine lv_iload hx hb dX1_append_8 (lv_at hl 0 rfl) ?_
  refine lv_bipush (v := 80) hx hb dX1_append_10 (by decide) ?_
  refine lv_icmp_le (tgt := 17) hx hb dX1_append_12 (by decide) (fun c_12 => ?_) (fun c_12 => ?_)
  · skip
    have c_12 : v_pl V + k ≤ 80 := (nI_leI (b := 80) (by omega) (by decide)).mp c_12
    refine lv_lload_n hx hb dX1_append_17 rfl (lv_at hl 2 rfl) ?_
    refine lv_lstore (lv' := [(5, .long x), (4, .int (nI (v_pl V + k))), (0, .ref (b 1)), (1, .long x), (3, .int (nI k))]) hx hb dX1_append_18 hl (by decide) rfl (fun ls hl => ?_)
    refine lv_iload hx hb dX1_append_20 (lv_at hl 1 rfl) ?_
    refine lv_iconst (v := 1) hx hb dX1_append_22 (by decide) ?_
    refine lv_isub hx hb dX1_append_23 ?_
    refine lv_istore (lv' := [(7, .int ((nI (v_pl V + k)) - 1)), (5, .long x), (4, .int (nI (v_pl V + k))), (0, .ref (b 1)), (1, .long x), (3, .int (nI k))]) hx hb dX1_append_24 hl (by decide) rfl (fun ls hl => ?_)
    have L_26 : ∀ (fu i26 : Nat) (y7_26 : Int32) (y5_26 : Int64) (H : Heap) (locs : List Loc), y7_26 = nI (v_pl V + k - i26) - 1 → y5_26 = sh8 x i26 → va_P g.1 vwCl (q_pqW g a b (w_pc V (apf (v_pc V) x (v_pl V + k) i26))) H → va_S (q_adr a b) s.heap H locs → i26 ≤ k → k < i26 + fu → ∀ ls : Array Slot, lv_has ls 8 [(7, .int y7_26), (5, .long y5_26), (4, .int (nI (v_pl V + k))), (0, .ref (b 1)), (1, .long x), (3, .int (nI k))] → W p l e { frames := 0, cells := 0, slots := 0, locals := 0 } s m args below meth c H locs 0 0 (MQ below (q_QM g (q_adr a b) (q_pqW g a b (v_apk V x k)) (some (.int (bI (decide (v_pl V + k ≤ 80)))))) args s 0 0 (q_adr a b)) (F0 m 26 ls []) := by
      intro fu
      induction fu with
      | zero => intro i26 y7_26 y5_26 H locs ey7_26 ey5_26 hP hS hi_i26 hn_i26; exact absurd hn_i26 (by omega)
      | succ fu ih_i26 =>
        intro i26 y7_26 y5_26 H locs ey7_26 ey5_26 hP hS hi_i26 hn_i26 ls hl
        subst ey7_26
        subst ey5_26
        have hD : va_D (q_adr a b) (q_pqW g a b (w_pc V (apf (v_pc V) x (v_pl V + k) i26))) := q_D hI (fun _ h => h)
        refine lv_iload hx hb dX1_append_26 (lv_at hl 0 rfl) ?_
        refine lv_aload_n hx hb dX1_append_28 rfl (lv_at hl 3 rfl) ?_
        refine va_get (D := g.1) (ci := 1) (v := .int (nI (v_pl V))) (C := RX1) (T := TX1) (N := 2) hx hb hts hi_X1 hown hK hP 1 rfl rfl 1 (by decide) fl_17 (fun _ h9 => h9) rfl dX1_append_29 ?_
        refine lv_icmp_lt (tgt := 67) hx hb dX1_append_32 (by decide) (fun c_32 => ?_) (fun c_32 => ?_)
        · skip
          have e_32 : i26 = k := ap_T (by omega) hi_i26 c_32
          rw [e_32] at hl hP
          have hP : va_P g.1 vwCl (q_pqW g a b (w_pc V (apf (v_pc V) x (v_pl V + k) (k)))) H := hP
          have hD : va_D (q_adr a b) (q_pqW g a b (w_pc V (apf (v_pc V) x (v_pl V + k) (k)))) := q_D hI (fun _ h => h)
          refine lv_aload_n hx hb dX1_append_67 rfl (lv_at hl 3 rfl) ?_
          refine lv_iload hx hb dX1_append_68 (lv_at hl 2 rfl) ?_
          refine va_put (D := g.1) (ci := 1) (v := .int (nI (v_pl V + k))) (ty := .int) (C := RX1) (T := TX1) (N := 2) hx hb hts hi_X1 tyX1 tyX1_ok nmX1 hown hK hP hD hS 1 rfl rfl 1 (by decide) fl_17 (fun _ h9 => h9) rfl (by decide +kernel) rfl rfl (Nat.le_of_ble_eq_true rfl) dX1_append_70 (fun H locs hP _ hS => ?_)
          have hP : va_P g.1 vwCl (q_pqW g a b (w_pl (w_pc V (apf (v_pc V) x (v_pl V + k) (k))) (v_pl V + k))) H := hP
          have hD : va_D (q_adr a b) (q_pqW g a b (w_pl (w_pc V (apf (v_pc V) x (v_pl V + k) (k))) (v_pl V + k))) := q_D hI (fun _ h => h)
          refine lv_iconst (v := 1) hx hb dX1_append_73 (by decide) ?_
          exact q_mzret hx hb hr hlk dX1_append_74 hP hS (by rw [decide_eq_true c_12]; rfl) (by rw [v_apk, if_pos c_12]; rfl)
        · skip
          have lt_i26 : i26 < k := ap_F (by omega) hi_i26 c_32
          refine lv_iload hx hb dX1_append_35 (lv_at hl 0 rfl) ?_
          refine lv_if_lt (tgt := 67) hx hb dX1_append_37 (by decide) (fun c_37 => ?_) (fun c_37 => ?_)
          · skip
            exact absurd c_37 (ap_N (by omega) (by omega))
          · skip
            refine lv_aload_n hx hb dX1_append_40 rfl (lv_at hl 3 rfl) ?_
            refine va_get (D := g.1) (ci := 1) (v := .ref (b 2)) (C := RX1) (T := TX1) (N := 2) hx hb hts hi_X1 hown hK hP 1 rfl rfl 0 (by decide) fl_11 (fun _ h9 => h9) rfl dX1_append_41 ?_
            refine lv_iload hx hb dX1_append_44 (lv_at hl 0 rfl) ?_
            refine q_reI (show (nI (v_pl V + k - i26) - 1 : Int32) = nI (v_pl V + k - i26 - 1) from pk_sub (b := 1) (by omega)) ?_
            refine lv_lload hx hb dX1_append_46 (lv_at hl 1 rfl) ?_
            refine lv_ldc2 (v := 255) hx hb hown (hts (.constantLong RX1 15 (255)) (by decide +kernel)) dX1_append_48 ?_
            refine lv_land hx hb dX1_append_51 ?_
            refine lv_l2i (v := ((sh8 x i26) &&& 255).toInt32) hx hb dX1_append_52 rfl ?_
            refine q_iast (j := (v_pl V + k - i26 - 1)) hx hb hK hP hD hS 2 0 rfl rfl (by omega) (by decide) dX1_append_53 (fun H locs hP hS => ?_)
            have hP : va_P g.1 vwCl (q_pqW g a b (w_pc (w_pc V (apf (v_pc V) x (v_pl V + k) i26)) (upd (apf (v_pc V) x (v_pl V + k) i26) (v_pl V + k - i26 - 1) (((sh8 x i26) &&& 255).toInt32)))) H := hP
            have hD : va_D (q_adr a b) (q_pqW g a b (w_pc (w_pc V (apf (v_pc V) x (v_pl V + k) i26)) (upd (apf (v_pc V) x (v_pl V + k) i26) (v_pl V + k - i26 - 1) (((sh8 x i26) &&& 255).toInt32)))) := q_D hI (fun _ h => h)
            refine lv_lload hx hb dX1_append_54 (lv_at hl 1 rfl) ?_
            refine lv_bipush (v := 8) hx hb dX1_append_56 (by decide) ?_
            refine lv_lushr (v := ((sh8 x i26).toUInt64 >>> ((8 : Int32).toInt64.toUInt64 &&& Int64.toUInt64 63)).toInt64) hx hb dX1_append_58 rfl ?_
            refine lv_lstore (lv' := [(5, .long (((sh8 x i26).toUInt64 >>> ((8 : Int32).toInt64.toUInt64 &&& Int64.toUInt64 63)).toInt64)), (7, .int (nI (v_pl V + k - i26) - 1)), (4, .int (nI (v_pl V + k))), (0, .ref (b 1)), (1, .long x), (3, .int (nI k))]) hx hb dX1_append_59 hl (by decide) rfl (fun ls hl => ?_)
            refine lv_iinc (v := nI (v_pl V + k - i26) - 1 + (-1)) (lv' := [(7, .int (nI (v_pl V + k - i26) - 1 + (-1))), (5, .long (((sh8 x i26).toUInt64 >>> ((8 : Int32).toInt64.toUInt64 &&& Int64.toUInt64 63)).toInt64)), (4, .int (nI (v_pl V + k))), (0, .ref (b 1)), (1, .long x), (3, .int (nI k))]) hx hb dX1_append_61 hl (k := 1) rfl (rfl) (by decide) rfl (fun ls hl => ?_)
            refine lv_goto (tgt := 26) hx hb dX1_append_64 (by decide) ?_
            exact ih_i26 (i26 + 1) (nI (v_pl V + k - i26) - 1 + (-1)) (((sh8 x i26).toUInt64 >>> ((8 : Int32).toInt64.toUInt64 &&& Int64.toUInt64 63)).toInt64) _ _ (ap_S lt_i26) (rfl) (by rw [← apf_s _ _ _ _ (by omega)]; exact hP) hS lt_i26 (by omega) ls (lv_sub hl [0, 1, 2, 3, 4, 5] rfl)
    exact L_26 (k + 1) 0 ((nI (v_pl V + k)) - 1) x _ _ (rfl) (rfl) (by rw [apf_0]; exact hP) hS (Nat.zero_le _) (by omega) ls (lv_sub hl [0, 1, 2, 3, 4, 5] rfl)
  · skip
    have c_12 : ¬ v_pl V + k ≤ 80 := fun q => c_12 (nI_le (b := 80) q (by decide))
    refine lv_iconst (v := 0) hx hb dX1_append_15 (by decide) ?_
    exact q_mzret hx hb hr hlk dX1_append_16 hP hS (by rw [decide_eq_false c_12]; rfl) (by rw [v_apk, if_neg c_12])
end
