-- ===== PART A: goes FIRST, ahead of the names: the tables' words, and 'selects' of the private methods out of them =====
/-- a private method of a class that the tables say can be made, by its rows of tables_1 -/
def lw_okq (q : MethodName × Nat) : Prop := (q.1.cls ≠ "java/lang/invoke/MethodHandle" ∧ q.1.cls ≠ "java/lang/invoke/VarHandle") ∧ Cond.instantiable q.1.cls q.2 ∈ tables_1 ∧ Cond.privateMethod q.1 ∈ tables_1 ∧ Cond.instanceMethod q.1 ∈ tables_1
theorem lw_p0 : lw_okq (⟨"TrueLitres", "isMeter", "(I)Z"⟩, 9) := ⟨⟨by decide +kernel, by decide +kernel⟩, List.mem_of_getElem? (i := 11) (by decide +kernel), List.mem_of_getElem? (i := 151) (by decide +kernel), List.mem_of_getElem? (i := 152) (by decide +kernel)⟩
theorem lw_p1 : lw_okq (⟨"TrueLitres", "isShut", "(I)Z"⟩, 9) := ⟨⟨by decide +kernel, by decide +kernel⟩, List.mem_of_getElem? (i := 11) (by decide +kernel), List.mem_of_getElem? (i := 261) (by decide +kernel), List.mem_of_getElem? (i := 262) (by decide +kernel)⟩
theorem lw_p2 : lw_okq (⟨"TrueLitres", "keep", "(LTrueLitres$Ticket;)V"⟩, 9) := ⟨⟨by decide +kernel, by decide +kernel⟩, List.mem_of_getElem? (i := 11) (by decide +kernel), List.mem_of_getElem? (i := 303) (by decide +kernel), List.mem_of_getElem? (i := 304) (by decide +kernel)⟩
theorem lw_p3 : lw_okq (⟨"TrueLitres", "isTicket", "(I)Z"⟩, 9) := ⟨⟨by decide +kernel, by decide +kernel⟩, List.mem_of_getElem? (i := 11) (by decide +kernel), List.mem_of_getElem? (i := 311) (by decide +kernel), List.mem_of_getElem? (i := 312) (by decide +kernel)⟩
theorem lw_p4 : lw_okq (⟨"TrueLitres", "replace", "(III)V"⟩, 9) := ⟨⟨by decide +kernel, by decide +kernel⟩, List.mem_of_getElem? (i := 11) (by decide +kernel), List.mem_of_getElem? (i := 319) (by decide +kernel), List.mem_of_getElem? (i := 320) (by decide +kernel)⟩
theorem lw_p5 : lw_okq (⟨"TrueLitres", "factorNow", "(LTrueLitres$Ticket;)I"⟩, 9) := ⟨⟨by decide +kernel, by decide +kernel⟩, List.mem_of_getElem? (i := 11) (by decide +kernel), List.mem_of_getElem? (i := 323) (by decide +kernel), List.mem_of_getElem? (i := 324) (by decide +kernel)⟩
theorem lw_p6 : lw_okq (⟨"TrueLitres", "isToRemake", "(LTrueLitres$Ticket;III)Z"⟩, 9) := ⟨⟨by decide +kernel, by decide +kernel⟩, List.mem_of_getElem? (i := 11) (by decide +kernel), List.mem_of_getElem? (i := 334) (by decide +kernel), List.mem_of_getElem? (i := 335) (by decide +kernel)⟩
theorem lw_p7 : lw_okq (⟨"TrueLitres", "volumeOf", "(LTrueLitres$Ticket;)J"⟩, 9) := ⟨⟨by decide +kernel, by decide +kernel⟩, List.mem_of_getElem? (i := 11) (by decide +kernel), List.mem_of_getElem? (i := 352) (by decide +kernel), List.mem_of_getElem? (i := 353) (by decide +kernel)⟩
theorem lw_p8 : lw_okq (⟨"TrueLitres", "sumOf", "(III)J"⟩, 9) := ⟨⟨by decide +kernel, by decide +kernel⟩, List.mem_of_getElem? (i := 11) (by decide +kernel), List.mem_of_getElem? (i := 362) (by decide +kernel), List.mem_of_getElem? (i := 363) (by decide +kernel)⟩
theorem lw_p9 : lw_okq (⟨"TrueLitres", "imbalanceOf", "(III)J"⟩, 9) := ⟨⟨by decide +kernel, by decide +kernel⟩, List.mem_of_getElem? (i := 11) (by decide +kernel), List.mem_of_getElem? (i := 389) (by decide +kernel), List.mem_of_getElem? (i := 390) (by decide +kernel)⟩
theorem lw_p10 : lw_okq (⟨"TrueLitres", "endsOf", "(III)J"⟩, 9) := ⟨⟨by decide +kernel, by decide +kernel⟩, List.mem_of_getElem? (i := 11) (by decide +kernel), List.mem_of_getElem? (i := 393) (by decide +kernel), List.mem_of_getElem? (i := 394) (by decide +kernel)⟩
theorem lw_p11 : lw_okq (⟨"TrueLitres", "linesBeyond", "(II)I"⟩, 9) := ⟨⟨by decide +kernel, by decide +kernel⟩, List.mem_of_getElem? (i := 11) (by decide +kernel), List.mem_of_getElem? (i := 402) (by decide +kernel), List.mem_of_getElem? (i := 403) (by decide +kernel)⟩
theorem lw_p12 : lw_okq (⟨"TrueLitres", "fail", "(I)I"⟩, 9) := ⟨⟨by decide +kernel, by decide +kernel⟩, List.mem_of_getElem? (i := 11) (by decide +kernel), List.mem_of_getElem? (i := 427) (by decide +kernel), List.mem_of_getElem? (i := 428) (by decide +kernel)⟩
theorem lw_p13 : lw_okq (⟨"TrueLitres", "leave", "(I)V"⟩, 9) := ⟨⟨by decide +kernel, by decide +kernel⟩, List.mem_of_getElem? (i := 11) (by decide +kernel), List.mem_of_getElem? (i := 486) (by decide +kernel), List.mem_of_getElem? (i := 487) (by decide +kernel)⟩
theorem lw_p14 : lw_okq (⟨"TrueLitres", "tellTicket", "(LTrueLitres$Ticket;)I"⟩, 9) := ⟨⟨by decide +kernel, by decide +kernel⟩, List.mem_of_getElem? (i := 11) (by decide +kernel), List.mem_of_getElem? (i := 490) (by decide +kernel), List.mem_of_getElem? (i := 491) (by decide +kernel)⟩
theorem lw_p15 : lw_okq (⟨"TrueLitres", "countNotReplaced", "()I"⟩, 9) := ⟨⟨by decide +kernel, by decide +kernel⟩, List.mem_of_getElem? (i := 11) (by decide +kernel), List.mem_of_getElem? (i := 515) (by decide +kernel), List.mem_of_getElem? (i := 516) (by decide +kernel)⟩
def lw_privs_1 : List (MethodName × Nat) := [(⟨"TrueLitres", "isMeter", "(I)Z"⟩, 9), (⟨"TrueLitres", "isShut", "(I)Z"⟩, 9), (⟨"TrueLitres", "keep", "(LTrueLitres$Ticket;)V"⟩, 9), (⟨"TrueLitres", "isTicket", "(I)Z"⟩, 9), (⟨"TrueLitres", "replace", "(III)V"⟩, 9), (⟨"TrueLitres", "factorNow", "(LTrueLitres$Ticket;)I"⟩, 9), (⟨"TrueLitres", "isToRemake", "(LTrueLitres$Ticket;III)Z"⟩, 9), (⟨"TrueLitres", "volumeOf", "(LTrueLitres$Ticket;)J"⟩, 9), (⟨"TrueLitres", "sumOf", "(III)J"⟩, 9), (⟨"TrueLitres", "imbalanceOf", "(III)J"⟩, 9), (⟨"TrueLitres", "endsOf", "(III)J"⟩, 9), (⟨"TrueLitres", "linesBeyond", "(II)I"⟩, 9), (⟨"TrueLitres", "fail", "(I)I"⟩, 9), (⟨"TrueLitres", "leave", "(I)V"⟩, 9), (⟨"TrueLitres", "tellTicket", "(LTrueLitres$Ticket;)I"⟩, 9), (⟨"TrueLitres", "countNotReplaced", "()I"⟩, 9)]
theorem lw_r1 : ∀ q ∈ lw_privs_1, lw_okq q := List.forall_mem_cons.mpr ⟨lw_p0, List.forall_mem_cons.mpr ⟨lw_p1, List.forall_mem_cons.mpr ⟨lw_p2, List.forall_mem_cons.mpr ⟨lw_p3, List.forall_mem_cons.mpr ⟨lw_p4, List.forall_mem_cons.mpr ⟨lw_p5, List.forall_mem_cons.mpr ⟨lw_p6, List.forall_mem_cons.mpr ⟨lw_p7, List.forall_mem_cons.mpr ⟨lw_p8, List.forall_mem_cons.mpr ⟨lw_p9, List.forall_mem_cons.mpr ⟨lw_p10, List.forall_mem_cons.mpr ⟨lw_p11, List.forall_mem_cons.mpr ⟨lw_p12, List.forall_mem_cons.mpr ⟨lw_p13, List.forall_mem_cons.mpr ⟨lw_p14, List.forall_mem_cons.mpr ⟨lw_p15, fun _ h => absurd h List.not_mem_nil⟩⟩⟩⟩⟩⟩⟩⟩⟩⟩⟩⟩⟩⟩⟩⟩
theorem lw_p16 : lw_okq (⟨"TrueLitresModel", "noMeter", "(I)Z"⟩, 33) := ⟨⟨by decide +kernel, by decide +kernel⟩, List.mem_of_getElem? (i := 519) (by decide +kernel), List.mem_of_getElem? (i := 637) (by decide +kernel), List.mem_of_getElem? (i := 638) (by decide +kernel)⟩
theorem lw_p17 : lw_okq (⟨"TrueLitresModel", "addFactor", "(IIII)V"⟩, 33) := ⟨⟨by decide +kernel, by decide +kernel⟩, List.mem_of_getElem? (i := 519) (by decide +kernel), List.mem_of_getElem? (i := 654) (by decide +kernel), List.mem_of_getElem? (i := 655) (by decide +kernel)⟩
theorem lw_p18 : lw_okq (⟨"TrueLitresModel", "factorAt", "(III)I"⟩, 33) := ⟨⟨by decide +kernel, by decide +kernel⟩, List.mem_of_getElem? (i := 519) (by decide +kernel), List.mem_of_getElem? (i := 662) (by decide +kernel), List.mem_of_getElem? (i := 663) (by decide +kernel)⟩
theorem lw_p19 : lw_okq (⟨"TrueLitresModel", "findCurve", "(II)V"⟩, 33) := ⟨⟨by decide +kernel, by decide +kernel⟩, List.mem_of_getElem? (i := 519) (by decide +kernel), List.mem_of_getElem? (i := 666) (by decide +kernel), List.mem_of_getElem? (i := 667) (by decide +kernel)⟩
theorem lw_p20 : lw_okq (⟨"TrueLitresModel", "addPoint", "(I)V"⟩, 33) := ⟨⟨by decide +kernel, by decide +kernel⟩, List.mem_of_getElem? (i := 519) (by decide +kernel), List.mem_of_getElem? (i := 670) (by decide +kernel), List.mem_of_getElem? (i := 671) (by decide +kernel)⟩
theorem lw_p21 : lw_okq (⟨"TrueLitresModel", "isGood", "()Z"⟩, 33) := ⟨⟨by decide +kernel, by decide +kernel⟩, List.mem_of_getElem? (i := 519) (by decide +kernel), List.mem_of_getElem? (i := 702) (by decide +kernel), List.mem_of_getElem? (i := 703) (by decide +kernel)⟩
theorem lw_p22 : lw_okq (⟨"TrueLitresModel", "isShut", "(I)Z"⟩, 33) := ⟨⟨by decide +kernel, by decide +kernel⟩, List.mem_of_getElem? (i := 519) (by decide +kernel), List.mem_of_getElem? (i := 721) (by decide +kernel), List.mem_of_getElem? (i := 722) (by decide +kernel)⟩
theorem lw_p23 : lw_okq (⟨"TrueLitresModel", "add", "(IIIIII)I"⟩, 33) := ⟨⟨by decide +kernel, by decide +kernel⟩, List.mem_of_getElem? (i := 519) (by decide +kernel), List.mem_of_getElem? (i := 725) (by decide +kernel), List.mem_of_getElem? (i := 726) (by decide +kernel)⟩
theorem lw_p24 : lw_okq (⟨"TrueLitresModel", "noTicket", "(I)Z"⟩, 33) := ⟨⟨by decide +kernel, by decide +kernel⟩, List.mem_of_getElem? (i := 519) (by decide +kernel), List.mem_of_getElem? (i := 733) (by decide +kernel), List.mem_of_getElem? (i := 734) (by decide +kernel)⟩
theorem lw_p25 : lw_okq (⟨"TrueLitresModel", "isStale", "(IIII)Z"⟩, 33) := ⟨⟨by decide +kernel, by decide +kernel⟩, List.mem_of_getElem? (i := 519) (by decide +kernel), List.mem_of_getElem? (i := 744) (by decide +kernel), List.mem_of_getElem? (i := 745) (by decide +kernel)⟩
theorem lw_p26 : lw_okq (⟨"TrueLitresModel", "volumeOf", "(I)J"⟩, 33) := ⟨⟨by decide +kernel, by decide +kernel⟩, List.mem_of_getElem? (i := 519) (by decide +kernel), List.mem_of_getElem? (i := 756) (by decide +kernel), List.mem_of_getElem? (i := 757) (by decide +kernel)⟩
theorem lw_p27 : lw_okq (⟨"TrueLitresModel", "sumOf", "(III)J"⟩, 33) := ⟨⟨by decide +kernel, by decide +kernel⟩, List.mem_of_getElem? (i := 519) (by decide +kernel), List.mem_of_getElem? (i := 765) (by decide +kernel), List.mem_of_getElem? (i := 766) (by decide +kernel)⟩
theorem lw_p28 : lw_okq (⟨"TrueLitresModel", "imbalance", "(III)J"⟩, 33) := ⟨⟨by decide +kernel, by decide +kernel⟩, List.mem_of_getElem? (i := 519) (by decide +kernel), List.mem_of_getElem? (i := 794) (by decide +kernel), List.mem_of_getElem? (i := 795) (by decide +kernel)⟩
theorem lw_p29 : lw_okq (⟨"TrueLitresModel", "endsOf", "(III)J"⟩, 33) := ⟨⟨by decide +kernel, by decide +kernel⟩, List.mem_of_getElem? (i := 519) (by decide +kernel), List.mem_of_getElem? (i := 798) (by decide +kernel), List.mem_of_getElem? (i := 799) (by decide +kernel)⟩
theorem lw_p30 : lw_okq (⟨"TrueLitresModel", "beyondOf", "(II)I"⟩, 33) := ⟨⟨by decide +kernel, by decide +kernel⟩, List.mem_of_getElem? (i := 519) (by decide +kernel), List.mem_of_getElem? (i := 806) (by decide +kernel), List.mem_of_getElem? (i := 807) (by decide +kernel)⟩
theorem lw_p31 : lw_okq (⟨"TrueLitresModel", "refused", "(I)I"⟩, 33) := ⟨⟨by decide +kernel, by decide +kernel⟩, List.mem_of_getElem? (i := 519) (by decide +kernel), List.mem_of_getElem? (i := 823) (by decide +kernel), List.mem_of_getElem? (i := 824) (by decide +kernel)⟩
def lw_privs_2 : List (MethodName × Nat) := [(⟨"TrueLitresModel", "noMeter", "(I)Z"⟩, 33), (⟨"TrueLitresModel", "addFactor", "(IIII)V"⟩, 33), (⟨"TrueLitresModel", "factorAt", "(III)I"⟩, 33), (⟨"TrueLitresModel", "findCurve", "(II)V"⟩, 33), (⟨"TrueLitresModel", "addPoint", "(I)V"⟩, 33), (⟨"TrueLitresModel", "isGood", "()Z"⟩, 33), (⟨"TrueLitresModel", "isShut", "(I)Z"⟩, 33), (⟨"TrueLitresModel", "add", "(IIIIII)I"⟩, 33), (⟨"TrueLitresModel", "noTicket", "(I)Z"⟩, 33), (⟨"TrueLitresModel", "isStale", "(IIII)Z"⟩, 33), (⟨"TrueLitresModel", "volumeOf", "(I)J"⟩, 33), (⟨"TrueLitresModel", "sumOf", "(III)J"⟩, 33), (⟨"TrueLitresModel", "imbalance", "(III)J"⟩, 33), (⟨"TrueLitresModel", "endsOf", "(III)J"⟩, 33), (⟨"TrueLitresModel", "beyondOf", "(II)I"⟩, 33), (⟨"TrueLitresModel", "refused", "(I)I"⟩, 33)]
theorem lw_r2 : ∀ q ∈ lw_privs_2, lw_okq q := List.forall_mem_cons.mpr ⟨lw_p16, List.forall_mem_cons.mpr ⟨lw_p17, List.forall_mem_cons.mpr ⟨lw_p18, List.forall_mem_cons.mpr ⟨lw_p19, List.forall_mem_cons.mpr ⟨lw_p20, List.forall_mem_cons.mpr ⟨lw_p21, List.forall_mem_cons.mpr ⟨lw_p22, List.forall_mem_cons.mpr ⟨lw_p23, List.forall_mem_cons.mpr ⟨lw_p24, List.forall_mem_cons.mpr ⟨lw_p25, List.forall_mem_cons.mpr ⟨lw_p26, List.forall_mem_cons.mpr ⟨lw_p27, List.forall_mem_cons.mpr ⟨lw_p28, List.forall_mem_cons.mpr ⟨lw_p29, List.forall_mem_cons.mpr ⟨lw_p30, List.forall_mem_cons.mpr ⟨lw_p31, fun _ h => absurd h List.not_mem_nil⟩⟩⟩⟩⟩⟩⟩⟩⟩⟩⟩⟩⟩⟩⟩⟩
theorem lw_p32 : lw_okq (⟨"TrueLitresModel", "failed", "(I)I"⟩, 33) := ⟨⟨by decide +kernel, by decide +kernel⟩, List.mem_of_getElem? (i := 519) (by decide +kernel), List.mem_of_getElem? (i := 827) (by decide +kernel), List.mem_of_getElem? (i := 828) (by decide +kernel)⟩
theorem lw_p33 : lw_okq (⟨"TrueLitresModel", "noCell", "(II)I"⟩, 33) := ⟨⟨by decide +kernel, by decide +kernel⟩, List.mem_of_getElem? (i := 519) (by decide +kernel), List.mem_of_getElem? (i := 839) (by decide +kernel), List.mem_of_getElem? (i := 840) (by decide +kernel)⟩
theorem lw_p34 : lw_okq (⟨"TrueLitresModel", "failedLong", "(I)J"⟩, 33) := ⟨⟨by decide +kernel, by decide +kernel⟩, List.mem_of_getElem? (i := 519) (by decide +kernel), List.mem_of_getElem? (i := 847) (by decide +kernel), List.mem_of_getElem? (i := 848) (by decide +kernel)⟩
theorem lw_p35 : lw_okq (⟨"TrueLitresModel", "traced", "(I)V"⟩, 33) := ⟨⟨by decide +kernel, by decide +kernel⟩, List.mem_of_getElem? (i := 519) (by decide +kernel), List.mem_of_getElem? (i := 866) (by decide +kernel), List.mem_of_getElem? (i := 867) (by decide +kernel)⟩
def lw_privs_3 : List (MethodName × Nat) := [(⟨"TrueLitresModel", "failed", "(I)I"⟩, 33), (⟨"TrueLitresModel", "noCell", "(II)I"⟩, 33), (⟨"TrueLitresModel", "failedLong", "(I)J"⟩, 33), (⟨"TrueLitresModel", "traced", "(I)V"⟩, 33)]
theorem lw_r3 : ∀ q ∈ lw_privs_3, lw_okq q := List.forall_mem_cons.mpr ⟨lw_p32, List.forall_mem_cons.mpr ⟨lw_p33, List.forall_mem_cons.mpr ⟨lw_p34, List.forall_mem_cons.mpr ⟨lw_p35, fun _ h => absurd h List.not_mem_nil⟩⟩⟩⟩
def lw_privs : List (MethodName × Nat) := lw_privs_1 ++ (lw_privs_2 ++ (lw_privs_3))
def lw_tbl : List Cond := k2_sels lw_privs ++ tables_1
theorem lw_privs_ok : ∀ q ∈ lw_privs, lw_okq q := by
  show ∀ q ∈ lw_privs_1 ++ (lw_privs_2 ++ (lw_privs_3)), lw_okq q
  exact List.forall_mem_append.mpr ⟨lw_r1, List.forall_mem_append.mpr ⟨lw_r2, lw_r3⟩⟩
theorem goodIn_r {big : List Cond} (ws : List Cond) (ps : List Nat) (hp : ws = ps.filterMap (fun i => big[i]?)) (h : ws.all goodWord = true) : GoodIn big ws := by
  intro w hw
  have h1 := List.all_eq_true.mp h w hw
  rw [hp] at hw
  obtain ⟨i, -, hi⟩ := List.mem_filterMap.mp hw
  have hm : w ∈ big := by first | exact List.mem_of_getElem? hi | exact List.getElem?_mem hi
  exact ⟨hm, good_of_word h1⟩
theorem goodIn_app {big a b : List Cond} (ha : GoodIn big a) (hb : GoodIn big b) : GoodIn big (a ++ b) := fun w h => (List.mem_append.mp h).elim (ha w) (hb w)
theorem goodIn_ca {big a b : List Cond} {c : Cond} (ha : GoodIn big (c :: a)) (hb : GoodIn big b) : GoodIn big (c :: (a ++ b)) := fun w h => (List.mem_cons.mp h).elim (fun e => ha w (List.mem_cons.mpr (Or.inl e))) (fun h => (List.mem_append.mp h).elim (fun h => ha w (List.mem_cons.mpr (Or.inr h))) (hb w))
theorem goodIn_sub {big ws : List Cond} (hm : ∀ w ∈ ws, w ∈ big) (h : ws.all goodWord = true) : GoodIn big ws := fun w hw => ⟨hm w hw, good_of_word (List.all_eq_true.mp h w hw)⟩
def RX0 : String := "TrueLitres$Meter"
def TX0 : u_T := fun k => match k with
  | 0 => ("TrueLitres$Meter", "k", "I", true)
  | 1 => ("TrueLitres$Meter", "end", "I", false)
  | 2 => ("TrueLitres$Meter", "hows", "[I", true)
  | 3 => ("TrueLitres$Meter", "flows", "[I", true)
  | 4 => ("TrueLitres$Meter", "days", "[I", true)
  | 5 => ("TrueLitres$Meter", "numbers", "[I", true)
  | _ => ("TrueLitres$Meter", "factorCount", "I", false)
def tyX0 : Nat → FieldType := fun k => match k with
  | 0 => .int
  | 1 => .int
  | 2 => .array .int
  | 3 => .array .int
  | 4 => .array .int
  | 5 => .array .int
  | _ => .int
abbrev wsX00 : List Cond := u_ws RX0 TX0 7
theorem nmX0 : ∀ a, a < 7 → ∀ b, b < 7 → a ≠ b → (TX0 a).2.1 ≠ (TX0 b).2.1 := by decide +kernel
theorem tyX0_ok : ∀ k, k < 7 → parseFieldDescriptor (TX0 k).2.2.1 = some (tyX0 k) := by decide +kernel
abbrev cX0_init : ByteArray := prog_2_method_1_code
def yX0_init : MethodName := ⟨RX0, "<init>", "(I)V"⟩
abbrev cX0_isFull : ByteArray := prog_2_method_2_code
def yX0_isFull : MethodName := ⟨RX0, "isFull", "()Z"⟩
abbrev cX0_takeFactor : ByteArray := prog_2_method_3_code
def yX0_takeFactor : MethodName := ⟨RX0, "takeFactor", "(III)V"⟩
abbrev cX0_standsBehind : ByteArray := prog_2_method_4_code
def yX0_standsBehind : MethodName := ⟨RX0, "standsBehind", "(III)Z"⟩
abbrev cX0_isOnCurve : ByteArray := prog_2_method_5_code
def yX0_isOnCurve : MethodName := ⟨RX0, "isOnCurve", "(II)Z"⟩
abbrev cX0_curveSize : ByteArray := prog_2_method_6_code
def yX0_curveSize : MethodName := ⟨RX0, "curveSize", "(I)I"⟩
abbrev cX0_curvePlace : ByteArray := prog_2_method_7_code
def yX0_curvePlace : MethodName := ⟨RX0, "curvePlace", "(II)I"⟩
abbrev cX0_factorAt : ByteArray := prog_2_method_8_code
def yX0_factorAt : MethodName := ⟨RX0, "factorAt", "(II)I"⟩
abbrev cX0_between : ByteArray := prog_2_method_9_code
def yX0_between : MethodName := ⟨RX0, "between", "(III)I"⟩
def RX1 : String := "TrueLitres$Proof"
def TX1 : u_T := fun k => match k with
  | 0 => ("TrueLitres$Proof", "isBegun", "Z", false)
  | 1 => ("TrueLitres$Proof", "meter", "I", false)
  | 2 => ("TrueLitres$Proof", "flow", "I", false)
  | 3 => ("TrueLitres$Proof", "vessel", "I", false)
  | 4 => ("TrueLitres$Proof", "counts", "[J", true)
  | _ => ("TrueLitres$Proof", "runCount", "I", false)
def tyX1 : Nat → FieldType := fun k => match k with
  | 0 => .boolean
  | 1 => .int
  | 2 => .int
  | 3 => .int
  | 4 => .array .long
  | _ => .int
abbrev wsX10 : List Cond := u_ws RX1 TX1 6
theorem nmX1 : ∀ a, a < 6 → ∀ b, b < 6 → a ≠ b → (TX1 a).2.1 ≠ (TX1 b).2.1 := by decide +kernel
theorem tyX1_ok : ∀ k, k < 6 → parseFieldDescriptor (TX1 k).2.2.1 = some (tyX1 k) := by decide +kernel
abbrev cX1_init : ByteArray := prog_3_method_1_code
def yX1_init : MethodName := ⟨RX1, "<init>", "()V"⟩
abbrev cX1_begin : ByteArray := prog_3_method_2_code
def yX1_begin : MethodName := ⟨RX1, "begin", "(III)V"⟩
abbrev cX1_isGood : ByteArray := prog_3_method_3_code
def yX1_isGood : MethodName := ⟨RX1, "isGood", "()Z"⟩
abbrev cX1_factorOf : ByteArray := prog_3_method_4_code
def yX1_factorOf : MethodName := ⟨RX1, "factorOf", "(I)J"⟩
def RX2 : String := "TrueLitres$Sheet"
def TX2 : u_T := fun k => match k with
  | 0 => ("TrueLitres$Sheet", "cells", "[I", true)
  | 1 => ("TrueLitres$Sheet", "hasRow", "Z", false)
  | 2 => ("TrueLitres$Sheet", "lane", "I", false)
  | _ => ("TrueLitres$Sheet", "length", "I", false)
def tyX2 : Nat → FieldType := fun k => match k with
  | 0 => .array .int
  | 1 => .boolean
  | 2 => .int
  | _ => .int
abbrev wsX20 : List Cond := u_ws RX2 TX2 4
theorem nmX2 : ∀ a, a < 4 → ∀ b, b < 4 → a ≠ b → (TX2 a).2.1 ≠ (TX2 b).2.1 := by decide +kernel
theorem tyX2_ok : ∀ k, k < 4 → parseFieldDescriptor (TX2 k).2.2.1 = some (tyX2 k) := by decide +kernel
abbrev cX2_init : ByteArray := prog_4_method_1_code
def yX2_init : MethodName := ⟨RX2, "<init>", "()V"⟩
abbrev cX2_renew : ByteArray := prog_4_method_2_code
def yX2_renew : MethodName := ⟨RX2, "renew", "(II)V"⟩
abbrev cX2_hasCell : ByteArray := prog_4_method_3_code
def yX2_hasCell : MethodName := ⟨RX2, "hasCell", "(I)Z"⟩
abbrev cX2_hasCells : ByteArray := prog_4_method_4_code
def yX2_hasCells : MethodName := ⟨RX2, "hasCells", "(II)Z"⟩
abbrev cX2_fillIn : ByteArray := prog_4_method_5_code
def yX2_fillIn : MethodName := ⟨RX2, "fillIn", "(II)V"⟩
abbrev cX2_faultAs : ByteArray := prog_4_method_6_code
def yX2_faultAs : MethodName := ⟨RX2, "faultAs", "(I)I"⟩
abbrev cX2_watched : ByteArray := prog_4_method_7_code
def yX2_watched : MethodName := ⟨RX2, "watched", "(III)I"⟩
def RX3 : String := "TrueLitres$Ticket"
def TX3 : u_T := fun k => match k with
  | 0 => ("TrueLitres$Ticket", "meter", "I", true)
  | 1 => ("TrueLitres$Ticket", "day", "I", true)
  | 2 => ("TrueLitres$Ticket", "pulses", "I", true)
  | 3 => ("TrueLitres$Ticket", "flow", "I", true)
  | 4 => ("TrueLitres$Ticket", "factor", "I", true)
  | 5 => ("TrueLitres$Ticket", "kind", "I", false)
  | 6 => ("TrueLitres$Ticket", "replacedBy", "I", false)
  | _ => ("TrueLitres$Ticket", "inPlaceOf", "I", false)
def tyX3 : Nat → FieldType := fun k => match k with
  | 0 => .int
  | 1 => .int
  | 2 => .int
  | 3 => .int
  | 4 => .int
  | 5 => .int
  | 6 => .int
  | _ => .int
abbrev wsX30 : List Cond := u_ws RX3 TX3 8
theorem nmX3 : ∀ a, a < 8 → ∀ b, b < 8 → a ≠ b → (TX3 a).2.1 ≠ (TX3 b).2.1 := by decide +kernel
theorem tyX3_ok : ∀ k, k < 8 → parseFieldDescriptor (TX3 k).2.2.1 = some (tyX3 k) := by decide +kernel
abbrev cX3_init : ByteArray := prog_5_method_1_code
def yX3_init : MethodName := ⟨RX3, "<init>", "(IIIII)V"⟩
abbrev cX3_isReplaced : ByteArray := prog_5_method_2_code
def yX3_isReplaced : MethodName := ⟨RX3, "isReplaced", "()Z"⟩
abbrev cX3_counts : ByteArray := prog_5_method_3_code
def yX3_counts : MethodName := ⟨RX3, "counts", "(III)Z"⟩
def RX4 : String := "TrueLitres"
def TX4 : u_T := fun k => match k with
  | 0 => ("TrueLitres", "meters", "[LTrueLitres$Meter;", true)
  | 1 => ("TrueLitres", "meterCount", "I", false)
  | 2 => ("TrueLitres", "latestProof", "LTrueLitres$Proof;", true)
  | 3 => ("TrueLitres", "tickets", "[LTrueLitres$Ticket;", true)
  | 4 => ("TrueLitres", "ticketCount", "I", false)
  | 5 => ("TrueLitres", "shutUpTo", "I", false)
  | 6 => ("TrueLitres", "sheets", "[LTrueLitres$Sheet;", true)
  | 7 => ("TrueLitres", "traced", "I", false)
  | _ => ("TrueLitres", "latestFault", "I", false)
def tyX4 : Nat → FieldType := fun k => match k with
  | 0 => .array (.object "TrueLitres$Meter")
  | 1 => .int
  | 2 => .object "TrueLitres$Proof"
  | 3 => .array (.object "TrueLitres$Ticket")
  | 4 => .int
  | 5 => .int
  | 6 => .array (.object "TrueLitres$Sheet")
  | 7 => .int
  | _ => .int
abbrev wsX40 : List Cond := u_ws RX4 TX4 9
theorem nmX4 : ∀ a, a < 9 → ∀ b, b < 9 → a ≠ b → (TX4 a).2.1 ≠ (TX4 b).2.1 := by decide +kernel
theorem tyX4_ok : ∀ k, k < 9 → parseFieldDescriptor (TX4 k).2.2.1 = some (tyX4 k) := by decide +kernel
abbrev cX4_init : ByteArray := prog_1_method_1_code
def yX4_init : MethodName := ⟨RX4, "<init>", "()V"⟩
abbrev cX4_meter : ByteArray := prog_1_method_2_code
def yX4_meter : MethodName := ⟨RX4, "meter", "(I)I"⟩
abbrev cX4_factor : ByteArray := prog_1_method_3_code
def yX4_factor : MethodName := ⟨RX4, "factor", "(IIII)I"⟩
abbrev cX4_at : ByteArray := prog_1_method_4_code
def yX4_at : MethodName := ⟨RX4, "at", "(III)I"⟩
abbrev cX4_points : ByteArray := prog_1_method_5_code
def yX4_points : MethodName := ⟨RX4, "points", "(II)I"⟩
abbrev cX4_point : ByteArray := prog_1_method_6_code
def yX4_point : MethodName := ⟨RX4, "point", "(IIII)I"⟩
abbrev cX4_proof : ByteArray := prog_1_method_7_code
def yX4_proof : MethodName := ⟨RX4, "proof", "(III)I"⟩
abbrev cX4_run : ByteArray := prog_1_method_8_code
def yX4_run : MethodName := ⟨RX4, "run", "(III)J"⟩
abbrev cX4_proving : ByteArray := prog_1_method_9_code
def yX4_proving : MethodName := ⟨RX4, "proving", "(I)I"⟩
abbrev cX4_accept : ByteArray := prog_1_method_10_code
def yX4_accept : MethodName := ⟨RX4, "accept", "(I)I"⟩
abbrev cX4_ticket : ByteArray := prog_1_method_11_code
def yX4_ticket : MethodName := ⟨RX4, "ticket", "(IIII)I"⟩
abbrev cX4_right : ByteArray := prog_1_method_12_code
def yX4_right : MethodName := ⟨RX4, "right", "(II)I"⟩
abbrev cX4_remake : ByteArray := prog_1_method_13_code
def yX4_remake : MethodName := ⟨RX4, "remake", "(III)I"⟩
abbrev cX4_ticketed : ByteArray := prog_1_method_14_code
def yX4_ticketed : MethodName := ⟨RX4, "ticketed", "(II)I"⟩
abbrev cX4_volume : ByteArray := prog_1_method_15_code
def yX4_volume : MethodName := ⟨RX4, "volume", "(I)J"⟩
abbrev cX4_sum : ByteArray := prog_1_method_16_code
def yX4_sum : MethodName := ⟨RX4, "sum", "(III)J"⟩
abbrev cX4_shut : ByteArray := prog_1_method_17_code
def yX4_shut : MethodName := ⟨RX4, "shut", "(I)I"⟩
abbrev cX4_line : ByteArray := prog_1_method_18_code
def yX4_line : MethodName := ⟨RX4, "line", "(III)I"⟩
abbrev cX4_lined : ByteArray := prog_1_method_19_code
def yX4_lined : MethodName := ⟨RX4, "lined", "(II)I"⟩
abbrev cX4_end : ByteArray := prog_1_method_20_code
def yX4_end : MethodName := ⟨RX4, "end", "(II)I"⟩
abbrev cX4_balance : ByteArray := prog_1_method_21_code
def yX4_balance : MethodName := ⟨RX4, "balance", "(IIII)J"⟩
abbrev cX4_beyond : ByteArray := prog_1_method_22_code
def yX4_beyond : MethodName := ⟨RX4, "beyond", "(II)I"⟩
abbrev cX4_explains : ByteArray := prog_1_method_23_code
def yX4_explains : MethodName := ⟨RX4, "explains", "(III)J"⟩
abbrev cX4_sheet : ByteArray := prog_1_method_24_code
def yX4_sheet : MethodName := ⟨RX4, "sheet", "(III)I"⟩
abbrev cX4_lose : ByteArray := prog_1_method_25_code
def yX4_lose : MethodName := ⟨RX4, "lose", "(I)I"⟩
abbrev cX4_put : ByteArray := prog_1_method_26_code
def yX4_put : MethodName := ⟨RX4, "put", "(III)I"⟩
abbrev cX4_cell : ByteArray := prog_1_method_27_code
def yX4_cell : MethodName := ⟨RX4, "cell", "(III)J"⟩
abbrev cX4_copy : ByteArray := prog_1_method_28_code
def yX4_copy : MethodName := ⟨RX4, "copy", "(IIIII)I"⟩
abbrev cX4_watch : ByteArray := prog_1_method_29_code
def yX4_watch : MethodName := ⟨RX4, "watch", "(IIIII)I"⟩
abbrev cX4_tell : ByteArray := prog_1_method_30_code
def yX4_tell : MethodName := ⟨RX4, "tell", "(I)I"⟩
abbrev cX4_worth : ByteArray := prog_1_method_31_code
def yX4_worth : MethodName := ⟨RX4, "worth", "(I)I"⟩
abbrev cX4_as : ByteArray := prog_1_method_32_code
def yX4_as : MethodName := ⟨RX4, "as", "(II)I"⟩
abbrev cX4_trace : ByteArray := prog_1_method_33_code
def yX4_trace : MethodName := ⟨RX4, "trace", "()I"⟩
abbrev cX4_fault : ByteArray := prog_1_method_34_code
def yX4_fault : MethodName := ⟨RX4, "fault", "()I"⟩
abbrev cX4_told : ByteArray := prog_1_method_35_code
def yX4_told : MethodName := ⟨RX4, "told", "(I)I"⟩
abbrev cX4_isWithin : ByteArray := prog_1_method_36_code
def yX4_isWithin : MethodName := ⟨RX4, "isWithin", "(III)Z"⟩
abbrev cX4_isDay : ByteArray := prog_1_method_37_code
def yX4_isDay : MethodName := ⟨RX4, "isDay", "(I)Z"⟩
abbrev cX4_areDays : ByteArray := prog_1_method_38_code
def yX4_areDays : MethodName := ⟨RX4, "areDays", "(II)Z"⟩
abbrev cX4_isFlow : ByteArray := prog_1_method_39_code
def yX4_isFlow : MethodName := ⟨RX4, "isFlow", "(I)Z"⟩
abbrev cX4_isLine : ByteArray := prog_1_method_40_code
def yX4_isLine : MethodName := ⟨RX4, "isLine", "(I)Z"⟩
abbrev cX4_isSheet : ByteArray := prog_1_method_41_code
def yX4_isSheet : MethodName := ⟨RX4, "isSheet", "(I)Z"⟩
abbrev cX4_isLane : ByteArray := prog_1_method_42_code
def yX4_isLane : MethodName := ⟨RX4, "isLane", "(I)Z"⟩
abbrev cX4_isMeter : ByteArray := prog_1_method_43_code
def yX4_isMeter : MethodName := ⟨RX4, "isMeter", "(I)Z"⟩
abbrev cX4_isTicket : ByteArray := prog_1_method_44_code
def yX4_isTicket : MethodName := ⟨RX4, "isTicket", "(I)Z"⟩
abbrev cX4_isShut : ByteArray := prog_1_method_45_code
def yX4_isShut : MethodName := ⟨RX4, "isShut", "(I)Z"⟩
abbrev cX4_rounded : ByteArray := prog_1_method_46_code
def yX4_rounded : MethodName := ⟨RX4, "rounded", "(JJ)J"⟩
abbrev cX4_fail : ByteArray := prog_1_method_47_code
def yX4_fail : MethodName := ⟨RX4, "fail", "(I)I"⟩
abbrev cX4_leave : ByteArray := prog_1_method_48_code
def yX4_leave : MethodName := ⟨RX4, "leave", "(I)V"⟩
abbrev cX4_tellTicket : ByteArray := prog_1_method_49_code
def yX4_tellTicket : MethodName := ⟨RX4, "tellTicket", "(LTrueLitres$Ticket;)I"⟩
abbrev cX4_keep : ByteArray := prog_1_method_50_code
def yX4_keep : MethodName := ⟨RX4, "keep", "(LTrueLitres$Ticket;)V"⟩
abbrev cX4_replace : ByteArray := prog_1_method_51_code
def yX4_replace : MethodName := ⟨RX4, "replace", "(III)V"⟩
abbrev cX4_factorNow : ByteArray := prog_1_method_52_code
def yX4_factorNow : MethodName := ⟨RX4, "factorNow", "(LTrueLitres$Ticket;)I"⟩
abbrev cX4_isToRemake : ByteArray := prog_1_method_53_code
def yX4_isToRemake : MethodName := ⟨RX4, "isToRemake", "(LTrueLitres$Ticket;III)Z"⟩
abbrev cX4_volumeOf : ByteArray := prog_1_method_54_code
def yX4_volumeOf : MethodName := ⟨RX4, "volumeOf", "(LTrueLitres$Ticket;)J"⟩
abbrev cX4_sumOf : ByteArray := prog_1_method_55_code
def yX4_sumOf : MethodName := ⟨RX4, "sumOf", "(III)J"⟩
abbrev cX4_countNotReplaced : ByteArray := prog_1_method_56_code
def yX4_countNotReplaced : MethodName := ⟨RX4, "countNotReplaced", "()I"⟩
abbrev cX4_imbalanceOf : ByteArray := prog_1_method_57_code
def yX4_imbalanceOf : MethodName := ⟨RX4, "imbalanceOf", "(III)J"⟩
abbrev cX4_endsOf : ByteArray := prog_1_method_58_code
def yX4_endsOf : MethodName := ⟨RX4, "endsOf", "(III)J"⟩
abbrev cX4_linesBeyond : ByteArray := prog_1_method_59_code
def yX4_linesBeyond : MethodName := ⟨RX4, "linesBeyond", "(II)I"⟩
def RX5 : String := "TrueLitresModel"
def TX5 : u_T := fun k => match k with
  | 0 => ("TrueLitresModel", "fault", "I", false)
  | 1 => ("TrueLitresModel", "meters", "I", false)
  | 2 => ("TrueLitresModel", "pulsesOf", "[I", true)
  | 3 => ("TrueLitresModel", "many", "[I", true)
  | 4 => ("TrueLitresModel", "flowAt", "[I", true)
  | 5 => ("TrueLitresModel", "dayAt", "[I", true)
  | 6 => ("TrueLitresModel", "numberAt", "[I", true)
  | 7 => ("TrueLitresModel", "ends", "[I", true)
  | 8 => ("TrueLitresModel", "points", "I", false)
  | 9 => ("TrueLitresModel", "curveFlow", "[I", true)
  | 10 => ("TrueLitresModel", "curveNumber", "[I", true)
  | 11 => ("TrueLitresModel", "curveDay", "[I", true)
  | 12 => ("TrueLitresModel", "proofMeter", "I", false)
  | 13 => ("TrueLitresModel", "proofFlow", "I", false)
  | 14 => ("TrueLitresModel", "vessel", "I", false)
  | 15 => ("TrueLitresModel", "runs", "I", false)
  | 16 => ("TrueLitresModel", "count", "[J", true)
  | 17 => ("TrueLitresModel", "tickets", "I", false)
  | 18 => ("TrueLitresModel", "kind", "[I", true)
  | 19 => ("TrueLitresModel", "meterOf", "[I", true)
  | 20 => ("TrueLitresModel", "day", "[I", true)
  | 21 => ("TrueLitresModel", "pulses", "[I", true)
  | 22 => ("TrueLitresModel", "flow", "[I", true)
  | 23 => ("TrueLitresModel", "factor", "[I", true)
  | 24 => ("TrueLitresModel", "by", "[I", true)
  | 25 => ("TrueLitresModel", "old", "[I", true)
  | 26 => ("TrueLitresModel", "shut", "I", false)
  | 27 => ("TrueLitresModel", "how", "[I", true)
  | 28 => ("TrueLitresModel", "sheetSize", "[I", true)
  | 29 => ("TrueLitresModel", "sheetLane", "[I", true)
  | 30 => ("TrueLitresModel", "sheet", "[I", true)
  | 31 => ("TrueLitresModel", "hands", "[I", true)
  | _ => ("TrueLitresModel", "trace", "I", false)
def tyX5 : Nat → FieldType := fun k => match k with
  | 0 => .int
  | 1 => .int
  | 2 => .array .int
  | 3 => .array .int
  | 4 => .array .int
  | 5 => .array .int
  | 6 => .array .int
  | 7 => .array .int
  | 8 => .int
  | 9 => .array .int
  | 10 => .array .int
  | 11 => .array .int
  | 12 => .int
  | 13 => .int
  | 14 => .int
  | 15 => .int
  | 16 => .array .long
  | 17 => .int
  | 18 => .array .int
  | 19 => .array .int
  | 20 => .array .int
  | 21 => .array .int
  | 22 => .array .int
  | 23 => .array .int
  | 24 => .array .int
  | 25 => .array .int
  | 26 => .int
  | 27 => .array .int
  | 28 => .array .int
  | 29 => .array .int
  | 30 => .array .int
  | 31 => .array .int
  | _ => .int
abbrev wsX50 : List Cond := u_ws RX5 TX5 33
theorem nmX5 : ∀ a, a < 33 → ∀ b, b < 33 → a ≠ b → (TX5 a).2.1 ≠ (TX5 b).2.1 := by decide +kernel
theorem tyX5_ok : ∀ k, k < 33 → parseFieldDescriptor (TX5 k).2.2.1 = some (tyX5 k) := by decide +kernel
abbrev cX5_init : ByteArray := prog_7_method_1_code
def yX5_init : MethodName := ⟨RX5, "<init>", "()V"⟩
abbrev cX5_in : ByteArray := prog_7_method_2_code
def yX5_in : MethodName := ⟨RX5, "in", "(JJJ)Z"⟩
abbrev cX5_lost : ByteArray := prog_7_method_3_code
def yX5_lost : MethodName := ⟨RX5, "lost", "()J"⟩
abbrev cX5_refused : ByteArray := prog_7_method_4_code
def yX5_refused : MethodName := ⟨RX5, "refused", "(I)I"⟩
abbrev cX5_failed : ByteArray := prog_7_method_5_code
def yX5_failed : MethodName := ⟨RX5, "failed", "(I)I"⟩
abbrev cX5_failedLong : ByteArray := prog_7_method_6_code
def yX5_failedLong : MethodName := ⟨RX5, "failedLong", "(I)J"⟩
abbrev cX5_rounded : ByteArray := prog_7_method_7_code
def yX5_rounded : MethodName := ⟨RX5, "rounded", "(JJ)J"⟩
abbrev cX5_noMeter : ByteArray := prog_7_method_8_code
def yX5_noMeter : MethodName := ⟨RX5, "noMeter", "(I)Z"⟩
abbrev cX5_isDay : ByteArray := prog_7_method_9_code
def yX5_isDay : MethodName := ⟨RX5, "isDay", "(I)Z"⟩
abbrev cX5_isFlow : ByteArray := prog_7_method_10_code
def yX5_isFlow : MethodName := ⟨RX5, "isFlow", "(I)Z"⟩
abbrev cX5_isNumber : ByteArray := prog_7_method_11_code
def yX5_isNumber : MethodName := ⟨RX5, "isNumber", "(J)Z"⟩
abbrev cX5_meter : ByteArray := prog_7_method_12_code
def yX5_meter : MethodName := ⟨RX5, "meter", "(I)I"⟩
abbrev cX5_addFactor : ByteArray := prog_7_method_13_code
def yX5_addFactor : MethodName := ⟨RX5, "addFactor", "(IIII)V"⟩
abbrev cX5_factor : ByteArray := prog_7_method_14_code
def yX5_factor : MethodName := ⟨RX5, "factor", "(IIII)I"⟩
abbrev cX5_findCurve : ByteArray := prog_7_method_15_code
def yX5_findCurve : MethodName := ⟨RX5, "findCurve", "(II)V"⟩
abbrev cX5_addPoint : ByteArray := prog_7_method_16_code
def yX5_addPoint : MethodName := ⟨RX5, "addPoint", "(I)V"⟩
abbrev cX5_factorAt : ByteArray := prog_7_method_17_code
def yX5_factorAt : MethodName := ⟨RX5, "factorAt", "(III)I"⟩
abbrev cX5_at : ByteArray := prog_7_method_18_code
def yX5_at : MethodName := ⟨RX5, "at", "(III)I"⟩
abbrev cX5_points : ByteArray := prog_7_method_19_code
def yX5_points : MethodName := ⟨RX5, "points", "(II)I"⟩
abbrev cX5_point : ByteArray := prog_7_method_20_code
def yX5_point : MethodName := ⟨RX5, "point", "(IIII)I"⟩
abbrev cX5_proof : ByteArray := prog_7_method_21_code
def yX5_proof : MethodName := ⟨RX5, "proof", "(III)I"⟩
abbrev cX5_run : ByteArray := prog_7_method_22_code
def yX5_run : MethodName := ⟨RX5, "run", "(III)J"⟩
abbrev cX5_isGood : ByteArray := prog_7_method_23_code
def yX5_isGood : MethodName := ⟨RX5, "isGood", "()Z"⟩
abbrev cX5_proving : ByteArray := prog_7_method_24_code
def yX5_proving : MethodName := ⟨RX5, "proving", "(I)I"⟩
abbrev cX5_accept : ByteArray := prog_7_method_25_code
def yX5_accept : MethodName := ⟨RX5, "accept", "(I)I"⟩
abbrev cX5_noTicket : ByteArray := prog_7_method_26_code
def yX5_noTicket : MethodName := ⟨RX5, "noTicket", "(I)Z"⟩
abbrev cX5_isShut : ByteArray := prog_7_method_27_code
def yX5_isShut : MethodName := ⟨RX5, "isShut", "(I)Z"⟩
abbrev cX5_add : ByteArray := prog_7_method_28_code
def yX5_add : MethodName := ⟨RX5, "add", "(IIIIII)I"⟩
abbrev cX5_ticket : ByteArray := prog_7_method_29_code
def yX5_ticket : MethodName := ⟨RX5, "ticket", "(IIII)I"⟩
abbrev cX5_right : ByteArray := prog_7_method_30_code
def yX5_right : MethodName := ⟨RX5, "right", "(II)I"⟩
abbrev cX5_areDays : ByteArray := prog_7_method_31_code
def yX5_areDays : MethodName := ⟨RX5, "areDays", "(II)Z"⟩
abbrev cX5_isStale : ByteArray := prog_7_method_32_code
def yX5_isStale : MethodName := ⟨RX5, "isStale", "(IIII)Z"⟩
abbrev cX5_remake : ByteArray := prog_7_method_33_code
def yX5_remake : MethodName := ⟨RX5, "remake", "(III)I"⟩
abbrev cX5_ticketed : ByteArray := prog_7_method_34_code
def yX5_ticketed : MethodName := ⟨RX5, "ticketed", "(II)I"⟩
abbrev cX5_volumeOf : ByteArray := prog_7_method_35_code
def yX5_volumeOf : MethodName := ⟨RX5, "volumeOf", "(I)J"⟩
abbrev cX5_volume : ByteArray := prog_7_method_36_code
def yX5_volume : MethodName := ⟨RX5, "volume", "(I)J"⟩
abbrev cX5_sumOf : ByteArray := prog_7_method_37_code
def yX5_sumOf : MethodName := ⟨RX5, "sumOf", "(III)J"⟩
abbrev cX5_sum : ByteArray := prog_7_method_38_code
def yX5_sum : MethodName := ⟨RX5, "sum", "(III)J"⟩
abbrev cX5_shut : ByteArray := prog_7_method_39_code
def yX5_shut : MethodName := ⟨RX5, "shut", "(I)I"⟩
abbrev cX5_noLine : ByteArray := prog_7_method_40_code
def yX5_noLine : MethodName := ⟨RX5, "noLine", "(I)Z"⟩
abbrev cX5_line : ByteArray := prog_7_method_41_code
def yX5_line : MethodName := ⟨RX5, "line", "(III)I"⟩
abbrev cX5_lined : ByteArray := prog_7_method_42_code
def yX5_lined : MethodName := ⟨RX5, "lined", "(II)I"⟩
abbrev cX5_end : ByteArray := prog_7_method_43_code
def yX5_end : MethodName := ⟨RX5, "end", "(II)I"⟩
abbrev cX5_imbalance : ByteArray := prog_7_method_44_code
def yX5_imbalance : MethodName := ⟨RX5, "imbalance", "(III)J"⟩
abbrev cX5_endsOf : ByteArray := prog_7_method_45_code
def yX5_endsOf : MethodName := ⟨RX5, "endsOf", "(III)J"⟩
abbrev cX5_balance : ByteArray := prog_7_method_46_code
def yX5_balance : MethodName := ⟨RX5, "balance", "(IIII)J"⟩
abbrev cX5_beyondOf : ByteArray := prog_7_method_47_code
def yX5_beyondOf : MethodName := ⟨RX5, "beyondOf", "(II)I"⟩
abbrev cX5_beyond : ByteArray := prog_7_method_48_code
def yX5_beyond : MethodName := ⟨RX5, "beyond", "(II)I"⟩
abbrev cX5_explains : ByteArray := prog_7_method_49_code
def yX5_explains : MethodName := ⟨RX5, "explains", "(III)J"⟩
abbrev cX5_noSheet : ByteArray := prog_7_method_50_code
def yX5_noSheet : MethodName := ⟨RX5, "noSheet", "(I)Z"⟩
abbrev cX5_sheet : ByteArray := prog_7_method_51_code
def yX5_sheet : MethodName := ⟨RX5, "sheet", "(III)I"⟩
abbrev cX5_lose : ByteArray := prog_7_method_52_code
def yX5_lose : MethodName := ⟨RX5, "lose", "(I)I"⟩
abbrev cX5_noCell : ByteArray := prog_7_method_53_code
def yX5_noCell : MethodName := ⟨RX5, "noCell", "(II)I"⟩
abbrev cX5_put : ByteArray := prog_7_method_54_code
def yX5_put : MethodName := ⟨RX5, "put", "(III)I"⟩
abbrev cX5_cell : ByteArray := prog_7_method_55_code
def yX5_cell : MethodName := ⟨RX5, "cell", "(III)J"⟩
abbrev cX5_isBeyond : ByteArray := prog_7_method_56_code
def yX5_isBeyond : MethodName := ⟨RX5, "isBeyond", "(III)Z"⟩
abbrev cX5_copy : ByteArray := prog_7_method_57_code
def yX5_copy : MethodName := ⟨RX5, "copy", "(IIIII)I"⟩
abbrev cX5_watch : ByteArray := prog_7_method_58_code
def yX5_watch : MethodName := ⟨RX5, "watch", "(IIIII)I"⟩
abbrev cX5_traced : ByteArray := prog_7_method_59_code
def yX5_traced : MethodName := ⟨RX5, "traced", "(I)V"⟩
abbrev cX5_tell : ByteArray := prog_7_method_60_code
def yX5_tell : MethodName := ⟨RX5, "tell", "(I)I"⟩
abbrev cX5_worth : ByteArray := prog_7_method_61_code
def yX5_worth : MethodName := ⟨RX5, "worth", "(I)I"⟩
abbrev cX5_as : ByteArray := prog_7_method_62_code
def yX5_as : MethodName := ⟨RX5, "as", "(II)I"⟩
abbrev cX5_trace : ByteArray := prog_7_method_63_code
def yX5_trace : MethodName := ⟨RX5, "trace", "()I"⟩
abbrev cX5_fault : ByteArray := prog_7_method_64_code
def yX5_fault : MethodName := ⟨RX5, "fault", "()I"⟩
abbrev cX5_told : ByteArray := prog_7_method_65_code
def yX5_told : MethodName := ⟨RX5, "told", "(I)I"⟩
def RJ9 : String := "java/lang/Math"
def TJ9 : u_T := fun k => match k with
  | _ => ("", "", "", false)
def tyJ9 : Nat → FieldType := fun k => match k with
  | _ => .int
abbrev wsJ90 : List Cond := u_ws RJ9 TJ9 0
theorem nmJ9 : ∀ a, a < 0 → ∀ b, b < 0 → a ≠ b → (TJ9 a).2.1 ≠ (TJ9 b).2.1 := by decide +kernel
theorem tyJ9_ok : ∀ k, k < 0 → parseFieldDescriptor (TJ9 k).2.2.1 = some (tyJ9 k) := by decide +kernel
abbrev cJ9_abs_067f4 : ByteArray := prog_8_method_61_code
def yJ9_abs_067f4 : MethodName := ⟨RJ9, "abs", "(J)J"⟩
abbrev cJ9_max_7cf53 : ByteArray := prog_8_method_65_code
def yJ9_max_7cf53 : MethodName := ⟨RJ9, "max", "(II)I"⟩
abbrev cJ9_max_f86c9 : ByteArray := prog_8_method_66_code
def yJ9_max_f86c9 : MethodName := ⟨RJ9, "max", "(JJ)J"⟩
abbrev cJ9_min_f86c9 : ByteArray := prog_8_method_70_code
def yJ9_min_f86c9 : MethodName := ⟨RJ9, "min", "(JJ)J"⟩
def RJ10 : String := "java/lang/System"
def TJ10 : u_T := fun k => match k with
  | _ => ("", "", "", false)
def tyJ10 : Nat → FieldType := fun k => match k with
  | _ => .int
abbrev wsJ100 : List Cond := u_ws RJ10 TJ10 0
theorem nmJ10 : ∀ a, a < 0 → ∀ b, b < 0 → a ≠ b → (TJ10 a).2.1 ≠ (TJ10 b).2.1 := by decide +kernel
theorem tyJ10_ok : ∀ k, k < 0 → parseFieldDescriptor (TJ10 k).2.2.1 = some (tyJ10 k) := by decide +kernel
def RJ7 : String := "java/util/Arrays"
def TJ7 : u_T := fun k => match k with
  | _ => ("", "", "", false)
def tyJ7 : Nat → FieldType := fun k => match k with
  | _ => .int
abbrev wsJ70 : List Cond := u_ws RJ7 TJ7 0
theorem nmJ7 : ∀ a, a < 0 → ∀ b, b < 0 → a ≠ b → (TJ7 a).2.1 ≠ (TJ7 b).2.1 := by decide +kernel
theorem tyJ7_ok : ∀ k, k < 0 → parseFieldDescriptor (TJ7 k).2.2.1 = some (tyJ7 k) := by decide +kernel
abbrev cJ7_fill_53178 : ByteArray := prog_10_method_103_code
def yJ7_fill_53178 : MethodName := ⟨RJ7, "fill", "([II)V"⟩
def RL : String := "TrueLitresLaw"
abbrev cL_law : ByteArray := code
def yL_law : MethodName := ⟨RL, "law", "([I)Z"⟩
def wsL_law_r1 : List Cond := [Cond.classLink RL 7 RX4, Cond.instantiable RX4 9, Cond.initialized RX4, Cond.classLink RL 10 RX5, Cond.instantiable RX5 33, Cond.initialized RX5, Cond.methodLink RL 9 yX4_init, Cond.instanceMethod yX4_init, Cond.code yX4_init cX4_init 2 none, Cond.methodLink RX4 3 objectInit, Cond.instanceMethod objectInit, Cond.code objectInit ⟨#[0xb1]⟩ 1 none, Cond.classLink RX4 11 RX0, Cond.fieldLink RX4 13 "TrueLitres" "meters" "[LTrueLitres$Meter;", Cond.fieldLink RX4 17 "TrueLitres" "meterCount" "I", Cond.classLink RX4 21 RX1, Cond.instantiable RX1 6, Cond.initialized RX1, Cond.fieldLink RX4 24 "TrueLitres" "latestProof" "LTrueLitres$Proof;", Cond.classLink RX4 28 RX3, Cond.fieldLink RX4 30 "TrueLitres" "tickets" "[LTrueLitres$Ticket;", Cond.fieldLink RX4 34 "TrueLitres" "ticketCount" "I", Cond.fieldLink RX4 37 "TrueLitres" "shutUpTo" "I", Cond.classLink RX4 40 RX2]
def wsL_law_r2 : List Cond := [Cond.fieldLink RX4 42 "TrueLitres" "sheets" "[LTrueLitres$Sheet;", Cond.fieldLink RX4 46 "TrueLitres" "traced" "I", Cond.fieldLink RX4 49 "TrueLitres" "latestFault" "I", Cond.instantiable RX2 4, Cond.initialized RX2, Cond.instanceMethod yX1_init, Cond.code yX1_init cX1_init 1 none, Cond.methodLink RX1 3 objectInit, Cond.fieldLink RX1 9 "TrueLitres$Proof" "isBegun" "Z", Cond.fieldLink RX1 15 "TrueLitres$Proof" "meter" "I", Cond.fieldLink RX1 19 "TrueLitres$Proof" "flow" "I", Cond.fieldLink RX1 22 "TrueLitres$Proof" "vessel" "I", Cond.arrayClass .long, Cond.fieldLink RX1 25 "TrueLitres$Proof" "counts" "[J", Cond.fieldLink RX1 29 "TrueLitres$Proof" "runCount" "I", Cond.instanceMethod yX2_init, Cond.code yX2_init cX2_init 1 none, Cond.methodLink RX2 3 objectInit, Cond.arrayClass .int, Cond.fieldLink RX2 9 "TrueLitres$Sheet" "cells" "[I", Cond.fieldLink RX2 15 "TrueLitres$Sheet" "hasRow" "Z", Cond.fieldLink RX2 19 "TrueLitres$Sheet" "lane" "I", Cond.fieldLink RX2 23 "TrueLitres$Sheet" "length" "I", Cond.methodLink RL 12 yX5_init]
def wsL_law_r3 : List Cond := [Cond.instanceMethod yX5_init, Cond.code yX5_init cX5_init 2 none, Cond.methodLink RX5 1 objectInit, Cond.fieldLink RX5 7 "TrueLitresModel" "pulsesOf" "[I", Cond.fieldLink RX5 13 "TrueLitresModel" "many" "[I", Cond.fieldLink RX5 16 "TrueLitresModel" "flowAt" "[I", Cond.fieldLink RX5 19 "TrueLitresModel" "dayAt" "[I", Cond.fieldLink RX5 22 "TrueLitresModel" "numberAt" "[I", Cond.fieldLink RX5 25 "TrueLitresModel" "ends" "[I", Cond.fieldLink RX5 28 "TrueLitresModel" "curveFlow" "[I", Cond.fieldLink RX5 31 "TrueLitresModel" "curveNumber" "[I", Cond.fieldLink RX5 34 "TrueLitresModel" "curveDay" "[I", Cond.fieldLink RX5 37 "TrueLitresModel" "count" "[J", Cond.fieldLink RX5 41 "TrueLitresModel" "kind" "[I", Cond.fieldLink RX5 44 "TrueLitresModel" "meterOf" "[I", Cond.fieldLink RX5 47 "TrueLitresModel" "day" "[I", Cond.fieldLink RX5 50 "TrueLitresModel" "pulses" "[I", Cond.fieldLink RX5 53 "TrueLitresModel" "flow" "[I", Cond.fieldLink RX5 56 "TrueLitresModel" "factor" "[I", Cond.fieldLink RX5 59 "TrueLitresModel" "by" "[I", Cond.fieldLink RX5 62 "TrueLitresModel" "old" "[I", Cond.fieldLink RX5 65 "TrueLitresModel" "how" "[I", Cond.fieldLink RX5 68 "TrueLitresModel" "sheetSize" "[I", Cond.fieldLink RX5 71 "TrueLitresModel" "sheetLane" "[I"]
def wsL_law_r4 : List Cond := [Cond.fieldLink RX5 74 "TrueLitresModel" "sheet" "[I", Cond.fieldLink RX5 77 "TrueLitresModel" "hands" "[I", Cond.fieldLink RX5 80 "TrueLitresModel" "shut" "I", Cond.fieldLink RX5 84 "TrueLitresModel" "proofMeter" "I", Cond.methodLink RL 13 yX4_meter, Cond.instanceMethod yX4_meter, Cond.selects RX4 yX4_meter yX4_meter, Cond.code yX4_meter cX4_meter 2 (some .int), Cond.constant RX4 53 (100000), Cond.instantiable RX0 7, Cond.initialized RX0, Cond.methodLink RX4 54 yX4_isWithin, Cond.static yX4_isWithin, Cond.code yX4_isWithin cX4_isWithin 3 (some .boolean), Cond.methodLink RX4 58 yX0_init, Cond.instanceMethod yX0_init, Cond.code yX0_init cX0_init 2 none, Cond.methodLink RX0 3 objectInit, Cond.fieldLink RX0 9 "TrueLitres$Meter" "end" "I", Cond.fieldLink RX0 15 "TrueLitres$Meter" "hows" "[I", Cond.fieldLink RX0 19 "TrueLitres$Meter" "flows" "[I", Cond.fieldLink RX0 22 "TrueLitres$Meter" "days" "[I", Cond.fieldLink RX0 25 "TrueLitres$Meter" "numbers" "[I", Cond.fieldLink RX0 28 "TrueLitres$Meter" "factorCount" "I"]
def wsL_law_r5 : List Cond := [Cond.fieldLink RX0 31 "TrueLitres$Meter" "k" "I", Cond.methodLink RL 17 yX5_meter, Cond.instanceMethod yX5_meter, Cond.selects RX5 yX5_meter yX5_meter, Cond.code yX5_meter cX5_meter 2 (some .int), Cond.constantLong RX5 113 (100000), Cond.fieldLink RX5 98 "TrueLitresModel" "meters" "I", Cond.methodLink RX5 101 yX5_in, Cond.static yX5_in, Cond.code yX5_in cX5_in 6 (some .boolean), Cond.methodLink RL 18 yX4_factor, Cond.instanceMethod yX4_factor, Cond.selects RX4 yX4_factor yX4_factor, Cond.code yX4_factor cX4_factor 6 (some .int), Cond.constant RX4 71 (95000), Cond.constant RX4 72 (105000), Cond.fieldLink RX4 81 "TrueLitres$Meter" "factorCount" "I", Cond.methodLink RX4 61 yX4_isMeter, Cond.instanceMethod yX4_isMeter, Cond.selects RX4 yX4_isMeter yX4_isMeter, Cond.code yX4_isMeter cX4_isMeter 2 (some .boolean), Cond.methodLink RX4 65 yX4_isFlow, Cond.static yX4_isFlow, Cond.code yX4_isFlow cX4_isFlow 1 (some .boolean)]
def wsL_law_r6 : List Cond := [Cond.methodLink RX4 68 yX4_isDay, Cond.static yX4_isDay, Cond.code yX4_isDay cX4_isDay 1 (some .boolean), Cond.methodLink RX4 73 yX0_isFull, Cond.instanceMethod yX0_isFull, Cond.selects RX0 yX0_isFull yX0_isFull, Cond.code yX0_isFull cX0_isFull 1 (some .boolean), Cond.methodLink RX4 77 yX0_takeFactor, Cond.instanceMethod yX0_takeFactor, Cond.selects RX0 yX0_takeFactor yX0_takeFactor, Cond.code yX0_takeFactor cX0_takeFactor 5 none, Cond.methodLink RX0 34 yX0_standsBehind, Cond.instanceMethod yX0_standsBehind, Cond.selects RX0 yX0_standsBehind yX0_standsBehind, Cond.code yX0_standsBehind cX0_standsBehind 4 (some .boolean), Cond.methodLink RL 22 yX5_factor, Cond.instanceMethod yX5_factor, Cond.selects RX5 yX5_factor yX5_factor, Cond.code yX5_factor cX5_factor 5 (some .int), Cond.methodLink RX5 115 yX5_noMeter, Cond.instanceMethod yX5_noMeter, Cond.selects RX5 yX5_noMeter yX5_noMeter, Cond.code yX5_noMeter cX5_noMeter 2 (some .boolean), Cond.methodLink RX5 119 yX5_isFlow]
def wsL_law_r7 : List Cond := [Cond.static yX5_isFlow, Cond.code yX5_isFlow cX5_isFlow 1 (some .boolean), Cond.constantLong RX5 107 (10000), Cond.methodLink RX5 122 yX5_isDay, Cond.static yX5_isDay, Cond.code yX5_isDay cX5_isDay 1 (some .boolean), Cond.constantLong RX5 105 (400), Cond.methodLink RX5 125 yX5_isNumber, Cond.static yX5_isNumber, Cond.code yX5_isNumber cX5_isNumber 2 (some .boolean), Cond.constantLong RX5 109 (95000), Cond.constantLong RX5 111 (105000), Cond.methodLink RX5 129 yX5_addFactor, Cond.instanceMethod yX5_addFactor, Cond.selects RX5 yX5_addFactor yX5_addFactor, Cond.code yX5_addFactor cX5_addFactor 6 none, Cond.methodLink RL 23 yX4_at, Cond.instanceMethod yX4_at, Cond.selects RX4 yX4_at yX4_at, Cond.code yX4_at cX4_at 4 (some .int), Cond.methodLink RX4 84 yX0_factorAt, Cond.instanceMethod yX0_factorAt, Cond.selects RX0 yX0_factorAt yX0_factorAt, Cond.code yX0_factorAt cX0_factorAt 6 (some .int)]
def wsL_law_r8 : List Cond := [Cond.constant RX0 42 (100000), Cond.methodLink RX0 38 yX0_isOnCurve, Cond.instanceMethod yX0_isOnCurve, Cond.selects RX0 yX0_isOnCurve yX0_isOnCurve, Cond.code yX0_isOnCurve cX0_isOnCurve 4 (some .boolean), Cond.methodLink RX0 43 yX0_between, Cond.instanceMethod yX0_between, Cond.selects RX0 yX0_between yX0_between, Cond.code yX0_between cX0_between 5 (some .int), Cond.methodLink RL 27 yX5_at, Cond.instanceMethod yX5_at, Cond.selects RX5 yX5_at yX5_at, Cond.code yX5_at cX5_at 4 (some .int), Cond.methodLink RX5 145 yX5_factorAt, Cond.instanceMethod yX5_factorAt, Cond.selects RX5 yX5_factorAt yX5_factorAt, Cond.code yX5_factorAt cX5_factorAt 9 (some .int), Cond.fieldLink RX5 133 "TrueLitresModel" "points" "I", Cond.constant RX5 144 (100000), Cond.methodLink RX5 140 yX5_findCurve, Cond.instanceMethod yX5_findCurve, Cond.selects RX5 yX5_findCurve yX5_findCurve, Cond.code yX5_findCurve cX5_findCurve 4 none, Cond.methodLink RX5 136 yX5_addPoint]
def wsL_law_r9 : List Cond := [Cond.instanceMethod yX5_addPoint, Cond.selects RX5 yX5_addPoint yX5_addPoint, Cond.code yX5_addPoint cX5_addPoint 5 none, Cond.methodLink RL 28 yX4_points, Cond.instanceMethod yX4_points, Cond.selects RX4 yX4_points yX4_points, Cond.code yX4_points cX4_points 3 (some .int), Cond.methodLink RX4 88 yX0_curveSize, Cond.instanceMethod yX0_curveSize, Cond.selects RX0 yX0_curveSize yX0_curveSize, Cond.code yX0_curveSize cX0_curveSize 4 (some .int), Cond.methodLink RL 32 yX5_points, Cond.instanceMethod yX5_points, Cond.selects RX5 yX5_points yX5_points, Cond.code yX5_points cX5_points 3 (some .int), Cond.methodLink RL 33 yX4_point, Cond.instanceMethod yX4_point, Cond.selects RX4 yX4_point yX4_point, Cond.code yX4_point cX4_point 6 (some .int), Cond.fieldLink RX4 95 "TrueLitres$Meter" "flows" "[I", Cond.fieldLink RX4 99 "TrueLitres$Meter" "numbers" "[I", Cond.methodLink RX4 92 yX0_curvePlace, Cond.instanceMethod yX0_curvePlace, Cond.selects RX0 yX0_curvePlace yX0_curvePlace]
def wsL_law_r10 : List Cond := [Cond.code yX0_curvePlace cX0_curvePlace 5 (some .int), Cond.methodLink RL 36 yX5_point, Cond.instanceMethod yX5_point, Cond.selects RX5 yX5_point yX5_point, Cond.code yX5_point cX5_point 5 (some .int), Cond.methodLink RL 37 yX4_proof, Cond.instanceMethod yX4_proof, Cond.selects RX4 yX4_proof yX4_proof, Cond.code yX4_proof cX4_proof 4 (some .int), Cond.constant RX4 102 (1000000), Cond.methodLink RX4 103 yX1_begin, Cond.instanceMethod yX1_begin, Cond.selects RX1 yX1_begin yX1_begin, Cond.code yX1_begin cX1_begin 4 none, Cond.methodLink RL 40 yX5_proof, Cond.instanceMethod yX5_proof, Cond.selects RX5 yX5_proof yX5_proof, Cond.code yX5_proof cX5_proof 4 (some .int), Cond.constantLong RX5 149 (1000), Cond.constantLong RX5 151 (1000000), Cond.fieldLink RX5 153 "TrueLitresModel" "proofFlow" "I", Cond.fieldLink RX5 156 "TrueLitresModel" "vessel" "I", Cond.fieldLink RX5 159 "TrueLitresModel" "runs" "I", Cond.methodLink RL 41 yX4_run]
def wsL_law_r11 : List Cond := [Cond.instanceMethod yX4_run, Cond.selects RX4 yX4_run yX4_run, Cond.code yX4_run cX4_run 6 (some .long), Cond.constantLong RX4 106 (-9223372036854775808), Cond.fieldLink RX4 108 "TrueLitres$Proof" "isBegun" "Z", Cond.fieldLink RX4 112 "TrueLitres$Proof" "runCount" "I", Cond.constantLong RX4 115 (1000), Cond.fieldLink RX4 117 "TrueLitres$Proof" "counts" "[J", Cond.methodLink RL 45 yX5_run, Cond.instanceMethod yX5_run, Cond.selects RX5 yX5_run yX5_run, Cond.code yX5_run cX5_run 4 (some .long), Cond.methodLink RX5 92 yX5_lost, Cond.static yX5_lost, Cond.code yX5_lost cX5_lost 0 (some .long), Cond.constantLong RX5 87 (-9223372036854775808), Cond.methodLink RL 46 yX4_proving, Cond.instanceMethod yX4_proving, Cond.selects RX4 yX4_proving yX4_proving, Cond.code yX4_proving cX4_proving 2 (some .int), Cond.fieldLink RX4 124 "TrueLitres$Proof" "meter" "I", Cond.fieldLink RX4 127 "TrueLitres$Proof" "flow" "I", Cond.methodLink RX4 121 yX1_isGood, Cond.instanceMethod yX1_isGood]
def wsL_law_r12 : List Cond := [Cond.selects RX1 yX1_isGood yX1_isGood, Cond.code yX1_isGood cX1_isGood 6 (some .boolean), Cond.methodLink RX1 32 Lib.MathLoose.min_long.x, Cond.static Lib.MathLoose.min_long.x, Cond.initialized "java/lang/Math", Cond.code Lib.MathLoose.min_long.x Lib.MathLoose.min_long.code 4 (some .long), Cond.methodLink RX1 38 Lib.MathLoose.max_long.x, Cond.static Lib.MathLoose.max_long.x, Cond.code Lib.MathLoose.max_long.x Lib.MathLoose.max_long.code 4 (some .long), Cond.constantLong RX1 41 (2000), Cond.methodLink RL 49 yX5_proving, Cond.instanceMethod yX5_proving, Cond.selects RX5 yX5_proving yX5_proving, Cond.code yX5_proving cX5_proving 2 (some .int), Cond.constantLong RX5 164 (3), Cond.methodLink RX5 166 yX5_isGood, Cond.instanceMethod yX5_isGood, Cond.selects RX5 yX5_isGood yX5_isGood, Cond.code yX5_isGood cX5_isGood 6 (some .boolean), Cond.constantLong RX5 162 (2000), Cond.methodLink RL 50 yX4_accept, Cond.instanceMethod yX4_accept, Cond.selects RX4 yX4_accept yX4_accept, Cond.code yX4_accept cX4_accept 5 (some .int)]
def wsL_law_r13 : List Cond := [Cond.fieldLink RX4 130 "TrueLitres$Meter" "k" "I", Cond.constantLong RX4 137 (95000), Cond.constantLong RX4 139 (105000), Cond.methodLink RX4 133 yX1_factorOf, Cond.instanceMethod yX1_factorOf, Cond.selects RX1 yX1_factorOf yX1_factorOf, Cond.code yX1_factorOf cX1_factorOf 5 (some .long), Cond.methodLink RX1 43 Lib.Math.max.name, Cond.static Lib.Math.max.name, Cond.code Lib.Math.max.name Lib.Math.max.code 2 (some .int), Cond.constantLong RX1 46 (500), Cond.static yX4_rounded, Cond.code yX4_rounded cX4_rounded 4 (some .long), Cond.constantLong RX4 285 (2), Cond.methodLink RL 53 yX5_accept, Cond.instanceMethod yX5_accept, Cond.selects RX5 yX5_accept yX5_accept, Cond.code yX5_accept cX5_accept 6 (some .int), Cond.constantLong RX5 170 (500), Cond.methodLink RX5 172 yX5_rounded, Cond.static yX5_rounded, Cond.code yX5_rounded cX5_rounded 4 (some .long), Cond.constantLong RX5 96 (2), Cond.methodLink RL 54 yX4_ticket]
def wsL_law_r14 : List Cond := [Cond.instanceMethod yX4_ticket, Cond.selects RX4 yX4_ticket yX4_ticket, Cond.code yX4_ticket cX4_ticket 5 (some .int), Cond.constant RX4 141 (10000000), Cond.instantiable RX3 8, Cond.initialized RX3, Cond.methodLink RX4 142 yX4_isShut, Cond.instanceMethod yX4_isShut, Cond.selects RX4 yX4_isShut yX4_isShut, Cond.code yX4_isShut cX4_isShut 2 (some .boolean), Cond.methodLink RX4 145 yX3_init, Cond.instanceMethod yX3_init, Cond.code yX3_init cX3_init 6 none, Cond.methodLink RX3 3 objectInit, Cond.fieldLink RX3 9 "TrueLitres$Ticket" "kind" "I", Cond.fieldLink RX3 15 "TrueLitres$Ticket" "replacedBy" "I", Cond.fieldLink RX3 18 "TrueLitres$Ticket" "inPlaceOf" "I", Cond.fieldLink RX3 21 "TrueLitres$Ticket" "meter" "I", Cond.fieldLink RX3 24 "TrueLitres$Ticket" "day" "I", Cond.fieldLink RX3 27 "TrueLitres$Ticket" "pulses" "I", Cond.fieldLink RX3 30 "TrueLitres$Ticket" "flow" "I", Cond.fieldLink RX3 33 "TrueLitres$Ticket" "factor" "I", Cond.methodLink RX4 148 yX4_keep, Cond.instanceMethod yX4_keep]
def wsL_law_r15 : List Cond := [Cond.selects RX4 yX4_keep yX4_keep, Cond.code yX4_keep cX4_keep 2 none, Cond.methodLink RL 57 yX5_ticket, Cond.instanceMethod yX5_ticket, Cond.selects RX5 yX5_ticket yX5_ticket, Cond.code yX5_ticket cX5_ticket 5 (some .int), Cond.constantLong RX5 179 (10000000), Cond.fieldLink RX5 176 "TrueLitresModel" "tickets" "I", Cond.methodLink RX5 181 yX5_isShut, Cond.instanceMethod yX5_isShut, Cond.selects RX5 yX5_isShut yX5_isShut, Cond.code yX5_isShut cX5_isShut 2 (some .boolean), Cond.methodLink RX5 184 yX5_add, Cond.instanceMethod yX5_add, Cond.selects RX5 yX5_add yX5_add, Cond.code yX5_add cX5_add 7 (some .int), Cond.methodLink RL 58 yX4_right, Cond.instanceMethod yX4_right, Cond.selects RX4 yX4_right yX4_right, Cond.code yX4_right cX4_right 3 (some .int), Cond.fieldLink RX4 158 "TrueLitres$Ticket" "day" "I", Cond.methodLink RX4 152 yX4_isTicket, Cond.instanceMethod yX4_isTicket, Cond.selects RX4 yX4_isTicket yX4_isTicket]
def wsL_law_r16 : List Cond := [Cond.code yX4_isTicket cX4_isTicket 2 (some .boolean), Cond.methodLink RX4 155 yX3_isReplaced, Cond.instanceMethod yX3_isReplaced, Cond.selects RX3 yX3_isReplaced yX3_isReplaced, Cond.code yX3_isReplaced cX3_isReplaced 1 (some .boolean), Cond.methodLink RX4 161 yX4_replace, Cond.instanceMethod yX4_replace, Cond.selects RX4 yX4_replace yX4_replace, Cond.code yX4_replace cX4_replace 6 none, Cond.fieldLink RX4 178 "TrueLitres$Ticket" "meter" "I", Cond.fieldLink RX4 179 "TrueLitres$Ticket" "flow" "I", Cond.fieldLink RX4 175 "TrueLitres$Ticket" "kind" "I", Cond.fieldLink RX4 186 "TrueLitres$Ticket" "inPlaceOf" "I", Cond.fieldLink RX4 183 "TrueLitres$Ticket" "replacedBy" "I", Cond.methodLink RX4 287 yX4_factorNow, Cond.instanceMethod yX4_factorNow, Cond.selects RX4 yX4_factorNow yX4_factorNow, Cond.code yX4_factorNow cX4_factorNow 2 (some .int), Cond.methodLink RL 61 yX5_right, Cond.instanceMethod yX5_right, Cond.selects RX5 yX5_right yX5_right, Cond.code yX5_right cX5_right 3 (some .int), Cond.methodLink RX5 188 yX5_noTicket, Cond.instanceMethod yX5_noTicket]
def wsL_law_r17 : List Cond := [Cond.selects RX5 yX5_noTicket yX5_noTicket, Cond.code yX5_noTicket cX5_noTicket 2 (some .boolean), Cond.methodLink RL 62 yX4_remake, Cond.instanceMethod yX4_remake, Cond.selects RX4 yX4_remake yX4_remake, Cond.code yX4_remake cX4_remake 7 (some .int), Cond.fieldLink RX4 172 "TrueLitres$Ticket" "pulses" "I", Cond.methodLink RX4 164 yX4_areDays, Cond.static yX4_areDays, Cond.code yX4_areDays cX4_areDays 2 (some .boolean), Cond.methodLink RX4 168 yX4_isToRemake, Cond.instanceMethod yX4_isToRemake, Cond.selects RX4 yX4_isToRemake yX4_isToRemake, Cond.code yX4_isToRemake cX4_isToRemake 5 (some .boolean), Cond.fieldLink RX4 180 "TrueLitres$Ticket" "factor" "I", Cond.methodLink RX4 290 yX3_counts, Cond.instanceMethod yX3_counts, Cond.selects RX3 yX3_counts yX3_counts, Cond.code yX3_counts cX3_counts 4 (some .boolean), Cond.methodLink RX3 40 yX3_isReplaced, Cond.methodLink RL 65 yX5_remake, Cond.instanceMethod yX5_remake, Cond.selects RX5 yX5_remake yX5_remake, Cond.code yX5_remake cX5_remake 8 (some .int)]
def wsL_law_r18 : List Cond := [Cond.methodLink RX5 191 yX5_areDays, Cond.static yX5_areDays, Cond.code yX5_areDays cX5_areDays 2 (some .boolean), Cond.methodLink RX5 195 yX5_isStale, Cond.instanceMethod yX5_isStale, Cond.selects RX5 yX5_isStale yX5_isStale, Cond.code yX5_isStale cX5_isStale 5 (some .boolean), Cond.methodLink RL 66 yX4_ticketed, Cond.instanceMethod yX4_ticketed, Cond.selects RX4 yX4_ticketed yX4_ticketed, Cond.code yX4_ticketed cX4_ticketed 4 (some .int), Cond.methodLink RL 69 yX5_ticketed, Cond.instanceMethod yX5_ticketed, Cond.selects RX5 yX5_ticketed yX5_ticketed, Cond.code yX5_ticketed cX5_ticketed 3 (some .int), Cond.methodLink RL 70 yX4_volume, Cond.instanceMethod yX4_volume, Cond.selects RX4 yX4_volume yX4_volume, Cond.code yX4_volume cX4_volume 2 (some .long), Cond.methodLink RX4 189 yX4_volumeOf, Cond.instanceMethod yX4_volumeOf, Cond.selects RX4 yX4_volumeOf yX4_volumeOf, Cond.code yX4_volumeOf cX4_volumeOf 2 (some .long), Cond.constantLong RX4 292 (10)]
def wsL_law_r19 : List Cond := [Cond.methodLink RX4 294 yX4_rounded, Cond.methodLink RL 74 yX5_volume, Cond.instanceMethod yX5_volume, Cond.selects RX5 yX5_volume yX5_volume, Cond.code yX5_volume cX5_volume 2 (some .long), Cond.methodLink RX5 201 yX5_volumeOf, Cond.instanceMethod yX5_volumeOf, Cond.selects RX5 yX5_volumeOf yX5_volumeOf, Cond.code yX5_volumeOf cX5_volumeOf 2 (some .long), Cond.constantLong RX5 199 (10), Cond.methodLink RL 75 yX4_sum, Cond.instanceMethod yX4_sum, Cond.selects RX4 yX4_sum yX4_sum, Cond.code yX4_sum cX4_sum 4 (some .long), Cond.methodLink RX4 193 yX4_sumOf, Cond.instanceMethod yX4_sumOf, Cond.selects RX4 yX4_sumOf yX4_sumOf, Cond.code yX4_sumOf cX4_sumOf 7 (some .long), Cond.methodLink RL 78 yX5_sum, Cond.instanceMethod yX5_sum, Cond.selects RX5 yX5_sum yX5_sum, Cond.code yX5_sum cX5_sum 4 (some .long), Cond.methodLink RX5 205 yX5_sumOf, Cond.instanceMethod yX5_sumOf]
def wsL_law_r20 : List Cond := [Cond.selects RX5 yX5_sumOf yX5_sumOf, Cond.code yX5_sumOf cX5_sumOf 7 (some .long), Cond.methodLink RL 79 yX4_shut, Cond.instanceMethod yX4_shut, Cond.selects RX4 yX4_shut yX4_shut, Cond.code yX4_shut cX4_shut 3 (some .int), Cond.methodLink RL 82 yX5_shut, Cond.instanceMethod yX5_shut, Cond.selects RX5 yX5_shut yX5_shut, Cond.code yX5_shut cX5_shut 3 (some .int), Cond.methodLink RL 83 yX4_line, Cond.instanceMethod yX4_line, Cond.selects RX4 yX4_line yX4_line, Cond.code yX4_line cX4_line 5 (some .int), Cond.fieldLink RX4 200 "TrueLitres$Meter" "hows" "[I", Cond.methodLink RX4 197 yX4_isLine, Cond.static yX4_isLine, Cond.code yX4_isLine cX4_isLine 1 (some .boolean), Cond.methodLink RL 86 yX5_line, Cond.instanceMethod yX5_line, Cond.selects RX5 yX5_line yX5_line, Cond.code yX5_line cX5_line 5 (some .int), Cond.constantLong RX5 212 (-1), Cond.methodLink RX5 209 yX5_noLine]
def wsL_law_r21 : List Cond := [Cond.static yX5_noLine, Cond.code yX5_noLine cX5_noLine 1 (some .boolean), Cond.methodLink RL 87 yX4_lined, Cond.instanceMethod yX4_lined, Cond.selects RX4 yX4_lined yX4_lined, Cond.code yX4_lined cX4_lined 3 (some .int), Cond.methodLink RL 90 yX5_lined, Cond.instanceMethod yX5_lined, Cond.selects RX5 yX5_lined yX5_lined, Cond.code yX5_lined cX5_lined 3 (some .int), Cond.methodLink RL 91 yX4_end, Cond.instanceMethod yX4_end, Cond.selects RX4 yX4_end yX4_end, Cond.code yX4_end cX4_end 4 (some .int), Cond.fieldLink RX4 203 "TrueLitres$Meter" "end" "I", Cond.methodLink RL 94 yX5_end, Cond.instanceMethod yX5_end, Cond.selects RX5 yX5_end yX5_end, Cond.code yX5_end cX5_end 4 (some .int), Cond.constantLong RX5 214 (5000), Cond.methodLink RL 95 yX4_balance, Cond.instanceMethod yX4_balance, Cond.selects RX4 yX4_balance yX4_balance, Cond.code yX4_balance cX4_balance 5 (some .long)]
def wsL_law_r22 : List Cond := [Cond.methodLink RX4 206 yX4_imbalanceOf, Cond.instanceMethod yX4_imbalanceOf, Cond.selects RX4 yX4_imbalanceOf yX4_imbalanceOf, Cond.code yX4_imbalanceOf cX4_imbalanceOf 7 (some .long), Cond.methodLink RX4 209 yX4_endsOf, Cond.instanceMethod yX4_endsOf, Cond.selects RX4 yX4_endsOf yX4_endsOf, Cond.code yX4_endsOf cX4_endsOf 7 (some .long), Cond.constantLong RX4 297 (100000), Cond.methodLink RL 99 yX5_balance, Cond.instanceMethod yX5_balance, Cond.selects RX5 yX5_balance yX5_balance, Cond.code yX5_balance cX5_balance 5 (some .long), Cond.methodLink RX5 216 yX5_imbalance, Cond.instanceMethod yX5_imbalance, Cond.selects RX5 yX5_imbalance yX5_imbalance, Cond.code yX5_imbalance cX5_imbalance 7 (some .long), Cond.methodLink RX5 219 yX5_endsOf, Cond.instanceMethod yX5_endsOf, Cond.selects RX5 yX5_endsOf yX5_endsOf, Cond.code yX5_endsOf cX5_endsOf 7 (some .long), Cond.methodLink RL 100 yX4_beyond, Cond.instanceMethod yX4_beyond, Cond.selects RX4 yX4_beyond yX4_beyond]
def wsL_law_r23 : List Cond := [Cond.code yX4_beyond cX4_beyond 3 (some .int), Cond.methodLink RX4 212 yX4_linesBeyond, Cond.instanceMethod yX4_linesBeyond, Cond.selects RX4 yX4_linesBeyond yX4_linesBeyond, Cond.code yX4_linesBeyond cX4_linesBeyond 5 (some .int), Cond.methodLink RX4 299 Lib.MathLoose.abs_long.x, Cond.static Lib.MathLoose.abs_long.x, Cond.code Lib.MathLoose.abs_long.x Lib.MathLoose.abs_long.code 2 (some .long), Cond.methodLink RL 103 yX5_beyond, Cond.instanceMethod yX5_beyond, Cond.selects RX5 yX5_beyond yX5_beyond, Cond.code yX5_beyond cX5_beyond 3 (some .int), Cond.methodLink RX5 222 yX5_beyondOf, Cond.instanceMethod yX5_beyondOf, Cond.selects RX5 yX5_beyondOf yX5_beyondOf, Cond.code yX5_beyondOf cX5_beyondOf 7 (some .int), Cond.methodLink RL 104 yX4_explains, Cond.instanceMethod yX4_explains, Cond.selects RX4 yX4_explains yX4_explains, Cond.code yX4_explains cX4_explains 15 (some .long), Cond.constantLong RX4 215 (-1152921504606846976), Cond.constantLong RX4 217 (1152921504606846976), Cond.methodLink RX4 219 Lib.MathLoose.max_long.x, Cond.methodLink RX4 225 Lib.MathLoose.min_long.x]
def wsL_law_r24 : List Cond := [Cond.methodLink RL 107 yX5_explains, Cond.instanceMethod yX5_explains, Cond.selects RX5 yX5_explains yX5_explains, Cond.code yX5_explains cX5_explains 18 (some .long), Cond.constantLong RX5 226 (-4000000000000000000), Cond.constantLong RX5 228 (4000000000000000000), Cond.methodLink RL 108 yX4_sheet, Cond.instanceMethod yX4_sheet, Cond.selects RX4 yX4_sheet yX4_sheet, Cond.code yX4_sheet cX4_sheet 4 (some .int), Cond.methodLink RX4 228 yX4_isSheet, Cond.static yX4_isSheet, Cond.code yX4_isSheet cX4_isSheet 1 (some .boolean), Cond.methodLink RX4 231 yX4_isLane, Cond.static yX4_isLane, Cond.code yX4_isLane cX4_isLane 1 (some .boolean), Cond.methodLink RX4 234 yX4_fail, Cond.instanceMethod yX4_fail, Cond.selects RX4 yX4_fail yX4_fail, Cond.code yX4_fail cX4_fail 2 (some .int), Cond.methodLink RX4 237 yX2_renew, Cond.instanceMethod yX2_renew, Cond.selects RX2 yX2_renew yX2_renew, Cond.code yX2_renew cX2_renew 3 none]
def wsL_law_r25 : List Cond := [Cond.methodLink RX2 26 yJ7_fill_53178, Cond.static yJ7_fill_53178, Cond.initialized RJ7, Cond.code yJ7_fill_53178 cJ7_fill_53178 4 none, Cond.methodLink RL 111 yX5_sheet, Cond.instanceMethod yX5_sheet, Cond.selects RX5 yX5_sheet yX5_sheet, Cond.code yX5_sheet cX5_sheet 5 (some .int), Cond.methodLink RX5 230 yX5_noSheet, Cond.static yX5_noSheet, Cond.code yX5_noSheet cX5_noSheet 1 (some .boolean), Cond.methodLink RX5 233 yX5_refused, Cond.instanceMethod yX5_refused, Cond.selects RX5 yX5_refused yX5_refused, Cond.code yX5_refused cX5_refused 2 (some .int), Cond.fieldLink RX5 89 "TrueLitresModel" "fault" "I", Cond.methodLink RX5 237 yX5_failed, Cond.instanceMethod yX5_failed, Cond.selects RX5 yX5_failed yX5_failed, Cond.code yX5_failed cX5_failed 2 (some .int), Cond.methodLink RL 112 yX4_lose, Cond.instanceMethod yX4_lose, Cond.selects RX4 yX4_lose yX4_lose, Cond.code yX4_lose cX4_lose 3 (some .int)]
def wsL_law_r26 : List Cond := [Cond.fieldLink RX4 241 "TrueLitres$Sheet" "hasRow" "Z", Cond.methodLink RL 115 yX5_lose, Cond.instanceMethod yX5_lose, Cond.selects RX5 yX5_lose yX5_lose, Cond.code yX5_lose cX5_lose 3 (some .int), Cond.methodLink RL 116 yX4_put, Cond.instanceMethod yX4_put, Cond.selects RX4 yX4_put yX4_put, Cond.code yX4_put cX4_put 4 (some .int), Cond.methodLink RX4 244 yX2_hasCell, Cond.instanceMethod yX2_hasCell, Cond.selects RX2 yX2_hasCell yX2_hasCell, Cond.code yX2_hasCell cX2_hasCell 2 (some .boolean), Cond.methodLink RX4 247 yX2_fillIn, Cond.instanceMethod yX2_fillIn, Cond.selects RX2 yX2_fillIn yX2_fillIn, Cond.code yX2_fillIn cX2_fillIn 3 none, Cond.methodLink RL 119 yX5_put, Cond.instanceMethod yX5_put, Cond.selects RX5 yX5_put yX5_put, Cond.code yX5_put cX5_put 4 (some .int), Cond.methodLink RX5 240 yX5_noCell, Cond.instanceMethod yX5_noCell, Cond.selects RX5 yX5_noCell yX5_noCell]
def wsL_law_r27 : List Cond := [Cond.code yX5_noCell cX5_noCell 3 (some .int), Cond.methodLink RL 120 yX4_cell, Cond.instanceMethod yX4_cell, Cond.selects RX4 yX4_cell yX4_cell, Cond.code yX4_cell cX4_cell 4 (some .long), Cond.fieldLink RX4 253 "TrueLitres$Sheet" "cells" "[I", Cond.methodLink RX4 250 yX2_faultAs, Cond.instanceMethod yX2_faultAs, Cond.selects RX2 yX2_faultAs yX2_faultAs, Cond.code yX2_faultAs cX2_faultAs 2 (some .int), Cond.methodLink RL 123 yX5_cell, Cond.instanceMethod yX5_cell, Cond.selects RX5 yX5_cell yX5_cell, Cond.code yX5_cell cX5_cell 4 (some .long), Cond.methodLink RX5 243 yX5_failedLong, Cond.instanceMethod yX5_failedLong, Cond.selects RX5 yX5_failedLong yX5_failedLong, Cond.code yX5_failedLong cX5_failedLong 2 (some .long), Cond.methodLink RL 124 yX4_copy, Cond.instanceMethod yX4_copy, Cond.selects RX4 yX4_copy yX4_copy, Cond.code yX4_copy cX4_copy 8 (some .int), Cond.fieldLink RX4 256 "TrueLitres$Sheet" "lane" "I", Cond.methodLink RX4 262 arraycopyName]
def wsL_law_r28 : List Cond := [Cond.native arraycopyName, Cond.static arraycopyName, Cond.initialized "java/lang/System", Cond.methodLink RX4 259 yX2_hasCells, Cond.instanceMethod yX2_hasCells, Cond.selects RX2 yX2_hasCells yX2_hasCells, Cond.code yX2_hasCells cX2_hasCells 3 (some .boolean), Cond.methodLink RL 128 yX5_copy, Cond.instanceMethod yX5_copy, Cond.selects RX5 yX5_copy yX5_copy, Cond.code yX5_copy cX5_copy 7 (some .int), Cond.methodLink RX5 246 yX5_isBeyond, Cond.static yX5_isBeyond, Cond.code yX5_isBeyond cX5_isBeyond 3 (some .boolean), Cond.methodLink RL 129 yX4_watch, Cond.instanceMethod yX4_watch, Cond.selects RX4 yX4_watch yX4_watch, Cond.code yX4_watch cX4_watch 7 (some .int), Cond.methodLink RX4 268 yX2_watched, Cond.instanceMethod yX2_watched, Cond.selects RX2 yX2_watched yX2_watched, Cond.code yX2_watched cX2_watched 11 (some .int), Cond.methodLink RL 132 yX5_watch, Cond.instanceMethod yX5_watch]
def wsL_law_r29 : List Cond := [Cond.selects RX5 yX5_watch yX5_watch, Cond.code yX5_watch cX5_watch 14 (some .int), Cond.methodLink RL 133 yX4_tell, Cond.instanceMethod yX4_tell, Cond.selects RX4 yX4_tell yX4_tell, Cond.code yX4_tell cX4_tell 2 (some .int), Cond.methodLink RX4 272 yX4_leave, Cond.instanceMethod yX4_leave, Cond.selects RX4 yX4_leave yX4_leave, Cond.code yX4_leave cX4_leave 2 none, Cond.methodLink RX4 275 yX4_tellTicket, Cond.instanceMethod yX4_tellTicket, Cond.selects RX4 yX4_tellTicket yX4_tellTicket, Cond.code yX4_tellTicket cX4_tellTicket 2 (some .int), Cond.methodLink RL 136 yX5_tell, Cond.instanceMethod yX5_tell, Cond.selects RX5 yX5_tell yX5_tell, Cond.code yX5_tell cX5_tell 2 (some .int), Cond.methodLink RX5 253 yX5_traced, Cond.instanceMethod yX5_traced, Cond.selects RX5 yX5_traced yX5_traced, Cond.code yX5_traced cX5_traced 2 none, Cond.fieldLink RX5 250 "TrueLitresModel" "trace" "I", Cond.methodLink RL 137 yX4_worth]
def wsL_law_r30 : List Cond := [Cond.instanceMethod yX4_worth, Cond.selects RX4 yX4_worth yX4_worth, Cond.code yX4_worth cX4_worth 2 (some .int), Cond.constantLong RX4 279 (2147483647), Cond.methodLink RL 140 yX5_worth, Cond.instanceMethod yX5_worth, Cond.selects RX5 yX5_worth yX5_worth, Cond.code yX5_worth cX5_worth 4 (some .int), Cond.constantLong RX5 256 (2147483647), Cond.constant RX5 258 (2147483647), Cond.methodLink RL 141 yX4_as, Cond.instanceMethod yX4_as, Cond.selects RX4 yX4_as yX4_as, Cond.code yX4_as cX4_as 3 (some .int), Cond.methodLink RL 144 yX5_as, Cond.instanceMethod yX5_as, Cond.selects RX5 yX5_as yX5_as, Cond.code yX5_as cX5_as 3 (some .int), Cond.methodLink RL 145 yX4_trace, Cond.instanceMethod yX4_trace, Cond.selects RX4 yX4_trace yX4_trace, Cond.code yX4_trace cX4_trace 1 (some .int), Cond.methodLink RL 149 yX5_trace, Cond.instanceMethod yX5_trace]
def wsL_law_r31 : List Cond := [Cond.selects RX5 yX5_trace yX5_trace, Cond.code yX5_trace cX5_trace 1 (some .int), Cond.methodLink RL 150 yX4_fault, Cond.instanceMethod yX4_fault, Cond.selects RX4 yX4_fault yX4_fault, Cond.code yX4_fault cX4_fault 1 (some .int), Cond.methodLink RL 153 yX5_fault, Cond.instanceMethod yX5_fault, Cond.selects RX5 yX5_fault yX5_fault, Cond.code yX5_fault cX5_fault 1 (some .int), Cond.methodLink RL 154 yX4_told, Cond.instanceMethod yX4_told, Cond.selects RX4 yX4_told yX4_told, Cond.code yX4_told cX4_told 2 (some .int), Cond.methodLink RX4 281 yX4_countNotReplaced, Cond.instanceMethod yX4_countNotReplaced, Cond.selects RX4 yX4_countNotReplaced yX4_countNotReplaced, Cond.code yX4_countNotReplaced cX4_countNotReplaced 3 (some .int), Cond.methodLink RL 157 yX5_told, Cond.instanceMethod yX5_told, Cond.selects RX5 yX5_told yX5_told, Cond.code yX5_told cX5_told 4 (some .int), Cond.constantLong RX5 259 (9)]
def wsL_law : List Cond := (wsL_law_r1 ++ (wsL_law_r2 ++ (wsL_law_r3 ++ (wsL_law_r4 ++ (wsL_law_r5 ++ (wsL_law_r6 ++ (wsL_law_r7 ++ (wsL_law_r8 ++ (wsL_law_r9 ++ (wsL_law_r10 ++ (wsL_law_r11 ++ (wsL_law_r12 ++ (wsL_law_r13 ++ (wsL_law_r14 ++ (wsL_law_r15 ++ (wsL_law_r16 ++ (wsL_law_r17 ++ (wsL_law_r18 ++ (wsL_law_r19 ++ (wsL_law_r20 ++ (wsL_law_r21 ++ (wsL_law_r22 ++ (wsL_law_r23 ++ (wsL_law_r24 ++ (wsL_law_r25 ++ (wsL_law_r26 ++ (wsL_law_r27 ++ (wsL_law_r28 ++ (wsL_law_r29 ++ (wsL_law_r30 ++ wsL_law_r31)))))))))))))))))))))))))))))) ++ wsX40 ++ wsX50 ++ wsX10 ++ wsX20 ++ wsX00 ++ wsX30 ++ ([] : List Cond)
set_option maxRecDepth 20000 in
theorem wsL_law_in : ∀ w ∈ wsL_law, w ∈ lw_tbl := fun w h => (goodIn_p wsL_law [50, 53, 60, 94, 558, 144, 148, 152, 663, 667, 185, 189, 192, 195, 201, 205, 209, 671, 675, 678, 682, 686, 692, 213, 217, 221, 226, 696, 700, 704, 708, 230, 234, 713, 238, 242, 717, 246, 251, 721, 255, 727, 730, 261, 265, 268, 271, 735, 740, 276, 280, 283, 287, 745, 749, 294, 299, 303, 341, 754, 759, 763, 345, 349, 353, 357, 361, 767, 771, 365, 368, 372, 376, 775, 778, 782, 382, 786, 386, 390, 790, 794, 396, 400, 799, 803, 404, 807, 408, 411, 811, 814, 415, 819, 419, 823, 423, 427, 431, 828, 832, 836, 436, 440, 443, 840, 844, 447, 848, 455, 458, 461, 465, 469, 472, 854, 857, 861, 865, 476, 869, 480, 484, 489, 873, 877, 493, 497, 881, 885, 501, 505, 889, 892, 512, 516, 896, 520, 524, 528, 900, 904, 532, 908, 537, 914, 541, 918, 545, 922, 549, 553, 926] (by decide +kernel) (by decide +kernel) w h).1
theorem inlX0 : ∀ w ∈ wsX00, w ∈ wsL_law := fun _ h => List.mem_append_left _ (List.mem_append_left _ (List.mem_append_right _ h))
theorem inlX1 : ∀ w ∈ wsX10, w ∈ wsL_law := fun _ h => List.mem_append_left _ (List.mem_append_left _ (List.mem_append_left _ (List.mem_append_left _ (List.mem_append_right _ h))))
theorem inlX2 : ∀ w ∈ wsX20, w ∈ wsL_law := fun _ h => List.mem_append_left _ (List.mem_append_left _ (List.mem_append_left _ (List.mem_append_right _ h)))
theorem inlX3 : ∀ w ∈ wsX30, w ∈ wsL_law := fun _ h => List.mem_append_left _ (List.mem_append_right _ h)
theorem inlX4 : ∀ w ∈ wsX40, w ∈ wsL_law := fun _ h => List.mem_append_left _ (List.mem_append_left _ (List.mem_append_left _ (List.mem_append_left _ (List.mem_append_left _ (List.mem_append_left _ (List.mem_append_right _ h))))))
theorem inlX5 : ∀ w ∈ wsX50, w ∈ wsL_law := fun _ h => List.mem_append_left _ (List.mem_append_left _ (List.mem_append_left _ (List.mem_append_left _ (List.mem_append_left _ (List.mem_append_right _ h)))))
abbrev vwCl : List vw_C := [(RX0, TX0, 7), (RX1, TX1, 6), (RX2, TX2, 4), (RX3, TX3, 8), (RX4, TX4, 9), (RX5, TX5, 33)]
