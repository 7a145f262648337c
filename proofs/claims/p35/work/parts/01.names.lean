-- ===== PART A: goes FIRST, ahead of the names: the tables' words, and 'selects' of the private methods out of them =====
/-- a private method of a class that the tables say can be made, by its rows of tables_1 -/
def lw_okq (q : MethodName × Nat) : Prop := (q.1.cls ≠ "java/lang/invoke/MethodHandle" ∧ q.1.cls ≠ "java/lang/invoke/VarHandle") ∧ Cond.instantiable q.1.cls q.2 ∈ tables_1 ∧ Cond.privateMethod q.1 ∈ tables_1 ∧ Cond.instanceMethod q.1 ∈ tables_1
theorem lw_p0 : lw_okq (⟨"TrueLitres", "isMeter", "(I)Z"⟩, 9) := ⟨⟨by decide +kernel, by decide +kernel⟩, List.mem_of_getElem? (i := 11) (by decide +kernel), List.mem_of_getElem? (i := 151) (by decide +kernel), List.mem_of_getElem? (i := 152) (by decide +kernel)⟩
theorem lw_p1 : lw_okq (⟨"TrueLitres", "isShut", "(I)Z"⟩, 9) := ⟨⟨by decide +kernel, by decide +kernel⟩, List.mem_of_getElem? (i := 11) (by decide +kernel), List.mem_of_getElem? (i := 261) (by decide +kernel), List.mem_of_getElem? (i := 262) (by decide +kernel)⟩
theorem lw_p2 : lw_okq (⟨"TrueLitres", "keep", "(LTrueLitres$Ticket;)V"⟩, 9) := ⟨⟨by decide +kernel, by decide +kernel⟩, List.mem_of_getElem? (i := 11) (by decide +kernel), List.mem_of_getElem? (i := 303) (by decide +kernel), List.mem_of_getElem? (i := 304) (by decide +kernel)⟩
theorem lw_p3 : lw_okq (⟨"TrueLitres", "isTicket", "(I)Z"⟩, 9) := ⟨⟨by decide +kernel, by decide +kernel⟩, List.mem_of_getElem? (i := 11) (by decide +kernel), List.mem_of_getElem? (i := 311) (by decide +kernel), List.mem_of_getElem? (i := 312) (by decide +kernel)⟩
theorem lw_p4 : lw_okq (⟨"TrueLitres", "replace", "(III)V"⟩, 9) := ⟨⟨by decide +kernel, by decide +kernel⟩, List.mem_of_getElem? (i := 11) (by decide +kernel), List.mem_of_getElem? (i := 319) (by decide +kernel), List.mem_of_getElem? (i := 320) (by decide +kernel)⟩
theorem lw_p5 : lw_okq (⟨"TrueLitres", "factorNow", "(LTrueLitres$Ticket;)I"⟩, 9) := ⟨⟨by decide +kernel, by decide +kernel⟩, List.mem_of_getElem? (i := 11) (by decide +kernel), List.mem_of_getElem? (i := 323) (by decide +kernel), List.mem_of_getElem? (i := 324) (by decide +kernel)⟩
theorem lw_p6 : lw_okq (⟨"TrueLitres", "isToRemake", "(LTrueLitres$Ticket;III)Z"⟩, 9) := ⟨⟨by decide +kernel, by decide +kernel⟩, List.mem_of_getElem? (i := 11) (by decide +kernel), List.mem_of_getElem? (i := 334) (by decide +kernel), List.mem_of_getElem? (i := 335) (by decide +kernel)⟩
theorem lw_p7 : lw_okq (⟨"TrueLitres", "volumeOf", "(LTrueLitres$Ticket;)J"⟩, 9) := ⟨⟨by decide +kernel, by decide +kernel⟩, List.mem_of_getElem? (i := 11) (by decide +kernel), List.mem_of_getElem? (i := 352) (by decide +kernel), List.mem_of_getElem? (i := 353) (by decide +kernel)⟩
theorem lw_p8 : lw_okq (⟨"TrueLitres", "sumOf", "(III)J"⟩, 9) := ⟨⟨by decide +kernel, by decide +kernel⟩, List.mem_of_getElem? (i := 11) (by decide +kernel), List.mem_of_getElem? (i := 362) (by decide +kernel), List.mem_of_getElem? (i := 363) (by decide +kernel)⟩
theorem lw_p9 : lw_okq (⟨"TrueLitres", "imbalanceOf", "(III)J"⟩, 9) := ⟨⟨by decide +kernel, by decide +kernel⟩, List.mem_of_getElem? (i := 11) (by decide +kernel), List.mem_of_getElem? (i := 389) (by decide +kernel), List.mem_of_getElem? (i := 390) (by decide +kernel)⟩
theorem lw_p10 : lw_okq (⟨"TrueLitres", "endsOf", "(III)J"⟩, 9) := ⟨⟨by decide +kernel, by decide +kernel⟩, List.mem_of_getElem? (i := 11) (by decide +kernel), List.mem_of_getElem? (i := 393) (by decide +kernel), List.mem_of_getElem? (i := 394) (by decide +kernel)⟩
theorem lw_p11 : lw_okq (⟨"TrueLitres", "linesBeyond", "(II)I"⟩, 9) := ⟨⟨by decide +kernel, by decide +kernel⟩, List.mem_of_getElem? (i := 11) (by decide +kernel), List.mem_of_getElem? (i := 402) (by decide +kernel), List.mem_of_getElem? (i := 403) (by decide +kernel)⟩
theorem lw_p12 : lw_okq (⟨"TrueLitres", "fail", "(I)I"⟩, 9) := ⟨⟨by decide +kernel, by decide +kernel⟩, List.mem_of_getElem? (i := 11) (by decide +kernel), List.mem_of_getElem? (i := 427) (by decide +kernel), List.mem_of_getElem? (i := 428) (by decide +kernel)⟩
theorem lw_p13 : lw_okq (⟨"TrueLitres", "leave", "(I)V"⟩, 9) := ⟨⟨by decide +kernel, by decide +kernel⟩, List.mem_of_getElem? (i := 11) (by decide +kernel), List.mem_of_getElem? (i := 486) (by decide +kernel), List.mem_of_getElem? (i := 487) (by decide +kernel)⟩
theorem lw_p14 : lw_okq (⟨"TrueLitres", "tellTicket", "(LTrueLitres$Ticket;)I"⟩, 9) := ⟨⟨by decide +kernel, by decide +kernel⟩, List.mem_of_getElem? (i := 11) (by decide +kernel), List.mem_of_getElem? (i := 490) (by decide +kernel), List.mem_of_getElem? (i := 491) (by decide +kernel)⟩
theorem lw_p15 : lw_okq (⟨"TrueLitres", "countNotReplaced", "()I"⟩, 9) := ⟨⟨by decide +kernel, by decide +kernel⟩, List.mem_of_getElem? (i := 11) (by decide +kernel), List.mem_of_getElem? (i := 515) (by decide +kernel), List.mem_of_getElem? (i := 516) (by decide +kernel)⟩
def lw_privs_1 : List (MethodName × Nat) := [(⟨"TrueLitres", "isMeter", "(I)Z"⟩, 9), (⟨"TrueLitres", "isShut", "(I)Z"⟩, 9), (⟨"TrueLitres", "keep", "(LTrueLitres$Ticket;)V"⟩, 9), (⟨"TrueLitres", "isTicket", "(I)Z"⟩, 9), (⟨"TrueLitres", "replace", "(III)V"⟩, 9), (⟨"TrueLitres", "factorNow", "(LTrueLitres$Ticket;)I"⟩, 9), (⟨"TrueLitres", "isToRemake", "(LTrueLitres$Ticket;III)Z"⟩, 9), (⟨"TrueLitres", "volumeOf", "(LTrueLitres$Ticket;)J"⟩, 9), (⟨"TrueLitres", "sumOf", "(III)J"⟩, 9), (⟨"TrueLitres", "imbalanceOf", "(III)J"⟩, 9), (⟨"TrueLitres", "endsOf", "(III)J"⟩, 9), (⟨"TrueLitres", "linesBeyond", "(II)I"⟩, 9), (⟨"TrueLitres", "fail", "(I)I"⟩, 9), (⟨"TrueLitres", "leave", "(I)V"⟩, 9), (⟨"TrueLitres", "tellTicket", "(LTrueLitres$Ticket;)I"⟩, 9), (⟨"TrueLitres", "countNotReplaced", "()I"⟩, 9)]
theorem lw_r1 : ∀ q ∈ lw_privs_1, lw_okq q := List.forall_mem_cons.mpr ⟨lw_p0, List.forall_mem_cons.mpr ⟨lw_p1, List.forall_mem_cons.mpr ⟨lw_p2, List.forall_mem_cons.mpr ⟨lw_p3, List.forall_mem_cons.mpr ⟨lw_p4, List.forall_mem_cons.mpr ⟨lw_p5, List.forall_mem_cons.mpr ⟨lw_p6, List.forall_mem_cons.mpr ⟨lw_p7, List.forall_mem_cons.mpr ⟨lw_p8, List.forall_mem_cons.mpr ⟨lw_p9, List.forall_mem_cons.mpr ⟨lw_p10, List.forall_mem_cons.mpr ⟨lw_p11, List.forall_mem_cons.mpr ⟨lw_p12, List.forall_mem_cons.mpr ⟨lw_p13, List.forall_mem_cons.mpr ⟨lw_p14, List.forall_mem_cons.mpr ⟨lw_p15, fun _ h => absurd h List.not_mem_nil⟩⟩⟩⟩⟩⟩⟩⟩⟩⟩⟩⟩⟩⟩⟩⟩
theorem lw_p16 : lw_okq (⟨"TrueLitresModel", "noMeter", "(I)Z"⟩, 33) := ⟨⟨by decide +kernel, by decide +kernel⟩, List.mem_of_getElem? (i := 519) (by decide +kernel), List.mem_of_getElem? (i := 637) (by decide +kernel), List.mem_of_getElem? (i := 638) (by decide +kernel)⟩
theorem lw_p17 : lw_okq (⟨"TrueLitresModel", "addFactor", "(IIII)V"⟩, 33) := ⟨⟨by decide +kernel, by decide +kernel⟩, List.mem_of_getElem? (i := 519) (by decide +kernel), List.mem_of_getElem? (i := 654) (by decide +kernel), List.mem_of_getElem? (i := 655) (by decide +kernel)⟩
theorem lw_p18 : lw_okq (⟨"TrueLitresModel", "factorAt", "(III)I"⟩, 33) := ⟨⟨by decide +kernel, by decide +kernel⟩, List.mem_of_getElem? (i := 519) (by decide +kernel), List.mem_of_getElem? (i := 662) (by decide +kernel), List.mem_of_getElem? (i := 663) (by decide +kernel)⟩
theorem lw_p19 : lw_okq (⟨"TrueLitresModel", "findCurve", "(II)V"⟩, 33) := ⟨⟨by decide +kernel, by decide +kernel⟩, List.mem_of_getElem? (i := 519) (by decide +kernel), List.mem_of_getElem? (i := 666) (by decide +kernel), List.mem_of_getElem? (i := 667) (by decide +kernel)⟩
theorem lw_p20 : lw_okq (⟨"TrueLitresModel", "addPoint", "(I)V"⟩, 33) := ⟨⟨by decide +kernel, by decide +kernel⟩, List.mem_of_getElem? (i := 519) (by decide +kernel), List.mem_of_getElem? (i := 670) (by decide +kernel), List.mem_of_getElem? (i := 671) (by decide +kernel)⟩
theorem lw_p21 : lw_okq (⟨"TrueLitresModel", "isGood", "()Z"⟩, 33) := ⟨⟨by decide +kernel, by decide +kernel⟩, List.mem_of_getElem? (i := 519) (by decide +kernel), List.mem_of_getElem? (i := 702) (by decide +kernel), List.mem_of_getElem? (i := 703) (by decide +kernel)⟩
theorem lw_p22 : lw_okq (⟨"TrueLitresModel", "isShut", "(I)Z"⟩, 33) := ⟨⟨by decide +kernel, by decide +kernel⟩, List.mem_of_getElem? (i := 519) (by decide +kernel), List.mem_of_getElem? (i := 721) (by decide +kernel), List.mem_of_getElem? (i := 722) (by decide +kernel)⟩
theorem lw_p23 : lw_okq (⟨"TrueLitresModel", "add", "(IIIIII)I"⟩, 33) := ⟨⟨by decide +kernel, by decide +kernel⟩, List.mem_of_getElem? (i := 519) (by decide +kernel), List.mem_of_getElem? (i := 725) (by decide +kernel), List.mem_of_getElem? (i := 726) (by decide +kernel)⟩
theorem lw_p24 : lw_okq (⟨"TrueLitresModel", "noTicket", "(I)Z"⟩, 33) := ⟨⟨by decide +kernel, by decide +kernel⟩, List.mem_of_getElem? (i := 519) (by decide +kernel), List.mem_of_getElem? (i := 733) (by decide +kernel), List.mem_of_getElem? (i := 734) (by decide +kernel)⟩
theorem lw_p25 : lw_okq (⟨"TrueLitresModel", "isStale", "(IIII)Z"⟩, 33) := ⟨⟨by decide +kernel, by decide +kernel⟩, List.mem_of_getElem? (i := 519) (by decide +kernel), List.mem_of_getElem? (i := 744) (by decide +kernel), List.mem_of_getElem? (i := 745) (by decide +kernel)⟩
theorem lw_p26 : lw_okq (⟨"TrueLitresModel", "volumeOf", "(I)J"⟩, 33) := ⟨⟨by decide +kernel, by decide +kernel⟩, List.mem_of_getElem? (i := 519) (by decide +kernel), List.mem_of_getElem? (i := 756) (by decide +kernel), List.mem_of_getElem? (i := 757) (by decide +kernel)⟩
theorem lw_p27 : lw_okq (⟨"TrueLitresModel", "sumOf", "(III)J"⟩, 33) := ⟨⟨by decide +kernel, by decide +kernel⟩, List.mem_of_getElem? (i := 519) (by decide +kernel), List.mem_of_getElem? (i := 765) (by decide +kernel), List.mem_of_getElem? (i := 766) (by decide +kernel)⟩
theorem lw_p28 : lw_okq (⟨"TrueLitresModel", "imbalance", "(III)J"⟩, 33) := ⟨⟨by decide +kernel, by decide +kernel⟩, List.mem_of_getElem? (i := 519) (by decide +kernel), List.mem_of_getElem? (i := 794) (by decide +kernel), List.mem_of_getElem? (i := 795) (by decide +kernel)⟩
theorem lw_p29 : lw_okq (⟨"TrueLitresModel", "endsOf", "(III)J"⟩, 33) := ⟨⟨by decide +kernel, by decide +kernel⟩, List.mem_of_getElem? (i := 519) (by decide +kernel), List.mem_of_getElem? (i := 798) (by decide +kernel), List.mem_of_getElem? (i := 799) (by decide +kernel)⟩
theorem lw_p30 : lw_okq (⟨"TrueLitresModel", "beyondOf", "(II)I"⟩, 33) := ⟨⟨by decide +kernel, by decide +kernel⟩, List.mem_of_getElem? (i := 519) (by decide +kernel), List.mem_of_getElem? (i := 806) (by decide +kernel), List.mem_of_getElem? (i := 807) (by decide +kernel)⟩
theorem lw_p31 : lw_okq (⟨"TrueLitresModel", "refused", "(I)I"⟩, 33) := ⟨⟨by decide +kernel, by decide +kernel⟩, List.mem_of_getElem? (i := 519) (by decide +kernel), List.mem_of_getElem? (i := 823) (by decide +kernel), List.mem_of_getElem? (i := 824) (by decide +kernel)⟩
def lw_privs_2 : List (MethodName × Nat) := [(⟨"TrueLitresModel", "noMeter", "(I)Z"⟩, 33), (⟨"TrueLitresModel", "addFactor", "(IIII)V"⟩, 33), (⟨"TrueLitresModel", "factorAt", "(III)I"⟩, 33), (⟨"TrueLitresModel", "findCurve", "(II)V"⟩, 33), (⟨"TrueLitresModel", "addPoint", "(I)V"⟩, 33), (⟨"TrueLitresModel", "isGood", "()Z"⟩, 33), (⟨"TrueLitresModel", "isShut", "(I)Z"⟩, 33), (⟨"TrueLitresModel", "add", "(IIIIII)I"⟩, 33), (⟨"TrueLitresModel", "noTicket", "(I)Z"⟩, 33), (⟨"TrueLitresModel", "isStale", "(IIII)Z"⟩, 33), (⟨"TrueLitresModel", "volumeOf", "(I)J"⟩, 33), (⟨"TrueLitresModel", "sumOf", "(III)J"⟩, 33), (⟨"TrueLitresModel", "imbalance", "(III)J"⟩, 33), (⟨"TrueLitresModel", "endsOf", "(III)J"⟩, 33), (⟨"TrueLitresModel", "beyondOf", "(II)I"⟩, 33), (⟨"TrueLitresModel", "refused", "(I)I"⟩, 33)]
theorem lw_r2 : ∀ q ∈ lw_privs_2, lw_okq q := List.forall_mem_cons.mpr ⟨lw_p16, List.forall_mem_cons.mpr ⟨lw_p17, List.forall_mem_cons.mpr ⟨lw_p18, List.forall_mem_cons.mpr ⟨lw_p19, List.forall_mem_cons.mpr ⟨lw_p20, List.forall_mem_cons.mpr ⟨lw_p21, List.forall_mem_cons.mpr ⟨lw_p22, List.forall_mem_cons.mpr ⟨lw_p23, List.forall_mem_cons.mpr ⟨lw_p24, List.forall_mem_cons.mpr ⟨lw_p25, List.forall_mem_cons.mpr ⟨lw_p26, List.forall_mem_cons.mpr ⟨lw_p27, List.forall_mem_cons.mpr ⟨lw_p28, List.forall_mem_cons.mpr ⟨lw_p29, List.forall_mem_cons.mpr ⟨lw_p30, List.forall_mem_cons.mpr ⟨lw_p31, fun _ h => absurd h List.not_mem_nil⟩⟩⟩⟩⟩⟩⟩⟩⟩⟩⟩⟩⟩⟩⟩⟩
theorem lw_p32 : lw_okq (⟨"TrueLitresModel", "failed", "(I)I"⟩, 33) := ⟨⟨by decide +kernel, by decide +kernel⟩, List.mem_of_getElem? (i := 519) (by decide +kernel), List.mem_of_getElem? (i := 827) (by decide +kernel), List.mem_of_getElem? (i := 828) (by decide +kernel)⟩
theorem lw_p33 : lw_okq (⟨"TrueLitresModel", "noCell", "(II)I"⟩, 33) := ⟨⟨by decide +kernel, by decide +kernel⟩, List.mem_of_getElem? (i := 519) (by decide +kernel), List.mem_of_getElem? (i := 839) (by decide +kernel), List.mem_of_getElem? (i := 840) (by decide +kernel)⟩
theorem lw_p34 : lw_okq (⟨"TrueLitresModel", "failedLong", "(I)J"⟩, 33) := ⟨⟨by decide +kernel, by decide +kernel⟩, List.mem_of_getElem? (i := 519) (by decide +kernel), List.mem_of_getElem? (i := 847) (by decide +kernel), List.mem_of_getElem? (i := 848) (by decide +kernel)⟩
theorem lw_p35 : lw_okq (⟨"TrueLitresModel", "traced", "(I)V"⟩, 33) := ⟨⟨by decide +kernel, by decide +kernel⟩, List.mem_of_getElem? (i := 519) (by decide +kernel), List.mem_of_getElem? (i := 866) (by decide +kernel), List.mem_of_getElem? (i := 867) (by decide +kernel)⟩
def lw_privs_3 : List (MethodName × Nat) := [(⟨"TrueLitresModel", "failed", "(I)I"⟩, 33), (⟨"TrueLitresModel", "noCell", "(II)I"⟩, 33), (⟨"TrueLitresModel", "failedLong", "(I)J"⟩, 33), (⟨"TrueLitresModel", "traced", "(I)V"⟩, 33)]
theorem lw_r3 : ∀ q ∈ lw_privs_3, lw_okq q := List.forall_mem_cons.mpr ⟨lw_p32, List.forall_mem_cons.mpr ⟨lw_p33, List.forall_mem_cons.mpr ⟨lw_p34, List.forall_mem_cons.mpr ⟨lw_p35, fun _ h => absurd h List.not_mem_nil⟩⟩⟩⟩
def lw_privs : List (MethodName × Nat) := lw_privs_1 ++ (lw_privs_2 ++ (lw_privs_3))
def lw_tbl : List Cond := k2_sels lw_privs ++ tables_1
theorem lw_privs_ok : ∀ q ∈ lw_privs, lw_okq q := by
  show ∀ q ∈ lw_privs_1 ++ (lw_privs_2 ++ (lw_privs_3)), lw_okq q
  exact List.forall_mem_append.mpr ⟨lw_r1, List.forall_mem_append.mpr ⟨lw_r2, lw_r3⟩⟩
theorem goodIn_r {big : List Cond} (ws : List Cond) (ps : List Nat) (hp : ws = ps.filterMap (fun i => big[i]?)) (h : ws.all goodWord = true) : GoodIn big ws := by
  intro w hw
  have h1 := List.all_eq_true.mp h w hw
  rw [hp] at hw
  obtain ⟨i, -, hi⟩ := List.mem_filterMap.mp hw
  have hm : w ∈ big := by first | exact List.mem_of_getElem? hi | exact List.getElem?_mem hi
  exact ⟨hm, good_of_word h1⟩
theorem goodIn_app {big a b : List Cond} (ha : GoodIn big a) (hb : GoodIn big b) : GoodIn big (a ++ b) := fun w h => (List.mem_append.mp h).elim (ha w) (hb w)
theorem goodIn_ca {big a b : List Cond} {c : Cond} (ha : GoodIn big (c :: a)) (hb : GoodIn big b) : GoodIn big (c :: (a ++ b)) := fun w h => (List.mem_cons.mp h).elim (fun e => ha w (List.mem_cons.mpr (Or.inl e))) (fun h => (List.mem_append.mp h).elim (fun h => ha w (List.mem_cons.mpr (Or.inr h))) (hb w))
theorem goodIn_sub {big ws : List Cond} (hm : ∀ w ∈ ws, w ∈ big) (h : ws.all goodWord = true) : GoodIn big ws := fun w hw => ⟨hm w hw, good_of_word (List.all_eq_true.mp h w hw)⟩
def RX0 : String := "TrueLitres$Meter"
def TX0 : u_T := fun k => match k with
  | 0 => ("TrueLitres$Meter", "k", "I", true)
  | 1 => ("TrueLitres$Meter", "end", "I", false)
  | 2 => ("TrueLitres$Meter", "hows", "[I", true)
  | 3 => ("TrueLitres$Meter", "flows", "[I", true)
  | 4 => ("TrueLitres$Meter", "days", "[I", true)
  | 5 => ("TrueLitres$Meter", "numbers", "[I", true)
  | _ => ("TrueLitres$Meter", "factorCount", "I", false)
def tyX0 : Nat → FieldType := fun k => match k with
  | 0 => .int
  | 1 => .int
  | 2 => .array .int
  | 3 => .array .int
  | 4 => .array .int
  | 5 => .array .int
  | _ => .int
abbrev wsX00 : List Cond := u_ws RX0 TX0 7
theorem nmX0 : ∀ a, a < 7 → ∀ b, b < 7 → a ≠ b → (TX0 a).2.1 ≠ (TX0 b).2.1 := by decide +kernel
theorem tyX0_ok : ∀ k, k < 7 → parseFieldDescriptor (TX0 k).2.2.1 = some (tyX0 k) := by decide +kernel
abbrev cX0_init : ByteArray := prog_2_method_1_code
def yX0_init : MethodName := ⟨RX0, "<init>", "(I)V"⟩
abbrev cX0_isFull : ByteArray := prog_2_method_2_code
def yX0_isFull : MethodName := ⟨RX0, "isFull", "()Z"⟩
abbrev cX0_takeFactor : ByteArray := prog_2_method_3_code
def yX0_takeFactor : MethodName := ⟨RX0, "takeFactor", "(III)V"⟩
abbrev cX0_standsBehind : ByteArray := prog_2_method_4_code
def yX0_standsBehind : MethodName := ⟨RX0, "standsBehind", "(III)Z"⟩
abbrev cX0_isOnCurve : ByteArray := prog_2_method_5_code
def yX0_isOnCurve : MethodName := ⟨RX0, "isOnCurve", "(II)Z"⟩
abbrev cX0_curveSize : ByteArray := prog_2_method_6_code
def yX0_curveSize : MethodName := ⟨RX0, "curveSize", "(I)I"⟩
abbrev cX0_curvePlace : ByteArray := prog_2_method_7_code
def yX0_curvePlace : MethodName := ⟨RX0, "curvePlace", "(II)I"⟩
abbrev cX0_factorAt : ByteArray := prog_2_method_8_code
def yX0_factorAt : MethodName := ⟨RX0, "factorAt", "(II)I"⟩
abbrev cX0_between : ByteArray := prog_2_method_9_code
def yX0_between : MethodName := ⟨RX0, "between", "(III)I"⟩
def RX1 : String := "TrueLitres$Proof"
def TX1 : u_T := fun k => match k with
  | 0 => ("TrueLitres$Proof", "isBegun", "Z", false)
  | 1 => ("TrueLitres$Proof", "meter", "I", false)
  | 2 => ("TrueLitres$Proof", "flow", "I", false)
  | 3 => ("TrueLitres$Proof", "vessel", "I", false)
  | 4 => ("TrueLitres$Proof", "counts", "[J", true)
  | _ => ("TrueLitres$Proof", "runCount", "I", false)
def tyX1 : Nat → FieldType := fun k => match k with
  | 0 => .boolean
  | 1 => .int
  | 2 => .int
  | 3 => .int
  | 4 => .array .long
  | _ => .int
abbrev wsX10 : List Cond := u_ws RX1 TX1 6
theorem nmX1 : ∀ a, a < 6 → ∀ b, b < 6 → a ≠ b → (TX1 a).2.1 ≠ (TX1 b).2.1 := by decide +kernel
theorem tyX1_ok : ∀ k, k < 6 → parseFieldDescriptor (TX1 k).2.2.1 = some (tyX1 k) := by decide +kernel
abbrev cX1_init : ByteArray := prog_3_method_1_code
def yX1_init : MethodName := ⟨RX1, "<init>", "()V"⟩
abbrev cX1_begin : ByteArray := prog_3_method_2_code
def yX1_begin : MethodName := ⟨RX1, "begin", "(III)V"⟩
abbrev cX1_isGood : ByteArray := prog_3_method_3_code
def yX1_isGood : MethodName := ⟨RX1, "isGood", "()Z"⟩
abbrev cX1_factorOf : ByteArray := prog_3_method_4_code
def yX1_factorOf : MethodName := ⟨RX1, "factorOf", "(I)J"⟩
def RX2 : String := "TrueLitres$Sheet"
def TX2 : u_T := fun k => match k with
  | 0 => ("TrueLitres$Sheet", "cells", "[I", true)
  | 1 => ("TrueLitres$Sheet", "hasRow", "Z", false)
  | 2 => ("TrueLitres$Sheet", "lane", "I", false)
  | _ => ("TrueLitres$Sheet", "length", "I", false)
def tyX2 : Nat → FieldType := fun k => match k with
  | 0 => .array .int
  | 1 => .boolean
  | 2 => .int
  | _ => .int
abbrev wsX20 : List Cond := u_ws RX2 TX2 4
theorem nmX2 : ∀ a, a < 4 → ∀ b, b < 4 → a ≠ b → (TX2 a).2.1 ≠ (TX2 b).2.1 := by decide +kernel
theorem tyX2_ok : ∀ k, k < 4 → parseFieldDescriptor (TX2 k).2.2.1 = some (tyX2 k) := by decide +kernel
abbrev cX2_init : ByteArray := prog_4_method_1_code
def yX2_init : MethodName := ⟨RX2, "<init>", "()V"⟩
abbrev cX2_renew : ByteArray := prog_4_method_2_code
def yX2_renew : MethodName := ⟨RX2, "renew", "(II)V"⟩
abbrev cX2_hasCell : ByteArray := prog_4_method_3_code
def yX2_hasCell : MethodName := ⟨RX2, "hasCell", "(I)Z"⟩
abbrev cX2_hasCells : ByteArray := prog_4_method_4_code
def yX2_hasCells : MethodName := ⟨RX2, "hasCells", "(II)Z"⟩
abbrev cX2_fillIn : ByteArray := prog_4_method_5_code
def yX2_fillIn : MethodName := ⟨RX2, "fillIn", "(II)V"⟩
abbrev cX2_faultAs : ByteArray := prog_4_method_6_code
def yX2_faultAs : MethodName := ⟨RX2, "faultAs", "(I)I"⟩
abbrev cX2_watched : ByteArray := prog_4_method_7_code
def yX2_watched : MethodName := ⟨RX2, "watched", "(III)I"⟩
def RX3 : String := "TrueLitres$Ticket"
def TX3 : u_T := fun k => match k with
  | 0 => ("TrueLitres$Ticket", "meter", "I", true)
  | 1 => ("TrueLitres$Ticket", "day", "I", true)
  | 2 => ("TrueLitres$Ticket", "pulses", "I", true)
  | 3 => ("TrueLitres$Ticket", "flow", "I", true)
  | 4 => ("TrueLitres$Ticket", "factor", "I", true)
  | 5 => ("TrueLitres$Ticket", "kind", "I", false)
  | 6 => ("TrueLitres$Ticket", "replacedBy", "I", false)
  | _ => ("TrueLitres$Ticket", "inPlaceOf", "I", false)
def tyX3 : Nat → FieldType := fun k => match k with
  | 0 => .int
  | 1 => .int
  | 2 => .int
  | 3 => .int
  | 4 => .int
  | 5 => .int
  | 6 => .int
  | _ => .int
abbrev wsX30 : List Cond := u_ws RX3 TX3 8
theorem nmX3 : ∀ a, a < 8 → ∀ b, b < 8 → a ≠ b → (TX3 a).2.1 ≠ (TX3 b).2.1 := by decide +kernel
theorem tyX3_ok : ∀ k, k < 8 → parseFieldDescriptor (TX3 k).2.2.1 = some (tyX3 k) := by decide +kernel
abbrev cX3_init : ByteArray := prog_5_method_1_code
def yX3_init : MethodName := ⟨RX3, "<init>", "(IIIII)V"⟩
abbrev cX3_isReplaced : ByteArray := prog_5_method_2_code
def yX3_isReplaced : MethodName := ⟨RX3, "isReplaced", "()Z"⟩
abbrev cX3_counts : ByteArray := prog_5_method_3_code
def yX3_counts : MethodName := ⟨RX3, "counts", "(III)Z"⟩
def RX4 : String := "TrueLitres"
def TX4 : u_T := fun k => match k with
  | 0 => ("TrueLitres", "meters", "[LTrueLitres$Meter;", true)
  | 1 => ("TrueLitres", "meterCount", "I", false)
  | 2 => ("TrueLitres", "latestProof", "LTrueLitres$Proof;", true)
  | 3 => ("TrueLitres", "tickets", "[LTrueLitres$Ticket;", true)
  | 4 => ("TrueLitres", "ticketCount", "I", false)
  | 5 => ("TrueLitres", "shutUpTo", "I", false)
  | 6 => ("TrueLitres", "sheets", "[LTrueLitres$Sheet;", true)
  | 7 => ("TrueLitres", "traced", "I", false)
  | _ => ("TrueLitres", "latestFault", "I", false)
def tyX4 : Nat → FieldType := fun k => match k with
  | 0 => .array (.object "TrueLitres$Meter")
  | 1 => .int
  | 2 => .object "TrueLitres$Proof"
  | 3 => .array (.object "TrueLitres$Ticket")
  | 4 => .int
  | 5 => .int
  | 6 => .array (.object "TrueLitres$Sheet")
  | 7 => .int
  | _ => .int
abbrev wsX40 : List Cond := u_ws RX4 TX4 9
theorem nmX4 : ∀ a, a < 9 → ∀ b, b < 9 → a ≠ b → (TX4 a).2.1 ≠ (TX4 b).2.1 := by decide +kernel
theorem tyX4_ok : ∀ k, k < 9 → parseFieldDescriptor (TX4 k).2.2.1 = some (tyX4 k) := by decide +kernel
abbrev cX4_init : ByteArray := prog_1_method_1_code
def yX4_init : MethodName := ⟨RX4, "<init>", "()V"⟩
abbrev cX4_meter : ByteArray := prog_1_method_2_code
def yX4_meter : MethodName := ⟨RX4, "meter", "(I)I"⟩
abbrev cX4_factor : ByteArray := prog_1_method_3_code
def yX4_factor : MethodName := ⟨RX4, "factor", "(IIII)I"⟩
abbrev cX4_at : ByteArray := prog_1_method_4_code
def yX4_at : MethodName := ⟨RX4, "at", "(III)I"⟩
abbrev cX4_points : ByteArray := prog_1_method_5_code
def yX4_points : MethodName := ⟨RX4, "points", "(II)I"⟩
abbrev cX4_point : ByteArray := prog_1_method_6_code
def yX4_point : MethodName := ⟨RX4, "point", "(IIII)I"⟩
abbrev cX4_proof : ByteArray := prog_1_method_7_code
def yX4_proof : MethodName := ⟨RX4, "proof", "(III)I"⟩
abbrev cX4_run : ByteArray := prog_1_method_8_code
def yX4_run : MethodName := ⟨RX4, "run", "(III)J"⟩
abbrev cX4_proving : ByteArray := prog_1_method_9_code
def yX4_proving : MethodName := ⟨RX4, "proving", "(I)I"⟩
abbrev cX4_accept : ByteArray := prog_1_method_10_code
def yX4_accept : MethodName := ⟨RX4, "accept", "(I)I"⟩
abbrev cX4_ticket : ByteArray := prog_1_method_11_code
def yX4_ticket : MethodName := ⟨RX4, "ticket", "(IIII)I"⟩
abbrev cX4_right : ByteArray := prog_1_method_12_code
def yX4_right : MethodName := ⟨RX4, "right", "(II)I"⟩
abbrev cX4_remake : ByteArray := prog_1_method_13_code
def yX4_remake : MethodName := ⟨RX4, "remake", "(III)I"⟩
abbrev cX4_ticketed : ByteArray := prog_1_method_14_code
def yX4_ticketed : MethodName := ⟨RX4, "ticketed", "(II)I"⟩
abbrev cX4_volume : ByteArray := prog_1_method_15_code
def yX4_volume : MethodName := ⟨RX4, "volume", "(I)J"⟩
abbrev cX4_sum : ByteArray := prog_1_method_16_code
def yX4_sum : MethodName := ⟨RX4, "sum", "(III)J"⟩
abbrev cX4_shut : ByteArray := prog_1_method_17_code
def yX4_shut : MethodName := ⟨RX4, "shut", "(I)I"⟩
abbrev cX4_line : ByteArray := prog_1_method_18_code
def yX4_line : MethodName := ⟨RX4, "line", "(III)I"⟩
abbrev cX4_lined : ByteArray := prog_1_method_19_code
def yX4_lined : MethodName := ⟨RX4, "lined", "(II)I"⟩
abbrev cX4_end : ByteArray := prog_1_method_20_code
def yX4_end : MethodName := ⟨RX4, "end", "(II)I"⟩
abbrev cX4_balance : ByteArray := prog_1_method_21_code
def yX4_balance : MethodName := ⟨RX4, "balance", "(IIII)J"⟩
abbrev cX4_beyond : ByteArray := prog_1_method_22_code
def yX4_beyond : MethodName := ⟨RX4, "beyond", "(II)I"⟩
abbrev cX4_explains : ByteArray := prog_1_method_23_code
def yX4_explains : MethodName := ⟨RX4, "explains", "(III)J"⟩
abbrev cX4_sheet : ByteArray := prog_1_method_24_code
def yX4_sheet : MethodName := ⟨RX4, "sheet", "(III)I"⟩
abbrev cX4_lose : ByteArray := prog_1_method_25_code
def yX4_lose : MethodName := ⟨RX4, "lose", "(I)I"⟩
abbrev cX4_put : ByteArray := prog_1_method_26_code
def yX4_put : MethodName := ⟨RX4, "put", "(III)I"⟩
abbrev cX4_cell : ByteArray := prog_1_method_27_code
def yX4_cell : MethodName := ⟨RX4, "cell", "(III)J"⟩
abbrev cX4_copy : ByteArray := prog_1_method_28_code
def yX4_copy : MethodName := ⟨RX4, "copy", "(IIIII)I"⟩
abbrev cX4_watch : ByteArray := prog_1_method_29_code
def yX4_watch : MethodName := ⟨RX4, "watch", "(IIIII)I"⟩
abbrev cX4_tell : ByteArray := prog_1_method_30_code
def yX4_tell : MethodName := ⟨RX4, "tell", "(I)I"⟩
abbrev cX4_worth : ByteArray := prog_1_method_31_code
def yX4_worth : MethodName := ⟨RX4, "worth", "(I)I"⟩
abbrev cX4_as : ByteArray := prog_1_method_32_code
def yX4_as : MethodName := ⟨RX4, "as", "(II)I"⟩
abbrev cX4_trace : ByteArray := prog_1_method_33_code
def yX4_trace : MethodName := ⟨RX4, "trace", "()I"⟩
abbrev cX4_fault : ByteArray := prog_1_method_34_code
def yX4_fault : MethodName := ⟨RX4, "fault", "()I"⟩
abbrev cX4_told : ByteArray := prog_1_method_35_code
def yX4_told : MethodName := ⟨RX4, "told", "(I)I"⟩
abbrev cX4_isWithin : ByteArray := prog_1_method_36_code
def yX4_isWithin : MethodName := ⟨RX4, "isWithin", "(III)Z"⟩
abbrev cX4_isDay : ByteArray := prog_1_method_37_code
def yX4_isDay : MethodName := ⟨RX4, "isDay", "(I)Z"⟩
abbrev cX4_areDays : ByteArray := prog_1_method_38_code
def yX4_areDays : MethodName := ⟨RX4, "areDays", "(II)Z"⟩
abbrev cX4_isFlow : ByteArray := prog_1_method_39_code
def yX4_isFlow : MethodName := ⟨RX4, "isFlow", "(I)Z"⟩
abbrev cX4_isLine : ByteArray := prog_1_method_40_code
def yX4_isLine : MethodName := ⟨RX4, "isLine", "(I)Z"⟩
abbrev cX4_isSheet : ByteArray := prog_1_method_41_code
def yX4_isSheet : MethodName := ⟨RX4, "isSheet", "(I)Z"⟩
abbrev cX4_isLane : ByteArray := prog_1_method_42_code
def yX4_isLane : MethodName := ⟨RX4, "isLane", "(I)Z"⟩
abbrev cX4_isMeter : ByteArray := prog_1_method_43_code
def yX4_isMeter : MethodName := ⟨RX4, "isMeter", "(I)Z"⟩
abbrev cX4_isTicket : ByteArray := prog_1_method_44_code
def yX4_isTicket : MethodName := ⟨RX4, "isTicket", "(I)Z"⟩
abbrev cX4_isShut : ByteArray := prog_1_method_45_code
def yX4_isShut : MethodName := ⟨RX4, "isShut", "(I)Z"⟩
abbrev cX4_rounded : ByteArray := prog_1_method_46_code
def yX4_rounded : MethodName := ⟨RX4, "rounded", "(JJ)J"⟩
abbrev cX4_fail : ByteArray := prog_1_method_47_code
def yX4_fail : MethodName := ⟨RX4, "fail", "(I)I"⟩
abbrev cX4_leave : ByteArray := prog_1_method_48_code
def yX4_leave : MethodName := ⟨RX4, "leave", "(I)V"⟩
abbrev cX4_tellTicket : ByteArray := prog_1_method_49_code
def yX4_tellTicket : MethodName := ⟨RX4, "tellTicket", "(LTrueLitres$Ticket;)I"⟩
abbrev cX4_keep : ByteArray := prog_1_method_50_code
def yX4_keep : MethodName := ⟨RX4, "keep", "(LTrueLitres$Ticket;)V"⟩
abbrev cX4_replace : ByteArray := prog_1_method_51_code
def yX4_replace : MethodName := ⟨RX4, "replace", "(III)V"⟩
abbrev cX4_factorNow : ByteArray := prog_1_method_52_code
def yX4_factorNow : MethodName := ⟨RX4, "factorNow", "(LTrueLitres$Ticket;)I"⟩
abbrev cX4_isToRemake : ByteArray := prog_1_method_53_code
def yX4_isToRemake : MethodName := ⟨RX4, "isToRemake", "(LTrueLitres$Ticket;III)Z"⟩
abbrev cX4_volumeOf : ByteArray := prog_1_method_54_code
def yX4_volumeOf : MethodName := ⟨RX4, "volumeOf", "(LTrueLitres$Ticket;)J"⟩
abbrev cX4_sumOf : ByteArray := prog_1_method_55_code
def yX4_sumOf : MethodName := ⟨RX4, "sumOf", "(III)J"⟩
abbrev cX4_countNotReplaced : ByteArray := prog_1_method_56_code
def yX4_countNotReplaced : MethodName := ⟨RX4, "countNotReplaced", "()I"⟩
abbrev cX4_imbalanceOf : ByteArray := prog_1_method_57_code
def yX4_imbalanceOf : MethodName := ⟨RX4, "imbalanceOf", "(III)J"⟩
abbrev cX4_endsOf : ByteArray := prog_1_method_58_code
def yX4_endsOf : MethodName := ⟨RX4, "endsOf", "(III)J"⟩
abbrev cX4_linesBeyond : ByteArray := prog_1_method_59_code
def yX4_linesBeyond : MethodName := ⟨RX4, "linesBeyond", "(II)I"⟩
def RX5 : String := "TrueLitresModel"
def TX5 : u_T := fun k => match k with
  | 0 => ("TrueLitresModel", "fault", "I", false)
  | 1 => ("TrueLitresModel", "meters", "I", false)
  | 2 => ("TrueLitresModel", "pulsesOf", "[I", true)
  | 3 => ("TrueLitresModel", "many", "[I", true)
  | 4 => ("TrueLitresModel", "flowAt", "[I", true)
  | 5 => ("TrueLitresModel", "dayAt", "[I", true)
  | 6 => ("TrueLitresModel", "numberAt", "[I", true)
  | 7 => ("TrueLitresModel", "ends", "[I", true)
  | 8 => ("TrueLitresModel", "points", "I", false)
  | 9 => ("TrueLitresModel", "curveFlow", "[I", true)
  | 10 => ("TrueLitresModel", "curveNumber", "[I", true)
  | 11 => ("TrueLitresModel", "curveDay", "[I", true)
  | 12 => ("TrueLitresModel", "proofMeter", "I", false)
  | 13 => ("TrueLitresModel", "proofFlow", "I", false)
  | 14 => ("TrueLitresModel", "vessel", "I", false)
  | 15 => ("TrueLitresModel", "runs", "I", false)
  | 16 => ("TrueLitresModel", "count", "[J", true)
  | 17 => ("TrueLitresModel", "tickets", "I", false)
  | 18 => ("TrueLitresModel", "kind", "[I", true)
  | 19 => ("TrueLitresModel", "meterOf", "[I", true)
  | 20 => ("TrueLitresModel", "day", "[I", true)
  | 21 => ("TrueLitresModel", "pulses", "[I", true)
  | 22 => ("TrueLitresModel", "flow", "[I", true)
  | 23 => ("TrueLitresModel", "factor", "[I", true)
  | 24 => ("TrueLitresModel", "by", "[I", true)
  | 25 => ("TrueLitresModel", "old", "[I", true)
  | 26 => ("TrueLitresModel", "shut", "I", false)
  | 27 => ("TrueLitresModel", "how", "[I", true)
  | 28 => ("TrueLitresModel", "sheetSize", "[I", true)
  | 29 => ("TrueLitresModel", "sheetLane", "[I", true)
  | 30 => ("TrueLitresModel", "sheet", "[I", true)
  | 31 => ("TrueLitresModel", "hands", "[I", true)
  | _ => ("TrueLitresModel", "trace", "I", false)
def tyX5 : Nat → FieldType := fun k => match k with
  | 0 => .int
  | 1 => .int
  | 2 => .array .int
  | 3 => .array .int
  | 4 => .array .int
  | 5 => .array .int
  | 6 => .array .int
  | 7 => .array .int
  | 8 => .int
  | 9 => .array .int
  | 10 => .array .int
  | 11 => .array .int
  | 12 => .int
  | 13 => .int
  | 14 => .int
  | 15 => .int
  | 16 => .array .long
  | 17 => .int
  | 18 => .array .int
  | 19 => .array .int
  | 20 => .array .int
  | 21 => .array .int
  | 22 => .array .int
  | 23 => .array .int
  | 24 => .array .int
  | 25 => .array .int
  | 26 => .int
  | 27 => .array .int
  | 28 => .array .int
  | 29 => .array .int
  | 30 => .array .int
  | 31 => .array .int
  | _ => .int
abbrev wsX50 : List Cond := u_ws RX5 TX5 33
theorem nmX5 : ∀ a, a < 33 → ∀ b, b < 33 → a ≠ b → (TX5 a).2.1 ≠ (TX5 b).2.1 := by decide +kernel
theorem tyX5_ok : ∀ k, k < 33 → parseFieldDescriptor (TX5 k).2.2.1 = some (tyX5 k) := by decide +kernel
abbrev cX5_init : ByteArray := prog_7_method_1_code
def yX5_init : MethodName := ⟨RX5, "<init>", "()V"⟩
abbrev cX5_in : ByteArray := prog_7_method_2_code
def yX5_in : MethodName := ⟨RX5, "in", "(JJJ)Z"⟩
abbrev cX5_lost : ByteArray := prog_7_method_3_code
def yX5_lost : MethodName := ⟨RX5, "lost", "()J"⟩
abbrev cX5_refused : ByteArray := prog_7_method_4_code
def yX5_refused : MethodName := ⟨RX5, "refused", "(I)I"⟩
abbrev cX5_failed : ByteArray := prog_7_method_5_code
def yX5_failed : MethodName := ⟨RX5, "failed", "(I)I"⟩
abbrev cX5_failedLong : ByteArray := prog_7_method_6_code
def yX5_failedLong : MethodName := ⟨RX5, "failedLong", "(I)J"⟩
abbrev cX5_rounded : ByteArray := prog_7_method_7_code
def yX5_rounded : MethodName := ⟨RX5, "rounded", "(JJ)J"⟩
abbrev cX5_noMeter : ByteArray := prog_7_method_8_code
def yX5_noMeter : MethodName := ⟨RX5, "noMeter", "(I)Z"⟩
abbrev cX5_isDay : ByteArray := prog_7_method_9_code
def yX5_isDay : MethodName := ⟨RX5, "isDay", "(I)Z"⟩
abbrev cX5_isFlow : ByteArray := prog_7_method_10_code
def yX5_isFlow : MethodName := ⟨RX5, "isFlow", "(I)Z"⟩
abbrev cX5_isNumber : ByteArray := prog_7_method_11_code
def yX5_isNumber : MethodName := ⟨RX5, "isNumber", "(J)Z"⟩
abbrev cX5_meter : ByteArray := prog_7_method_12_code
def yX5_meter : MethodName := ⟨RX5, "meter", "(I)I"⟩
abbrev cX5_addFactor : ByteArray := prog_7_method_13_code
def yX5_addFactor : MethodName := ⟨RX5, "addFactor", "(IIII)V"⟩
abbrev cX5_factor : ByteArray := prog_7_method_14_code
def yX5_factor : MethodName := ⟨RX5, "factor", "(IIII)I"⟩
abbrev cX5_findCurve : ByteArray := prog_7_method_15_code
def yX5_findCurve : MethodName := ⟨RX5, "findCurve", "(II)V"⟩
abbrev cX5_addPoint : ByteArray := prog_7_method_16_code
def yX5_addPoint : MethodName := ⟨RX5, "addPoint", "(I)V"⟩
abbrev cX5_factorAt : ByteArray := prog_7_method_17_code
def yX5_factorAt : MethodName := ⟨RX5, "factorAt", "(III)I"⟩
abbrev cX5_at : ByteArray := prog_7_method_18_code
def yX5_at : MethodName := ⟨RX5, "at", "(III)I"⟩
abbrev cX5_points : ByteArray := prog_7_method_19_code
def yX5_points : MethodName := ⟨RX5, "points", "(II)I"⟩
abbrev cX5_point : ByteArray := prog_7_method_20_code
def yX5_point : MethodName := ⟨RX5, "point", "(IIII)I"⟩
abbrev cX5_proof : ByteArray := prog_7_method_21_code
def yX5_proof : MethodName := ⟨RX5, "proof", "(III)I"⟩
abbrev cX5_run : ByteArray := prog_7_method_22_code
def yX5_run : MethodName := ⟨RX5, "run", "(III)J"⟩
abbrev cX5_isGood : ByteArray := prog_7_method_23_code
def yX5_isGood : MethodName := ⟨RX5, "isGood", "()Z"⟩
abbrev cX5_proving : ByteArray := prog_7_method_24_code
def yX5_proving : MethodName := ⟨RX5, "proving", "(I)I"⟩
abbrev cX5_accept : ByteArray := prog_7_method_25_code
def yX5_accept : MethodName := ⟨RX5, "accept", "(I)I"⟩
abbrev cX5_noTicket : ByteArray := prog_7_method_26_code
def yX5_noTicket : MethodName := ⟨RX5, "noTicket", "(I)Z"⟩
abbrev cX5_isShut : ByteArray := prog_7_method_27_code
def yX5_isShut : MethodName := ⟨RX5, "isShut", "(I)Z"⟩
abbrev cX5_add : ByteArray := prog_7_method_28_code
def yX5_add : MethodName := ⟨RX5, "add", "(IIIIII)I"⟩
abbrev cX5_ticket : ByteArray := prog_7_method_29_code
def yX5_ticket : MethodName := ⟨RX5, "ticket", "(IIII)I"⟩
abbrev cX5_right : ByteArray := prog_7_method_30_code
def yX5_right : MethodName := ⟨RX5, "right", "(II)I"⟩
abbrev cX5_areDays : ByteArray := prog_7_method_31_code
def yX5_areDays : MethodName := ⟨RX5, "areDays", "(II)Z"⟩
abbrev cX5_isStale : ByteArray := prog_7_method_32_code
def yX5_isStale : MethodName := ⟨RX5, "isStale", "(IIII)Z"⟩
abbrev cX5_remake : ByteArray := prog_7_method_33_code
def yX5_remake : MethodName := ⟨RX5, "remake", "(III)I"⟩
abbrev cX5_ticketed : ByteArray := prog_7_method_34_code
def yX5_ticketed : MethodName := ⟨RX5, "ticketed", "(II)I"⟩
abbrev cX5_volumeOf : ByteArray := prog_7_method_35_code
def yX5_volumeOf : MethodName := ⟨RX5, "volumeOf", "(I)J"⟩
abbrev cX5_volume : ByteArray := prog_7_method_36_code
def yX5_volume : MethodName := ⟨RX5, "volume", "(I)J"⟩
abbrev cX5_sumOf : ByteArray := prog_7_method_37_code
def yX5_sumOf : MethodName := ⟨RX5, "sumOf", "(III)J"⟩
abbrev cX5_sum : ByteArray := prog_7_method_38_code
def yX5_sum : MethodName := ⟨RX5, "sum", "(III)J"⟩
abbrev cX5_shut : ByteArray := prog_7_method_39_code
def yX5_shut : MethodName := ⟨RX5, "shut", "(I)I"⟩
abbrev cX5_noLine : ByteArray := prog_7_method_40_code
def yX5_noLine : MethodName := ⟨RX5, "noLine", "(I)Z"⟩
abbrev cX5_line : ByteArray := prog_7_method_41_code
def yX5_line : MethodName := ⟨RX5, "line", "(III)I"⟩
abbrev cX5_lined : ByteArray := prog_7_method_42_code
def yX5_lined : MethodName := ⟨RX5, "lined", "(II)I"⟩
abbrev cX5_end : ByteArray := prog_7_method_43_code
def yX5_end : MethodName := ⟨RX5, "end", "(II)I"⟩
abbrev cX5_imbalance : ByteArray := prog_7_method_44_code
def yX5_imbalance : MethodName := ⟨RX5, "imbalance", "(III)J"⟩
abbrev cX5_endsOf : ByteArray := prog_7_method_45_code
def yX5_endsOf : MethodName := ⟨RX5, "endsOf", "(III)J"⟩
abbrev cX5_balance : ByteArray := prog_7_method_46_code
def yX5_balance : MethodName := ⟨RX5, "balance", "(IIII)J"⟩
abbrev cX5_beyondOf : ByteArray := prog_7_method_47_code
def yX5_beyondOf : MethodName := ⟨RX5, "beyondOf", "(II)I"⟩
abbrev cX5_beyond : ByteArray := prog_7_method_48_code
def yX5_beyond : MethodName := ⟨RX5, "beyond", "(II)I"⟩
abbrev cX5_explains : ByteArray := prog_7_method_49_code
def yX5_explains : MethodName := ⟨RX5, "explains", "(III)J"⟩
abbrev cX5_noSheet : ByteArray := prog_7_method_50_code
def yX5_noSheet : MethodName := ⟨RX5, "noSheet", "(I)Z"⟩
abbrev cX5_sheet : ByteArray := prog_7_method_51_code
def yX5_sheet : MethodName := ⟨RX5, "sheet", "(III)I"⟩
abbrev cX5_lose : ByteArray := prog_7_method_52_code
def yX5_lose : MethodName := ⟨RX5, "lose", "(I)I"⟩
abbrev cX5_noCell : ByteArray := prog_7_method_53_code
def yX5_noCell : MethodName := ⟨RX5, "noCell", "(II)I"⟩
abbrev cX5_put : ByteArray := prog_7_method_54_code
def yX5_put : MethodName := ⟨RX5, "put", "(III)I"⟩
abbrev cX5_cell : ByteArray := prog_7_method_55_code
def yX5_cell : MethodName := ⟨RX5, "cell", "(III)J"⟩
abbrev cX5_isBeyond : ByteArray := prog_7_method_56_code
def yX5_isBeyond : MethodName := ⟨RX5, "isBeyond", "(III)Z"⟩
abbrev cX5_copy : ByteArray := prog_7_method_57_code
def yX5_copy : MethodName := ⟨RX5, "copy", "(IIIII)I"⟩
abbrev cX5_watch : ByteArray := prog_7_method_58_code
def yX5_watch : MethodName := ⟨RX5, "watch", "(IIIII)I"⟩
abbrev cX5_traced : ByteArray := prog_7_method_59_code
def yX5_traced : MethodName := ⟨RX5, "traced", "(I)V"⟩
abbrev cX5_tell : ByteArray := prog_7_method_60_code
def yX5_tell : MethodName := ⟨RX5, "tell", "(I)I"⟩
abbrev cX5_worth : ByteArray := prog_7_method_61_code
def yX5_worth : MethodName := ⟨RX5, "worth", "(I)I"⟩
abbrev cX5_as : ByteArray := prog_7_method_62_code
def yX5_as : MethodName := ⟨RX5, "as", "(II)I"⟩
abbrev cX5_trace : ByteArray := prog_7_method_63_code
def yX5_trace : MethodName := ⟨RX5, "trace", "()I"⟩
abbrev cX5_fault : ByteArray := prog_7_method_64_code
def yX5_fault : MethodName := ⟨RX5, "fault", "()I"⟩
abbrev cX5_told : ByteArray := prog_7_method_65_code
def yX5_told : MethodName := ⟨RX5, "told", "(I)I"⟩
def RJ9 : String := "java/lang/Math"
def TJ9 : u_T := fun k => match k with
  | _ => ("", "", "", false)
def tyJ9 : Nat → FieldType := fun k => match k with
  | _ => .int
abbrev wsJ90 : List Cond := u_ws RJ9 TJ9 0
theorem nmJ9 : ∀ a, a < 0 → ∀ b, b < 0 → a ≠ b → (TJ9 a).2.1 ≠ (TJ9 b).2.1 := by decide +kernel
theorem tyJ9_ok : ∀ k, k < 0 → parseFieldDescriptor (TJ9 k).2.2.1 = some (tyJ9 k) := by decide +kernel
abbrev cJ9_abs_067f4 : ByteArray := prog_8_method_61_code
def yJ9_abs_067f4 : MethodName := ⟨RJ9, "abs", "(J)J"⟩
abbrev cJ9_max_7cf53 : ByteArray := prog_8_method_65_code
def yJ9_max_7cf53 : MethodName := ⟨RJ9, "max", "(II)I"⟩
abbrev cJ9_max_f86c9 : ByteArray := prog_8_method_66_code
def yJ9_max_f86c9 : MethodName := ⟨RJ9, "max", "(JJ)J"⟩
abbrev cJ9_min_f86c9 : ByteArray := prog_8_method_70_code
def yJ9_min_f86c9 : MethodName := ⟨RJ9, "min", "(JJ)J"⟩
def RJ10 : String := "java/lang/System"
def TJ10 : u_T := fun k => match k with
  | _ => ("", "", "", false)
def tyJ10 : Nat → FieldType := fun k => match k with
  | _ => .int
abbrev wsJ100 : List Cond := u_ws RJ10 TJ10 0
theorem nmJ10 : ∀ a, a < 0 → ∀ b, b < 0 → a ≠ b → (TJ10 a).2.1 ≠ (TJ10 b).2.1 := by decide +kernel
theorem tyJ10_ok : ∀ k, k < 0 → parseFieldDescriptor (TJ10 k).2.2.1 = some (tyJ10 k) := by decide +kernel
def RJ7 : String := "java/util/Arrays"
def TJ7 : u_T := fun k => match k with
  | _ => ("", "", "", false)
def tyJ7 : Nat → FieldType := fun k => match k with
  | _ => .int
abbrev wsJ70 : List Cond := u_ws RJ7 TJ7 0
theorem nmJ7 : ∀ a, a < 0 → ∀ b, b < 0 → a ≠ b → (TJ7 a).2.1 ≠ (TJ7 b).2.1 := by decide +kernel
theorem tyJ7_ok : ∀ k, k < 0 → parseFieldDescriptor (TJ7 k).2.2.1 = some (tyJ7 k) := by decide +kernel
abbrev cJ7_fill_53178 : ByteArray := prog_10_method_103_code
def yJ7_fill_53178 : MethodName := ⟨RJ7, "fill", "([II)V"⟩
def RL : String := "TrueLitresLaw"
abbrev cL_law : ByteArray := code
def yL_law : MethodName := ⟨RL, "law", "([I)Z"⟩
abbrev vwCl : List vw_C := [(RX0, TX0, 7), (RX1, TX1, 6), (RX2, TX2, 4), (RX3, TX3, 8), (RX4, TX4, 9), (RX5, TX5, 33)]
